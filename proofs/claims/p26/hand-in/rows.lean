section
-- ===== PART A: goes FIRST, ahead of the names: the tables' words, and 'selects' of the private methods out of them =====
/-- a private method of a class that the tables say can be made, by its rows of tables_1 -/
def lw_okq (q : MethodName × Nat) : Prop := (q.1.cls ≠ "java/lang/invoke/MethodHandle" ∧ q.1.cls ≠ "java/lang/invoke/VarHandle") ∧ Cond.instantiable q.1.cls q.2 ∈ tables_1 ∧ Cond.privateMethod q.1 ∈ tables_1 ∧ Cond.instanceMethod q.1 ∈ tables_1
theorem lw_p0 : lw_okq (⟨"java/lang/Throwable", "fillInStackTrace", "(I)Ljava/lang/Throwable;"⟩, 6) := ⟨⟨by decide +kernel, by decide +kernel⟩, List.mem_of_getElem? (i := 184) (by decide +kernel), List.mem_of_getElem? (i := 182) (by decide +kernel), List.mem_of_getElem? (i := 183) (by decide +kernel)⟩
theorem lw_p1 : lw_okq (⟨"DefaultFund$Member", "join", "(III)V"⟩, 13) := ⟨⟨by decide +kernel, by decide +kernel⟩, List.mem_of_getElem? (i := 55) (by decide +kernel), List.mem_of_getElem? (i := 230) (by decide +kernel), List.mem_of_getElem? (i := 231) (by decide +kernel)⟩
theorem lw_p2 : lw_okq (⟨"DefaultFund", "existing", "(I)LDefaultFund$Member;"⟩, 8) := ⟨⟨by decide +kernel, by decide +kernel⟩, List.mem_of_getElem? (i := 13) (by decide +kernel), List.mem_of_getElem? (i := 238) (by decide +kernel), List.mem_of_getElem? (i := 239) (by decide +kernel)⟩
theorem lw_p3 : lw_okq (⟨"DefaultFund$Member", "isActive", "()Z"⟩, 13) := ⟨⟨by decide +kernel, by decide +kernel⟩, List.mem_of_getElem? (i := 55) (by decide +kernel), List.mem_of_getElem? (i := 261) (by decide +kernel), List.mem_of_getElem? (i := 262) (by decide +kernel)⟩
theorem lw_p4 : lw_okq (⟨"DefaultFund", "requireNoFailure", "()V"⟩, 8) := ⟨⟨by decide +kernel, by decide +kernel⟩, List.mem_of_getElem? (i := 13) (by decide +kernel), List.mem_of_getElem? (i := 279) (by decide +kernel), List.mem_of_getElem? (i := 280) (by decide +kernel)⟩
theorem lw_p5 : lw_okq (⟨"DefaultFund", "awardLots", "()I"⟩, 8) := ⟨⟨by decide +kernel, by decide +kernel⟩, List.mem_of_getElem? (i := 13) (by decide +kernel), List.mem_of_getElem? (i := 339) (by decide +kernel), List.mem_of_getElem? (i := 340) (by decide +kernel)⟩
theorem lw_p6 : lw_okq (⟨"DefaultFund$Auction", "winnerOf", "(I)I"⟩, 2) := ⟨⟨by decide +kernel, by decide +kernel⟩, List.mem_of_getElem? (i := 23) (by decide +kernel), List.mem_of_getElem? (i := 343) (by decide +kernel), List.mem_of_getElem? (i := 344) (by decide +kernel)⟩
theorem lw_p7 : lw_okq (⟨"DefaultFund$Auction", "bidOf", "(II)I"⟩, 2) := ⟨⟨by decide +kernel, by decide +kernel⟩, List.mem_of_getElem? (i := 23) (by decide +kernel), List.mem_of_getElem? (i := 347) (by decide +kernel), List.mem_of_getElem? (i := 348) (by decide +kernel)⟩
theorem lw_p8 : lw_okq (⟨"DefaultFund", "rankBidders", "()V"⟩, 8) := ⟨⟨by decide +kernel, by decide +kernel⟩, List.mem_of_getElem? (i := 13) (by decide +kernel), List.mem_of_getElem? (i := 354) (by decide +kernel), List.mem_of_getElem? (i := 355) (by decide +kernel)⟩
theorem lw_p9 : lw_okq (⟨"DefaultFund$Auction", "bidPoorly", "(I)Z"⟩, 2) := ⟨⟨by decide +kernel, by decide +kernel⟩, List.mem_of_getElem? (i := 23) (by decide +kernel), List.mem_of_getElem? (i := 358) (by decide +kernel), List.mem_of_getElem? (i := 359) (by decide +kernel)⟩
theorem lw_p10 : lw_okq (⟨"DefaultFund$Auction", "isLow", "(II)Z"⟩, 2) := ⟨⟨by decide +kernel, by decide +kernel⟩, List.mem_of_getElem? (i := 23) (by decide +kernel), List.mem_of_getElem? (i := 362) (by decide +kernel), List.mem_of_getElem? (i := 363) (by decide +kernel)⟩
theorem lw_p11 : lw_okq (⟨"DefaultFund", "eatLoss", "(LDefaultFund$Member;)I"⟩, 8) := ⟨⟨by decide +kernel, by decide +kernel⟩, List.mem_of_getElem? (i := 13) (by decide +kernel), List.mem_of_getElem? (i := 367) (by decide +kernel), List.mem_of_getElem? (i := 368) (by decide +kernel)⟩
theorem lw_p12 : lw_okq (⟨"DefaultFund", "eatShares", "(IZ)I"⟩, 8) := ⟨⟨by decide +kernel, by decide +kernel⟩, List.mem_of_getElem? (i := 13) (by decide +kernel), List.mem_of_getElem? (i := 374) (by decide +kernel), List.mem_of_getElem? (i := 375) (by decide +kernel)⟩
theorem lw_p13 : lw_okq (⟨"DefaultFund$Parting", "enter", "(III)V"⟩, 3) := ⟨⟨by decide +kernel, by decide +kernel⟩, List.mem_of_getElem? (i := 40) (by decide +kernel), List.mem_of_getElem? (i := 378) (by decide +kernel), List.mem_of_getElem? (i := 379) (by decide +kernel)⟩
theorem lw_p14 : lw_okq (⟨"DefaultFund$Parting", "part", "(I)I"⟩, 3) := ⟨⟨by decide +kernel, by decide +kernel⟩, List.mem_of_getElem? (i := 40) (by decide +kernel), List.mem_of_getElem? (i := 382) (by decide +kernel), List.mem_of_getElem? (i := 383) (by decide +kernel)⟩
theorem lw_p15 : lw_okq (⟨"DefaultFund$Parting", "giveCoins", "(I)I"⟩, 3) := ⟨⟨by decide +kernel, by decide +kernel⟩, List.mem_of_getElem? (i := 40) (by decide +kernel), List.mem_of_getElem? (i := 387) (by decide +kernel), List.mem_of_getElem? (i := 388) (by decide +kernel)⟩
def lw_privs_1 : List (MethodName × Nat) := [(⟨"java/lang/Throwable", "fillInStackTrace", "(I)Ljava/lang/Throwable;"⟩, 6), (⟨"DefaultFund$Member", "join", "(III)V"⟩, 13), (⟨"DefaultFund", "existing", "(I)LDefaultFund$Member;"⟩, 8), (⟨"DefaultFund$Member", "isActive", "()Z"⟩, 13), (⟨"DefaultFund", "requireNoFailure", "()V"⟩, 8), (⟨"DefaultFund", "awardLots", "()I"⟩, 8), (⟨"DefaultFund$Auction", "winnerOf", "(I)I"⟩, 2), (⟨"DefaultFund$Auction", "bidOf", "(II)I"⟩, 2), (⟨"DefaultFund", "rankBidders", "()V"⟩, 8), (⟨"DefaultFund$Auction", "bidPoorly", "(I)Z"⟩, 2), (⟨"DefaultFund$Auction", "isLow", "(II)Z"⟩, 2), (⟨"DefaultFund", "eatLoss", "(LDefaultFund$Member;)I"⟩, 8), (⟨"DefaultFund", "eatShares", "(IZ)I"⟩, 8), (⟨"DefaultFund$Parting", "enter", "(III)V"⟩, 3), (⟨"DefaultFund$Parting", "part", "(I)I"⟩, 3), (⟨"DefaultFund$Parting", "giveCoins", "(I)I"⟩, 3)]
theorem lw_r1 : ∀ q ∈ lw_privs_1, lw_okq q := List.forall_mem_cons.mpr ⟨lw_p0, List.forall_mem_cons.mpr ⟨lw_p1, List.forall_mem_cons.mpr ⟨lw_p2, List.forall_mem_cons.mpr ⟨lw_p3, List.forall_mem_cons.mpr ⟨lw_p4, List.forall_mem_cons.mpr ⟨lw_p5, List.forall_mem_cons.mpr ⟨lw_p6, List.forall_mem_cons.mpr ⟨lw_p7, List.forall_mem_cons.mpr ⟨lw_p8, List.forall_mem_cons.mpr ⟨lw_p9, List.forall_mem_cons.mpr ⟨lw_p10, List.forall_mem_cons.mpr ⟨lw_p11, List.forall_mem_cons.mpr ⟨lw_p12, List.forall_mem_cons.mpr ⟨lw_p13, List.forall_mem_cons.mpr ⟨lw_p14, List.forall_mem_cons.mpr ⟨lw_p15, fun _ h => absurd h List.not_mem_nil⟩⟩⟩⟩⟩⟩⟩⟩⟩⟩⟩⟩⟩⟩⟩⟩
theorem lw_p16 : lw_okq (⟨"DefaultFund$Parting", "roundsAtAStroke", "(I)I"⟩, 3) := ⟨⟨by decide +kernel, by decide +kernel⟩, List.mem_of_getElem? (i := 40) (by decide +kernel), List.mem_of_getElem? (i := 391) (by decide +kernel), List.mem_of_getElem? (i := 392) (by decide +kernel)⟩
theorem lw_p17 : lw_okq (⟨"DefaultFund$Parting", "canTake", "(I)Z"⟩, 3) := ⟨⟨by decide +kernel, by decide +kernel⟩, List.mem_of_getElem? (i := 40) (by decide +kernel), List.mem_of_getElem? (i := 395) (by decide +kernel), List.mem_of_getElem? (i := 396) (by decide +kernel)⟩
theorem lw_p18 : lw_okq (⟨"DefaultFund$Parting", "partOf", "(I)I"⟩, 3) := ⟨⟨by decide +kernel, by decide +kernel⟩, List.mem_of_getElem? (i := 40) (by decide +kernel), List.mem_of_getElem? (i := 400) (by decide +kernel), List.mem_of_getElem? (i := 401) (by decide +kernel)⟩
theorem lw_p19 : lw_okq (⟨"DefaultFund", "eatAssessments", "(I)I"⟩, 8) := ⟨⟨by decide +kernel, by decide +kernel⟩, List.mem_of_getElem? (i := 13) (by decide +kernel), List.mem_of_getElem? (i := 404) (by decide +kernel), List.mem_of_getElem? (i := 405) (by decide +kernel)⟩
theorem lw_p20 : lw_okq (⟨"DefaultFund", "eatGains", "(I)I"⟩, 8) := ⟨⟨by decide +kernel, by decide +kernel⟩, List.mem_of_getElem? (i := 13) (by decide +kernel), List.mem_of_getElem? (i := 408) (by decide +kernel), List.mem_of_getElem? (i := 409) (by decide +kernel)⟩
theorem lw_p21 : lw_okq (⟨"DefaultFund", "endFailure", "(LDefaultFund$Member;)V"⟩, 8) := ⟨⟨by decide +kernel, by decide +kernel⟩, List.mem_of_getElem? (i := 13) (by decide +kernel), List.mem_of_getElem? (i := 412) (by decide +kernel), List.mem_of_getElem? (i := 413) (by decide +kernel)⟩
theorem lw_p22 : lw_okq (⟨"DefaultFund$Member", "loseAll", "()V"⟩, 13) := ⟨⟨by decide +kernel, by decide +kernel⟩, List.mem_of_getElem? (i := 55) (by decide +kernel), List.mem_of_getElem? (i := 416) (by decide +kernel), List.mem_of_getElem? (i := 417) (by decide +kernel)⟩
theorem lw_p23 : lw_okq (⟨"DefaultFund$Member", "dropClients", "()V"⟩, 13) := ⟨⟨by decide +kernel, by decide +kernel⟩, List.mem_of_getElem? (i := 55) (by decide +kernel), List.mem_of_getElem? (i := 420) (by decide +kernel), List.mem_of_getElem? (i := 421) (by decide +kernel)⟩
theorem lw_p24 : lw_okq (⟨"DefaultFund", "moveClients", "(LDefaultFund$Member;)I"⟩, 8) := ⟨⟨by decide +kernel, by decide +kernel⟩, List.mem_of_getElem? (i := 13) (by decide +kernel), List.mem_of_getElem? (i := 439) (by decide +kernel), List.mem_of_getElem? (i := 440) (by decide +kernel)⟩
theorem lw_p25 : lw_okq (⟨"DefaultFund", "findsHost", "(I)Z"⟩, 8) := ⟨⟨by decide +kernel, by decide +kernel⟩, List.mem_of_getElem? (i := 13) (by decide +kernel), List.mem_of_getElem? (i := 443) (by decide +kernel), List.mem_of_getElem? (i := 444) (by decide +kernel)⟩
theorem lw_p26 : lw_okq (⟨"DefaultFund$Member", "takesClient", "(I)Z"⟩, 13) := ⟨⟨by decide +kernel, by decide +kernel⟩, List.mem_of_getElem? (i := 55) (by decide +kernel), List.mem_of_getElem? (i := 447) (by decide +kernel), List.mem_of_getElem? (i := 448) (by decide +kernel)⟩
theorem lw_p27 : lw_okq (⟨"DefaultFund$Member", "freeRoom", "()I"⟩, 13) := ⟨⟨by decide +kernel, by decide +kernel⟩, List.mem_of_getElem? (i := 55) (by decide +kernel), List.mem_of_getElem? (i := 451) (by decide +kernel), List.mem_of_getElem? (i := 452) (by decide +kernel)⟩
theorem lw_p28 : lw_okq (⟨"DefaultFund$Auction", "open", "(I)V"⟩, 2) := ⟨⟨by decide +kernel, by decide +kernel⟩, List.mem_of_getElem? (i := 23) (by decide +kernel), List.mem_of_getElem? (i := 456) (by decide +kernel), List.mem_of_getElem? (i := 457) (by decide +kernel)⟩
theorem lw_p29 : lw_okq (⟨"DefaultFund", "neededFund", "()I"⟩, 8) := ⟨⟨by decide +kernel, by decide +kernel⟩, List.mem_of_getElem? (i := 13) (by decide +kernel), List.mem_of_getElem? (i := 480) (by decide +kernel), List.mem_of_getElem? (i := 481) (by decide +kernel)⟩
theorem lw_p30 : lw_okq (⟨"DefaultFund$Member", "raiseShare", "(I)I"⟩, 13) := ⟨⟨by decide +kernel, by decide +kernel⟩, List.mem_of_getElem? (i := 55) (by decide +kernel), List.mem_of_getElem? (i := 484) (by decide +kernel), List.mem_of_getElem? (i := 485) (by decide +kernel)⟩
theorem lw_p31 : lw_okq (⟨"DefaultFund$Auction", "hasLot", "(I)Z"⟩, 2) := ⟨⟨by decide +kernel, by decide +kernel⟩, List.mem_of_getElem? (i := 23) (by decide +kernel), List.mem_of_getElem? (i := 496) (by decide +kernel), List.mem_of_getElem? (i := 497) (by decide +kernel)⟩
def lw_privs_2 : List (MethodName × Nat) := [(⟨"DefaultFund$Parting", "roundsAtAStroke", "(I)I"⟩, 3), (⟨"DefaultFund$Parting", "canTake", "(I)Z"⟩, 3), (⟨"DefaultFund$Parting", "partOf", "(I)I"⟩, 3), (⟨"DefaultFund", "eatAssessments", "(I)I"⟩, 8), (⟨"DefaultFund", "eatGains", "(I)I"⟩, 8), (⟨"DefaultFund", "endFailure", "(LDefaultFund$Member;)V"⟩, 8), (⟨"DefaultFund$Member", "loseAll", "()V"⟩, 13), (⟨"DefaultFund$Member", "dropClients", "()V"⟩, 13), (⟨"DefaultFund", "moveClients", "(LDefaultFund$Member;)I"⟩, 8), (⟨"DefaultFund", "findsHost", "(I)Z"⟩, 8), (⟨"DefaultFund$Member", "takesClient", "(I)Z"⟩, 13), (⟨"DefaultFund$Member", "freeRoom", "()I"⟩, 13), (⟨"DefaultFund$Auction", "open", "(I)V"⟩, 2), (⟨"DefaultFund", "neededFund", "()I"⟩, 8), (⟨"DefaultFund$Member", "raiseShare", "(I)I"⟩, 13), (⟨"DefaultFund$Auction", "hasLot", "(I)Z"⟩, 2)]
theorem lw_r2 : ∀ q ∈ lw_privs_2, lw_okq q := List.forall_mem_cons.mpr ⟨lw_p16, List.forall_mem_cons.mpr ⟨lw_p17, List.forall_mem_cons.mpr ⟨lw_p18, List.forall_mem_cons.mpr ⟨lw_p19, List.forall_mem_cons.mpr ⟨lw_p20, List.forall_mem_cons.mpr ⟨lw_p21, List.forall_mem_cons.mpr ⟨lw_p22, List.forall_mem_cons.mpr ⟨lw_p23, List.forall_mem_cons.mpr ⟨lw_p24, List.forall_mem_cons.mpr ⟨lw_p25, List.forall_mem_cons.mpr ⟨lw_p26, List.forall_mem_cons.mpr ⟨lw_p27, List.forall_mem_cons.mpr ⟨lw_p28, List.forall_mem_cons.mpr ⟨lw_p29, List.forall_mem_cons.mpr ⟨lw_p30, List.forall_mem_cons.mpr ⟨lw_p31, fun _ h => absurd h List.not_mem_nil⟩⟩⟩⟩⟩⟩⟩⟩⟩⟩⟩⟩⟩⟩⟩⟩
theorem lw_p32 : lw_okq (⟨"DefaultFund$Auction", "enter", "(III)V"⟩, 2) := ⟨⟨by decide +kernel, by decide +kernel⟩, List.mem_of_getElem? (i := 23) (by decide +kernel), List.mem_of_getElem? (i := 502) (by decide +kernel), List.mem_of_getElem? (i := 503) (by decide +kernel)⟩
def lw_privs_3 : List (MethodName × Nat) := [(⟨"DefaultFund$Auction", "enter", "(III)V"⟩, 2)]
theorem lw_r3 : ∀ q ∈ lw_privs_3, lw_okq q := List.forall_mem_cons.mpr ⟨lw_p32, fun _ h => absurd h List.not_mem_nil⟩
def lw_privs : List (MethodName × Nat) := lw_privs_1 ++ (lw_privs_2 ++ (lw_privs_3))
def lw_tbl : List Cond := k2_sels lw_privs ++ tables_1
theorem lw_privs_ok : ∀ q ∈ lw_privs, lw_okq q := by
  show ∀ q ∈ lw_privs_1 ++ (lw_privs_2 ++ (lw_privs_3)), lw_okq q
  exact List.forall_mem_append.mpr ⟨lw_r1, List.forall_mem_append.mpr ⟨lw_r2, lw_r3⟩⟩
end
section
/-! ===== BEGIN words of one list among another's, by their places ===== -/
theorem goodIn_r {big : List Cond} (ws : List Cond) (ps : List Nat) (hp : ws = ps.filterMap (fun i => big[i]?)) (h : ws.all goodWord = true) : GoodIn big ws := by
  intro w hw
  have h1 := List.all_eq_true.mp h w hw
  rw [hp] at hw
  obtain ⟨i, -, hi⟩ := List.mem_filterMap.mp hw
  have hm : w ∈ big := by first | exact List.mem_of_getElem? hi | exact List.getElem?_mem hi
  exact ⟨hm, good_of_word h1⟩
theorem goodIn_app {big a b : List Cond} (ha : GoodIn big a) (hb : GoodIn big b) : GoodIn big (a ++ b) := fun w h => (List.mem_append.mp h).elim (ha w) (hb w)
theorem goodIn_ca {big a b : List Cond} {c : Cond} (ha : GoodIn big (c :: a)) (hb : GoodIn big b) : GoodIn big (c :: (a ++ b)) := fun w h => (List.mem_cons.mp h).elim (fun e => ha w (List.mem_cons.mpr (Or.inl e))) (fun h => (List.mem_append.mp h).elim (fun h => ha w (List.mem_cons.mpr (Or.inr h))) (hb w))
theorem goodIn_sub {big ws : List Cond} (hm : ∀ w ∈ ws, w ∈ big) (h : ws.all goodWord = true) : GoodIn big ws := fun w hw => ⟨hm w hw, good_of_word (List.all_eq_true.mp h w hw)⟩
/-! ===== END ===== -/

/-! ===== BEGIN exceptions that leave a method, and their catching by the caller (launches without stack traces) ===== -/
section VXA
/-! The laws vx_back, vx_callV, vx_callS, vx_callSW, vx_throw0, vx_throwS follow proofs of the library, with one case more: JvmDerived/Free/Laws.lean (Back.of_free), Shelf42/LK1.lean (callV, callS), Shelf/KitTraced.lean (throwNew0V, throwNewS). -/
/-- where a method has thrown q: the class by its name, the cell, what was written, the world -/
def vx_T (XC : String → State → State → Prop) (st : State) (q : Addr) (t : State) (mc ms : Nat) (free : Addr → Prop) : Prop :=
  ∃ (E : String) (ce : Cell) (L : List Loc), XC E st t ∧ t.heap[q]? = some ce ∧ ce.vm = .none ∧ st.vm.findClass E = some ce.cls ∧ st.WarmedH t.vm ∧ st.sameButNew ({ t with vm := st.vm } : State) L mc ms ∧ ∀ z ∈ L, free z.base
def vx_Q (Qc : Array Value → State → Outcome → State → Prop) (XC : String → State → State → Prop) (mc ms : Nat) (free : Addr → Prop) : Array Value → State → Outcome → State → Prop := fun a st o t =>
  (Qc a st o t ∧ ∃ L, FrameEnd st o t L mc ms ∧ ∀ q ∈ L, free q.base) ∨ ∃ q, o = .threw q ∧ vx_T XC st q t mc ms free
/-- a callee that returns or throws -/
def vx_Met (l : Launch) (y : MethodName) (ws : List Cond) (rm : Room) (Pc : Array Value → State → Prop) (Qc : Array Value → State → Outcome → State → Prop) (XC : String → State → State → Prop) (mc ms : Nat) (free : Addr → Prop) : Prop :=
  MetFree l y (headSpec ws rm) Pc (fun _ _ _ _ _ => True) (vx_Q Qc XC mc ms free)
def vx_Post (XC : String → State → State → Prop) (mc ms : Nat) (free : Addr → Prop) : Pt → Array Value → Addr → Pt → Prop := fun A a q B =>
  ∃ (g : JFrame) (mk : MethodId) (t : State) (L : List Loc) (E : String) (ce : Cell), B.U.heap = t.heap ∧ B.U.vm = t.vm ∧ XC E (A.U.calling g mk a) t ∧ t.heap[q]? = some ce ∧ ce.vm = .none ∧ A.U.vm.findClass E = some ce.cls ∧ B.locs = A.locs ++ L ∧ (∀ z ∈ L, free z.base) ∧ B.cells = A.cells + mc ∧ B.slots = A.slots + ms
def vx_Back (l : Launch) (R : Room) (p : Program) (e : Env) (below : List Frame) (s : State) (sargs : Array Value) (y : MethodName) (len W9 : Nat)
    (Pre : Pt → Array Value → Prop) (Post : Pt → Array Value → Option Value → Pt → Prop) (PostX : Pt → Array Value → Addr → Pt → Prop) : Prop :=
  ∀ (m : MethodId) (meth : Method) (c : Code) (A : Pt) (g : JFrame) (ig : Instr) (mk : MethodId) (a : Array Value),
    Stand p l e R s m sargs below meth c A.U A.locs A.cells A.slots → g.method = m → g.locals.size = c.maxLocals → decode c.code g.pc = .ok (ig, len) →
    2 * g.monitorRoom + (g.stack.map fun v => v.category).sum ≤ W9 → A.U.methodNamed? y = some mk → Pre A a →
    (∃ (v : Option Value) (B : Pt), Stand p l e R s m sargs below meth c B.U B.locs B.cells B.slots ∧ Post A a v B ∧
      Steps p.tables e below (doInvoke e (A.U.setTop g) [] mk a).1 (B.U.setTop { g with pc := g.pc + len, stack := v.toList ++ g.stack })) ∨
    (∃ (q : Addr) (B : Pt), Stand p l e R s m sargs below meth c B.U B.locs B.cells B.slots ∧ PostX A a q B ∧
      Steps p.tables e below (doInvoke e (A.U.setTop g) [] mk a).1 ((B.U.setTop g).pushFrame (.throwing q)))
section Payer
variable {l : Launch} {R : Room} {p : Program} {e : Env} {below : List Frame} {s : State} {sargs : Array Value} {y : MethodName} {len W9 : Nat}
theorem vx_back {ws : List Cond} {rm : Room} {Pc : Array Value → State → Prop} {Qc : Array Value → State → Outcome → State → Prop} {XC : String → State → State → Prop} {mc ms : Nat} {free : Addr → Prop} {bytes : ByteArray} {maxL : Nat} {ret : Option FieldType}
    (hM : vx_Met l y ws rm Pc Qc XC mc ms free) (hblind : FrameBlind Pc) (hrc : rm.cells = mc) (hrs : rm.slots = ms)
    (hframes : rm.frames + 1 ≤ R.frames) (hlocals : W9 + (maxL + 11) + rm.locals ≤ R.locals)
    (hws : ∀ w ∈ ws, ∀ a' U, s.WarmedH U.vm → w.before a' U = true) (hcode : Cond.code y bytes maxL ret ∈ ws) (hinit : ∀ a' U, s.WarmedH U.vm → (Cond.initialized y.cls).before a' U = true) :
    vx_Back l R p e below s sargs y len W9 (PreOf R mc ms Pc) (PostOf Qc mc ms free) (vx_Post XC mc ms free) := by
  intro m meth c A g ig mk a X hg hsize hdg hW hn hp
  have h1 : (headSpec ws rm).pre.before a A.U = true := atoms_intro fun w hw => hws w hw _ _ X.warmed
  have h2 : (Cond.code y bytes maxL ret).before a A.U = true := hws _ hcode _ _ X.warmed
  have h3 : (Cond.initialized y.cls).before a A.U = true := hinit _ _ X.warmed
  have h4 : A.cells + (headSpec ws rm).room.cells ≤ R.cells := by rw [show (headSpec ws rm).room.cells = mc from hrc]; exact hp.1
  have h5 : A.slots + (headSpec ws rm).room.slots ≤ R.slots := by rw [show (headSpec ws rm).room.slots = ms from hrs]; exact hp.2.1
  have hPc : Pc a (A.U.calling g mk a) := hblind _ _ _ _ hp.2.2
  obtain ⟨U, Ls, c0, s0⟩ := A
  dsimp only [Pt.U, Pt.locs, Pt.cells, Pt.slots] at h1 h2 h3 h4 h5 X hn hPc ⊢
  obtain ⟨methY, cY, hmY, hcY, -, hlY, -, -, -, -⟩ := Cond.code_spec hn h2
  obtain ⟨kY, hkY, -⟩ := className_of_methodNamed hn
  have hinitY : kY.init = .initialized := Cond.initialized_spec (findClass_of_methodNamed hn) hkY h3
  have h : At U g.method c below := by rw [hg]; exact X.here
  have hlocals9 : W9 + (maxL + 11) + (headSpec ws rm).room.locals ≤ R.locals := hlocals
  have happ : (headSpec ws rm).appliesLoose y e.platform (U.calling g mk a) = true :=
    Spec.appliesLoose_calling (g := g) h hdg hn hkY hinitY
      (X.room_calling (g := g) (R' := (headSpec ws rm).room) hsize hmY hcY hframes (by rw [hlY]; omega) h4 h5) h1
  obtain ⟨mid, hmid⟩ := h.above
  have hfr : (U.setTop g).frames = (.java g :: mid) ++ below := by rw [State.frames_setTop' g h.top, hmid]; rfl
  obtain ⟨o, s₂, hsteps, -, hend, hq⟩ := Steps.callFree hM p X.admits X.cas X.clock (acts := []) hfr happ hPc trivial
  have hq' : vx_Q Qc XC mc ms free a (U.calling g mk a) o s₂ := hq
  rw [State.frames_setTop' g h.top] at hend
  obtain ⟨g₀, hg0⟩ := Option.isSome_iff_exists.mp h.top
  obtain ⟨r, hr⟩ := State.topJava?_eq_some.mp hg0
  have hr' : (({ U with heap := s₂.heap, slotsUsed := s₂.slotsUsed } : State).setVm s₂.vm).frames = .java g₀ :: r := hr
  rcases hq' with ⟨hqc, L, hfe, hL⟩ | ⟨q, rfl, E, ce, L, hx, hce, hcv, hcl, hW₂, hsm, hL⟩
  · obtain ⟨⟨v, rfl⟩, hW₂, e2, q2, q3, q4, q5, q6⟩ := id hfe
    have e3 : s₂ = ({ (U.calling g mk a).setFrames s₂.frames with heap := s₂.heap, slotsUsed := s₂.slotsUsed } : State).setVm s₂.vm := by
      have : s₂ = ({ s₂ with vm := (U.calling g mk a).vm } : State).setVm s₂.vm := rfl
      rw [e2] at this
      exact this
    obtain ⟨c₂, i₂, len₂, hc₂, hd₂, hf₂⟩ := hend
    have hW' : U.WarmedH s₂.vm := hW₂
    have hcc : c₂ = c := by
      have h1 : s₂.code? g.method = U.code? g.method := by
        rw [State.code?_eq, State.code?_eq, hW'.alike.method?]
      exact Option.some.inj (hc₂.symm.trans (h1.trans h.code))
    subst hcc
    have hlen : len₂ = len := by rw [hdg] at hd₂; cases hd₂; rfl
    subst hlen
    have hs₂ : s₂ = (({ U with heap := s₂.heap, slotsUsed := s₂.slotsUsed } : State).setVm s₂.vm).setTop { g with pc := g.pc + len₂, stack := v.toList ++ g.stack } := by
      refine e3.trans ?_
      rw [hf₂, State.calling_eq h.top, State.setFrames_setFrames, State.setTop_of_frames _ hr', hr]
      rfl
    have hsame : U.sameButNew ({ U with heap := s₂.heap, slotsUsed := s₂.slotsUsed } : State) L mc ms := by
      refine ⟨?_, q2, q3, q4, q5, q6⟩
      obtain ⟨t, ht, -⟩ := State.frames_cons hr
      show ({ U with heap := s₂.heap, slotsUsed := s₂.slotsUsed } : State) = { U.setFrames U.frames with heap := s₂.heap, slotsUsed := s₂.slotsUsed }
      rw [State.setFrames_self ht]
    subst hg
    refine Or.inl ⟨v, ⟨(({ U with heap := s₂.heap, slotsUsed := s₂.slotsUsed } : State).setVm s₂.vm), Ls ++ L, c0 + mc, s0 + ms⟩,
      ⟨X.admits, X.cas, X.clock, X.frames, X.room, X.hears, X.method, X.code, (X.here.setHeapUsed s₂.heap s₂.slotsUsed).setVm hW'.alike, X.tail, State.WarmedH.trans X.warmed hW', X.limits, X.bytes, X.same.trans (hsame.setVm s.vm)⟩,
      ⟨g, mk, s₂, L, rfl, rfl, hqc, rfl, hL, rfl, rfl⟩, ?_⟩
    show Steps p.tables e below _ ((({ U with heap := s₂.heap, slotsUsed := s₂.slotsUsed } : State).setVm s₂.vm).setTop { g with pc := g.pc + len₂, stack := v.toList ++ g.stack })
    rw [← hs₂]
    exact hsteps
  · obtain ⟨e2, q2, q3, q4, q5, q6⟩ := id hsm
    have e3 : s₂ = ({ (U.calling g mk a).setFrames s₂.frames with heap := s₂.heap, slotsUsed := s₂.slotsUsed } : State).setVm s₂.vm := by
      have : s₂ = ({ s₂ with vm := (U.calling g mk a).vm } : State).setVm s₂.vm := rfl
      rw [e2] at this
      exact this
    have hf₂ : s₂.frames = .throwing q :: .java g :: U.frames.tail := hend
    have hW' : U.WarmedH s₂.vm := hW₂
    have hs₂ : s₂ = ((({ U with heap := s₂.heap, slotsUsed := s₂.slotsUsed } : State).setVm s₂.vm).setTop g).pushFrame (.throwing q) := by
      refine e3.trans ?_
      rw [hf₂, State.calling_eq h.top, State.setFrames_setFrames, State.pushFrame, State.frames_setTop _ hr', State.setTop_of_frames _ hr', State.setFrames_setFrames, hr]
      rfl
    have hsame : U.sameButNew ({ U with heap := s₂.heap, slotsUsed := s₂.slotsUsed } : State) L mc ms := by
      refine ⟨?_, q2, q3, q4, q5, q6⟩
      obtain ⟨t, ht, -⟩ := State.frames_cons hr
      show ({ U with heap := s₂.heap, slotsUsed := s₂.slotsUsed } : State) = { U.setFrames U.frames with heap := s₂.heap, slotsUsed := s₂.slotsUsed }
      rw [State.setFrames_self ht]
    subst hg
    refine Or.inr ⟨q, ⟨(({ U with heap := s₂.heap, slotsUsed := s₂.slotsUsed } : State).setVm s₂.vm), Ls ++ L, c0 + mc, s0 + ms⟩,
      ⟨X.admits, X.cas, X.clock, X.frames, X.room, X.hears, X.method, X.code, (X.here.setHeapUsed s₂.heap s₂.slotsUsed).setVm hW'.alike, X.tail, State.WarmedH.trans X.warmed hW', X.limits, X.bytes, X.same.trans (hsame.setVm s.vm)⟩,
      ⟨g, mk, s₂, L, E, ce, rfl, rfl, hx, hce, hcv, hcl, rfl, hL, rfl, rfl⟩, ?_⟩
    show Steps p.tables e below _ (((({ U with heap := s₂.heap, slotsUsed := s₂.slotsUsed } : State).setVm s₂.vm).setTop g).pushFrame (.throwing q))
    rw [← hs₂]
    exact hsteps
end Payer
section Calls
variable {p : Program} {l : Launch} {e : Env} {R : Room} {s : State} {m : MethodId} {args : Array Value} {below : List Frame} {meth : Method} {c : Code} {T : State} {locs : List Loc} {cells slots : Nat}
theorem vx_callV (X : Stand p l e R s m args below meth c T locs cells slots) (hexec : p.tables.exec = Jvm.exec) {own C : String} {index : Nat} {y : MethodName} {bytes : ByteArray} {maxL : Nat} {ret : Option FieldType}
    (hown : s.vm.findClass own = some m.cls) (hlink : (Cond.methodLink own index y).before args s = true) (hinst : (Cond.instanceMethod y).before args s = true) (hsel : (Cond.selects C y y).before args s = true)
    (hcode : (Cond.code y bytes maxL ret).before args s = true) (hy : y.cls ≠ "java/lang/invoke/MethodHandle" ∧ y.cls ≠ "java/lang/invoke/VarHandle")
    {W9 : Nat} {Pre : Pt → Array Value → Prop} {Post : Pt → Array Value → Option Value → Pt → Prop} {PostX : Pt → Array Value → Addr → Pt → Prop} (hK : vx_Back l R p e below s args y 3 W9 Pre Post PostX)
    {b : Addr} {cellB : Cell} (hcell : T.heap[b]? = some cellB) (hobj : cellB.vm.isStatics = false) (hcls : s.vm.findClass C = some cellB.cls)
    {g : JFrame} (hg : g.method = m) (hsize : g.locals.size = c.maxLocals) {argsL rest : List Value} (hlen : ∀ sig, parseMethodDescriptor y.desc = some sig → argsL.length = sig.parameters.length)
    (hstack : g.stack = argsL.reverse ++ .ref b :: rest) (hW : 2 * g.monitorRoom + (rest.map fun v => v.category).sum ≤ W9) (hdg : decode c.code g.pc = .ok (.invokevirtual index, 3))
    (hpre : ∀ vm₁, s.WarmedH vm₁ → Pre ⟨T.setVm vm₁, locs, cells, slots⟩ (Value.ref b :: argsL).toArray) :
    (∃ (v : Option Value) (vm₁ : Vm) (B : Pt), s.WarmedH vm₁ ∧ Stand p l e R s m args below meth c B.U B.locs B.cells B.slots ∧ Post ⟨T.setVm vm₁, locs, cells, slots⟩ (Value.ref b :: argsL).toArray v B ∧
      ∀ target, Steps p.tables e below (B.U.setTop { g with pc := g.pc + 3, stack := v.toList ++ rest }) target → Steps p.tables e below (T.setTop g) target) ∨
    (∃ (q : Addr) (vm₁ : Vm) (B : Pt), s.WarmedH vm₁ ∧ Stand p l e R s m args below meth c B.U B.locs B.cells B.slots ∧ PostX ⟨T.setVm vm₁, locs, cells, slots⟩ (Value.ref b :: argsL).toArray q B ∧
      Steps p.tables e below (T.setTop g) ((B.U.setTop { g with stack := rest }).pushFrame (.throwing q))) := by
  obtain ⟨mk, methM, hnamed, hmethM, hstM, habM⟩ := Cond.instanceMethod_spec hinst
  obtain ⟨methM', cM, hmethM', -, -, -, -, -, -, hsigM⟩ := Cond.code_spec hnamed hcode
  cases hmethM.symm.trans hmethM'
  obtain ⟨c2, r2, m2, q1, q2, q3, q4, kP, hkP, hkPi⟩ := Cond.selects_spec hsel
  cases hcls.symm.trans q1
  cases (State.methodFound?_of_named hnamed hy).symm.trans q2
  cases hnamed.symm.trans q3
  have hselP : selectMethod e.platform s.vm cellB.cls mk = .method mk := by rw [Launch.admits_selectMethod X.admits]; exact q4
  obtain ⟨vm₁, X₁, hstep₁⟩ := X.invokevirtual hexec hown hlink hnamed hmethM hstM hkP hkPi hy (a := b) (cell := cellB) hcell
    (fun z h => by rw [h] at hobj; cases hobj) hselP hmethM habM hkP hkPi (g := g) hg (argsL := argsL) (rest := rest) (hlen _ hsigM) hstack hdg
  rcases hK m meth c ⟨T.setVm vm₁, locs, cells, slots⟩ { g with stack := rest } (.invokevirtual index) mk (Value.ref b :: argsL).toArray X₁ hg hsize hdg hW (X₁.named hnamed) (hpre vm₁ X₁.warmed) with ⟨v, B, X', hpost, hsteps⟩ | ⟨q, B, X', hpost, hsteps⟩
  · exact Or.inl ⟨v, vm₁, B, X₁.warmed, X', hpost, fun target h => hstep₁ _ fun acts => by rw [doInvoke_state]; exact hsteps.trans h⟩
  · exact Or.inr ⟨q, vm₁, B, X₁.warmed, X', hpost, hstep₁ _ fun acts => by rw [doInvoke_state]; exact hsteps⟩
theorem vx_callS (X : Stand p l e R s m args below meth c T locs cells slots) (hexec : p.tables.exec = Jvm.exec) {own : String} {index : Nat} {y : MethodName} {bytes : ByteArray} {maxL : Nat} {ret : Option FieldType}
    (hown : s.vm.findClass own = some m.cls) (hlink : (Cond.methodLink own index y).before args s = true) (hstat : (Cond.static y).before args s = true) (hinit : (Cond.initialized y.cls).before args s = true)
    (hcode : (Cond.code y bytes maxL ret).before args s = true) (hy : y.cls ≠ "java/lang/invoke/MethodHandle" ∧ y.cls ≠ "java/lang/invoke/VarHandle")
    {W9 : Nat} {Pre : Pt → Array Value → Prop} {Post : Pt → Array Value → Option Value → Pt → Prop} {PostX : Pt → Array Value → Addr → Pt → Prop} (hK : vx_Back l R p e below s args y 3 W9 Pre Post PostX)
    {g : JFrame} (hg : g.method = m) (hsize : g.locals.size = c.maxLocals) {argsL rest : List Value} (hlen : ∀ sig, parseMethodDescriptor y.desc = some sig → argsL.length = sig.parameters.length)
    (hstack : g.stack = argsL.reverse ++ rest) (hW : 2 * g.monitorRoom + (rest.map fun v => v.category).sum ≤ W9) (hdg : decode c.code g.pc = .ok (.invokestatic index, 3))
    (hpre : ∀ vm₁, s.WarmedH vm₁ → Pre ⟨T.setVm vm₁, locs, cells, slots⟩ argsL.toArray) :
    (∃ (v : Option Value) (vm₁ : Vm) (B : Pt), s.WarmedH vm₁ ∧ Stand p l e R s m args below meth c B.U B.locs B.cells B.slots ∧ Post ⟨T.setVm vm₁, locs, cells, slots⟩ argsL.toArray v B ∧
      ∀ target, Steps p.tables e below (B.U.setTop { g with pc := g.pc + 3, stack := v.toList ++ rest }) target → Steps p.tables e below (T.setTop g) target) ∨
    (∃ (q : Addr) (vm₁ : Vm) (B : Pt), s.WarmedH vm₁ ∧ Stand p l e R s m args below meth c B.U B.locs B.cells B.slots ∧ PostX ⟨T.setVm vm₁, locs, cells, slots⟩ argsL.toArray q B ∧
      Steps p.tables e below (T.setTop g) ((B.U.setTop { g with stack := rest }).pushFrame (.throwing q))) := by
  obtain ⟨mk, hnamed⟩ := Cond.code_named hcode
  obtain ⟨methM, cM, hmethM, -, -, -, -, -, -, hsigM⟩ := Cond.code_spec hnamed hcode
  have hstatic : methM.isStatic = true := Cond.static_spec hnamed hmethM hstat
  obtain ⟨kP, hkP, -⟩ := className_of_methodNamed hnamed
  have hinitP : kP.init = .initialized := Cond.initialized_spec (findClass_of_methodNamed hnamed) hkP hinit
  obtain ⟨vm₁, X₁, hstep₁⟩ := X.invokestatic hexec hown hlink hnamed hmethM hstatic hkP hinitP hy (g := g) hg (argsL := argsL) (rest := rest) (hlen _ hsigM) hstack hdg
  rcases hK m meth c ⟨T.setVm vm₁, locs, cells, slots⟩ { g with stack := rest } (.invokestatic index) mk argsL.toArray X₁ hg hsize hdg hW (X₁.named hnamed) (hpre vm₁ X₁.warmed) with ⟨v, B, X', hpost, hsteps⟩ | ⟨q, B, X', hpost, hsteps⟩
  · exact Or.inl ⟨v, vm₁, B, X₁.warmed, X', hpost, fun target h => hstep₁ _ fun acts => by rw [doInvoke_state]; exact hsteps.trans h⟩
  · exact Or.inr ⟨q, vm₁, B, X₁.warmed, X', hpost, hstep₁ _ fun acts => by rw [doInvoke_state]; exact hsteps⟩
end Calls
theorem vx_cls {s : State} {T : State} {vm₁ : Vm} {E : String} {k : ClassId} (hW : s.WarmedH vm₁) (h : (T.setVm vm₁).vm.findClass E = some k) : s.vm.findClass E = some k := by
  have h1 : vm₁.findClass E = some k := h
  rw [hW.alike.findClass] at h1
  exact h1
/-- the method's frame g, with q thrown over it -/
def vx_W (p : Program) (l : Launch) (e : Env) (R : Room) (s : State) (m : MethodId) (args : Array Value) (below : List Frame) (meth : Method) (c : Code) (H : Heap) (locs : List Loc) (cells slots : Nat) (Q : State → Prop) (g : JFrame) (q : Addr) : Prop :=
  ∀ T : State, T.heap = H → Stand p l e R s m args below meth c T locs cells slots → ∃ t, Steps p.tables e below ((T.setTop g).pushFrame (.throwing q)) t ∧ Q t
def vx_Run (p : Program) (l : Launch) (e : Env) (R : Room) (s : State) (m : MethodId) (args : Array Value) (below : List Frame) (meth : Method) (c : Code) (H : Heap) (locs : List Loc) (cells slots mc ms : Nat) (g : JFrame) (rest : List Value) (Qa : State → Outcome → State → Prop) (XC : String → State → State → Prop) (free : Addr → Prop) : Prop :=
  ∀ T : State, T.heap = H → Stand p l e R s m args below meth c T locs cells slots →
    (∃ (v : Option Value) (st₀ t T' : State) (L : List Loc), st₀.heap = H ∧ Stand p l e R s m args below meth c T' (locs ++ L) (cells + mc) (slots + ms) ∧ (∀ q ∈ L, free q.base) ∧ T'.heap = t.heap ∧ T'.vm = t.vm ∧ Qa st₀ (.returned v) t ∧
      Goes p e below T g T' { g with pc := g.pc + 3, stack := v.toList ++ rest }) ∨
    (∃ (q : Addr) (st₀ t T' : State) (L : List Loc) (E : String) (ce : Cell), st₀.heap = H ∧ Stand p l e R s m args below meth c T' (locs ++ L) (cells + mc) (slots + ms) ∧ (∀ z ∈ L, free z.base) ∧ T'.heap = t.heap ∧ T'.vm = t.vm ∧ XC E st₀ t ∧ t.heap[q]? = some ce ∧ ce.vm = .none ∧ s.vm.findClass E = some ce.cls ∧
      Steps p.tables e below (T.setTop g) ((T'.setTop { g with stack := rest }).pushFrame (.throwing q)))
def vx_X {S : Type} (px : S → Prop) (B : String → S → State → Prop) (A : Nat → Prop) : String → State → State → Prop := fun E st t => ∃ u : S, px u ∧ B E u t ∧ va_F A st t
section Runs
variable {p : Program} {l : Launch} {e : Env} {R : Room} {s : State} {m : MethodId} {args : Array Value} {below : List Frame} {meth : Method} {c : Code} {H : Heap} {locs : List Loc} {cells slots : Nat}
variable {y : MethodName} {bytes cc : ByteArray} {maxL nL mc ms n index : Nat} {ret : Option FieldType} {ws : List Cond} {rm : Room} {Pc : Array Value → State → Prop} {Qc : Array Value → State → Outcome → State → Prop} {XC : String → State → State → Prop} {free : Addr → Prop} {Ts : List Cond} {own C : String} {b : Addr} {As rest : List Value} {g : JFrame}
theorem vx_callBack (cb : CallB R s args own index y bytes maxL ret ws rm mc ms n) (hM : vx_Met l y ws rm Pc Qc XC mc ms free) (hbl : FrameBlind Pc) : vx_Back l R p e below s args y 3 8 (PreOf R mc ms Pc) (PostOf Qc mc ms free) (vx_Post XC mc ms free) := by
  obtain ⟨hrc, hrs, hfr, hlo, hws, hcw, -, hini, -⟩ := cb
  exact vx_back (bytes := bytes) (maxL := maxL) (ret := ret) hM hbl hrc hrs hfr hlo hws hcw (fun a' U hW => word_at hW (Or.inl (by first | rfl | simp [Cond.onTables, Cond.keeps, Cond.steady])) hini)
theorem vx_runV (S : CallFix p m c cc nL s args Ts own) (hM : vx_Met l y ws rm Pc Qc XC mc ms free) (cw : CallW R s args own C index y bytes maxL ret ws rm mc ms n) (hp : PreV s H C b Pc As)
    (hg : g.method = m) (hn : As.length = n) (hsize : g.locals.size = nL) (hstack : g.stack = As.reverse ++ .ref b :: rest) (hW : 2 * g.monitorRoom + (rest.map fun v => v.category).sum ≤ 8) (hdg : decode cc g.pc = .ok (.invokevirtual index, 3)) (hf : cells + mc ≤ R.cells ∧ slots + ms ≤ R.slots) :
    vx_Run p l e R s m args below meth c H locs cells slots mc ms g rest (Qc (Value.ref b :: As).toArray) XC free := by
  have hK : vx_Back l R p e below s args y 3 8 (PreOf R mc ms Pc) (PostOf Qc mc ms free) (vx_Post XC mc ms free) := vx_callBack cw.1 hM hp.1
  obtain ⟨⟨-, -, -, -, -, -, hcode, -, hy, hlen, hl⟩, hin, hse⟩ := cw
  obtain ⟨hx, hb, hml, ho, -⟩ := S
  obtain ⟨-, ⟨cellB, hcB, hoB, hclB⟩, hPc⟩ := hp
  intro T hT X
  rcases vx_callV X hx (C := C) (bytes := bytes) (maxL := maxL) (ret := ret) ho hl hin hse hcode hy hK (by rw [hT]; exact hcB) hoB hclB hg (hsize.trans hml.symm) (argsL := As) (rest := rest) (fun sig h => hn.trans (hlen sig h)) hstack hW (by rw [hb]; exact hdg)
    (fun vm₁ hW₁ => ⟨hf.1, hf.2, hPc (T.setVm vm₁) hT hW₁⟩) with ⟨v, vm₁, ⟨U', l2, c2, s2⟩, hW₁, X', ⟨g', mk, t, L, e1, e2, hq, h1, hL, h2, h3⟩, st⟩ | ⟨q, vm₁, ⟨U', l2, c2, s2⟩, hW₁, X', ⟨g', mk, t, L, E, ce, e1, e2, hq, hce, hcv, hcl, h1, hL, h2, h3⟩, st⟩
  · dsimp only [Pt.U, Pt.locs, Pt.cells, Pt.slots] at X' e1 e2 h1 h2 h3 st
    subst h1; subst h2; subst h3
    exact Or.inl ⟨v, (T.setVm vm₁).calling g' mk (Value.ref b :: As).toArray, t, U', L, hT, X', hL, e1, e2, hq, st⟩
  · dsimp only [Pt.U, Pt.locs, Pt.cells, Pt.slots] at X' e1 e2 h1 h2 h3 st hcl
    subst h1; subst h2; subst h3
    exact Or.inr ⟨q, (T.setVm vm₁).calling g' mk (Value.ref b :: As).toArray, t, U', L, E, ce, hT, X', hL, e1, e2, hq, hce, hcv, vx_cls hW₁ hcl, st⟩
theorem vx_runS (S : CallFix p m c cc nL s args Ts own) (hM : vx_Met l y ws rm Pc Qc XC mc ms free) (cw : CallB R s args own index y bytes maxL ret ws rm mc ms n ∧ (Cond.static y).before args s = true) (hp : PreS s H Pc As)
    (hg : g.method = m) (hn : As.length = n) (hsize : g.locals.size = nL) (hstack : g.stack = As.reverse ++ rest) (hW : 2 * g.monitorRoom + (rest.map fun v => v.category).sum ≤ 8) (hdg : decode cc g.pc = .ok (.invokestatic index, 3)) (hf : cells + mc ≤ R.cells ∧ slots + ms ≤ R.slots) :
    vx_Run p l e R s m args below meth c H locs cells slots mc ms g rest (Qc As.toArray) XC free := by
  have hK : vx_Back l R p e below s args y 3 8 (PreOf R mc ms Pc) (PostOf Qc mc ms free) (vx_Post XC mc ms free) := vx_callBack cw.1 hM hp.1
  obtain ⟨⟨-, -, -, -, -, -, hcode, hini, hy, hlen, hl⟩, hstt⟩ := cw
  obtain ⟨hx, hb, hml, ho, -⟩ := S
  intro T hT X
  rcases vx_callS X hx (bytes := bytes) (maxL := maxL) (ret := ret) ho hl hstt hini hcode hy hK hg (hsize.trans hml.symm) (argsL := As) (rest := rest) (fun sig h => hn.trans (hlen sig h)) hstack hW (by rw [hb]; exact hdg)
    (fun vm₁ hW₁ => ⟨hf.1, hf.2, hp.2 (T.setVm vm₁) hT hW₁⟩) with ⟨v, vm₁, ⟨U', l2, c2, s2⟩, hW₁, X', ⟨g', mk, t, L, e1, e2, hq, h1, hL, h2, h3⟩, st⟩ | ⟨q, vm₁, ⟨U', l2, c2, s2⟩, hW₁, X', ⟨g', mk, t, L, E, ce, e1, e2, hq, hce, hcv, hcl, h1, hL, h2, h3⟩, st⟩
  · dsimp only [Pt.U, Pt.locs, Pt.cells, Pt.slots] at X' e1 e2 h1 h2 h3 st
    subst h1; subst h2; subst h3
    exact Or.inl ⟨v, (T.setVm vm₁).calling g' mk As.toArray, t, U', L, hT, X', hL, e1, e2, hq, st⟩
  · dsimp only [Pt.U, Pt.locs, Pt.cells, Pt.slots] at X' e1 e2 h1 h2 h3 st hcl
    subst h1; subst h2; subst h3
    exact Or.inr ⟨q, (T.setVm vm₁).calling g' mk As.toArray, t, U', L, E, ce, hT, X', hL, e1, e2, hq, hce, hcv, vx_cls hW₁ hcl, st⟩
end Runs
section Rows
variable {p : Program} {l : Launch} {e : Env} {R : Room} {s : State} {m : MethodId} {args : Array Value} {below : List Frame} {meth : Method} {c : Code} {H : Heap} {locs : List Loc} {cells slots : Nat} {Q : State → Prop}
variable {mc ms : Nat} {free : Addr → Prop} {A0 A1 : Nat → Prop} {H0 : Heap} {a : Array Value} {pc : Nat} {ls : Array Slot} {st0 rest : List Value}
theorem vx_keep {st₀ t T' : State} {L : List Loc} (h0 : st₀.heap = H) (e1 : T'.heap = t.heap) (hS : va_S A0 H0 H locs) (hA : ∀ q, q < H.size → A1 q → A0 q) (hf : ∀ q, free q → A0 q) (hL : ∀ q ∈ L, free q.base) (hF : va_F A1 st₀ t) :
    H.size ≤ T'.heap.size ∧ (∀ q : Nat, q < H.size → ¬ A1 q → T'.heap[q]? = H[q]?) ∧ va_S A0 H0 T'.heap (locs ++ L) := by
  obtain ⟨hz, hk⟩ := hF
  rw [h0] at hz hk
  exact ⟨by rw [e1]; exact hz, fun q h1 h2 => by rw [e1]; exact hk q h1 h2,
    ⟨Nat.le_trans hS.1 (by rw [e1]; exact hz), fun q h1 h2 => by rw [e1, hk q (Nat.lt_of_lt_of_le h1 hS.1) (fun z => h2 (hA q (Nat.lt_of_lt_of_le h1 hS.1) z))]; exact hS.2.1 q h1 h2, fun q hq => by
      rcases List.mem_append.mp hq with h | h
      · exact hS.2.2 q h
      · exact hf _ (hL q h)⟩⟩
theorem vx_calli {S SX : Type} {post : Int32 → S → Prop} {px : SX → Prop} {B : S → State → Prop} {BX : String → SX → State → Prop} {AX : Nat → Prop} (hr : vx_Run p l e R s m args below meth c H locs cells slots mc ms (F0 m pc ls st0) rest (va_Qi post B A1 a) (vx_X px BX AX) free) (hS : va_S A0 H0 H locs) (hA : ∀ q, q < H.size → A1 q → A0 q) (hf : ∀ q, free q → A0 q) (hAX : ∀ q, q < H.size → AX q → A0 q)
    (kx : ∀ (E : String) (ce : Cell) (q9 : Addr) (u : SX) (t : State) (H1 : Heap) (locs1 : List Loc), t.heap = H1 → s.vm.Alike t.vm → px u → BX E u t → H.size ≤ H1.size → (∀ q : Nat, q < H.size → ¬ AX q → H1[q]? = H[q]?) → va_S A0 H0 H1 locs1 → H1[q9]? = some ce → ce.vm = .none → s.vm.findClass E = some ce.cls → vx_W p l e R s m args below meth c H1 locs1 (cells + mc) (slots + ms) Q (F0 m pc ls rest) q9)
    (kk : ∀ (r : Int32) (u : S) (t : State) (H1 : Heap) (locs1 : List Loc), t.heap = H1 → s.vm.Alike t.vm → post r u → B u t → H.size ≤ H1.size → (∀ q : Nat, q < H.size → ¬ A1 q → H1[q]? = H[q]?) → va_S A0 H0 H1 locs1 → W p l e R s m args below meth c H1 locs1 (cells + mc) (slots + ms) Q (F0 m (pc + 3) ls (.int r :: rest))) : W p l e R s m args below meth c H locs cells slots Q (F0 m pc ls st0) := by
  intro T hT X
  rcases hr T hT X with ⟨v, st₀, t, T', L, h0, X', hL, e1, e2, ⟨⟨r, u, hv, hp, hb⟩, hF⟩, st⟩ | ⟨q, st₀, t, T', L, E, ce, h0, X', hL, e1, e2, ⟨u, hp, hb, hF⟩, hce, hcv, hcl, st⟩
  · cases hv
    obtain ⟨k1, k2, k3⟩ := vx_keep h0 e1 hS hA hf hL hF
    obtain ⟨t2, a1, b1⟩ := kk r u t T'.heap (locs ++ L) e1.symm (by rw [← e2]; exact X'.warmed.alike) hp hb k1 k2 k3 T' rfl X'
    exact ⟨t2, st t2 a1, b1⟩
  · obtain ⟨k1, k2, k3⟩ := vx_keep h0 e1 hS hAX hf hL hF
    obtain ⟨t2, a1, b1⟩ := kx E ce q u t T'.heap (locs ++ L) e1.symm (by rw [← e2]; exact X'.warmed.alike) hp hb k1 k2 k3 (by rw [e1]; exact hce) hcv hcl T' rfl X'
    exact ⟨t2, st.trans a1, b1⟩
theorem vx_calll {S SX : Type} {post : Int64 → S → Prop} {px : SX → Prop} {B : S → State → Prop} {BX : String → SX → State → Prop} {AX : Nat → Prop} (hr : vx_Run p l e R s m args below meth c H locs cells slots mc ms (F0 m pc ls st0) rest (va_Ql post B A1 a) (vx_X px BX AX) free) (hS : va_S A0 H0 H locs) (hA : ∀ q, q < H.size → A1 q → A0 q) (hf : ∀ q, free q → A0 q) (hAX : ∀ q, q < H.size → AX q → A0 q)
    (kx : ∀ (E : String) (ce : Cell) (q9 : Addr) (u : SX) (t : State) (H1 : Heap) (locs1 : List Loc), t.heap = H1 → s.vm.Alike t.vm → px u → BX E u t → H.size ≤ H1.size → (∀ q : Nat, q < H.size → ¬ AX q → H1[q]? = H[q]?) → va_S A0 H0 H1 locs1 → H1[q9]? = some ce → ce.vm = .none → s.vm.findClass E = some ce.cls → vx_W p l e R s m args below meth c H1 locs1 (cells + mc) (slots + ms) Q (F0 m pc ls rest) q9)
    (kk : ∀ (r : Int64) (u : S) (t : State) (H1 : Heap) (locs1 : List Loc), t.heap = H1 → s.vm.Alike t.vm → post r u → B u t → H.size ≤ H1.size → (∀ q : Nat, q < H.size → ¬ A1 q → H1[q]? = H[q]?) → va_S A0 H0 H1 locs1 → W p l e R s m args below meth c H1 locs1 (cells + mc) (slots + ms) Q (F0 m (pc + 3) ls (.long r :: rest))) : W p l e R s m args below meth c H locs cells slots Q (F0 m pc ls st0) := by
  intro T hT X
  rcases hr T hT X with ⟨v, st₀, t, T', L, h0, X', hL, e1, e2, ⟨⟨r, u, hv, hp, hb⟩, hF⟩, st⟩ | ⟨q, st₀, t, T', L, E, ce, h0, X', hL, e1, e2, ⟨u, hp, hb, hF⟩, hce, hcv, hcl, st⟩
  · cases hv
    obtain ⟨k1, k2, k3⟩ := vx_keep h0 e1 hS hA hf hL hF
    obtain ⟨t2, a1, b1⟩ := kk r u t T'.heap (locs ++ L) e1.symm (by rw [← e2]; exact X'.warmed.alike) hp hb k1 k2 k3 T' rfl X'
    exact ⟨t2, st t2 a1, b1⟩
  · obtain ⟨k1, k2, k3⟩ := vx_keep h0 e1 hS hAX hf hL hF
    obtain ⟨t2, a1, b1⟩ := kx E ce q u t T'.heap (locs ++ L) e1.symm (by rw [← e2]; exact X'.warmed.alike) hp hb k1 k2 k3 (by rw [e1]; exact hce) hcv hcl T' rfl X'
    exact ⟨t2, st.trans a1, b1⟩
theorem vx_callf {S SX : Type} {post : UInt32 → S → Prop} {px : SX → Prop} {B : S → State → Prop} {BX : String → SX → State → Prop} {AX : Nat → Prop} (hr : vx_Run p l e R s m args below meth c H locs cells slots mc ms (F0 m pc ls st0) rest (va_Qf post B A1 a) (vx_X px BX AX) free) (hS : va_S A0 H0 H locs) (hA : ∀ q, q < H.size → A1 q → A0 q) (hf : ∀ q, free q → A0 q) (hAX : ∀ q, q < H.size → AX q → A0 q)
    (kx : ∀ (E : String) (ce : Cell) (q9 : Addr) (u : SX) (t : State) (H1 : Heap) (locs1 : List Loc), t.heap = H1 → s.vm.Alike t.vm → px u → BX E u t → H.size ≤ H1.size → (∀ q : Nat, q < H.size → ¬ AX q → H1[q]? = H[q]?) → va_S A0 H0 H1 locs1 → H1[q9]? = some ce → ce.vm = .none → s.vm.findClass E = some ce.cls → vx_W p l e R s m args below meth c H1 locs1 (cells + mc) (slots + ms) Q (F0 m pc ls rest) q9)
    (kk : ∀ (r : UInt32) (u : S) (t : State) (H1 : Heap) (locs1 : List Loc), t.heap = H1 → s.vm.Alike t.vm → post r u → B u t → H.size ≤ H1.size → (∀ q : Nat, q < H.size → ¬ A1 q → H1[q]? = H[q]?) → va_S A0 H0 H1 locs1 → W p l e R s m args below meth c H1 locs1 (cells + mc) (slots + ms) Q (F0 m (pc + 3) ls (.float r :: rest))) : W p l e R s m args below meth c H locs cells slots Q (F0 m pc ls st0) := by
  intro T hT X
  rcases hr T hT X with ⟨v, st₀, t, T', L, h0, X', hL, e1, e2, ⟨⟨r, u, hv, hp, hb⟩, hF⟩, st⟩ | ⟨q, st₀, t, T', L, E, ce, h0, X', hL, e1, e2, ⟨u, hp, hb, hF⟩, hce, hcv, hcl, st⟩
  · cases hv
    obtain ⟨k1, k2, k3⟩ := vx_keep h0 e1 hS hA hf hL hF
    obtain ⟨t2, a1, b1⟩ := kk r u t T'.heap (locs ++ L) e1.symm (by rw [← e2]; exact X'.warmed.alike) hp hb k1 k2 k3 T' rfl X'
    exact ⟨t2, st t2 a1, b1⟩
  · obtain ⟨k1, k2, k3⟩ := vx_keep h0 e1 hS hAX hf hL hF
    obtain ⟨t2, a1, b1⟩ := kx E ce q u t T'.heap (locs ++ L) e1.symm (by rw [← e2]; exact X'.warmed.alike) hp hb k1 k2 k3 (by rw [e1]; exact hce) hcv hcl T' rfl X'
    exact ⟨t2, st.trans a1, b1⟩
theorem vx_calld {S SX : Type} {post : UInt64 → S → Prop} {px : SX → Prop} {B : S → State → Prop} {BX : String → SX → State → Prop} {AX : Nat → Prop} (hr : vx_Run p l e R s m args below meth c H locs cells slots mc ms (F0 m pc ls st0) rest (va_Qd post B A1 a) (vx_X px BX AX) free) (hS : va_S A0 H0 H locs) (hA : ∀ q, q < H.size → A1 q → A0 q) (hf : ∀ q, free q → A0 q) (hAX : ∀ q, q < H.size → AX q → A0 q)
    (kx : ∀ (E : String) (ce : Cell) (q9 : Addr) (u : SX) (t : State) (H1 : Heap) (locs1 : List Loc), t.heap = H1 → s.vm.Alike t.vm → px u → BX E u t → H.size ≤ H1.size → (∀ q : Nat, q < H.size → ¬ AX q → H1[q]? = H[q]?) → va_S A0 H0 H1 locs1 → H1[q9]? = some ce → ce.vm = .none → s.vm.findClass E = some ce.cls → vx_W p l e R s m args below meth c H1 locs1 (cells + mc) (slots + ms) Q (F0 m pc ls rest) q9)
    (kk : ∀ (r : UInt64) (u : S) (t : State) (H1 : Heap) (locs1 : List Loc), t.heap = H1 → s.vm.Alike t.vm → post r u → B u t → H.size ≤ H1.size → (∀ q : Nat, q < H.size → ¬ A1 q → H1[q]? = H[q]?) → va_S A0 H0 H1 locs1 → W p l e R s m args below meth c H1 locs1 (cells + mc) (slots + ms) Q (F0 m (pc + 3) ls (.double r :: rest))) : W p l e R s m args below meth c H locs cells slots Q (F0 m pc ls st0) := by
  intro T hT X
  rcases hr T hT X with ⟨v, st₀, t, T', L, h0, X', hL, e1, e2, ⟨⟨r, u, hv, hp, hb⟩, hF⟩, st⟩ | ⟨q, st₀, t, T', L, E, ce, h0, X', hL, e1, e2, ⟨u, hp, hb, hF⟩, hce, hcv, hcl, st⟩
  · cases hv
    obtain ⟨k1, k2, k3⟩ := vx_keep h0 e1 hS hA hf hL hF
    obtain ⟨t2, a1, b1⟩ := kk r u t T'.heap (locs ++ L) e1.symm (by rw [← e2]; exact X'.warmed.alike) hp hb k1 k2 k3 T' rfl X'
    exact ⟨t2, st t2 a1, b1⟩
  · obtain ⟨k1, k2, k3⟩ := vx_keep h0 e1 hS hAX hf hL hF
    obtain ⟨t2, a1, b1⟩ := kx E ce q u t T'.heap (locs ++ L) e1.symm (by rw [← e2]; exact X'.warmed.alike) hp hb k1 k2 k3 (by rw [e1]; exact hce) hcv hcl T' rfl X'
    exact ⟨t2, st.trans a1, b1⟩
theorem vx_callv {S SX : Type} {post : S → Prop} {px : SX → Prop} {B : S → State → Prop} {BX : String → SX → State → Prop} {AX : Nat → Prop} (hr : vx_Run p l e R s m args below meth c H locs cells slots mc ms (F0 m pc ls st0) rest (va_Qv post B A1 a) (vx_X px BX AX) free) (hS : va_S A0 H0 H locs) (hA : ∀ q, q < H.size → A1 q → A0 q) (hf : ∀ q, free q → A0 q) (hAX : ∀ q, q < H.size → AX q → A0 q)
    (kx : ∀ (E : String) (ce : Cell) (q9 : Addr) (u : SX) (t : State) (H1 : Heap) (locs1 : List Loc), t.heap = H1 → s.vm.Alike t.vm → px u → BX E u t → H.size ≤ H1.size → (∀ q : Nat, q < H.size → ¬ AX q → H1[q]? = H[q]?) → va_S A0 H0 H1 locs1 → H1[q9]? = some ce → ce.vm = .none → s.vm.findClass E = some ce.cls → vx_W p l e R s m args below meth c H1 locs1 (cells + mc) (slots + ms) Q (F0 m pc ls rest) q9)
    (kk : ∀ (u : S) (t : State) (H1 : Heap) (locs1 : List Loc), t.heap = H1 → s.vm.Alike t.vm → post u → B u t → H.size ≤ H1.size → (∀ q : Nat, q < H.size → ¬ A1 q → H1[q]? = H[q]?) → va_S A0 H0 H1 locs1 → W p l e R s m args below meth c H1 locs1 (cells + mc) (slots + ms) Q (F0 m (pc + 3) ls (rest))) : W p l e R s m args below meth c H locs cells slots Q (F0 m pc ls st0) := by
  intro T hT X
  rcases hr T hT X with ⟨v, st₀, t, T', L, h0, X', hL, e1, e2, ⟨⟨u, hv, hp, hb⟩, hF⟩, st⟩ | ⟨q, st₀, t, T', L, E, ce, h0, X', hL, e1, e2, ⟨u, hp, hb, hF⟩, hce, hcv, hcl, st⟩
  · cases hv
    obtain ⟨k1, k2, k3⟩ := vx_keep h0 e1 hS hA hf hL hF
    obtain ⟨t2, a1, b1⟩ := kk u t T'.heap (locs ++ L) e1.symm (by rw [← e2]; exact X'.warmed.alike) hp hb k1 k2 k3 T' rfl X'
    exact ⟨t2, st t2 a1, b1⟩
  · obtain ⟨k1, k2, k3⟩ := vx_keep h0 e1 hS hAX hf hL hF
    obtain ⟨t2, a1, b1⟩ := kx E ce q u t T'.heap (locs ++ L) e1.symm (by rw [← e2]; exact X'.warmed.alike) hp hb k1 k2 k3 (by rw [e1]; exact hce) hcv hcl T' rfl X'
    exact ⟨t2, st.trans a1, b1⟩
/-- caught by the row x of this method's table; the rows ahead don't take it -/
theorem vx_catch {own name : String} {E : String} {ce : Cell} {q : Addr} (hown : s.vm.findClass own = some m.cls) (pre : List ExceptionTableEntry) (x : ExceptionTableEntry) (suf : List ExceptionTableEntry) (hsplit : c.exceptionTable.toList = pre ++ x :: suf)
    (hpass : ∀ z ∈ pre, covers z pc = false ∨ (z.catchType ≠ 0 ∧ ∃ nm : String, (Cond.classLink own z.catchType nm).before args s = true ∧ va_Nc E nm s)) (hx : covers x pc = true) (h0 : x.catchType ≠ 0)
    (hlink : (Cond.classLink own x.catchType name).before args s = true) (hcast : (Cond.castable E name).before args s = true) (hcell : H[q]? = some ce) (hv : ce.vm = .none) (hcl : s.vm.findClass E = some ce.cls)
    (kk : W p l e R s m args below meth c H locs cells slots Q (F0 m x.handlerPc ls [.ref q])) : vx_W p l e R s m args below meth c H locs cells slots Q (F0 m pc ls rest) q := by
  intro T hT X
  have hpl : e.platform.magicAccessors = ({} : Platform).magicAccessors := by rw [X.admits.platform]
  obtain ⟨c3, c4, hc3, hc4, hasg⟩ := Cond.castable_spec hcast
  cases Option.some.inj (hc3.symm.trans hcl)
  obtain ⟨c5, hc5, hcl5⟩ := Cond.classLink_spec hown hlink e.platform hpl
  cases Option.some.inj (hc4.symm.trans hc5)
  obtain ⟨vm', X', st⟩ := X.thenCaughtThrough q (g := F0 m pc ls rest) rfl (Steps.refl _) (by rw [hT]; exact hcell) (by rw [hv]; rfl) (by obtain ⟨k9, h9, -⟩ := Vm.findClass_spec hcl; exact ⟨k9, h9⟩) pre x suf hsplit
    (fun z hz => by
      rcases hpass z hz with h | ⟨hz0, nm, hl1, hn1⟩
      · exact Or.inl h
      · obtain ⟨c6, hc6, hcl6⟩ := Cond.classLink_spec hown hl1 e.platform hpl
        obtain ⟨a8, b8, h1, h2, h3⟩ := hn1
        cases Option.some.inj (h1.symm.trans hcl)
        cases Option.some.inj (h2.symm.trans hc6)
        exact Or.inr ⟨hz0, _, hcl6, h3⟩) hx (Or.inr ⟨h0, c4, hcl5, hasg⟩)
  obtain ⟨t, a1, b1⟩ := kk (T.setVm vm') hT X'
  exact ⟨t, st.trans a1, b1⟩
end Rows
section Ends
variable {p : Program} {l : Launch} {e : Env} {R : Room} {s : State} {m : MethodId} {args : Array Value} {below : List Frame} {meth : Method} {c : Code} {H : Heap} {locs : List Loc} {cells slots : Nat} {Q : State → Prop}
variable {mc ms : Nat} {free : Addr → Prop} {A0 A1 : Nat → Prop} {H0 : Heap} {a : Array Value} {ls : Array Slot} {st0 rest : List Value}
variable {Qc : Array Value → State → Outcome → State → Prop} {XC : String → State → State → Prop}
/-- what a body that may throw owes at its end -/
def vx_MQ (below : List Frame) (Qc : Array Value → State → Outcome → State → Prop) (XC : String → State → State → Prop) (a : Array Value) (s : State) (mc ms : Nat) (free : Addr → Prop) : State → Prop := fun t =>
  ∃ o, t.status = .running ∧ Ended t below o ∧ vx_Q Qc XC mc ms free a s o t
theorem vx_ret {g : JFrame} {mc ms : Nat} (k : W p l e R s m args below meth c H locs cells slots (MQ below Qc args s mc ms free) g) : W p l e R s m args below meth c H locs cells slots (vx_MQ below Qc XC args s mc ms free) g := by
  intro T hT X
  obtain ⟨t, a1, o, b1, b2, b3, b4⟩ := k T hT X
  exact ⟨t, a1, o, b1, b2, Or.inl ⟨b3, b4⟩⟩
/-- not caught here: it goes on to the caller -/
theorem vx_widen {g : JFrame} {q : Addr} {k n : Nat} (h1 : cells ≤ k) (h2 : slots ≤ n) (kk : vx_W p l e R s m args below meth c H locs k n Q g q) : vx_W p l e R s m args below meth c H locs cells slots Q g q := fun T hT X => kk T hT (stand_widen X h1 h2)
theorem vx_out {pc : Nat} {E : String} {ce : Cell} {q : Addr} {mc ms : Nat} (hout : ∀ x ∈ c.exceptionTable.toList, covers x pc = false) (hlocks : meth.locks = false) (hcell : H[q]? = some ce) (hv : ce.vm = .none) (hcl : s.vm.findClass E = some ce.cls)
    (hx : ∀ t : State, t.heap = H → s.vm.Alike t.vm → XC E s t) (hf : ∀ z ∈ locs, free z.base) (hc : cells ≤ mc) (hs : slots ≤ ms) :
    vx_W p l e R s m args below meth c H locs cells slots (vx_MQ below Qc XC args s mc ms free) (F0 m pc ls rest) q := by
  intro T hT X
  obtain ⟨st1, hrun, hend, hW, hsm⟩ := X.leaveThrown q (g := F0 m pc ls rest) rfl rfl rfl hout hlocks
  have hcell9 : (T.setFrames (.throwing q :: below)).heap[q]? = some ce := by
    show T.heap[q]? = some ce
    rw [hT]; exact hcell
  exact ⟨_, st1, .threw q, hrun, hend, Or.inr ⟨q, rfl, E, ce, locs, hx _ hT hW.alike, hcell9, hv, hcl, hW, hsm.mono hc hs, hf⟩⟩
theorem vx_frame {U : State} {k n : Nat} (h : s.sameButNew ({ U with vm := s.vm } : State) locs k n) : s.heap.size ≤ U.heap.size ∧ ∀ q : Nat, q < s.heap.size → (∀ z ∈ locs, z.base ≠ q) → U.heap[q]? = s.heap[q]? := by
  obtain ⟨-, h2, -, -, -, h6⟩ := h
  refine ⟨h2, fun q hq hz => ?_⟩
  obtain ⟨c9, e1, e2, e3, e4⟩ := h6 q _ (Array.getElem?_eq_getElem hq)
  have hs : c9.slots = (s.heap[q]).slots := Array.ext_getElem? fun i => e4 i fun hm => hz _ hm rfl
  have h9 : c9 = s.heap[q] := by
    rw [hs] at e2
    exact e2
  have e5 : U.heap[q]? = some c9 := e1
  rw [e5, h9, Array.getElem?_eq_getElem hq]
/-- the words of a throw but the four that speak of the heap -/
def vx_no (w : Cond) : Bool := decide (w ≠ .isRef (.static Bundle.tN "UNASSIGNED_STACK" Bundle.steD)) && decide (w ≠ .isRef (.static Bundle.tN "SUPPRESSED_SENTINEL" Bundle.listD)) && decide (w ≠ .laysStatic Bundle.tN "UNASSIGNED_STACK" Bundle.steD) && decide (w ≠ .laysStatic Bundle.tN "SUPPRESSED_SENTINEL" Bundle.listD)
def vx_at0 (own : String) (ic : Nat) (X : String) (names : List String) : List Cond := (Bundle.ownAtoms0 own ic X names).filter vx_no
def vx_atS (own : String) (ic : Nat) (X : String) (names : List String) : List Cond := (Bundle.ownAtoms own ic X names).filter vx_no
/-- a word that the tables alone decide, or a good one -/
def vx_ot (w : Cond) : Bool := w.onTables || goodWord w
theorem vx_ot_at {args a' : Array Value} {s U : State} {w : Cond} (hW : s.WarmedH U.vm) (hvm : s.vm = U.vm) (hg : vx_ot w = true) (h : w.before args s = true) : w.before a' U = true := by
  simp only [vx_ot, Bool.or_eq_true] at hg
  rcases hg with hg | hg
  · exact va_tabs hg hvm h
  · exact word_at hW (good_of_word hg) h
/-- a list's words: the good ones out of the method's own list, the others by premises of their own -/
theorem vx_hat {args : Array Value} {s : State} {L B : List Cond} (h1 : ∀ w ∈ L.filter goodWord, w.before args s = true) (h2 : ∀ w ∈ L.filter (fun w => !goodWord w), w ∈ B) (h3 : ∀ w ∈ B, w.before args s = true) : ∀ w ∈ L, w.before args s = true := by
  intro w hw
  by_cases g : goodWord w = true
  · exact h1 w (List.mem_filter.mpr ⟨hw, g⟩)
  · refine h3 w (h2 w (List.mem_filter.mpr ⟨hw, ?_⟩))
    show (!goodWord w) = true
    cases hgw : goodWord w
    · rfl
    · exact absurd hgw g
theorem vx_c {args : Array Value} {s : State} {w : Cond} {B : List Cond} (h : w.before args s = true) (t : ∀ w ∈ B, w.before args s = true) : ∀ w' ∈ w :: B, w'.before args s = true := fun w' h' => (List.mem_cons.mp h').elim (fun e => by rw [e]; exact h) (t w')
theorem vx_n {args : Array Value} {s : State} : ∀ w ∈ ([] : List Cond), w.before args s = true := fun _ h => nomatch h
theorem vx_own {args : Array Value} {s : State} {L : List Cond} (h1 : ∀ w ∈ L.filter vx_no, w.before args s = true)
    (hU : (Cond.isRef (.static Bundle.tN "UNASSIGNED_STACK" Bundle.steD)).before args s = true) (hN : (Cond.isRef (.static Bundle.tN "SUPPRESSED_SENTINEL" Bundle.listD)).before args s = true)
    (lU : (Cond.laysStatic Bundle.tN "UNASSIGNED_STACK" Bundle.steD).before args s = true) (lN : (Cond.laysStatic Bundle.tN "SUPPRESSED_SENTINEL" Bundle.listD).before args s = true) : ∀ w ∈ L, w.before args s = true := by
  intro w hw
  by_cases e1 : w = .isRef (.static Bundle.tN "UNASSIGNED_STACK" Bundle.steD)
  · rw [e1]; exact hU
  · by_cases e2 : w = .isRef (.static Bundle.tN "SUPPRESSED_SENTINEL" Bundle.listD)
    · rw [e2]; exact hN
    · by_cases e3 : w = .laysStatic Bundle.tN "UNASSIGNED_STACK" Bundle.steD
      · rw [e3]; exact lU
      · by_cases e4 : w = .laysStatic Bundle.tN "SUPPRESSED_SENTINEL" Bundle.listD
        · rw [e4]; exact lN
        · exact h1 w (List.mem_filter.mpr ⟨hw, by unfold vx_no; rw [decide_eq_true e1, decide_eq_true e2, decide_eq_true e3, decide_eq_true e4]; rfl⟩)
/-- where a static field lies, its class's statics cell in H -/
def vx_L (C n d : String) (A : Nat → Prop) (U : State) (H : Heap) : Prop := ∃ (c : ClassId) (k : Class) (i : Nat) (f : Field) (a : Nat) (cell : Cell), U.vm.findClass C = some c ∧ U.fieldFound? C n d = some (c, k, i, f) ∧ f.isStatic = true ∧ k.statics = some a ∧ H[a]? = some cell ∧ cell.vm.isStatics = true ∧ cell.cls = c ∧ f.slot < cell.slots.size ∧ k.staticTypes[f.slot]? = some f.type ∧ ¬ A a
theorem vx_L.moved {C n d : String} {A : Nat → Prop} {u U : State} {H : Heap} (hvm : u.vm.Alike U.vm) (h : vx_L C n d A u H) : vx_L C n d A U H := by
  obtain ⟨c, k, i, f, a, cell, h1, h2, h3, h4, h5, h6, h7, h8, h9, h10⟩ := h
  obtain ⟨k', hi', he⟩ := State.fieldFound?_setVm hvm h2
  exact ⟨c, k', i, f, a, cell, by rw [hvm.findClass]; exact h1, hi', h3, by rw [he]; exact h4, h5, h6, h7, h8, by rw [he]; exact h9, h10⟩
theorem vx_L.kept {C n d : String} {A : Nat → Prop} {U : State} {H H1 : Heap} (h : vx_L C n d A U H) (hq : ∀ a : Nat, a < H.size → ¬ A a → H1[a]? = H[a]?) : vx_L C n d A U H1 := by
  obtain ⟨c, k, i, f, a, cell, h1, h2, h3, h4, h5, h6, h7, h8, h9, h10⟩ := h
  exact ⟨c, k, i, f, a, cell, h1, h2, h3, h4, by rw [hq a (Array.getElem?_eq_some_iff.mp h5).1 h10]; exact h5, h6, h7, h8, h9, h10⟩
theorem vx_L.narrow {C n d : String} {A B : Nat → Prop} {U : State} {H : Heap} (h : vx_L C n d A U H) (hAB : ∀ q, B q → A q) : vx_L C n d B U H := by
  obtain ⟨c, k, i, f, a, cell, h1, h2, h3, h4, h5, h6, h7, h8, h9, h10⟩ := h
  exact ⟨c, k, i, f, a, cell, h1, h2, h3, h4, h5, h6, h7, h8, h9, fun z => h10 (hAB _ z)⟩
theorem vx_L.word {C n d : String} {A : Nat → Prop} {s : State} {args : Array Value} (h : vx_L C n d A s s.heap) : (Cond.laysStatic C n d).before args s = true := by
  obtain ⟨c, k, i, f, a, cell, h1, h2, h3, h4, h5, h6, h7, h8, h9, -⟩ := h
  show (Cond.laysStatic C n d).holds args s none s [] = true
  exact Cond.laysStatic_of h1 h2 h3 h4 h5 h6 h7 h8 h9
/-- .. and what it holds: null or some reference -/
def vx_Zq (C n d : String) (A : Nat → Prop) (U : State) (H : Heap) : Prop := va_Zq C n d A U H ∧ vx_L C n d A U H
theorem vx_Zq.moved {C n d : String} {A : Nat → Prop} {u U : State} {H : Heap} (hvm : u.vm.Alike U.vm) (h : vx_Zq C n d A u H) : vx_Zq C n d A U H := ⟨va_Zq.moved hvm h.1, vx_L.moved hvm h.2⟩
theorem vx_Zq.kept {C n d : String} {A : Nat → Prop} {U : State} {H H1 : Heap} (h : vx_Zq C n d A U H) (hq : ∀ a : Nat, a < H.size → ¬ A a → H1[a]? = H[a]?) : vx_Zq C n d A U H1 := ⟨va_Zq.kept h.1 hq, vx_L.kept h.2 hq⟩
theorem vx_Zq.narrow {C n d : String} {A B : Nat → Prop} {U : State} {H : Heap} (h : vx_Zq C n d A U H) (hAB : ∀ q, B q → A q) : vx_Zq C n d B U H := ⟨va_Zq.narrow h.1 hAB, vx_L.narrow h.2 hAB⟩
theorem vx_Zqof {args : Array Value} {s : State} {C n d : String} {A : Nat → Prop} (hl : (Cond.laysStatic C n d).before args s = true) (hini : (Cond.initialized C).before args s = true) (h : (Cond.isRef (.static C n d)).before args s = true) (hA : ∀ a : Nat, a < s.heap.size → ¬ A a) : vx_Zq C n d A s s.heap := by
  refine ⟨va_Zqof hl hini h hA, ?_⟩
  obtain ⟨c, k, i, f, a, cell, h1, h2, h3, h4, h5, h6, h7, h8, h9⟩ := Cond.laysStatic_spec hl
  exact ⟨c, k, i, f, a, cell, h1, h2, h3, h4, h5, h6, h7, h8, h9, hA a (Array.getElem?_eq_some_iff.mp h5).1⟩
theorem vx_isRef {C n d : String} {v : Value} {A : Nat → Prop} {s : State} {args : Array Value} (h : va_Z C n d v A s s.heap) (hv : v.isRef = true) : (Cond.isRef (.static C n d)).before args s = true := by
  obtain ⟨cf, kf, fi, f, a, cell, h1, h2, h3, h4, h5, h6, h7, -⟩ := h
  have he : (Term.static C n d).eval args s none [] s = some v := by
    simp [Term.eval, State.fieldNamed?, h1, h2, h4, h5, h6, h7]
  simp only [Cond.before, Cond.holds, Cond.value, he]
  cases v <;> simp_all [Value.isRef]
theorem vx_isRefq {C n d : String} {A : Nat → Prop} {s : State} {args : Array Value} (h : va_Zq C n d A s s.heap) : (Cond.isRef (.static C n d)).before args s = true := by
  rcases h with h | ⟨t, h⟩
  · exact vx_isRef h rfl
  · exact vx_isRef h rfl
/-- the same frame, seen from here: as if the method were called anew in this heap -/
theorem vx_rebase {T : State} (X : Stand p l e R s m args below meth c T locs cells slots) {R' : Room} (hf : R'.frames ≤ R.frames) (hl : R'.locals ≤ R.locals) (hc : cells + R'.cells ≤ R.cells) (hs : slots + R'.slots ≤ R.slots) :
    Stand p l e R' ((T.setVm s.vm).setFrames (.invoking m args :: below)) m args below meth c T [] 0 0 := by
  have htop : (T.setVm s.vm).topJava?.isSome := X.here.top
  have hF : ((T.setVm s.vm).setFrames (.invoking m args :: below)).frames = .invoking m args :: below := State.frames_setFrames _ (State.cur_lt_of_top htop)
  obtain ⟨g₀, hg0⟩ := Option.isSome_iff_exists.mp htop
  obtain ⟨r, hr⟩ := State.topJava?_eq_some.mp hg0
  have hl9 : e.platform.stackLimits (T.setVm s.vm).me = e.platform.stackLimits s.me := X.limits
  have hb9 : (T.setVm s.vm).me.stackBytes = s.me.stackBytes := X.bytes
  refine ⟨X.admits, X.cas, X.clock, hF, ?_, X.hears, X.method, X.code, X.here, X.tail, X.warmed, ?_, ?_, ?_⟩
  · have h := X.room
    have hU : ((T.setVm s.vm).setFrames (.invoking m args :: below)).localsInUse = s.localsInUse := by
      rw [State.localsInUse_invoking hF (meth := meth) (c := c) X.method X.code, State.localsInUse_invoking X.frames X.method X.code]
    simp only [State.hasRoom, Bool.and_eq_true, decide_eq_true_eq] at h ⊢
    obtain ⟨⟨⟨⟨h1, h2, h3, h4, h5, h6⟩, h7⟩, h8⟩, h9⟩ := h
    rw [X.frames, List.length_cons] at h2 h3
    have q1 := X.heapSize
    have q2 := X.used
    simp only [hF, hU, List.length_cons, State.stackLimits_setFrames, State.stackBytes_setFrames, hl9, hb9]
    refine ⟨⟨⟨⟨by omega, by omega, by omega, by omega, by omega, h6⟩, ?_⟩, ?_⟩, X.book⟩
    · show T.heap.size + R'.cells ≤ e.platform.maxCells
      omega
    · show T.slotsUsed + R'.slots ≤ e.platform.maxSlots
      omega
  · rw [State.stackLimits_setFrames]; rfl
  · rw [State.stackBytes_setFrames]; rfl
  · refine ⟨?_, Nat.le_refl _, Nat.le_refl _, ?_, ?_, fun a c9 h9 => ⟨c9, h9, rfl, rfl, fun _ _ => rfl⟩⟩
    · obtain ⟨t, ht, -⟩ := State.frames_cons hr
      show T.setVm s.vm = { ((T.setVm s.vm).setFrames (.invoking m args :: below)).setFrames (T.setVm s.vm).frames with heap := T.heap, slotsUsed := T.slotsUsed }
      rw [State.setFrames_setFrames, State.setFrames_self ht]
      rfl
    · show T.slotsUsed = T.slotsUsed + ((T.heap.toList.drop T.heap.size).map (·.slots.size)).sum
      rw [List.drop_eq_nil_of_le (Nat.le_of_eq Array.length_toList)]
      rfl
    · show ((T.heap.toList.drop T.heap.size).map (·.slots.size)).sum ≤ 0
      rw [List.drop_eq_nil_of_le (Nat.le_of_eq Array.length_toList)]
      exact Nat.le_refl _
/-- 'throw new E()': new; dup; invokespecial; athrow -/
theorem vx_throw0 {cc : ByteArray} {pc : Nat} (hexec : p.tables.exec = Jvm.exec) (hb : c.code = cc) (hl : l.stackTraces = false) {own cls : String} {names : List String} {ik ic mc ms : Nat} {A : Nat → Prop}
    (hown : s.vm.findClass own = some m.cls) (hcls : Bundle.fit cls = true) (hnames : ∀ n ∈ names, Bundle.fit n = true)
    (hk : (Cond.classLink own ik cls).before args s = true) (hini : (Cond.initialized cls).before args s = true) (hat : ∀ w ∈ vx_at0 own ic cls names, w.before args s = true)
    (hgood : ∀ w ∈ Cond.classLink own ik cls :: Cond.initialized cls :: vx_at0 own ic cls names, vx_ot w = true)
    (hU : vx_Zq Bundle.tN "UNASSIGNED_STACK" Bundle.steD A s s.heap) (hN : vx_Zq Bundle.tN "SUPPRESSED_SENTINEL" Bundle.listD A s s.heap) (hS : va_S A s.heap H locs) (hsize : ls.size = c.maxLocals)
    (d0 : decode cc pc = .ok (.new ik, 3)) (d3 : decode cc (pc + 3) = .ok (.dup, 1)) (d4 : decode cc (pc + 4) = .ok (.invokespecial ic, 3)) (d7 : decode cc (pc + 7) = .ok (.athrow, 1))
    (hout : ∀ x ∈ c.exceptionTable.toList, covers x (pc + 7) = false)
    (hRframes : names.length + 3 < R.frames) (hRlocals : (rest.map fun v => v.category).sum + (13 * (names.length + 1) + 42) ≤ R.locals) (hRcells : cells + 1 ≤ R.cells) (hRslots : slots + 6 ≤ R.slots) (hlocks : meth.locks = false)
    (hx : ∀ t : State, s.vm.Alike t.vm → H.size ≤ t.heap.size → (∀ q : Nat, q < H.size → t.heap[q]? = H[q]?) → XC cls s t)
    (hf : ∀ z ∈ locs, free z.base) (hc : cells + 1 ≤ mc) (hs : slots + 6 ≤ ms) :
    W p l e R s m args below meth c H locs cells slots (vx_MQ below Qc XC args s mc ms free) (F0 m pc ls rest) := by
  intro T hT X
  have htr : e.platform.stackTraces = false := (show e.platform.stackTraces = l.stackTraces by rw [X.admits.platform]).trans hl
  have Y := vx_rebase X (R' := { frames := R.frames, locals := R.locals, cells := 1, slots := 6 }) (Nat.le_refl _) (Nat.le_refl _) hRcells hRslots
  obtain ⟨s', hA⟩ : ∃ z, z = (T.setVm s.vm).setFrames (.invoking m args :: below) := ⟨_, rfl⟩
  rw [← hA] at Y
  have hvm : s'.vm = s.vm := by rw [hA]; rfl
  have hhp : s'.heap = H := by rw [hA]; exact hT
  have hW0 : s.WarmedH s'.vm := by rw [hvm]; exact State.WarmedH.refl s
  have hat' : ∀ w ∈ vx_at0 own ic cls names, w.before args s' = true := fun w hw => vx_ot_at hW0 hvm.symm (hgood w (List.mem_cons_of_mem _ (List.mem_cons_of_mem _ hw))) (hat w hw)
  have hk' : (Cond.classLink own ik cls).before args s' = true := vx_ot_at hW0 hvm.symm (hgood _ List.mem_cons_self) hk
  have hini' : (Cond.initialized cls).before args s' = true := vx_ot_at hW0 hvm.symm (hgood _ (List.mem_cons_of_mem _ List.mem_cons_self)) hini
  have hU' : vx_Zq Bundle.tN "UNASSIGNED_STACK" Bundle.steD A s' s'.heap := by rw [hhp]; exact vx_Zq.moved hW0.alike (hU.kept hS.2.1)
  have hN' : vx_Zq Bundle.tN "SUPPRESSED_SENTINEL" Bundle.listD A s' s'.heap := by rw [hhp]; exact vx_Zq.moved hW0.alike (hN.kept hS.2.1)
  have h : ∀ w ∈ Bundle.ownAtoms0 own ic cls names, w.before args s' = true := vx_own hat' (vx_isRefq hU'.1) (vx_isRefq hN'.1) hU'.2.word hN'.2.word
  have hown' : s'.vm.findClass own = some m.cls := by rw [hvm]; exact hown
  have hins : (Cond.instantiable cls 6).before args s' = true := h _ (by simp [Bundle.ownAtoms0])
  obtain ⟨vm₁, cX, kX, hfX, hkX, -, -, X₁, st1⟩ := Y.newCold hexec (own := own) (C := cls) (index := ik) (n := 6) hown' hk' hins hini'
    (g := F0 m pc ls rest) rfl (by rw [hb]; exact d0) (Nat.le_refl _) (Nat.le_refl _)
  generalize hT1 : (T.setVm vm₁).pushCell { cls := cX, slots := kX.instanceTypes.map defaultValue, vm := .none } = T1 at X₁ st1
  have hcat : (Value.ref T.heap.size).category = 1 := rfl
  have hcellA : T1.heap[T.heap.size]? = some (freshCell cX kX) := by rw [← hT1]; exact State.heap_pushCell_size _ _
  have d3' : decode c.code (pc + 3) = .ok (.dup, 1) := by rw [hb]; exact d3
  obtain ⟨U, hsteps, hrun, hend, hW, hsame, ce, hce, hO⟩ := X₁.ctorThrow0 hexec htr (own := own) (cls := cls) (names := names) (ic := ic) hown' hcls hnames h (fun x hx => nomatch hx) hfX hkX hcellA (by rw [hhp, hT]; exact Nat.le_refl _)
    (g := { method := m, pc := pc + 4, locals := ls, stack := .ref T.heap.size :: .ref T.heap.size :: rest, locked := none }) rfl hsize rfl rfl (rest := rest) rfl
    (by rw [hb]; exact d4) (by rw [hb]; exact d7) hout hRframes (by simp only [List.map_cons, List.sum_cons, hcat]; omega) hlocks
  obtain ⟨f1, f2⟩ := vx_frame hsame
  rw [hhp] at f1 f2
  have hWs : s.WarmedH U.vm := State.WarmedH.trans hW0 hW
  have hcl : s.vm.findClass cls = some ce.cls := by
    have h9 := hO.cls
    rw [hvm] at h9
    exact h9
  have hall : s.sameButNew ({ U with vm := s.vm } : State) locs mc ms := by
    subst hA
    obtain ⟨e1, e2⟩ := hsame
    rw [State.setFrames_setFrames] at e1
    have h2 : (T.setVm s.vm).sameButNew ({ U with vm := s.vm } : State) [] (0 + 1) (0 + 6) := ⟨e1, e2⟩
    have h3 := X.same.trans h2
    rw [List.append_nil] at h3
    exact h3.mono hc hs
  refine ⟨U, ?_, .threw T.heap.size, hrun, hend, Or.inr ⟨T.heap.size, rfl, cls, ce, locs, hx U hWs.alike f1 (fun q hq => f2 q hq (fun z hz => nomatch hz)), hce, hO.vm, hcl, hWs, hall, hf⟩⟩
  refine st1 _ ?_
  show Steps p.tables e below (T1.setTop { method := m, pc := pc + 3, locals := ls, stack := .ref T.heap.size :: rest, locked := none }) _
  jvm_step X₁.here [X₁.here.top, hexec, d3', Value.category]
  exact hsteps
/-- 'throw new E("text")': new; dup; ldc; invokespecial; athrow -/
theorem vx_throwS {cc : ByteArray} {pc : Nat} (hexec : p.tables.exec = Jvm.exec) (hb : c.code = cc) (hl : l.stackTraces = false) {own cls text : String} {names : List String} {ik is ic mc ms sa : Nat} {A : Nat → Prop}
    (hown : s.vm.findClass own = some m.cls) (hcls : Bundle.fit cls = true) (hnames : ∀ n ∈ names, Bundle.fit n = true)
    (hk : (Cond.classLink own ik cls).before args s = true) (hini : (Cond.initialized cls).before args s = true) (hstr : vk_R own is text sa s) (hat : ∀ w ∈ vx_atS own ic cls names, w.before args s = true)
    (hgood : ∀ w ∈ Cond.classLink own ik cls :: Cond.initialized cls :: vx_atS own ic cls names, vx_ot w = true)
    (hU : vx_Zq Bundle.tN "UNASSIGNED_STACK" Bundle.steD A s s.heap) (hN : vx_Zq Bundle.tN "SUPPRESSED_SENTINEL" Bundle.listD A s s.heap) (hS : va_S A s.heap H locs) (hsize : ls.size = c.maxLocals)
    (d0 : decode cc pc = .ok (.new ik, 3)) (d3 : decode cc (pc + 3) = .ok (.dup, 1)) (d4 : decode cc (pc + 4) = .ok (.ldc is, 2)) (d6 : decode cc (pc + 6) = .ok (.invokespecial ic, 3)) (d9 : decode cc (pc + 9) = .ok (.athrow, 1))
    (hout : ∀ x ∈ c.exceptionTable.toList, covers x (pc + 9) = false)
    (hRframes : names.length + 3 < R.frames) (hRlocals : (rest.map fun v => v.category).sum + (13 * (names.length + 1) + 43) ≤ R.locals) (hRcells : cells + 1 ≤ R.cells) (hRslots : slots + 6 ≤ R.slots) (hlocks : meth.locks = false)
    (hx : ∀ t : State, s.vm.Alike t.vm → H.size ≤ t.heap.size → (∀ q : Nat, q < H.size → t.heap[q]? = H[q]?) → XC cls s t)
    (hf : ∀ z ∈ locs, free z.base) (hc : cells + 1 ≤ mc) (hs : slots + 6 ≤ ms) :
    W p l e R s m args below meth c H locs cells slots (vx_MQ below Qc XC args s mc ms free) (F0 m pc ls rest) := by
  intro T hT X
  have htr : e.platform.stackTraces = false := (show e.platform.stackTraces = l.stackTraces by rw [X.admits.platform]).trans hl
  have Y := vx_rebase X (R' := { frames := R.frames, locals := R.locals, cells := 1, slots := 6 }) (Nat.le_refl _) (Nat.le_refl _) hRcells hRslots
  obtain ⟨s', hA⟩ : ∃ z, z = (T.setVm s.vm).setFrames (.invoking m args :: below) := ⟨_, rfl⟩
  rw [← hA] at Y
  have hvm : s'.vm = s.vm := by rw [hA]; rfl
  have hhp : s'.heap = H := by rw [hA]; exact hT
  have hW0 : s.WarmedH s'.vm := by rw [hvm]; exact State.WarmedH.refl s
  have hat' : ∀ w ∈ vx_atS own ic cls names, w.before args s' = true := fun w hw => vx_ot_at hW0 hvm.symm (hgood w (List.mem_cons_of_mem _ (List.mem_cons_of_mem _ hw))) (hat w hw)
  have hk' : (Cond.classLink own ik cls).before args s' = true := vx_ot_at hW0 hvm.symm (hgood _ List.mem_cons_self) hk
  have hini' : (Cond.initialized cls).before args s' = true := vx_ot_at hW0 hvm.symm (hgood _ (List.mem_cons_of_mem _ List.mem_cons_self)) hini
  have hU' : vx_Zq Bundle.tN "UNASSIGNED_STACK" Bundle.steD A s' s'.heap := by rw [hhp]; exact vx_Zq.moved hW0.alike (hU.kept hS.2.1)
  have hN' : vx_Zq Bundle.tN "SUPPRESSED_SENTINEL" Bundle.listD A s' s'.heap := by rw [hhp]; exact vx_Zq.moved hW0.alike (hN.kept hS.2.1)
  have h : ∀ w ∈ Bundle.ownAtoms own ic cls names, w.before args s' = true := vx_own hat' (vx_isRefq hU'.1) (vx_isRefq hN'.1) hU'.2.word hN'.2.word
  have hown' : s'.vm.findClass own = some m.cls := by rw [hvm]; exact hown
  have hins : (Cond.instantiable cls 6).before args s' = true := h _ (by simp [Bundle.ownAtoms])
  obtain ⟨vm₁, cX, kX, hfX, hkX, -, -, X₁, st1⟩ := Y.newCold hexec (own := own) (C := cls) (index := ik) (n := 6) hown' hk' hins hini'
    (g := F0 m pc ls rest) rfl (by rw [hb]; exact d0) (Nat.le_refl _) (Nat.le_refl _)
  generalize hT1 : (T.setVm vm₁).pushCell { cls := cX, slots := kX.instanceTypes.map defaultValue, vm := .none } = T1 at X₁ st1
  have hcat : (Value.ref T.heap.size).category = 1 := rfl
  have hcellA : T1.heap[T.heap.size]? = some (freshCell cX kX) := by rw [← hT1]; exact State.heap_pushCell_size _ _
  have d3' : decode c.code (pc + 3) = .ok (.dup, 1) := by rw [hb]; exact d3
  have d4' : decode c.code (pc + 4) = .ok (.ldc is, 2) := by rw [hb]; exact d4
  have hstr' : vk_R own is text sa s' := vk_R.warm hW0 hstr
  obtain ⟨U, hsteps, hrun, hend, hW, hsame, ce, hce, hO⟩ := X₁.ctorThrowS hexec htr (own := own) (cls := cls) (names := names) (ic := ic) hown' hcls hnames h (fun x hx => nomatch hx) hfX hkX hcellA (by rw [hhp, hT]; exact Nat.le_refl _) (msg := .ref sa) rfl
    (g := { method := m, pc := pc + 6, locals := ls, stack := .ref sa :: .ref T.heap.size :: .ref T.heap.size :: rest, locked := none }) rfl hsize rfl rfl (rest := rest) rfl
    (by rw [hb]; exact d6) (by rw [hb]; exact d9) hout hRframes (by simp only [List.map_cons, List.sum_cons, hcat]; omega) hlocks
  obtain ⟨f1, f2⟩ := vx_frame hsame
  rw [hhp] at f1 f2
  have hWs : s.WarmedH U.vm := State.WarmedH.trans hW0 hW
  have hcl : s.vm.findClass cls = some ce.cls := by
    have h9 := hO.cls
    rw [hvm] at h9
    exact h9
  have hall : s.sameButNew ({ U with vm := s.vm } : State) locs mc ms := by
    subst hA
    obtain ⟨e1, e2⟩ := hsame
    rw [State.setFrames_setFrames] at e1
    have h2 : (T.setVm s.vm).sameButNew ({ U with vm := s.vm } : State) [] (0 + 1) (0 + 6) := ⟨e1, e2⟩
    have h3 := X.same.trans h2
    rw [List.append_nil] at h3
    exact h3.mono hc hs
  refine ⟨U, ?_, .threw T.heap.size, hrun, hend, Or.inr ⟨T.heap.size, rfl, cls, ce, locs, hx U hWs.alike f1 (fun q hq => f2 q hq (fun z hz => nomatch hz)), hce, hO.vm, hcl, hWs, hall, hf⟩⟩
  refine st1 _ ?_
  show Steps p.tables e below (T1.setTop { method := m, pc := pc + 3, locals := ls, stack := .ref T.heap.size :: rest, locked := none }) _
  jvm_step X₁.here [X₁.here.top, hexec, d3', Value.category]
  exact X₁.ldcString hexec (own := own) (text := text) (index := is) (a := sa) hown' hstr'.1 hstr'.2
    (g := { method := m, pc := pc + 4, locals := ls, stack := .ref T.heap.size :: .ref T.heap.size :: rest, locked := none }) rfl d4' _ hsteps
/-- 'throw new E("text")', the text by a wide index -/
theorem vx_throwSW {cc : ByteArray} {pc : Nat} (hexec : p.tables.exec = Jvm.exec) (hb : c.code = cc) (hl : l.stackTraces = false) {own cls text : String} {names : List String} {ik is ic mc ms sa : Nat} {A : Nat → Prop}
    (hown : s.vm.findClass own = some m.cls) (hcls : Bundle.fit cls = true) (hnames : ∀ n ∈ names, Bundle.fit n = true)
    (hk : (Cond.classLink own ik cls).before args s = true) (hini : (Cond.initialized cls).before args s = true) (hstr : vk_R own is text sa s) (hat : ∀ w ∈ vx_atS own ic cls names, w.before args s = true)
    (hgood : ∀ w ∈ Cond.classLink own ik cls :: Cond.initialized cls :: vx_atS own ic cls names, vx_ot w = true)
    (hU : vx_Zq Bundle.tN "UNASSIGNED_STACK" Bundle.steD A s s.heap) (hN : vx_Zq Bundle.tN "SUPPRESSED_SENTINEL" Bundle.listD A s s.heap) (hS : va_S A s.heap H locs) (hsize : ls.size = c.maxLocals)
    (d0 : decode cc pc = .ok (.new ik, 3)) (d3 : decode cc (pc + 3) = .ok (.dup, 1)) (d4 : decode cc (pc + 4) = .ok (.ldc_w is, 3)) (d7 : decode cc (pc + 7) = .ok (.invokespecial ic, 3)) (d10 : decode cc (pc + 10) = .ok (.athrow, 1))
    (hout : ∀ x ∈ c.exceptionTable.toList, covers x (pc + 10) = false)
    (hRframes : names.length + 3 < R.frames) (hRlocals : (rest.map fun v => v.category).sum + (13 * (names.length + 1) + 43) ≤ R.locals) (hRcells : cells + 1 ≤ R.cells) (hRslots : slots + 6 ≤ R.slots) (hlocks : meth.locks = false)
    (hx : ∀ t : State, s.vm.Alike t.vm → H.size ≤ t.heap.size → (∀ q : Nat, q < H.size → t.heap[q]? = H[q]?) → XC cls s t)
    (hf : ∀ z ∈ locs, free z.base) (hc : cells + 1 ≤ mc) (hs : slots + 6 ≤ ms) :
    W p l e R s m args below meth c H locs cells slots (vx_MQ below Qc XC args s mc ms free) (F0 m pc ls rest) := by
  intro T hT X
  have htr : e.platform.stackTraces = false := (show e.platform.stackTraces = l.stackTraces by rw [X.admits.platform]).trans hl
  have Y := vx_rebase X (R' := { frames := R.frames, locals := R.locals, cells := 1, slots := 6 }) (Nat.le_refl _) (Nat.le_refl _) hRcells hRslots
  obtain ⟨s', hA⟩ : ∃ z, z = (T.setVm s.vm).setFrames (.invoking m args :: below) := ⟨_, rfl⟩
  rw [← hA] at Y
  have hvm : s'.vm = s.vm := by rw [hA]; rfl
  have hhp : s'.heap = H := by rw [hA]; exact hT
  have hW0 : s.WarmedH s'.vm := by rw [hvm]; exact State.WarmedH.refl s
  have hat' : ∀ w ∈ vx_atS own ic cls names, w.before args s' = true := fun w hw => vx_ot_at hW0 hvm.symm (hgood w (List.mem_cons_of_mem _ (List.mem_cons_of_mem _ hw))) (hat w hw)
  have hk' : (Cond.classLink own ik cls).before args s' = true := vx_ot_at hW0 hvm.symm (hgood _ List.mem_cons_self) hk
  have hini' : (Cond.initialized cls).before args s' = true := vx_ot_at hW0 hvm.symm (hgood _ (List.mem_cons_of_mem _ List.mem_cons_self)) hini
  have hU' : vx_Zq Bundle.tN "UNASSIGNED_STACK" Bundle.steD A s' s'.heap := by rw [hhp]; exact vx_Zq.moved hW0.alike (hU.kept hS.2.1)
  have hN' : vx_Zq Bundle.tN "SUPPRESSED_SENTINEL" Bundle.listD A s' s'.heap := by rw [hhp]; exact vx_Zq.moved hW0.alike (hN.kept hS.2.1)
  have h : ∀ w ∈ Bundle.ownAtoms own ic cls names, w.before args s' = true := vx_own hat' (vx_isRefq hU'.1) (vx_isRefq hN'.1) hU'.2.word hN'.2.word
  have hown' : s'.vm.findClass own = some m.cls := by rw [hvm]; exact hown
  have hins : (Cond.instantiable cls 6).before args s' = true := h _ (by simp [Bundle.ownAtoms])
  obtain ⟨vm₁, cX, kX, hfX, hkX, -, -, X₁, st1⟩ := Y.newCold hexec (own := own) (C := cls) (index := ik) (n := 6) hown' hk' hins hini'
    (g := F0 m pc ls rest) rfl (by rw [hb]; exact d0) (Nat.le_refl _) (Nat.le_refl _)
  generalize hT1 : (T.setVm vm₁).pushCell { cls := cX, slots := kX.instanceTypes.map defaultValue, vm := .none } = T1 at X₁ st1
  have hcat : (Value.ref T.heap.size).category = 1 := rfl
  have hcellA : T1.heap[T.heap.size]? = some (freshCell cX kX) := by rw [← hT1]; exact State.heap_pushCell_size _ _
  have d3' : decode c.code (pc + 3) = .ok (.dup, 1) := by rw [hb]; exact d3
  have d4' : decode c.code (pc + 4) = .ok (.ldc_w is, 3) := by rw [hb]; exact d4
  have hstr' : vk_R own is text sa s' := vk_R.warm hW0 hstr
  obtain ⟨U, hsteps, hrun, hend, hW, hsame, ce, hce, hO⟩ := X₁.ctorThrowS hexec htr (own := own) (cls := cls) (names := names) (ic := ic) hown' hcls hnames h (fun x hx => nomatch hx) hfX hkX hcellA (by rw [hhp, hT]; exact Nat.le_refl _) (msg := .ref sa) rfl
    (g := { method := m, pc := pc + 7, locals := ls, stack := .ref sa :: .ref T.heap.size :: .ref T.heap.size :: rest, locked := none }) rfl hsize rfl rfl (rest := rest) rfl
    (by rw [hb]; exact d7) (by rw [hb]; exact d10) hout hRframes (by simp only [List.map_cons, List.sum_cons, hcat]; omega) hlocks
  obtain ⟨f1, f2⟩ := vx_frame hsame
  rw [hhp] at f1 f2
  have hWs : s.WarmedH U.vm := State.WarmedH.trans hW0 hW
  have hcl : s.vm.findClass cls = some ce.cls := by
    have h9 := hO.cls
    rw [hvm] at h9
    exact h9
  have hall : s.sameButNew ({ U with vm := s.vm } : State) locs mc ms := by
    subst hA
    obtain ⟨e1, e2⟩ := hsame
    rw [State.setFrames_setFrames] at e1
    have h2 : (T.setVm s.vm).sameButNew ({ U with vm := s.vm } : State) [] (0 + 1) (0 + 6) := ⟨e1, e2⟩
    have h3 := X.same.trans h2
    rw [List.append_nil] at h3
    exact h3.mono hc hs
  refine ⟨U, ?_, .threw T.heap.size, hrun, hend, Or.inr ⟨T.heap.size, rfl, cls, ce, locs, hx U hWs.alike f1 (fun q hq => f2 q hq (fun z hz => nomatch hz)), hce, hO.vm, hcl, hWs, hall, hf⟩⟩
  refine st1 _ ?_
  show Steps p.tables e below (T1.setTop { method := m, pc := pc + 3, locals := ls, stack := .ref T.heap.size :: rest, locked := none }) _
  jvm_step X₁.here [X₁.here.top, hexec, d3', Value.category]
  exact X₁.ldcStringW hexec (own := own) (text := text) (index := is) (a := sa) hown' hstr'.1 hstr'.2
    (g := { method := m, pc := pc + 4, locals := ls, stack := .ref T.heap.size :: .ref T.heap.size :: rest, locked := none }) rfl d4' _ hsteps
end Ends
section Bodies
variable {l : Launch}
theorem vx_ofW {y : MethodName} {ws ws' : List Cond} {rm : Room} {Pc : Array Value → State → Prop} {Qc : Array Value → State → Outcome → State → Prop} {XC : String → State → State → Prop} {mc ms : Nat} {free : Addr → Prop} {cc : ByteArray} {maxL : Nat} {ret : Option FieldType}
    (hy : plainName y.cls = true) (hw : ws = Cond.code y cc maxL ret :: ws')
    (body : ∀ p e s m args below meth c s₁, BodyLoose p l y (headSpec ws rm) cc maxL ret e s m args below meth c s₁ → c.maxLocals = maxL → (∀ x ∈ c.exceptionTable.toList, False) → Pc args s →
      W p l e (headSpec ws rm).room s m args below meth c s.heap [] 0 0 (vx_MQ below Qc XC args s mc ms free) (entryFrame m args maxL)) : vx_Met l y ws rm Pc Qc XC mc ms free := by
  refine MetFree.of_bodyS (code := cc) (maxLocals := maxL) (ret := ret) hy ?_ ?_
  · intro args s m h hn
    obtain ⟨meth, c, h1, h2, h3, h4, h5, h6, -, -⟩ := Cond.code_spec hn (atoms_spec (ws := ws) h _ (by rw [hw]; exact List.mem_cons_self))
    exact ⟨meth, c, h1, h2, h3, h4, h5, h6⟩
  · intro p e s m args below meth c s₁ B hml hP _
    have hh0 : s₁.heap = s.heap := by rw [B.state]; rfl
    have ht : ∀ x ∈ c.exceptionTable.toList, False := by
      obtain ⟨meth9, c9, h1, h2, -, -, -, -, h7, -⟩ := Cond.code_spec B.named (atoms_spec (ws := ws) B.pre _ (by rw [hw]; exact List.mem_cons_self))
      cases Option.some.inj (h1.symm.trans B.method)
      cases Option.some.inj (h2.symm.trans (Stand.of_body B).code)
      intro x hx
      rw [Array.isEmpty_iff.mp h7] at hx
      cases hx
    obtain ⟨t, a1, o, b1, b2, b3⟩ := body p e s m args below meth c s₁ B hml ht hP s₁ hh0 (Stand.of_body B)
    exact ⟨t, o, a1, b1, b2, b3⟩
/-- the table of a body with handlers -/
theorem vx_table {p : Program} {x y : MethodName} {S : Spec} {cc bytes : ByteArray} {maxL maxL' : Nat} {ret ret' : Option FieldType} {e : Env} {s s₁ : State} {m : MethodId} {args : Array Value} {below : List Frame} {meth : Method} {c : Code} {hh : List (Nat × Nat × Nat × Nat)}
    (B : BodyLoose p l y S cc maxL ret e s m args below meth c s₁) (h : (Cond.codeWith y bytes maxL' ret' hh).before args s = true) : c.exceptionTable.toList = tableOf hh := by
  obtain ⟨m9, meth9, c9, hn9, h1, h2, -, -, h6, -⟩ := Cond.codeWith_spec h
  cases Option.some.inj (hn9.symm.trans B.named)
  cases Option.some.inj (h1.symm.trans B.method)
  cases Option.some.inj (h2.symm.trans (Stand.of_body B).code)
  rw [← h6, table_eq]
end Bodies
end VXA
/-! ===== END ===== -/
/-! ===== BEGIN a static call of a method with an exception table ===== -/
section VXS
variable {p : Program} {l : Launch} {e : Env} {R : Room} {s : State} {m : MethodId} {args : Array Value} {below : List Frame} {meth : Method} {c : Code} {T : State} {H : Heap} {locs : List Loc} {cells slots : Nat}
abbrev vx_CSW (R : Room) (s : State) (args : Array Value) (own : String) (index : Nat) (y : MethodName) (bytes : ByteArray) (maxL : Nat) (ret : Option FieldType) (hh : List (Nat × Nat × Nat × Nat)) (ws : List Cond) (rm : Room) (mc ms n : Nat) : Prop :=
  (rm.cells = mc ∧ rm.slots = ms ∧ rm.frames + 1 ≤ R.frames ∧ 8 + (maxL + 11) + rm.locals ≤ R.locals ∧ (∀ w ∈ ws, ∀ (a' : Array Value) (U : State), s.WarmedH U.vm → w.before a' U = true) ∧ Cond.codeWith y bytes maxL ret hh ∈ ws) ∧
  (Cond.codeWith y bytes maxL ret hh).before args s = true ∧ (Cond.initialized y.cls).before args s = true ∧ (y.cls ≠ "java/lang/invoke/MethodHandle" ∧ y.cls ≠ "java/lang/invoke/VarHandle") ∧
  (∀ sig, parseMethodDescriptor y.desc = some sig → n = sig.parameters.length) ∧ (Cond.methodLink own index y).before args s = true ∧ (Cond.static y).before args s = true
theorem vx_cwSW {own : String} {index maxL mc ms : Nat} {y : MethodName} {bytes : ByteArray} {ret : Option FieldType} {hh : List (Nat × Nat × Nat × Nat)} {Ts ws ws' : List Cond} {rm : Room} (n : Nat) (ht : ∀ w ∈ Ts, w.before args s = true) (hT : GoodIn Ts (va_wsS own index y ws)) (hw : ws = Cond.codeWith y bytes maxL ret hh :: ws') (hrc : rm.cells = mc) (hrs : rm.slots = ms)
    (hd : y.cls ≠ "java/lang/invoke/MethodHandle" ∧ y.cls ≠ "java/lang/invoke/VarHandle" ∧ (parseMethodDescriptor y.desc).map (fun d => d.parameters.length) = some n) (hR : rm.frames + 1 ≤ R.frames ∧ 8 + (maxL + 11) + rm.locals ≤ R.locals) :
    vx_CSW R s args own index y bytes maxL ret hh ws rm mc ms n := by
  have ok : ∀ w ∈ va_wsS own index y ws, w.before args s = true := fun w h => ht w (hT w h).1
  have hG : GoodIn Ts ws := fun w h => hT w (by unfold va_wsS; exact List.mem_append_right _ h)
  have hc : Cond.codeWith y bytes maxL ret hh ∈ ws := by rw [hw]; exact List.mem_cons_self
  refine ⟨⟨hrc, hrs, hR.1, hR.2, pay_in ht hG, hc⟩, ht _ (hG _ hc).1, ok _ (by simp [va_wsS]), ⟨hd.1, hd.2.1⟩, fun sig h => ?_, ok _ (by simp [va_wsS]), ok _ (by simp [va_wsS])⟩
  have h2 := hd.2.2
  rw [h] at h2
  exact (Option.some.inj h2).symm
theorem vx_callSW (X : Stand p l e R s m args below meth c T locs cells slots) (hexec : p.tables.exec = Jvm.exec) {own : String} {index : Nat} {y : MethodName} {bytes : ByteArray} {maxL : Nat} {ret : Option FieldType} {hh : List (Nat × Nat × Nat × Nat)}
    (hown : s.vm.findClass own = some m.cls) (hlink : (Cond.methodLink own index y).before args s = true) (hstat : (Cond.static y).before args s = true) (hinit : (Cond.initialized y.cls).before args s = true)
    (hcode : (Cond.codeWith y bytes maxL ret hh).before args s = true) (hy : y.cls ≠ "java/lang/invoke/MethodHandle" ∧ y.cls ≠ "java/lang/invoke/VarHandle")
    {W9 : Nat} {Pre : Pt → Array Value → Prop} {Post : Pt → Array Value → Option Value → Pt → Prop} (hK : Back l R p e below s args y 3 W9 Pre Post)
    {g : JFrame} (hg : g.method = m) (hsize : g.locals.size = c.maxLocals) {argsL rest : List Value} (hlen : ∀ sig, parseMethodDescriptor y.desc = some sig → argsL.length = sig.parameters.length)
    (hstack : g.stack = argsL.reverse ++ rest) (hW : 2 * g.monitorRoom + (rest.map fun v => v.category).sum ≤ W9) (hdg : decode c.code g.pc = .ok (.invokestatic index, 3))
    (hpre : ∀ vm₁, s.WarmedH vm₁ → Pre ⟨T.setVm vm₁, locs, cells, slots⟩ argsL.toArray) :
    ∃ (v : Option Value) (vm₁ : Vm) (B : Pt), s.WarmedH vm₁ ∧ Stand p l e R s m args below meth c B.U B.locs B.cells B.slots ∧ Post ⟨T.setVm vm₁, locs, cells, slots⟩ argsL.toArray v B ∧
      ∀ target, Steps p.tables e below (B.U.setTop { g with pc := g.pc + 3, stack := v.toList ++ rest }) target → Steps p.tables e below (T.setTop g) target := by
  obtain ⟨mk, methM, cM, hnamed, hmethM, -, -, -, -, -, -, hsigM⟩ := Cond.codeWith_spec hcode
  have hstatic : methM.isStatic = true := Cond.static_spec hnamed hmethM hstat
  obtain ⟨kP, hkP, -⟩ := className_of_methodNamed hnamed
  have hinitP : kP.init = .initialized := Cond.initialized_spec (findClass_of_methodNamed hnamed) hkP hinit
  obtain ⟨vm₁, X₁, hstep₁⟩ := X.invokestatic hexec hown hlink hnamed hmethM hstatic hkP hinitP hy (g := g) hg (argsL := argsL) (rest := rest) (hlen _ hsigM) hstack hdg
  obtain ⟨v, B, X', hpost, hsteps⟩ := hK m meth c ⟨T.setVm vm₁, locs, cells, slots⟩ { g with stack := rest } (.invokestatic index) mk argsL.toArray X₁ hg hsize hdg hW (X₁.named hnamed) (hpre vm₁ X₁.warmed)
  exact ⟨v, vm₁, B, X₁.warmed, X', hpost, fun target h => hstep₁ _ fun acts => by rw [doInvoke_state]; exact hsteps.trans h⟩
theorem vx_runSW {y : MethodName} {bytes cc : ByteArray} {maxL nL mc ms n index : Nat} {ret : Option FieldType} {hh : List (Nat × Nat × Nat × Nat)} {ws : List Cond} {rm : Room} {Pc : Array Value → State → Prop} {Qc : Array Value → State → Outcome → State → Prop} {free : Addr → Prop} {Ts : List Cond} {own : String} {As rest : List Value} {g : JFrame}
    (S : CallFix p m c cc nL s args Ts own) (hM : Met l y ws rm Pc Qc mc ms free) (cw : vx_CSW R s args own index y bytes maxL ret hh ws rm mc ms n) (hp : PreS s H Pc As)
    (hg : g.method = m) (hn : As.length = n) (hsize : g.locals.size = nL) (hstack : g.stack = As.reverse ++ rest) (hW : 2 * g.monitorRoom + (rest.map fun v => v.category).sum ≤ 8) (hdg : decode cc g.pc = .ok (.invokestatic index, 3)) (hf : cells + mc ≤ R.cells ∧ slots + ms ≤ R.slots) :
    va_Run p l e R s m args below meth c H locs cells slots mc ms g rest (Qc As.toArray) (free) := by
  obtain ⟨⟨hrc, hrs, hfr, hlo, hws, hcw⟩, hcode, hini, hy, hlen, hl, hstt⟩ := cw
  have hK : Back l R p e below s args y 3 8 (PreOf R mc ms Pc) (PostOf Qc mc ms free) := va_backW (hh := hh) (bytes := bytes) (maxL := maxL) (ret := ret) hM hp.1 hrc hrs hfr hlo hws hcw (fun a' U hW => word_at hW (Or.inl (by first | rfl | simp [Cond.onTables, Cond.keeps, Cond.steady])) hini)
  obtain ⟨hx, hb, hml, ho, -⟩ := S
  intro T hT X
  obtain ⟨v, vm₁, ⟨U', l2, c2, s2⟩, hW₁, X', ⟨g', mk, t, L, e1, e2, hq, h1, hL, h2, h3⟩, st⟩ := vx_callSW X hx (hh := hh) (bytes := bytes) (maxL := maxL) (ret := ret) ho hl hstt hini hcode hy hK hg (hsize.trans hml.symm) (argsL := As) (rest := rest) (fun sig h => hn.trans (hlen sig h)) hstack hW (by rw [hb]; exact hdg)
    (fun vm₁ hW₁ => ⟨hf.1, hf.2, hp.2 (T.setVm vm₁) hT hW₁⟩)
  dsimp only [Pt.U, Pt.locs, Pt.cells, Pt.slots] at X' e1 e2 h1 h2 h3 st
  subst h1; subst h2; subst h3
  exact ⟨v, (T.setVm vm₁).calling g' mk As.toArray, t, U', L, hT, X', hL, e1, e2, hq, st⟩
/-- not caught here, past rows that name other classes: it goes on to the caller -/
theorem vx_outP {p : Program} {l : Launch} {e : Env} {R : Room} {s : State} {m : MethodId} {args : Array Value} {below : List Frame} {meth : Method} {c : Code} {H : Heap} {locs : List Loc} {cells slots : Nat} {free : Addr → Prop} {ls : Array Slot} {rest : List Value} {Qc : Array Value → State → Outcome → State → Prop} {XC : String → State → State → Prop}
    {pc : Nat} {own E : String} {ce : Cell} {q : Addr} {mc ms : Nat} (hown : s.vm.findClass own = some m.cls) (hlocks : meth.locks = false)
    (hpass : ∀ z ∈ c.exceptionTable.toList, covers z pc = false ∨ (z.catchType ≠ 0 ∧ ∃ nm : String, (Cond.classLink own z.catchType nm).before args s = true ∧ va_Nc E nm s)) (hcell : H[q]? = some ce) (hv : ce.vm = .none) (hcl : s.vm.findClass E = some ce.cls)
    (hx : ∀ t : State, t.heap = H → s.vm.Alike t.vm → XC E s t) (hf : ∀ z ∈ locs, free z.base) (hc : cells ≤ mc) (hs : slots ≤ ms) :
    vx_W p l e R s m args below meth c H locs cells slots (vx_MQ below Qc XC args s mc ms free) (F0 m pc ls rest) q := by
  intro T hT X
  have hpl : e.platform.magicAccessors = ({} : Platform).magicAccessors := by rw [X.admits.platform]
  obtain ⟨vm', hW', X', st⟩ := X.outThrough hlocks q (g := F0 m pc ls rest) rfl rfl rfl (cell := ce) (by rw [hT]; exact hcell) (by rw [hv]; rfl)
    (by obtain ⟨k9, h9, -⟩ := Vm.findClass_spec hcl; exact ⟨k9, h9⟩) (fun z hz => by
      rcases hpass z hz with h | ⟨hz0, nm, hl1, hn1⟩
      · exact Or.inl h
      · obtain ⟨c6, hc6, hcl6⟩ := Cond.classLink_spec hown hl1 e.platform hpl
        obtain ⟨a8, b8, h1, h2, h3⟩ := hn1
        cases Option.some.inj (h1.symm.trans hcl)
        cases Option.some.inj (h2.symm.trans hc6)
        exact Or.inr ⟨hz0, _, hcl6, h3⟩)
  obtain ⟨g₀, hfr⟩ := X'.frames_eq
  have hcell9 : ((T.setVm vm').setFrames (.throwing q :: below)).heap[q]? = some ce := by
    show T.heap[q]? = some ce
    rw [hT]; exact hcell
  have hend : Ended ((T.setVm vm').setFrames (.throwing q :: below)) below (.threw q) := State.frames_setFrames _ (State.cur_lt_of_frames hfr)
  refine ⟨(T.setVm vm').setFrames (.throwing q :: below), ?_, .threw q, X'.here.running, hend, Or.inr ⟨q, rfl, E, ce, locs, hx _ hT (X'.ends _).1.alike, hcell9, hv, hcl, (X'.ends _).1, (X'.ends _).2.mono hc hs, hf⟩⟩
  rw [X.pushThrowing_eq]
  exact st
/-- a thing of a world lies in the heap -/
theorem vx_lt {D : va_G} {cl : List vw_C} {ws : va_W} {H1 : Heap} (h : va_P D cl ws H1) {k : Nat} {q : Nat × va_E} (hk : ws[k]? = some q) : q.1 < H1.size := (h k q hk).lt
end VXS
/-! ===== END ===== -/
/-! ===== BEGIN methods with a table of their own: called by a name, returning or throwing ===== -/
section VXH
/-! vx_backW, vx_callVX, vx_callSX, vx_callVW, vx_runVW, vx_runVX, vx_runSX, vx_ofWH follow the same proofs as their sisters above (Free/Laws.lean, Shelf42/LK1.lean); vx_outP calls Shelf42/NT130.lean (outThrough). -/
section
variable {l : Launch} {R : Room} {p : Program} {e : Env} {below : List Frame} {s : State} {sargs : Array Value} {y : MethodName} {len W9 : Nat}
theorem vx_backW {ws : List Cond} {rm : Room} {Pc : Array Value → State → Prop} {Qc : Array Value → State → Outcome → State → Prop} {XC : String → State → State → Prop} {mc ms : Nat} {free : Addr → Prop} {bytes : ByteArray} {maxL : Nat} {ret : Option FieldType} {hh : List (Nat × Nat × Nat × Nat)}
    (hM : vx_Met l y ws rm Pc Qc XC mc ms free) (hblind : FrameBlind Pc) (hrc : rm.cells = mc) (hrs : rm.slots = ms)
    (hframes : rm.frames + 1 ≤ R.frames) (hlocals : W9 + (maxL + 11) + rm.locals ≤ R.locals)
    (hws : ∀ w ∈ ws, ∀ a' U, s.WarmedH U.vm → w.before a' U = true) (hcode : Cond.codeWith y bytes maxL ret hh ∈ ws) (hinit : ∀ a' U, s.WarmedH U.vm → (Cond.initialized y.cls).before a' U = true) :
    vx_Back l R p e below s sargs y len W9 (PreOf R mc ms Pc) (PostOf Qc mc ms free) (vx_Post XC mc ms free) := by
  intro m meth c A g ig mk a X hg hsize hdg hW hn hp
  have h1 : (headSpec ws rm).pre.before a A.U = true := atoms_intro fun w hw => hws w hw _ _ X.warmed
  have h2 : (Cond.codeWith y bytes maxL ret hh).before a A.U = true := hws _ hcode _ _ X.warmed
  have h3 : (Cond.initialized y.cls).before a A.U = true := hinit _ _ X.warmed
  have h4 : A.cells + (headSpec ws rm).room.cells ≤ R.cells := by rw [show (headSpec ws rm).room.cells = mc from hrc]; exact hp.1
  have h5 : A.slots + (headSpec ws rm).room.slots ≤ R.slots := by rw [show (headSpec ws rm).room.slots = ms from hrs]; exact hp.2.1
  have hPc : Pc a (A.U.calling g mk a) := hblind _ _ _ _ hp.2.2
  obtain ⟨U, Ls, c0, s0⟩ := A
  dsimp only [Pt.U, Pt.locs, Pt.cells, Pt.slots] at h1 h2 h3 h4 h5 X hn hPc ⊢
  obtain ⟨m9, methY, cY, hn9, hmY, hcY, -, hlY, -⟩ := Cond.codeWith_spec h2
  cases Option.some.inj (hn9.symm.trans hn)
  obtain ⟨kY, hkY, -⟩ := className_of_methodNamed hn
  have hinitY : kY.init = .initialized := Cond.initialized_spec (findClass_of_methodNamed hn) hkY h3
  have h : At U g.method c below := by rw [hg]; exact X.here
  have hlocals9 : W9 + (maxL + 11) + (headSpec ws rm).room.locals ≤ R.locals := hlocals
  have happ : (headSpec ws rm).appliesLoose y e.platform (U.calling g mk a) = true :=
    Spec.appliesLoose_calling (g := g) h hdg hn hkY hinitY
      (X.room_calling (g := g) (R' := (headSpec ws rm).room) hsize hmY hcY hframes (by rw [hlY]; omega) h4 h5) h1
  obtain ⟨mid, hmid⟩ := h.above
  have hfr : (U.setTop g).frames = (.java g :: mid) ++ below := by rw [State.frames_setTop' g h.top, hmid]; rfl
  obtain ⟨o, s₂, hsteps, -, hend, hq⟩ := Steps.callFree hM p X.admits X.cas X.clock (acts := []) hfr happ hPc trivial
  have hq' : vx_Q Qc XC mc ms free a (U.calling g mk a) o s₂ := hq
  rw [State.frames_setTop' g h.top] at hend
  obtain ⟨g₀, hg0⟩ := Option.isSome_iff_exists.mp h.top
  obtain ⟨r, hr⟩ := State.topJava?_eq_some.mp hg0
  have hr' : (({ U with heap := s₂.heap, slotsUsed := s₂.slotsUsed } : State).setVm s₂.vm).frames = .java g₀ :: r := hr
  rcases hq' with ⟨hqc, L, hfe, hL⟩ | ⟨q, rfl, E, ce, L, hx, hce, hcv, hcl, hW₂, hsm, hL⟩
  · obtain ⟨⟨v, rfl⟩, hW₂, e2, q2, q3, q4, q5, q6⟩ := id hfe
    have e3 : s₂ = ({ (U.calling g mk a).setFrames s₂.frames with heap := s₂.heap, slotsUsed := s₂.slotsUsed } : State).setVm s₂.vm := by
      have : s₂ = ({ s₂ with vm := (U.calling g mk a).vm } : State).setVm s₂.vm := rfl
      rw [e2] at this
      exact this
    obtain ⟨c₂, i₂, len₂, hc₂, hd₂, hf₂⟩ := hend
    have hW' : U.WarmedH s₂.vm := hW₂
    have hcc : c₂ = c := by
      have h1 : s₂.code? g.method = U.code? g.method := by
        rw [State.code?_eq, State.code?_eq, hW'.alike.method?]
      exact Option.some.inj (hc₂.symm.trans (h1.trans h.code))
    subst hcc
    have hlen : len₂ = len := by rw [hdg] at hd₂; cases hd₂; rfl
    subst hlen
    have hs₂ : s₂ = (({ U with heap := s₂.heap, slotsUsed := s₂.slotsUsed } : State).setVm s₂.vm).setTop { g with pc := g.pc + len₂, stack := v.toList ++ g.stack } := by
      refine e3.trans ?_
      rw [hf₂, State.calling_eq h.top, State.setFrames_setFrames, State.setTop_of_frames _ hr', hr]
      rfl
    have hsame : U.sameButNew ({ U with heap := s₂.heap, slotsUsed := s₂.slotsUsed } : State) L mc ms := by
      refine ⟨?_, q2, q3, q4, q5, q6⟩
      obtain ⟨t, ht, -⟩ := State.frames_cons hr
      show ({ U with heap := s₂.heap, slotsUsed := s₂.slotsUsed } : State) = { U.setFrames U.frames with heap := s₂.heap, slotsUsed := s₂.slotsUsed }
      rw [State.setFrames_self ht]
    subst hg
    refine Or.inl ⟨v, ⟨(({ U with heap := s₂.heap, slotsUsed := s₂.slotsUsed } : State).setVm s₂.vm), Ls ++ L, c0 + mc, s0 + ms⟩,
      ⟨X.admits, X.cas, X.clock, X.frames, X.room, X.hears, X.method, X.code, (X.here.setHeapUsed s₂.heap s₂.slotsUsed).setVm hW'.alike, X.tail, State.WarmedH.trans X.warmed hW', X.limits, X.bytes, X.same.trans (hsame.setVm s.vm)⟩,
      ⟨g, mk, s₂, L, rfl, rfl, hqc, rfl, hL, rfl, rfl⟩, ?_⟩
    show Steps p.tables e below _ ((({ U with heap := s₂.heap, slotsUsed := s₂.slotsUsed } : State).setVm s₂.vm).setTop { g with pc := g.pc + len₂, stack := v.toList ++ g.stack })
    rw [← hs₂]
    exact hsteps
  · obtain ⟨e2, q2, q3, q4, q5, q6⟩ := id hsm
    have e3 : s₂ = ({ (U.calling g mk a).setFrames s₂.frames with heap := s₂.heap, slotsUsed := s₂.slotsUsed } : State).setVm s₂.vm := by
      have : s₂ = ({ s₂ with vm := (U.calling g mk a).vm } : State).setVm s₂.vm := rfl
      rw [e2] at this
      exact this
    have hf₂ : s₂.frames = .throwing q :: .java g :: U.frames.tail := hend
    have hW' : U.WarmedH s₂.vm := hW₂
    have hs₂ : s₂ = ((({ U with heap := s₂.heap, slotsUsed := s₂.slotsUsed } : State).setVm s₂.vm).setTop g).pushFrame (.throwing q) := by
      refine e3.trans ?_
      rw [hf₂, State.calling_eq h.top, State.setFrames_setFrames, State.pushFrame, State.frames_setTop _ hr', State.setTop_of_frames _ hr', State.setFrames_setFrames, hr]
      rfl
    have hsame : U.sameButNew ({ U with heap := s₂.heap, slotsUsed := s₂.slotsUsed } : State) L mc ms := by
      refine ⟨?_, q2, q3, q4, q5, q6⟩
      obtain ⟨t, ht, -⟩ := State.frames_cons hr
      show ({ U with heap := s₂.heap, slotsUsed := s₂.slotsUsed } : State) = { U.setFrames U.frames with heap := s₂.heap, slotsUsed := s₂.slotsUsed }
      rw [State.setFrames_self ht]
    subst hg
    refine Or.inr ⟨q, ⟨(({ U with heap := s₂.heap, slotsUsed := s₂.slotsUsed } : State).setVm s₂.vm), Ls ++ L, c0 + mc, s0 + ms⟩,
      ⟨X.admits, X.cas, X.clock, X.frames, X.room, X.hears, X.method, X.code, (X.here.setHeapUsed s₂.heap s₂.slotsUsed).setVm hW'.alike, X.tail, State.WarmedH.trans X.warmed hW', X.limits, X.bytes, X.same.trans (hsame.setVm s.vm)⟩,
      ⟨g, mk, s₂, L, E, ce, rfl, rfl, hx, hce, hcv, hcl, rfl, hL, rfl, rfl⟩, ?_⟩
    show Steps p.tables e below _ (((({ U with heap := s₂.heap, slotsUsed := s₂.slotsUsed } : State).setVm s₂.vm).setTop g).pushFrame (.throwing q))
    rw [← hs₂]
    exact hsteps
end
variable {p : Program} {l : Launch} {e : Env} {R : Room} {s : State} {m : MethodId} {args : Array Value} {below : List Frame} {meth : Method} {c : Code} {T : State} {H : Heap} {locs : List Loc} {cells slots : Nat}
theorem vx_callVX (X : Stand p l e R s m args below meth c T locs cells slots) (hexec : p.tables.exec = Jvm.exec) {own C : String} {index : Nat} {y : MethodName} {bytes : ByteArray} {maxL : Nat} {ret : Option FieldType} {hh : List (Nat × Nat × Nat × Nat)}
    (hown : s.vm.findClass own = some m.cls) (hlink : (Cond.methodLink own index y).before args s = true) (hinst : (Cond.instanceMethod y).before args s = true) (hsel : (Cond.selects C y y).before args s = true)
    (hcode : (Cond.codeWith y bytes maxL ret hh).before args s = true) (hy : y.cls ≠ "java/lang/invoke/MethodHandle" ∧ y.cls ≠ "java/lang/invoke/VarHandle")
    {W9 : Nat} {Pre : Pt → Array Value → Prop} {Post : Pt → Array Value → Option Value → Pt → Prop} {PostX : Pt → Array Value → Addr → Pt → Prop} (hK : vx_Back l R p e below s args y 3 W9 Pre Post PostX)
    {b : Addr} {cellB : Cell} (hcell : T.heap[b]? = some cellB) (hobj : cellB.vm.isStatics = false) (hcls : s.vm.findClass C = some cellB.cls)
    {g : JFrame} (hg : g.method = m) (hsize : g.locals.size = c.maxLocals) {argsL rest : List Value} (hlen : ∀ sig, parseMethodDescriptor y.desc = some sig → argsL.length = sig.parameters.length)
    (hstack : g.stack = argsL.reverse ++ .ref b :: rest) (hW : 2 * g.monitorRoom + (rest.map fun v => v.category).sum ≤ W9) (hdg : decode c.code g.pc = .ok (.invokevirtual index, 3))
    (hpre : ∀ vm₁, s.WarmedH vm₁ → Pre ⟨T.setVm vm₁, locs, cells, slots⟩ (Value.ref b :: argsL).toArray) :
    (∃ (v : Option Value) (vm₁ : Vm) (B : Pt), s.WarmedH vm₁ ∧ Stand p l e R s m args below meth c B.U B.locs B.cells B.slots ∧ Post ⟨T.setVm vm₁, locs, cells, slots⟩ (Value.ref b :: argsL).toArray v B ∧
      ∀ target, Steps p.tables e below (B.U.setTop { g with pc := g.pc + 3, stack := v.toList ++ rest }) target → Steps p.tables e below (T.setTop g) target) ∨
    (∃ (q : Addr) (vm₁ : Vm) (B : Pt), s.WarmedH vm₁ ∧ Stand p l e R s m args below meth c B.U B.locs B.cells B.slots ∧ PostX ⟨T.setVm vm₁, locs, cells, slots⟩ (Value.ref b :: argsL).toArray q B ∧
      Steps p.tables e below (T.setTop g) ((B.U.setTop { g with stack := rest }).pushFrame (.throwing q))) := by
  obtain ⟨mk, methM, hnamed, hmethM, hstM, habM⟩ := Cond.instanceMethod_spec hinst
  obtain ⟨m8, methM', cM, hn8, hmethM', -, -, -, -, -, -, hsigM⟩ := Cond.codeWith_spec hcode
  cases Option.some.inj (hn8.symm.trans hnamed)
  cases hmethM.symm.trans hmethM'
  obtain ⟨c2, r2, m2, q1, q2, q3, q4, kP, hkP, hkPi⟩ := Cond.selects_spec hsel
  cases hcls.symm.trans q1
  cases (State.methodFound?_of_named hnamed hy).symm.trans q2
  cases hnamed.symm.trans q3
  have hselP : selectMethod e.platform s.vm cellB.cls mk = .method mk := by rw [Launch.admits_selectMethod X.admits]; exact q4
  obtain ⟨vm₁, X₁, hstep₁⟩ := X.invokevirtual hexec hown hlink hnamed hmethM hstM hkP hkPi hy (a := b) (cell := cellB) hcell
    (fun z h => by rw [h] at hobj; cases hobj) hselP hmethM habM hkP hkPi (g := g) hg (argsL := argsL) (rest := rest) (hlen _ hsigM) hstack hdg
  rcases hK m meth c ⟨T.setVm vm₁, locs, cells, slots⟩ { g with stack := rest } (.invokevirtual index) mk (Value.ref b :: argsL).toArray X₁ hg hsize hdg hW (X₁.named hnamed) (hpre vm₁ X₁.warmed) with ⟨v, B, X', hpost, hsteps⟩ | ⟨q, B, X', hpost, hsteps⟩
  · exact Or.inl ⟨v, vm₁, B, X₁.warmed, X', hpost, fun target h => hstep₁ _ fun acts => by rw [doInvoke_state]; exact hsteps.trans h⟩
  · exact Or.inr ⟨q, vm₁, B, X₁.warmed, X', hpost, hstep₁ _ fun acts => by rw [doInvoke_state]; exact hsteps⟩
theorem vx_callSX (X : Stand p l e R s m args below meth c T locs cells slots) (hexec : p.tables.exec = Jvm.exec) {own : String} {index : Nat} {y : MethodName} {bytes : ByteArray} {maxL : Nat} {ret : Option FieldType} {hh : List (Nat × Nat × Nat × Nat)}
    (hown : s.vm.findClass own = some m.cls) (hlink : (Cond.methodLink own index y).before args s = true) (hstat : (Cond.static y).before args s = true) (hinit : (Cond.initialized y.cls).before args s = true)
    (hcode : (Cond.codeWith y bytes maxL ret hh).before args s = true) (hy : y.cls ≠ "java/lang/invoke/MethodHandle" ∧ y.cls ≠ "java/lang/invoke/VarHandle")
    {W9 : Nat} {Pre : Pt → Array Value → Prop} {Post : Pt → Array Value → Option Value → Pt → Prop} {PostX : Pt → Array Value → Addr → Pt → Prop} (hK : vx_Back l R p e below s args y 3 W9 Pre Post PostX)
    {g : JFrame} (hg : g.method = m) (hsize : g.locals.size = c.maxLocals) {argsL rest : List Value} (hlen : ∀ sig, parseMethodDescriptor y.desc = some sig → argsL.length = sig.parameters.length)
    (hstack : g.stack = argsL.reverse ++ rest) (hW : 2 * g.monitorRoom + (rest.map fun v => v.category).sum ≤ W9) (hdg : decode c.code g.pc = .ok (.invokestatic index, 3))
    (hpre : ∀ vm₁, s.WarmedH vm₁ → Pre ⟨T.setVm vm₁, locs, cells, slots⟩ argsL.toArray) :
    (∃ (v : Option Value) (vm₁ : Vm) (B : Pt), s.WarmedH vm₁ ∧ Stand p l e R s m args below meth c B.U B.locs B.cells B.slots ∧ Post ⟨T.setVm vm₁, locs, cells, slots⟩ argsL.toArray v B ∧
      ∀ target, Steps p.tables e below (B.U.setTop { g with pc := g.pc + 3, stack := v.toList ++ rest }) target → Steps p.tables e below (T.setTop g) target) ∨
    (∃ (q : Addr) (vm₁ : Vm) (B : Pt), s.WarmedH vm₁ ∧ Stand p l e R s m args below meth c B.U B.locs B.cells B.slots ∧ PostX ⟨T.setVm vm₁, locs, cells, slots⟩ argsL.toArray q B ∧
      Steps p.tables e below (T.setTop g) ((B.U.setTop { g with stack := rest }).pushFrame (.throwing q))) := by
  obtain ⟨mk, methM, cM, hnamed, hmethM, -, -, -, -, -, -, hsigM⟩ := Cond.codeWith_spec hcode
  have hstatic : methM.isStatic = true := Cond.static_spec hnamed hmethM hstat
  obtain ⟨kP, hkP, -⟩ := className_of_methodNamed hnamed
  have hinitP : kP.init = .initialized := Cond.initialized_spec (findClass_of_methodNamed hnamed) hkP hinit
  obtain ⟨vm₁, X₁, hstep₁⟩ := X.invokestatic hexec hown hlink hnamed hmethM hstatic hkP hinitP hy (g := g) hg (argsL := argsL) (rest := rest) (hlen _ hsigM) hstack hdg
  rcases hK m meth c ⟨T.setVm vm₁, locs, cells, slots⟩ { g with stack := rest } (.invokestatic index) mk argsL.toArray X₁ hg hsize hdg hW (X₁.named hnamed) (hpre vm₁ X₁.warmed) with ⟨v, B, X', hpost, hsteps⟩ | ⟨q, B, X', hpost, hsteps⟩
  · exact Or.inl ⟨v, vm₁, B, X₁.warmed, X', hpost, fun target h => hstep₁ _ fun acts => by rw [doInvoke_state]; exact hsteps.trans h⟩
  · exact Or.inr ⟨q, vm₁, B, X₁.warmed, X', hpost, hstep₁ _ fun acts => by rw [doInvoke_state]; exact hsteps⟩
theorem vx_callVW (X : Stand p l e R s m args below meth c T locs cells slots) (hexec : p.tables.exec = Jvm.exec) {own C : String} {index : Nat} {y : MethodName} {bytes : ByteArray} {maxL : Nat} {ret : Option FieldType} {hh : List (Nat × Nat × Nat × Nat)}
    (hown : s.vm.findClass own = some m.cls) (hlink : (Cond.methodLink own index y).before args s = true) (hinst : (Cond.instanceMethod y).before args s = true) (hsel : (Cond.selects C y y).before args s = true)
    (hcode : (Cond.codeWith y bytes maxL ret hh).before args s = true) (hy : y.cls ≠ "java/lang/invoke/MethodHandle" ∧ y.cls ≠ "java/lang/invoke/VarHandle")
    {W9 : Nat} {Pre : Pt → Array Value → Prop} {Post : Pt → Array Value → Option Value → Pt → Prop} (hK : Back l R p e below s args y 3 W9 Pre Post)
    {b : Addr} {cellB : Cell} (hcell : T.heap[b]? = some cellB) (hobj : cellB.vm.isStatics = false) (hcls : s.vm.findClass C = some cellB.cls)
    {g : JFrame} (hg : g.method = m) (hsize : g.locals.size = c.maxLocals) {argsL rest : List Value} (hlen : ∀ sig, parseMethodDescriptor y.desc = some sig → argsL.length = sig.parameters.length)
    (hstack : g.stack = argsL.reverse ++ .ref b :: rest) (hW : 2 * g.monitorRoom + (rest.map fun v => v.category).sum ≤ W9) (hdg : decode c.code g.pc = .ok (.invokevirtual index, 3))
    (hpre : ∀ vm₁, s.WarmedH vm₁ → Pre ⟨T.setVm vm₁, locs, cells, slots⟩ (Value.ref b :: argsL).toArray) :
    ∃ (v : Option Value) (vm₁ : Vm) (B : Pt), s.WarmedH vm₁ ∧ Stand p l e R s m args below meth c B.U B.locs B.cells B.slots ∧ Post ⟨T.setVm vm₁, locs, cells, slots⟩ (Value.ref b :: argsL).toArray v B ∧
      ∀ target, Steps p.tables e below (B.U.setTop { g with pc := g.pc + 3, stack := v.toList ++ rest }) target → Steps p.tables e below (T.setTop g) target := by
  obtain ⟨mk, methM, hnamed, hmethM, hstM, habM⟩ := Cond.instanceMethod_spec hinst
  obtain ⟨m8, methM', cM, hn8, hmethM', -, -, -, -, -, -, hsigM⟩ := Cond.codeWith_spec hcode
  cases Option.some.inj (hn8.symm.trans hnamed)
  cases hmethM.symm.trans hmethM'
  obtain ⟨c2, r2, m2, q1, q2, q3, q4, kP, hkP, hkPi⟩ := Cond.selects_spec hsel
  cases hcls.symm.trans q1
  cases (State.methodFound?_of_named hnamed hy).symm.trans q2
  cases hnamed.symm.trans q3
  have hselP : selectMethod e.platform s.vm cellB.cls mk = .method mk := by rw [Launch.admits_selectMethod X.admits]; exact q4
  obtain ⟨vm₁, X₁, hstep₁⟩ := X.invokevirtual hexec hown hlink hnamed hmethM hstM hkP hkPi hy (a := b) (cell := cellB) hcell
    (fun z h => by rw [h] at hobj; cases hobj) hselP hmethM habM hkP hkPi (g := g) hg (argsL := argsL) (rest := rest) (hlen _ hsigM) hstack hdg
  obtain ⟨v, B, X', hpost, hsteps⟩ := hK m meth c ⟨T.setVm vm₁, locs, cells, slots⟩ { g with stack := rest } (.invokevirtual index) mk (Value.ref b :: argsL).toArray X₁ hg hsize hdg hW (X₁.named hnamed) (hpre vm₁ X₁.warmed)
  exact ⟨v, vm₁, B, X₁.warmed, X', hpost, fun target h => hstep₁ _ fun acts => by rw [doInvoke_state]; exact hsteps.trans h⟩
abbrev vx_CVW (R : Room) (s : State) (args : Array Value) (own C : String) (index : Nat) (y : MethodName) (bytes : ByteArray) (maxL : Nat) (ret : Option FieldType) (hh : List (Nat × Nat × Nat × Nat)) (ws : List Cond) (rm : Room) (mc ms n : Nat) : Prop :=
  (rm.cells = mc ∧ rm.slots = ms ∧ rm.frames + 1 ≤ R.frames ∧ 8 + (maxL + 11) + rm.locals ≤ R.locals ∧ (∀ w ∈ ws, ∀ (a' : Array Value) (U : State), s.WarmedH U.vm → w.before a' U = true) ∧ Cond.codeWith y bytes maxL ret hh ∈ ws) ∧
  (Cond.codeWith y bytes maxL ret hh).before args s = true ∧ (Cond.initialized y.cls).before args s = true ∧ (y.cls ≠ "java/lang/invoke/MethodHandle" ∧ y.cls ≠ "java/lang/invoke/VarHandle") ∧
  (∀ sig, parseMethodDescriptor y.desc = some sig → n = sig.parameters.length) ∧ (Cond.methodLink own index y).before args s = true ∧ (Cond.instanceMethod y).before args s = true ∧ (Cond.selects C y y).before args s = true
theorem vx_cwVW {own C : String} {index maxL mc ms : Nat} {y : MethodName} {bytes : ByteArray} {ret : Option FieldType} {hh : List (Nat × Nat × Nat × Nat)} {Ts ws ws' : List Cond} {rm : Room} (n : Nat) (ht : ∀ w ∈ Ts, w.before args s = true) (hT : GoodIn Ts (wsV own index C y ws)) (hw : ws = Cond.codeWith y bytes maxL ret hh :: ws') (hrc : rm.cells = mc) (hrs : rm.slots = ms)
    (hd : y.cls = C ∧ y.cls ≠ "java/lang/invoke/MethodHandle" ∧ y.cls ≠ "java/lang/invoke/VarHandle" ∧ (parseMethodDescriptor y.desc).map (fun d => d.parameters.length) = some n) (hR : rm.frames + 1 ≤ R.frames ∧ 8 + (maxL + 11) + rm.locals ≤ R.locals) :
    vx_CVW R s args own C index y bytes maxL ret hh ws rm mc ms n := by
  obtain ⟨hC, hd⟩ := hd
  subst hC
  have ok : ∀ w ∈ wsV own index y.cls y ws, w.before args s = true := fun w h => ht w (hT w h).1
  have hG : GoodIn Ts ws := fun w h => hT w (by unfold wsV; exact List.mem_append_right _ h)
  have hc : Cond.codeWith y bytes maxL ret hh ∈ ws := by rw [hw]; exact List.mem_cons_self
  refine ⟨⟨hrc, hrs, hR.1, hR.2, pay_in ht hG, hc⟩, ht _ (hG _ hc).1, ok _ (by simp [wsV]), ⟨hd.1, hd.2.1⟩, fun sig h => ?_, ok _ (by simp [wsV]), ok _ (by simp [wsV]), ok _ (by simp [wsV])⟩
  have h2 := hd.2.2
  rw [h] at h2
  exact (Option.some.inj h2).symm
theorem vx_runVW {y : MethodName} {bytes cc : ByteArray} {maxL nL mc ms n index : Nat} {ret : Option FieldType} {hh : List (Nat × Nat × Nat × Nat)} {ws : List Cond} {rm : Room} {Pc : Array Value → State → Prop} {Qc : Array Value → State → Outcome → State → Prop} {free : Addr → Prop} {Ts : List Cond} {own C : String} {b : Addr} {As rest : List Value} {g : JFrame}
    (S : CallFix p m c cc nL s args Ts own) (hM : Met l y ws rm Pc Qc mc ms free) (cw : vx_CVW R s args own C index y bytes maxL ret hh ws rm mc ms n) (hp : PreV s H C b Pc As)
    (hg : g.method = m) (hn : As.length = n) (hsize : g.locals.size = nL) (hstack : g.stack = As.reverse ++ .ref b :: rest) (hW : 2 * g.monitorRoom + (rest.map fun v => v.category).sum ≤ 8) (hdg : decode cc g.pc = .ok (.invokevirtual index, 3)) (hf : cells + mc ≤ R.cells ∧ slots + ms ≤ R.slots) :
    va_Run p l e R s m args below meth c H locs cells slots mc ms g rest (Qc (Value.ref b :: As).toArray) free := by
  obtain ⟨⟨hrc, hrs, hfr, hlo, hws, hcw⟩, hcode, hini, hy, hlen, hl, hin, hse⟩ := cw
  have hK : Back l R p e below s args y 3 8 (PreOf R mc ms Pc) (PostOf Qc mc ms free) := va_backW (hh := hh) (bytes := bytes) (maxL := maxL) (ret := ret) hM hp.1 hrc hrs hfr hlo hws hcw (fun a' U hW => word_at hW (Or.inl (by first | rfl | simp [Cond.onTables, Cond.keeps, Cond.steady])) hini)
  obtain ⟨hx, hb, hml, ho, -⟩ := S
  obtain ⟨-, ⟨cellB, hcB, hoB, hclB⟩, hPc⟩ := hp
  intro T hT X
  obtain ⟨v, vm₁, ⟨U', l2, c2, s2⟩, hW₁, X', ⟨g', mk, t, L, e1, e2, hq, h1, hL, h2, h3⟩, st⟩ := vx_callVW X hx (C := C) (hh := hh) (bytes := bytes) (maxL := maxL) (ret := ret) ho hl hin hse hcode hy hK (by rw [hT]; exact hcB) hoB hclB hg (hsize.trans hml.symm) (argsL := As) (rest := rest) (fun sig h => hn.trans (hlen sig h)) hstack hW (by rw [hb]; exact hdg)
    (fun vm₁ hW₁ => ⟨hf.1, hf.2, hPc (T.setVm vm₁) hT hW₁⟩)
  dsimp only [Pt.U, Pt.locs, Pt.cells, Pt.slots] at X' e1 e2 h1 h2 h3 st
  subst h1; subst h2; subst h3
  exact ⟨v, (T.setVm vm₁).calling g' mk (Value.ref b :: As).toArray, t, U', L, hT, X', hL, e1, e2, hq, st⟩
section
variable {y : MethodName} {bytes cc : ByteArray} {maxL nL mc ms n index : Nat} {ret : Option FieldType} {ws : List Cond} {rm : Room} {Pc : Array Value → State → Prop} {Qc : Array Value → State → Outcome → State → Prop} {XC : String → State → State → Prop} {free : Addr → Prop} {Ts : List Cond} {own C : String} {b : Addr} {As rest : List Value} {g : JFrame}
theorem vx_runVX {hh : List (Nat × Nat × Nat × Nat)} (S : CallFix p m c cc nL s args Ts own) (hM : vx_Met l y ws rm Pc Qc XC mc ms free) (cw : vx_CVW R s args own C index y bytes maxL ret hh ws rm mc ms n) (hp : PreV s H C b Pc As)
    (hg : g.method = m) (hn : As.length = n) (hsize : g.locals.size = nL) (hstack : g.stack = As.reverse ++ .ref b :: rest) (hW : 2 * g.monitorRoom + (rest.map fun v => v.category).sum ≤ 8) (hdg : decode cc g.pc = .ok (.invokevirtual index, 3)) (hf : cells + mc ≤ R.cells ∧ slots + ms ≤ R.slots) :
    vx_Run p l e R s m args below meth c H locs cells slots mc ms g rest (Qc (Value.ref b :: As).toArray) XC free := by
  obtain ⟨⟨hrc, hrs, hfr, hlo, hws, hcw⟩, hcode, hini, hy, hlen, hl, hin, hse⟩ := cw
  have hK : vx_Back l R p e below s args y 3 8 (PreOf R mc ms Pc) (PostOf Qc mc ms free) (vx_Post XC mc ms free) := vx_backW (hh := hh) (bytes := bytes) (maxL := maxL) (ret := ret) hM hp.1 hrc hrs hfr hlo hws hcw (fun a' U hW => word_at hW (Or.inl (by first | rfl | simp [Cond.onTables, Cond.keeps, Cond.steady])) hini)
  obtain ⟨hx, hb, hml, ho, -⟩ := S
  obtain ⟨-, ⟨cellB, hcB, hoB, hclB⟩, hPc⟩ := hp
  intro T hT X
  rcases vx_callVX X hx (C := C) (hh := hh) (bytes := bytes) (maxL := maxL) (ret := ret) ho hl hin hse hcode hy hK (by rw [hT]; exact hcB) hoB hclB hg (hsize.trans hml.symm) (argsL := As) (rest := rest) (fun sig h => hn.trans (hlen sig h)) hstack hW (by rw [hb]; exact hdg)
    (fun vm₁ hW₁ => ⟨hf.1, hf.2, hPc (T.setVm vm₁) hT hW₁⟩) with ⟨v, vm₁, ⟨U', l2, c2, s2⟩, hW₁, X', ⟨g', mk, t, L, e1, e2, hq, h1, hL, h2, h3⟩, st⟩ | ⟨q, vm₁, ⟨U', l2, c2, s2⟩, hW₁, X', ⟨g', mk, t, L, E, ce, e1, e2, hq, hce, hcv, hcl, h1, hL, h2, h3⟩, st⟩
  · dsimp only [Pt.U, Pt.locs, Pt.cells, Pt.slots] at X' e1 e2 h1 h2 h3 st
    subst h1; subst h2; subst h3
    exact Or.inl ⟨v, (T.setVm vm₁).calling g' mk (Value.ref b :: As).toArray, t, U', L, hT, X', hL, e1, e2, hq, st⟩
  · dsimp only [Pt.U, Pt.locs, Pt.cells, Pt.slots] at X' e1 e2 h1 h2 h3 st hcl
    subst h1; subst h2; subst h3
    exact Or.inr ⟨q, (T.setVm vm₁).calling g' mk (Value.ref b :: As).toArray, t, U', L, E, ce, hT, X', hL, e1, e2, hq, hce, hcv, vx_cls hW₁ hcl, st⟩
theorem vx_runSX {hh : List (Nat × Nat × Nat × Nat)} (S : CallFix p m c cc nL s args Ts own) (hM : vx_Met l y ws rm Pc Qc XC mc ms free) (cw : vx_CSW R s args own index y bytes maxL ret hh ws rm mc ms n) (hp : PreS s H Pc As)
    (hg : g.method = m) (hn : As.length = n) (hsize : g.locals.size = nL) (hstack : g.stack = As.reverse ++ rest) (hW : 2 * g.monitorRoom + (rest.map fun v => v.category).sum ≤ 8) (hdg : decode cc g.pc = .ok (.invokestatic index, 3)) (hf : cells + mc ≤ R.cells ∧ slots + ms ≤ R.slots) :
    vx_Run p l e R s m args below meth c H locs cells slots mc ms g rest (Qc As.toArray) XC free := by
  obtain ⟨⟨hrc, hrs, hfr, hlo, hws, hcw⟩, hcode, hini, hy, hlen, hl, hstt⟩ := cw
  have hK : vx_Back l R p e below s args y 3 8 (PreOf R mc ms Pc) (PostOf Qc mc ms free) (vx_Post XC mc ms free) := vx_backW (hh := hh) (bytes := bytes) (maxL := maxL) (ret := ret) hM hp.1 hrc hrs hfr hlo hws hcw (fun a' U hW => word_at hW (Or.inl (by first | rfl | simp [Cond.onTables, Cond.keeps, Cond.steady])) hini)
  obtain ⟨hx, hb, hml, ho, -⟩ := S
  intro T hT X
  rcases vx_callSX X hx (hh := hh) (bytes := bytes) (maxL := maxL) (ret := ret) ho hl hstt hini hcode hy hK hg (hsize.trans hml.symm) (argsL := As) (rest := rest) (fun sig h => hn.trans (hlen sig h)) hstack hW (by rw [hb]; exact hdg)
    (fun vm₁ hW₁ => ⟨hf.1, hf.2, hp.2 (T.setVm vm₁) hT hW₁⟩) with ⟨v, vm₁, ⟨U', l2, c2, s2⟩, hW₁, X', ⟨g', mk, t, L, e1, e2, hq, h1, hL, h2, h3⟩, st⟩ | ⟨q, vm₁, ⟨U', l2, c2, s2⟩, hW₁, X', ⟨g', mk, t, L, E, ce, e1, e2, hq, hce, hcv, hcl, h1, hL, h2, h3⟩, st⟩
  · dsimp only [Pt.U, Pt.locs, Pt.cells, Pt.slots] at X' e1 e2 h1 h2 h3 st
    subst h1; subst h2; subst h3
    exact Or.inl ⟨v, (T.setVm vm₁).calling g' mk As.toArray, t, U', L, hT, X', hL, e1, e2, hq, st⟩
  · dsimp only [Pt.U, Pt.locs, Pt.cells, Pt.slots] at X' e1 e2 h1 h2 h3 st hcl
    subst h1; subst h2; subst h3
    exact Or.inr ⟨q, (T.setVm vm₁).calling g' mk As.toArray, t, U', L, E, ce, hT, X', hL, e1, e2, hq, hce, hcv, vx_cls hW₁ hcl, st⟩
end
end VXH
theorem vx_ofWH {l : Launch} {y : MethodName} {ws ws' : List Cond} {rm : Room} {Pc : Array Value → State → Prop} {Qc : Array Value → State → Outcome → State → Prop} {XC : String → State → State → Prop} {mc ms : Nat} {free : Addr → Prop} {cc : ByteArray} {maxL : Nat} {ret : Option FieldType} {hh : List (Nat × Nat × Nat × Nat)}
    (hy : plainName y.cls = true) (hw : ws = Cond.codeWith y cc maxL ret hh :: ws')
    (body : ∀ p e s m args below meth c s₁, BodyLoose p l y (headSpec ws rm) cc maxL ret e s m args below meth c s₁ → c.maxLocals = maxL → Pc args s →
      W p l e (headSpec ws rm).room s m args below meth c s.heap [] 0 0 (vx_MQ below Qc XC args s mc ms free) (entryFrame m args maxL)) : vx_Met l y ws rm Pc Qc XC mc ms free := by
  refine MetFree.of_bodyS (code := cc) (maxLocals := maxL) (ret := ret) hy ?_ ?_
  · intro args s m h hn
    obtain ⟨m9, meth, c, hn9, h1, h2, h3, h4, -, h5, h6, -⟩ := Cond.codeWith_spec (atoms_spec (ws := ws) h _ (by rw [hw]; exact List.mem_cons_self))
    cases hn.symm.trans hn9
    exact ⟨meth, c, h1, h2, h3, h4, h5, h6⟩
  · intro p e s m args below meth c s₁ B hml hP _
    have hh0 : s₁.heap = s.heap := by rw [B.state]; rfl
    obtain ⟨t, a1, o, b1, b2, b3⟩ := body p e s m args below meth c s₁ B hml hP s₁ hh0 (Stand.of_body B)
    exact ⟨t, o, a1, b1, b2, b3⟩
/-! ===== END ===== -/
end
section
def RX0 : String := "DefaultFund$Auction"
def TX0 : u_T := fun k => match k with
  | 0 => ("DefaultFund$Auction", "bids", "[[I", true)
  | _ => ("DefaultFund$Auction", "lots", "I", false)
def tyX0 : Nat → FieldType := fun k => match k with
  | 0 => .array (.array .int)
  | _ => .int
abbrev wsX00 : List Cond := u_ws RX0 TX0 2
theorem nmX0 : ∀ a, a < 2 → ∀ b, b < 2 → a ≠ b → (TX0 a).2.1 ≠ (TX0 b).2.1 := by decide +kernel
theorem tyX0_ok : ∀ k, k < 2 → parseFieldDescriptor (TX0 k).2.2.1 = some (tyX0 k) := by decide +kernel
abbrev cX0_init : ByteArray := prog_2_method_1_code
def yX0_init : MethodName := ⟨RX0, "<init>", "()V"⟩
abbrev cX0_open : ByteArray := prog_2_method_2_code
def yX0_open : MethodName := ⟨RX0, "open", "(I)V"⟩
abbrev cX0_hasLot : ByteArray := prog_2_method_3_code
def yX0_hasLot : MethodName := ⟨RX0, "hasLot", "(I)Z"⟩
abbrev cX0_bidOf : ByteArray := prog_2_method_4_code
def yX0_bidOf : MethodName := ⟨RX0, "bidOf", "(II)I"⟩
abbrev cX0_enter : ByteArray := prog_2_method_5_code
def yX0_enter : MethodName := ⟨RX0, "enter", "(III)V"⟩
abbrev cX0_winnerOf : ByteArray := prog_2_method_6_code
def yX0_winnerOf : MethodName := ⟨RX0, "winnerOf", "(I)I"⟩
abbrev cX0_bidPoorly : ByteArray := prog_2_method_7_code
def yX0_bidPoorly : MethodName := ⟨RX0, "bidPoorly", "(I)Z"⟩
abbrev cX0_isLow : ByteArray := prog_2_method_8_code
def yX0_isLow : MethodName := ⟨RX0, "isLow", "(II)Z"⟩
def RX1 : String := "DefaultFund$Member"
def TX1 : u_T := fun k => match k with
  | 0 => ("DefaultFund$Member", "clients", "[I", true)
  | 1 => ("DefaultFund$Member", "clientCount", "I", false)
  | 2 => ("DefaultFund$Member", "clientLots", "I", false)
  | 3 => ("DefaultFund$Member", "state", "I", false)
  | 4 => ("DefaultFund$Member", "margin", "I", false)
  | 5 => ("DefaultFund$Member", "share", "I", false)
  | 6 => ("DefaultFund$Member", "room", "I", false)
  | 7 => ("DefaultFund$Member", "gain", "I", false)
  | 8 => ("DefaultFund$Member", "tested", "I", false)
  | 9 => ("DefaultFund$Member", "junior", "Z", false)
  | 10 => ("DefaultFund$Member", "assessed", "I", false)
  | 11 => ("DefaultFund$Member", "won", "I", false)
  | _ => ("DefaultFund$Member", "shareAtFailure", "I", false)
def tyX1 : Nat → FieldType := fun k => match k with
  | 0 => .array .int
  | 1 => .int
  | 2 => .int
  | 3 => .int
  | 4 => .int
  | 5 => .int
  | 6 => .int
  | 7 => .int
  | 8 => .int
  | 9 => .boolean
  | 10 => .int
  | 11 => .int
  | _ => .int
abbrev wsX10 : List Cond := u_ws RX1 TX1 13
theorem nmX1 : ∀ a, a < 13 → ∀ b, b < 13 → a ≠ b → (TX1 a).2.1 ≠ (TX1 b).2.1 := by decide +kernel
theorem tyX1_ok : ∀ k, k < 13 → parseFieldDescriptor (TX1 k).2.2.1 = some (tyX1 k) := by decide +kernel
abbrev cX1_init : ByteArray := prog_3_method_1_code
def yX1_init : MethodName := ⟨RX1, "<init>", "()V"⟩
abbrev cX1_join : ByteArray := prog_3_method_2_code
def yX1_join : MethodName := ⟨RX1, "join", "(III)V"⟩
abbrev cX1_isActive : ByteArray := prog_3_method_3_code
def yX1_isActive : MethodName := ⟨RX1, "isActive", "()Z"⟩
abbrev cX1_freeRoom : ByteArray := prog_3_method_4_code
def yX1_freeRoom : MethodName := ⟨RX1, "freeRoom", "()I"⟩
abbrev cX1_takesClient : ByteArray := prog_3_method_5_code
def yX1_takesClient : MethodName := ⟨RX1, "takesClient", "(I)Z"⟩
abbrev cX1_dropClients : ByteArray := prog_3_method_6_code
def yX1_dropClients : MethodName := ⟨RX1, "dropClients", "()V"⟩
abbrev cX1_raiseShare : ByteArray := prog_3_method_7_code
def yX1_raiseShare : MethodName := ⟨RX1, "raiseShare", "(I)I"⟩
abbrev cX1_loseAll : ByteArray := prog_3_method_8_code
def yX1_loseAll : MethodName := ⟨RX1, "loseAll", "()V"⟩
def RX2 : String := "DefaultFund$Parting"
def TX2 : u_T := fun k => match k with
  | 0 => ("DefaultFund$Parting", "weights", "[I", true)
  | 1 => ("DefaultFund$Parting", "bounds", "[I", true)
  | _ => ("DefaultFund$Parting", "parts", "[I", true)
def tyX2 : Nat → FieldType := fun k => match k with
  | 0 => .array .int
  | 1 => .array .int
  | _ => .array .int
abbrev wsX20 : List Cond := u_ws RX2 TX2 3
theorem nmX2 : ∀ a, a < 3 → ∀ b, b < 3 → a ≠ b → (TX2 a).2.1 ≠ (TX2 b).2.1 := by decide +kernel
theorem tyX2_ok : ∀ k, k < 3 → parseFieldDescriptor (TX2 k).2.2.1 = some (tyX2 k) := by decide +kernel
abbrev cX2_init : ByteArray := prog_4_method_1_code
def yX2_init : MethodName := ⟨RX2, "<init>", "()V"⟩
abbrev cX2_enter : ByteArray := prog_4_method_2_code
def yX2_enter : MethodName := ⟨RX2, "enter", "(III)V"⟩
abbrev cX2_partOf : ByteArray := prog_4_method_3_code
def yX2_partOf : MethodName := ⟨RX2, "partOf", "(I)I"⟩
abbrev cX2_part : ByteArray := prog_4_method_4_code
def yX2_part : MethodName := ⟨RX2, "part", "(I)I"⟩
abbrev cX2_giveCoins : ByteArray := prog_4_method_5_code
def yX2_giveCoins : MethodName := ⟨RX2, "giveCoins", "(I)I"⟩
abbrev cX2_roundsAtAStroke : ByteArray := prog_4_method_6_code
def yX2_roundsAtAStroke : MethodName := ⟨RX2, "roundsAtAStroke", "(I)I"⟩
abbrev cX2_canTake : ByteArray := prog_4_method_7_code
def yX2_canTake : MethodName := ⟨RX2, "canTake", "(I)Z"⟩
def RX3 : String := "DefaultFund"
def TX3 : u_T := fun k => match k with
  | 0 => ("DefaultFund", "members", "[LDefaultFund$Member;", true)
  | 1 => ("DefaultFund", "auction", "LDefaultFund$Auction;", true)
  | 2 => ("DefaultFund", "parting", "LDefaultFund$Parting;", true)
  | 3 => ("DefaultFund", "count", "I", false)
  | 4 => ("DefaultFund", "capital", "I", false)
  | 5 => ("DefaultFund", "loss", "I", false)
  | 6 => ("DefaultFund", "uncovered", "I", false)
  | _ => ("DefaultFund", "failing", "I", false)
def tyX3 : Nat → FieldType := fun k => match k with
  | 0 => .array (.object "DefaultFund$Member")
  | 1 => .object "DefaultFund$Auction"
  | 2 => .object "DefaultFund$Parting"
  | 3 => .int
  | 4 => .int
  | 5 => .int
  | 6 => .int
  | _ => .int
abbrev wsX30 : List Cond := u_ws RX3 TX3 8
theorem nmX3 : ∀ a, a < 8 → ∀ b, b < 8 → a ≠ b → (TX3 a).2.1 ≠ (TX3 b).2.1 := by decide +kernel
theorem tyX3_ok : ∀ k, k < 8 → parseFieldDescriptor (TX3 k).2.2.1 = some (tyX3 k) := by decide +kernel
abbrev cX3_init : ByteArray := prog_1_method_1_code
def yX3_init : MethodName := ⟨RX3, "<init>", "()V"⟩
abbrev cX3_addMember : ByteArray := prog_1_method_2_code
def yX3_addMember : MethodName := ⟨RX3, "addMember", "(III)I"⟩
abbrev cX3_addClient : ByteArray := prog_1_method_3_code
def yX3_addClient : MethodName := ⟨RX3, "addClient", "(II)I"⟩
abbrev cX3_setGain : ByteArray := prog_1_method_4_code
def yX3_setGain : MethodName := ⟨RX3, "setGain", "(II)I"⟩
abbrev cX3_setTested : ByteArray := prog_1_method_5_code
def yX3_setTested : MethodName := ⟨RX3, "setTested", "(II)I"⟩
abbrev cX3_setCapital : ByteArray := prog_1_method_6_code
def yX3_setCapital : MethodName := ⟨RX3, "setCapital", "(I)I"⟩
abbrev cX3_giveNotice : ByteArray := prog_1_method_7_code
def yX3_giveNotice : MethodName := ⟨RX3, "giveNotice", "(I)V"⟩
abbrev cX3_size : ByteArray := prog_1_method_8_code
def yX3_size : MethodName := ⟨RX3, "size", "()I"⟩
abbrev cX3_fail : ByteArray := prog_1_method_9_code
def yX3_fail : MethodName := ⟨RX3, "fail", "(II)I"⟩
abbrev cX3_bid : ByteArray := prog_1_method_10_code
def yX3_bid : MethodName := ⟨RX3, "bid", "(III)V"⟩
abbrev cX3_close : ByteArray := prog_1_method_11_code
def yX3_close : MethodName := ⟨RX3, "close", "()I"⟩
abbrev cX3_members : ByteArray := prog_1_method_12_code
def yX3_members : MethodName := ⟨RX3, "members", "()I"⟩
abbrev cX3_state : ByteArray := prog_1_method_13_code
def yX3_state : MethodName := ⟨RX3, "state", "(I)I"⟩
abbrev cX3_margin : ByteArray := prog_1_method_14_code
def yX3_margin : MethodName := ⟨RX3, "margin", "(I)I"⟩
abbrev cX3_share : ByteArray := prog_1_method_15_code
def yX3_share : MethodName := ⟨RX3, "share", "(I)I"⟩
abbrev cX3_gain : ByteArray := prog_1_method_16_code
def yX3_gain : MethodName := ⟨RX3, "gain", "(I)I"⟩
abbrev cX3_assessed : ByteArray := prog_1_method_18_code
def yX3_assessed : MethodName := ⟨RX3, "assessed", "(I)I"⟩
abbrev cX3_clientLots : ByteArray := prog_1_method_19_code
def yX3_clientLots : MethodName := ⟨RX3, "clientLots", "(I)I"⟩
abbrev cX3_won : ByteArray := prog_1_method_20_code
def yX3_won : MethodName := ⟨RX3, "won", "(I)I"⟩
abbrev cX3_capital : ByteArray := prog_1_method_21_code
def yX3_capital : MethodName := ⟨RX3, "capital", "()I"⟩
abbrev cX3_loss : ByteArray := prog_1_method_22_code
def yX3_loss : MethodName := ⟨RX3, "loss", "()I"⟩
abbrev cX3_uncovered : ByteArray := prog_1_method_23_code
def yX3_uncovered : MethodName := ⟨RX3, "uncovered", "()I"⟩
abbrev cX3_failing : ByteArray := prog_1_method_24_code
def yX3_failing : MethodName := ⟨RX3, "failing", "()I"⟩
abbrev cX3_existing : ByteArray := prog_1_method_25_code
def yX3_existing : MethodName := ⟨RX3, "existing", "(I)LDefaultFund$Member;"⟩
abbrev cX3_requireBetween : ByteArray := prog_1_method_26_code
def yX3_requireBetween : MethodName := ⟨RX3, "requireBetween", "(III)V"⟩
abbrev cX3_requireActive : ByteArray := prog_1_method_27_code
def yX3_requireActive : MethodName := ⟨RX3, "requireActive", "(LDefaultFund$Member;)V"⟩
abbrev cX3_requireNoFailure : ByteArray := prog_1_method_28_code
def yX3_requireNoFailure : MethodName := ⟨RX3, "requireNoFailure", "()V"⟩
abbrev cX3_neededFund : ByteArray := prog_1_method_29_code
def yX3_neededFund : MethodName := ⟨RX3, "neededFund", "()I"⟩
abbrev cX3_moveClients : ByteArray := prog_1_method_30_code
def yX3_moveClients : MethodName := ⟨RX3, "moveClients", "(LDefaultFund$Member;)I"⟩
abbrev cX3_findsHost : ByteArray := prog_1_method_31_code
def yX3_findsHost : MethodName := ⟨RX3, "findsHost", "(I)Z"⟩
abbrev cX3_awardLots : ByteArray := prog_1_method_32_code
def yX3_awardLots : MethodName := ⟨RX3, "awardLots", "()I"⟩
abbrev cX3_rankBidders : ByteArray := prog_1_method_33_code
def yX3_rankBidders : MethodName := ⟨RX3, "rankBidders", "()V"⟩
abbrev cX3_endFailure : ByteArray := prog_1_method_34_code
def yX3_endFailure : MethodName := ⟨RX3, "endFailure", "(LDefaultFund$Member;)V"⟩
abbrev cX3_eatLoss : ByteArray := prog_1_method_35_code
def yX3_eatLoss : MethodName := ⟨RX3, "eatLoss", "(LDefaultFund$Member;)I"⟩
abbrev cX3_eatShares : ByteArray := prog_1_method_36_code
def yX3_eatShares : MethodName := ⟨RX3, "eatShares", "(IZ)I"⟩
abbrev cX3_eatAssessments : ByteArray := prog_1_method_37_code
def yX3_eatAssessments : MethodName := ⟨RX3, "eatAssessments", "(I)I"⟩
abbrev cX3_eatGains : ByteArray := prog_1_method_38_code
def yX3_eatGains : MethodName := ⟨RX3, "eatGains", "(I)I"⟩
def RL : String := "DefaultFundLaw"
abbrev cL_cell : ByteArray := method_2_code
def yL_cell : MethodName := ⟨RL, "cell", "([II)I"⟩
abbrev cL_at : ByteArray := method_3_code
def yL_at : MethodName := ⟨RL, "at", "(II)I"⟩
abbrev cL_funds : ByteArray := method_4_code
def yL_funds : MethodName := ⟨RL, "funds", "(LDefaultFund;)J"⟩
abbrev cL_ends : ByteArray := method_5_code
def yL_ends : MethodName := ⟨RL, "ends", "(LDefaultFund;I[I)Z"⟩
abbrev cL_fails : ByteArray := method_6_code
def yL_fails : MethodName := ⟨RL, "fails", "(LDefaultFund;II)I"⟩
abbrev cL_clients : ByteArray := method_7_code
def yL_clients : MethodName := ⟨RL, "clients", "(LDefaultFund;II[I)Z"⟩
abbrev cL_sizes : ByteArray := method_8_code
def yL_sizes : MethodName := ⟨RL, "sizes", "(LDefaultFund;)Z"⟩
abbrev cL_bids : ByteArray := method_9_code
def yL_bids : MethodName := ⟨RL, "bids", "(LDefaultFund;III)V"⟩
abbrev cL_law : ByteArray := code
def yL_law : MethodName := ⟨RL, "law", "([I)Z"⟩
abbrev vwCl : List vw_C := [(RX0, TX0, 2), (RX1, TX1, 13), (RX2, TX2, 3), (RX3, TX3, 8)]
end
section
/-! ===== values as whole numbers; one world of cells for both sides ===== -/
abbrev AV : Type := Int ⊕ Int ⊕ (Nat × Nat) ⊕ Nat
abbrev vI (x : Int) : AV := Sum.inl x
abbrev vL (x : Int) : AV := Sum.inr (Sum.inl x)
abbrev vR (t i : Nat) : AV := Sum.inr (Sum.inr (Sum.inl (t, i)))
abbrev vX (a : Nat) : AV := Sum.inr (Sum.inr (Sum.inr a))
abbrev St : Type := Nat → Nat → Nat → Int
/-- the launch, the numbers of classes and slots, the addresses, the numbers of the array classes -/
abbrev Gl : Type := Launch × va_G × (Nat → Nat → Nat) × (Nat → ClassId)
def cv (g : Gl) : AV → Value
  | .inl x => .int (Int32.ofInt x)
  | .inr (.inl x) => .long (Int64.ofInt x)
  | .inr (.inr (.inl q)) => .ref (g.2.2.1 q.1 q.2)
  | .inr (.inr (.inr a)) => .ref a
def up3 (S : St) (t i k : Nat) (v : Int) : St := fun a b c => if a = t ∧ b = i ∧ c = k then v else S a b c
def upT (S : St) (t i : Nat) (f : Nat → Int) : St := fun a b => if a = t ∧ b = i then f else S a b
theorem up3_T (S : St) (t i k : Nat) (v : Int) : up3 S t i k v = upT S t i (fun c => if c = k then v else S t i c) := by
  funext a b c
  unfold up3 upT
  by_cases h : a = t ∧ b = i
  · obtain ⟨rfl, rfl⟩ := h
    by_cases hc : c = k <;> simp [hc]
  · rw [if_neg h, if_neg (fun q => h ⟨q.1, q.2.1⟩)]
/-- how many of a kind -/
def ctn : Nat → Nat | 4 => 10 | 5 => 10 | 7 => 10 | _ => 1
def prs : List (Nat × Nat) := (List.range 13).flatMap fun t => (List.range (ctn t)).map fun i => (t, i)
theorem mem_prs {t i : Nat} (ht : t < 13) (hi : i < ctn t) : (t, i) ∈ prs := List.mem_flatMap.mpr ⟨t, List.mem_range.mpr ht, List.mem_map.mpr ⟨i, List.mem_range.mpr hi, rfl⟩⟩
theorem prs_nd : prs.Nodup := by decide +kernel
theorem prs_inj {i j : Nat} {q : Nat × Nat} (h1 : prs[i]? = some q) (h2 : prs[j]? = some q) : i = j := by
  have hi : i < prs.length := (List.getElem?_eq_some_iff.mp h1).1
  exact (List.getElem?_inj hi prs_nd).mp (h1.trans h2.symm)
/-- 0 to 3: an object of that number in vwCl; 5 whole numbers, 6 references -/
def kd : Nat → Nat | 0 => 3 | 2 => 0 | 3 => 2 | 4 => 1 | 1 => 6 | 6 => 6 | _ => 5
def nf : Nat → Nat | 0 => 8 | 2 => 2 | 3 => 3 | 4 => 13 | 5 => 100 | 7 => 120 | 11 => 50 | _ => 10
def rfp (t k : Nat) : Option Nat := match t, k with
  | 0, 0 => some 1 | 0, 1 => some 2 | 0, 2 => some 3 | 2, 0 => some 6 | 3, 0 => some 8 | 3, 1 => some 9 | 3, 2 => some 10 | 4, 0 => some 5
  | _, _ => none
def slt (g : Gl) (t i k : Nat) (z : Int) : Value := match rfp t k with | some u => .ref (g.2.2.1 u i) | none => .int (Int32.ofInt z)
def en (g : Gl) (t i : Nat) (f : Nat → Int) : va_E :=
  if kd t < 5 then .inr (kd t, (List.range (nf t)).map fun k => slt g t i k (f k))
  else if kd t = 5 then .inl (g.2.2.2 0, nf t, .inl fun k => Int32.ofInt (f k))
  else .inl (g.2.2.2 (if t = 1 then 1 else 2), nf t, .inr (.inr (.inr (.inr fun k => some (g.2.2.1 (if t = 1 then 4 else 7) k)))))
def wl (g : Gl) (S : St) : va_W := prs.map fun p => (g.2.2.1 p.1 p.2, en g p.1 p.2 (S p.1 p.2))
def tyl (g : Gl) : List (ClassId × FieldType) := [(g.2.2.2 0, .int), (g.2.2.2 1, .object RX1), (g.2.2.2 2, .array .int)]
theorem wl_get (g : Gl) (S : St) {t i : Nat} (ht : t < 13) (hi : i < ctn t) : ∃ q : Nat, prs[q]? = some (t, i) ∧ (wl g S)[q]? = some (g.2.2.1 t i, en g t i (S t i)) := by
  obtain ⟨q, hq⟩ := List.getElem?_of_mem (mem_prs ht hi)
  exact ⟨q, hq, by simp [wl, hq]⟩
theorem wl_set (g : Gl) (S : St) {t i q : Nat} (hq : prs[q]? = some (t, i)) (f : Nat → Int) : (wl g S).set q (g.2.2.1 t i, en g t i f) = wl g (upT S t i f) := by
  apply List.ext_getElem?
  intro j
  have hl : q < prs.length := (List.getElem?_eq_some_iff.mp hq).1
  rw [List.getElem?_set]
  by_cases e : q = j
  · subst e
    have hl2 : q < (wl g S).length := by simp only [wl, List.length_map]; exact hl
    rw [if_pos rfl, if_pos hl2]
    simp only [wl, List.getElem?_map, hq, Option.map_some, upT]
    simp
  · rw [if_neg e]
    simp only [wl, List.getElem?_map]
    cases h : prs[j]? with
    | none => rfl
    | some p =>
      obtain ⟨a, b⟩ := p
      have hn : ¬ (a = t ∧ b = i) := fun q => e (prs_inj hq (by rw [h, q.1, q.2]))
      simp only [Option.map_some, upT, if_neg hn]
theorem en_obj (g : Gl) {t : Nat} (i : Nat) (f : Nat → Int) (h : kd t < 5) : en g t i f = .inr (kd t, (List.range (nf t)).map fun k => slt g t i k (f k)) := by
  unfold en
  rw [if_pos h]
theorem en_int (g : Gl) {t : Nat} (i : Nat) (f : Nat → Int) (h : kd t = 5) : en g t i f = .inl (g.2.2.2 0, nf t, .inl fun k => Int32.ofInt (f k)) := by
  unfold en
  rw [if_neg (by omega), if_pos h]
theorem en_ref (g : Gl) {t : Nat} (i : Nat) (f : Nat → Int) (h : kd t = 6) : en g t i f = .inl (g.2.2.2 (if t = 1 then 1 else 2), nf t, .inr (.inr (.inr (.inr fun k => some (g.2.2.1 (if t = 1 then 4 else 7) k))))) := by
  unfold en
  rw [if_neg (by omega), if_neg (by omega)]
theorem slots_get {n k : Nat} (F : Nat → Value) (h : k < n) : ((List.range n).map F)[k]? = some (F k) := by simp [h]
theorem slots_set {n k : Nat} (F G : Nat → Value) (hk : ∀ j, j ≠ k → F j = G j) : ((List.range n).map F).set k (G k) = (List.range n).map G := by
  apply List.ext_getElem?
  intro j
  rw [List.getElem?_set]
  by_cases e : k = j
  · subst e
    by_cases h : k < n <;> simp [h]
  · rw [if_neg e]
    simp only [List.getElem?_map]
    cases h : (List.range n)[j]? with
    | none => rfl
    | some x =>
      have : x = j := by
        rw [List.getElem?_range] at h
        · exact (Option.some.inj h).symm
        · exact Nat.lt_of_not_le fun q => by simp [List.getElem?_eq_none, q] at h
      subst this
      simp only [Option.map_some, hk _ (Ne.symm e)]
/-- the world: all cells of both sides hold what S says -/
def Wd (g : Gl) (S : St) (H : Heap) : Prop := va_P g.2.1 vwCl (wl g S) H
/-- the addresses are apart -/
def Apt (g : Gl) : Prop := ∀ p, p ∈ prs → ∀ q, q ∈ prs → g.2.2.1 p.1 p.2 = g.2.2.1 q.1 q.2 → p = q
theorem Apt.D {g : Gl} (h : Apt g) {A : Nat → Prop} (hA : ∀ p, p ∈ prs → A (g.2.2.1 p.1 p.2)) (S : St) : va_D A (wl g S) := by
  refine ⟨fun i j p q hi hj he => ?_, fun k q hk => ?_⟩
  · simp only [wl, List.getElem?_map] at hi hj
    cases h1 : prs[i]? with
    | none => rw [h1] at hi; cases hi
    | some a =>
      cases h2 : prs[j]? with
      | none => rw [h2] at hj; cases hj
      | some b =>
        rw [h1] at hi; rw [h2] at hj
        cases hi; cases hj
        have e : a = b := h a (List.mem_of_getElem? h1) b (List.mem_of_getElem? h2) he
        subst e
        exact prs_inj h1 h2
  · simp only [wl, List.getElem?_map] at hk
    cases h1 : prs[k]? with
    | none => rw [h1] at hk; cases hk
    | some a =>
      rw [h1] at hk
      cases hk
      exact hA a (List.mem_of_getElem? h1)
/-! ===== the tables' words ===== -/
def WT : List Cond := lw_tbl.filter goodWord
theorem wt_at {w : Cond} (i : Nat) (h : lw_tbl[i]? = some w) (hg : goodWord w = true) : w ∈ WT := List.mem_filter.mpr ⟨List.mem_of_getElem? h, hg⟩
def isNest : Cond → Bool
  | .fieldLinkNest .. => true
  | .methodLinkNest .. => true
  | .castable .. => true
  | .declares _ => true
  | _ => false
def NW : List Cond := lw_tbl.filter isNest
theorem nw_at {w : Cond} (i : Nat) (h : lw_tbl[i]? = some w) (hg : isNest w = true) : w ∈ NW := List.mem_filter.mpr ⟨List.mem_of_getElem? h, hg⟩
theorem nest_tab {w : Cond} (h : isNest w = true) : w.onTables = true := by
  cases w <;> first | rfl | (simp [isNest] at h)
theorem nest_warm {w : Cond} (h : isNest w = true) {s U : State} (hW : s.WarmedH U.vm) (hZ : va_Nw w s) : va_Nw w U := by
  cases w <;> first | exact va_Nw.warmF hW hZ | exact va_Nw.warmM hW hZ | exact va_Nw.warmC hW hZ | exact va_Nw.warmD hW hZ | (simp [isNest] at h)
theorem wt_good {ws : List Cond} (h : ∀ w ∈ ws, w ∈ WT) : GoodIn WT ws := fun w hw => ⟨h w hw, good_of_word (List.mem_filter.mp (h w hw)).2⟩
def strs : List (String × Nat × String) := [(RX3, 181, "an argument is out of range"), (RX3, 53, "there are 10 members"), (RX3, 177, "there is no such member"), (RX3, 184, "the member is not active"), (RX3, 73, "the member has no room for the client"), (RX3, 88, "the member does not go on"), (RX3, 186, "a failure is dealt with"), (RX3, 135, "there is no such lot"), (RX3, 142, "the member has bid for the lot"), (RX3, 145, "no failure is dealt with")]
def E_A : String := "java/lang/IllegalArgumentException"
def E_S : String := "java/lang/IllegalStateException"
def E_B : String := "java/lang/IndexOutOfBoundsException"
def ncs : List (String × String) := []
/-- what the machine's tables say, the same from call to call -/
def GV (g : Gl) (U : State) : Prop := (∀ w ∈ NW, va_Nw w U) ∧ va_K g.2.1 vwCl (tyl g) U ∧ (∀ q ∈ strs, ∃ a, vk_R q.1 q.2.1 q.2.2 a U) ∧ (∀ q ∈ ncs, va_Nc q.1 q.2 U) ∧ Apt g ∧ g.1.stackTraces = false
theorem GV.same {g : Gl} {u U : State} (h : u.vm = U.vm) (k : GV g u) : GV g U := by
  have hal : u.vm.Alike U.vm := by rw [h]; exact Vm.Alike.refl _
  exact ⟨fun w hw => va_Nw.same (nest_tab (List.mem_filter.mp hw).2) h (k.1 w hw), va_K.moved hal k.2.1, fun q hq => by obtain ⟨a, ha⟩ := k.2.2.1 q hq; exact ⟨a, vk_R.same h.symm ha⟩, fun q hq => va_Nc.moved hal (k.2.2.2.1 q hq), k.2.2.2.2⟩
theorem GV.warm {g : Gl} {s U : State} (hW : s.WarmedH U.vm) (k : GV g s) : GV g U :=
  ⟨fun w hw => nest_warm (List.mem_filter.mp hw).2 hW (k.1 w hw), va_K.moved hW.alike k.2.1, fun q hq => by obtain ⟨a, ha⟩ := k.2.2.1 q hq; exact ⟨a, vk_R.warm hW ha⟩, fun q hq => va_Nc.moved hW.alike (k.2.2.2.1 q hq), k.2.2.2.2⟩
/-- the cells that a call may write: the world's, and new ones -/
def Ag (g : Gl) (sz : Nat) : Nat → Prop := fun q => (∃ p, p ∈ prs ∧ q = g.2.2.1 p.1 p.2) ∨ sz ≤ q
def Zs (A : Nat → Prop) (U : State) (H : Heap) : Prop := vx_Zq Bundle.tN "UNASSIGNED_STACK" Bundle.steD A U H ∧ vx_Zq Bundle.tN "SUPPRESSED_SENTINEL" Bundle.listD A U H
def rgI (x : Int) : Prop := -2147483648 ≤ x ∧ x ≤ 2147483647
theorem toI {z : Int} (h : -2147483648 ≤ z ∧ z ≤ 2147483647) : (Int32.ofInt z).toInt = z := by
  have e : z.bmod (2 ^ 32) = z := Int.bmod_eq_of_le (by omega) (by omega)
  rw [Int32.toInt_ofInt]
  exact e
theorem toL {z : Int} (h : -9223372036854775808 ≤ z ∧ z ≤ 9223372036854775807) : (Int64.ofInt z).toInt = z := by
  have e : z.bmod (2 ^ 64) = z := Int.bmod_eq_of_le (by omega) (by omega)
  rw [Int64.toInt_ofInt]
  exact e
theorem ofI_le {a b : Int} (ha : -2147483648 ≤ a ∧ a ≤ 2147483647) (hb : -2147483648 ≤ b ∧ b ≤ 2147483647) : Int32.ofInt a ≤ Int32.ofInt b ↔ a ≤ b := by
  rw [Int32.le_iff_toInt_le, toI ha, toI hb]
theorem ofI_lt {a b : Int} (ha : -2147483648 ≤ a ∧ a ≤ 2147483647) (hb : -2147483648 ≤ b ∧ b ≤ 2147483647) : Int32.ofInt a < Int32.ofInt b ↔ a < b := by
  rw [Int32.lt_iff_toInt_lt, toI ha, toI hb]
theorem ofI_eq {a b : Int} (ha : -2147483648 ≤ a ∧ a ≤ 2147483647) (hb : -2147483648 ≤ b ∧ b ≤ 2147483647) : Int32.ofInt a = Int32.ofInt b ↔ a = b := by
  rw [← Int32.toInt_inj, toI ha, toI hb]
theorem ofI_clamp {j : Int} {n : Nat} (h : 0 ≤ j ∧ j < n) (hn : n ≤ 2147483647) : (Int32.ofInt j).toNatClampNeg = j.toNat ∧ vp_in (Int32.ofInt j) n := by
  have e : (Int32.ofInt j).toInt = j := toI (by omega)
  have e2 : (Int32.ofInt j).toNatClampNeg = j.toNat := by
    show (Int32.ofInt j).toInt.toNat = _
    rw [e]
  exact ⟨e2, by rw [vp_in_iff, e]; exact ⟨h.1, h.2⟩⟩
end
section
/-! ===== the walking layer: K n pc L st S says that the machine, at pc with locals L and stack st over the world S, n throws accounted for, comes to its end ===== -/
theorem divI_ne {a b : Int} (h : (0 ≤ a ∧ a ≤ 2147483647) ∧ 0 < b ∧ b ≤ 2147483647) : ¬ Int32.ofInt b = 0 := by
  intro q
  have e : (Int32.ofInt b).toInt = b := toI (by omega)
  rw [q] at e
  have : (0 : Int32).toInt = 0 := rfl
  omega
theorem divI {a b : Int} (h : (0 ≤ a ∧ a ≤ 2147483647) ∧ 0 < b ∧ b ≤ 2147483647) : Int32.ofInt a / Int32.ofInt b = Int32.ofInt (a / b) := by
  have h1 : 0 ≤ a / b := Int.ediv_nonneg h.1.1 (by omega)
  have h2 : a / b ≤ a := Int.ediv_le_self b h.1.1
  rw [← Int32.toInt_inj, Int32.toInt_div, toI (by omega), toI (by omega), toI (by omega), Int.tdiv_eq_ediv_of_nonneg h.1.1]
  exact Int.bmod_eq_of_le (by omega) (by omega)
theorem divL_ne {a b : Int} (h : (0 ≤ a ∧ a ≤ 9223372036854775807) ∧ 0 < b ∧ b ≤ 9223372036854775807) : ¬ Int64.ofInt b = 0 := by
  intro q
  have e : (Int64.ofInt b).toInt = b := toL (by omega)
  rw [q] at e
  have : (0 : Int64).toInt = 0 := rfl
  omega
theorem divL {a b : Int} (h : (0 ≤ a ∧ a ≤ 9223372036854775807) ∧ 0 < b ∧ b ≤ 9223372036854775807) : Int64.ofInt a / Int64.ofInt b = Int64.ofInt (a / b) := by
  have h1 : 0 ≤ a / b := Int.ediv_nonneg h.1.1 (by omega)
  have h2 : a / b ≤ a := Int.ediv_le_self b h.1.1
  rw [← Int64.toInt_inj, Int64.toInt_div, toL (by omega), toL (by omega), toL (by omega), Int.tdiv_eq_ediv_of_nonneg h.1.1]
  exact Int.bmod_eq_of_le (by omega) (by omega)
theorem i2lI {a : Int} (h : -2147483648 ≤ a ∧ a ≤ 2147483647) : (Int32.ofInt a).toInt64 = Int64.ofInt a := by
  rw [← Int64.toInt_inj, Int32.toInt_toInt64, toI h, toL (by omega)]
theorem l2iI (a : Int) : (Int64.ofInt a).toInt32 = Int32.ofInt a := by
  rw [← Int32.toInt_inj, Int64.toInt_toInt32, Int64.toInt_ofInt, Int32.toInt_ofInt]
  exact Int.bmod_bmod_of_dvd (by decide)
theorem lcmpI {a b : Int} (h : (-9223372036854775808 ≤ a ∧ a ≤ 9223372036854775807) ∧ -9223372036854775808 ≤ b ∧ b ≤ 9223372036854775807) : lg_cmp (Int64.ofInt a) (Int64.ofInt b) = Int32.ofInt (if b < a then 1 else if a = b then 0 else -1) := by
  unfold lg_cmp
  have e1 : (Int64.ofInt a > Int64.ofInt b) ↔ b < a := by
    show Int64.ofInt b < Int64.ofInt a ↔ _
    rw [Int64.lt_iff_toInt_lt, toL h.1, toL h.2]
  have e2 : (Int64.ofInt a = Int64.ofInt b) ↔ a = b := by
    rw [← Int64.toInt_inj, toL h.1, toL h.2]
  by_cases h1 : b < a
  · rw [if_pos (e1.mpr h1), if_pos h1]; rfl
  · rw [if_neg (fun q => h1 (e1.mp q)), if_neg h1]
    by_cases h2 : a = b
    · rw [if_pos (e2.mpr h2), if_pos h2]; rfl
    · rw [if_neg (fun q => h2 (e2.mp q)), if_neg h2]; rfl
section KL
def Ctx (g : Gl) (own : String) (cc : ByteArray) (nL fr lo N : Nat) (p : Program) (R : Room) (s : State) (m : MethodId) (args : Array Value) (meth : Method) (c : Code) (A : Nat → Prop) (c0 s0 : Nat) : Prop :=
  p.tables.exec = Jvm.exec ∧ c.code = cc ∧ c.maxLocals = nL ∧ s.vm.findClass own = some m.cls ∧ (∀ w ∈ WT, w.before args s = true) ∧ GV g s ∧ (∀ q, q ∈ prs → A (g.2.2.1 q.1 q.2)) ∧ (∀ q, s.heap.size ≤ q → A q) ∧ Zs A s s.heap ∧ meth.locks = false ∧ fr ≤ R.frames ∧ lo ≤ R.locals ∧ c0 + N ≤ R.cells ∧ s0 + 6 * N ≤ R.slots
def lvs (g : Gl) (ls : Array Slot) (nL : Nat) (L : List (Option AV)) : Prop := ls.size = nL ∧ lv_wf ls ∧ ∀ (n : Nat) (v : AV), L[n]? = some (some v) → ls[n]? = some (.val (cv g v))
abbrev KT : Type := Nat → Nat → List (Option AV) → List AV → St → Prop
def Wk (g : Gl) (nL N : Nat) (p : Program) (e : Env) (R : Room) (s : State) (m : MethodId) (args : Array Value) (below : List Frame) (meth : Method) (c : Code) (A : Nat → Prop) (c0 s0 : Nat) (Q : State → Prop) : KT := fun n pc L st S =>
  n ≤ N → ∀ (H : Heap) (locs : List Loc) (ls : Array Slot), Wd g S H → va_S A s.heap H locs → lvs g ls nL L → W p g.1 e R s m args below meth c H locs (c0 + n) (s0 + 6 * n) Q (F0 m pc ls (st.map (cv g)))
def Mk (g : Gl) (own : String) (cc : ByteArray) (nL fr lo N : Nat) (K : KT) : Prop :=
  ∃ (p : Program) (e : Env) (R : Room) (s : State) (m : MethodId) (args : Array Value) (below : List Frame) (meth : Method) (c : Code) (A : Nat → Prop) (c0 s0 : Nat) (Q : State → Prop), Ctx g own cc nL fr lo N p R s m args meth c A c0 s0 ∧ ∀ n pc L st S, K n pc L st S ↔ Wk g nL N p e R s m args below meth c A c0 s0 Q n pc L st S
variable {g : Gl} {own : String} {cc : ByteArray} {nL fr lo N : Nat} {K : KT} {n pc : Nat} {L : List (Option AV)} {st : List AV} {S : St}
/-- a row that changes neither the world nor the count -/
theorem Mk.go (M : Mk g own cc nL fr lo N K) {pc' : Nat} {L' : List (Option AV)} {st' : List AV}
    (h : ∀ (p : Program) (e : Env) (R : Room) (s : State) (m : MethodId) (args : Array Value) (below : List Frame) (meth : Method) (c : Code) (A : Nat → Prop) (c0 s0 : Nat) (Q : State → Prop), Ctx g own cc nL fr lo N p R s m args meth c A c0 s0 → ∀ (H : Heap) (locs : List Loc) (ls : Array Slot), Wd g S H → va_S A s.heap H locs → lvs g ls nL L → n ≤ N →
      (∀ ls' : Array Slot, lvs g ls' nL L' → W p g.1 e R s m args below meth c H locs (c0 + n) (s0 + 6 * n) Q (F0 m pc' ls' (st'.map (cv g)))) → W p g.1 e R s m args below meth c H locs (c0 + n) (s0 + 6 * n) Q (F0 m pc ls (st.map (cv g))))
    (k : K n pc' L' st' S) : K n pc L st S := by
  obtain ⟨p, e, R, s, m, args, below, meth, c, A, c0, s0, Q, C, hK⟩ := M
  rw [hK] at k ⊢
  intro hn H locs ls hW hS hL
  exact h p e R s m args below meth c A c0 s0 Q C H locs ls hW hS hL hn (fun ls' hL' => k hn H locs ls' hW hS hL')
/-- a row of two ways -/
theorem Mk.two (M : Mk g own cc nL fr lo N K) {pc1 pc2 : Nat} {st' : List AV} {P1 P2 : Prop}
    (h : ∀ (p : Program) (e : Env) (R : Room) (s : State) (m : MethodId) (args : Array Value) (below : List Frame) (meth : Method) (c : Code) (A : Nat → Prop) (c0 s0 : Nat) (Q : State → Prop), Ctx g own cc nL fr lo N p R s m args meth c A c0 s0 → ∀ (H : Heap) (locs : List Loc) (ls : Array Slot),
      (P1 → W p g.1 e R s m args below meth c H locs (c0 + n) (s0 + 6 * n) Q (F0 m pc1 ls (st'.map (cv g)))) → (P2 → W p g.1 e R s m args below meth c H locs (c0 + n) (s0 + 6 * n) Q (F0 m pc2 ls (st'.map (cv g)))) → W p g.1 e R s m args below meth c H locs (c0 + n) (s0 + 6 * n) Q (F0 m pc ls (st.map (cv g))))
    (k1 : P1 → K n pc1 L st' S) (k2 : P2 → K n pc2 L st' S) : K n pc L st S := by
  obtain ⟨p, e, R, s, m, args, below, meth, c, A, c0, s0, Q, C, hK⟩ := M
  have k1' : P1 → Wk g nL N p e R s m args below meth c A c0 s0 Q n pc1 L st' S := fun q => (hK _ _ _ _ _).mp (k1 q)
  have k2' : P2 → Wk g nL N p e R s m args below meth c A c0 s0 Q n pc2 L st' S := fun q => (hK _ _ _ _ _).mp (k2 q)
  rw [hK]
  intro hn H locs ls hW hS hL
  exact h p e R s m args below meth c A c0 s0 Q C H locs ls (fun q => k1' q hn H locs ls hW hS hL) (fun q => k2' q hn H locs ls hW hS hL)
def stOK (L : List (Option AV)) (n : Nat) : Bool := match n with
  | 0 => true
  | j + 1 => match L[j]? with
    | some (some (.inr (.inl _))) => false
    | _ => true
theorem cv_cat (g : Gl) (v : AV) (h : (cv g v).category = 2) : ∃ x, v = vL x := by
  rcases v with x | x | q | a <;> first | exact ⟨x, rfl⟩ | (exfalso; revert h; simp [cv, Value.category])
def lvl (g : Gl) (L : List (Option AV)) : List (Nat × Value) := L.zipIdx.filterMap fun q => q.1.map fun v => (q.2, cv g v)
theorem lvl_mem {g : Gl} {L : List (Option AV)} {j : Nat} {x : Value} : (j, x) ∈ lvl g L ↔ ∃ v, L[j]? = some (some v) ∧ x = cv g v := by
  constructor
  · intro h
    obtain ⟨⟨o, i⟩, h1, h2⟩ := List.mem_filterMap.mp h
    have h3 := List.mk_mem_zipIdx_iff_getElem?.mp h1
    cases o with
    | none => cases h2
    | some v =>
      cases h2
      exact ⟨v, h3, rfl⟩
  · rintro ⟨v, h, rfl⟩
    exact List.mem_filterMap.mpr ⟨(some v, j), List.mk_mem_zipIdx_iff_getElem?.mpr h, rfl⟩
theorem lvs.lv {ls : Array Slot} (h : lvs g ls nL L) : lv_has ls nL (lvl g L) := ⟨h.1, h.2.1, fun q hq => by
  obtain ⟨j, x⟩ := q
  obtain ⟨v, h1, rfl⟩ := lvl_mem.mp hq
  exact h.2.2 j v h1⟩
theorem lvs.of1 {ls' : Array Slot} {i : Nat} {v : AV} (hs : stOK L i = true)
    (h : lv_has ls' nL ((i, cv g v) :: (lvl g L).filter (fun q => !(q.1 == i) && !(q.1 + 1 == i && q.2.category == 2)))) : lvs g ls' nL (L.set i (some v)) := by
  refine ⟨h.1, h.2.1, fun j w hw => ?_⟩
  by_cases e : i = j
  · subst e
    rw [List.getElem?_set] at hw
    by_cases hl : i < L.length
    · rw [if_pos rfl, if_pos hl] at hw
      cases hw
      exact h.2.2 (i, cv g v) List.mem_cons_self
    · rw [if_pos rfl, if_neg hl] at hw
      cases hw
  · rw [List.getElem?_set_ne e] at hw
    refine h.2.2 (j, cv g w) (List.mem_cons_of_mem _ (List.mem_filter.mpr ⟨lvl_mem.mpr ⟨w, hw, rfl⟩, ?_⟩))
    have h1 : (j == i) = false := by simp [Ne.symm e]
    have h2 : (j + 1 == i && (cv g w).category == 2) = false := by
      by_cases hj : j + 1 = i
      · by_cases hc : (cv g w).category = 2
        · obtain ⟨x, rfl⟩ := cv_cat g w hc
          subst hj
          exfalso
          simp [stOK, hw] at hs
        · simp [hc]
      · simp [hj]
    simp only [h1, h2, Bool.not_false, Bool.and_self]
theorem lvs.of2 {ls' : Array Slot} {i : Nat} {v : AV} (hs : stOK L i = true)
    (h : lv_has ls' nL ((i, cv g v) :: (lvl g L).filter (fun q => !(q.1 == i) && (!(q.1 == i + 1) && !(q.1 + 1 == i && q.2.category == 2))))) : lvs g ls' nL ((L.set i (some v)).set (i + 1) none) := by
  refine ⟨h.1, h.2.1, fun j w hw => ?_⟩
  by_cases e1 : i + 1 = j
  · subst e1
    rw [List.getElem?_set] at hw
    rw [if_pos rfl] at hw
    split at hw <;> cases hw
  · rw [List.getElem?_set_ne e1] at hw
    by_cases e : i = j
    · subst e
      rw [List.getElem?_set] at hw
      by_cases hl : i < L.length
      · rw [if_pos rfl, if_pos hl] at hw
        cases hw
        exact h.2.2 (i, cv g v) List.mem_cons_self
      · rw [if_pos rfl, if_neg hl] at hw
        cases hw
    · rw [List.getElem?_set_ne e] at hw
      refine h.2.2 (j, cv g w) (List.mem_cons_of_mem _ (List.mem_filter.mpr ⟨lvl_mem.mpr ⟨w, hw, rfl⟩, ?_⟩))
      have h1 : (j == i) = false := by simp [Ne.symm e]
      have h3 : (j == i + 1) = false := by simp [Ne.symm e1]
      have h2 : (j + 1 == i && (cv g w).category == 2) = false := by
        by_cases hj : j + 1 = i
        · by_cases hc : (cv g w).category = 2
          · obtain ⟨x, rfl⟩ := cv_cat g w hc
            subst hj
            exfalso
            simp [stOK, hw] at hs
          · simp [hc]
        · simp [hj]
      simp only [h1, h2, h3, Bool.not_false, Bool.and_self]

theorem r_iconst (M : Mk g own cc nL fr lo N K) {z : Int} (d : decode cc pc = .ok (.iconst z, 1)) (kk : K n (pc + 1) L (vI z :: st) S) : K n pc L (st) S :=
  M.go (fun p e R s m args below meth c A c0 s0 Q C H locs ls hW hS hL hn k => lv_iconst C.1 C.2.1 d rfl (k ls hL)) kk
theorem r_bipush (M : Mk g own cc nL fr lo N K) {z : Int} (d : decode cc pc = .ok (.bipush z, 2)) (h : (Int8.ofInt z).toInt32 = Int32.ofInt z) (kk : K n (pc + 2) L (vI z :: st) S) : K n pc L (st) S :=
  M.go (fun p e R s m args below meth c A c0 s0 Q C H locs ls hW hS hL hn k => lv_bipush C.1 C.2.1 d h (k ls hL)) kk
theorem r_sipush (M : Mk g own cc nL fr lo N K) {z : Int} (d : decode cc pc = .ok (.sipush z, 3)) (h : (Int16.ofInt z).toInt32 = Int32.ofInt z) (kk : K n (pc + 3) L (vI z :: st) S) : K n pc L (st) S :=
  M.go (fun p e R s m args below meth c A c0 s0 Q C H locs ls hW hS hL hn k => lv_sipush C.1 C.2.1 d h (k ls hL)) kk
theorem r_ldc (M : Mk g own cc nL fr lo N K) {ix : Nat} {v : Int32} (d : decode cc pc = .ok (.ldc ix, 2)) (hw : Jvm.Cond.constant own ix v ∈ WT) {z : Int} (h : v = Int32.ofInt z) (kk : K n (pc + 2) L (vI z :: st) S) : K n pc L (st) S :=
  M.go (fun p e R s m args below meth c A c0 s0 Q C H locs ls hW hS hL hn k => lv_ldc C.1 C.2.1 C.2.2.2.1 (C.2.2.2.2.1 _ hw) d (by subst h; exact k ls hL)) kk
theorem r_lconst0 (M : Mk g own cc nL fr lo N K) (d : decode cc pc = .ok (.lconst 0, 1)) (kk : K n (pc + 1) L (vL 0 :: st) S) : K n pc L (st) S :=
  M.go (fun p e R s m args below meth c A c0 s0 Q C H locs ls hW hS hL hn k => lv_lconst C.1 C.2.1 d rfl (k ls hL)) kk
theorem r_lconst1 (M : Mk g own cc nL fr lo N K) (d : decode cc pc = .ok (.lconst 1, 1)) (kk : K n (pc + 1) L (vL 1 :: st) S) : K n pc L (st) S :=
  M.go (fun p e R s m args below meth c A c0 s0 Q C H locs ls hW hS hL hn k => lv_lconst C.1 C.2.1 d rfl (k ls hL)) kk
theorem r_iload_n (M : Mk g own cc nL fr lo N K) {j : Fin 4} {x : Int} (d : decode cc pc = .ok (.iload_n j, 1)) (hl : L[(j : Nat)]? = some (some (vI x))) (kk : K n (pc + 1) L (vI x :: st) S) : K n pc L (st) S :=
  M.go (fun p e R s m args below meth c A c0 s0 Q C H locs ls hW hS hL hn k => lv_iload_n C.1 C.2.1 d rfl (hL.2.2 _ _ hl) (k ls hL)) kk
theorem r_iload (M : Mk g own cc nL fr lo N K) {j : Nat} {x : Int} (d : decode cc pc = .ok (.iload j, 2)) (hl : L[j]? = some (some (vI x))) (kk : K n (pc + 2) L (vI x :: st) S) : K n pc L (st) S :=
  M.go (fun p e R s m args below meth c A c0 s0 Q C H locs ls hW hS hL hn k => lv_iload C.1 C.2.1 d (hL.2.2 _ _ hl) (k ls hL)) kk
theorem r_lload_n (M : Mk g own cc nL fr lo N K) {j : Fin 4} {x : Int} (d : decode cc pc = .ok (.lload_n j, 1)) (hl : L[(j : Nat)]? = some (some (vL x))) (kk : K n (pc + 1) L (vL x :: st) S) : K n pc L (st) S :=
  M.go (fun p e R s m args below meth c A c0 s0 Q C H locs ls hW hS hL hn k => lv_lload_n C.1 C.2.1 d rfl (hL.2.2 _ _ hl) (k ls hL)) kk
theorem r_lload (M : Mk g own cc nL fr lo N K) {j : Nat} {x : Int} (d : decode cc pc = .ok (.lload j, 2)) (hl : L[j]? = some (some (vL x))) (kk : K n (pc + 2) L (vL x :: st) S) : K n pc L (st) S :=
  M.go (fun p e R s m args below meth c A c0 s0 Q C H locs ls hW hS hL hn k => lv_lload C.1 C.2.1 d (hL.2.2 _ _ hl) (k ls hL)) kk
theorem r_aload_n (M : Mk g own cc nL fr lo N K) {j : Fin 4} {t i : Nat} (d : decode cc pc = .ok (.aload_n j, 1)) (hl : L[(j : Nat)]? = some (some (vR t i))) (kk : K n (pc + 1) L (vR t i :: st) S) : K n pc L (st) S :=
  M.go (fun p e R s m args below meth c A c0 s0 Q C H locs ls hW hS hL hn k => lv_aload_n C.1 C.2.1 d rfl (hL.2.2 _ _ hl) (k ls hL)) kk
theorem r_aload (M : Mk g own cc nL fr lo N K) {j : Nat} {t i : Nat} (d : decode cc pc = .ok (.aload j, 2)) (hl : L[j]? = some (some (vR t i))) (kk : K n (pc + 2) L (vR t i :: st) S) : K n pc L (st) S :=
  M.go (fun p e R s m args below meth c A c0 s0 Q C H locs ls hW hS hL hn k => lv_aload C.1 C.2.1 d (hL.2.2 _ _ hl) (k ls hL)) kk
theorem r_istore_nG (M : Mk g own cc nL fr lo N K) {j : Fin 4} {x : Int} {L1 : List (Option AV)} (d : decode cc pc = .ok (.istore_n j, 1)) (hj : (j : Nat) < nL) (hs : stOK L j = true) (eL : L.set j (some (vI x)) = L1) (kk : K n (pc + 1) L1 (st) S) : K n pc L (vI x :: st) S :=
  M.go (fun p e R s m args below meth c A c0 s0 Q C H locs ls hW hS hL hn k => lv_istore_n C.1 C.2.1 d rfl hL.lv hj rfl (fun ls' h => k ls' (by subst eL; exact lvs.of1 (v := vI x) hs h))) kk
theorem r_istoreG (M : Mk g own cc nL fr lo N K) {j : Nat} {x : Int} {L1 : List (Option AV)} (d : decode cc pc = .ok (.istore j, 2)) (hj : j < nL) (hs : stOK L j = true) (eL : L.set j (some (vI x)) = L1) (kk : K n (pc + 2) L1 (st) S) : K n pc L (vI x :: st) S :=
  M.go (fun p e R s m args below meth c A c0 s0 Q C H locs ls hW hS hL hn k => lv_istore C.1 C.2.1 d hL.lv hj rfl (fun ls' h => k ls' (by subst eL; exact lvs.of1 (v := vI x) hs h))) kk
theorem r_astore_nG (M : Mk g own cc nL fr lo N K) {j : Fin 4} {t i : Nat} {L1 : List (Option AV)} (d : decode cc pc = .ok (.astore_n j, 1)) (hj : (j : Nat) < nL) (hs : stOK L j = true) (eL : L.set j (some (vR t i)) = L1) (kk : K n (pc + 1) L1 (st) S) : K n pc L (vR t i :: st) S :=
  M.go (fun p e R s m args below meth c A c0 s0 Q C H locs ls hW hS hL hn k => lv_astore_n C.1 C.2.1 d rfl hL.lv hj rfl (fun ls' h => k ls' (by subst eL; exact lvs.of1 (v := vR t i) hs h))) kk
theorem r_astoreG (M : Mk g own cc nL fr lo N K) {j : Nat} {t i : Nat} {L1 : List (Option AV)} (d : decode cc pc = .ok (.astore j, 2)) (hj : j < nL) (hs : stOK L j = true) (eL : L.set j (some (vR t i)) = L1) (kk : K n (pc + 2) L1 (st) S) : K n pc L (vR t i :: st) S :=
  M.go (fun p e R s m args below meth c A c0 s0 Q C H locs ls hW hS hL hn k => lv_astore C.1 C.2.1 d hL.lv hj rfl (fun ls' h => k ls' (by subst eL; exact lvs.of1 (v := vR t i) hs h))) kk
theorem r_xstore_nG (M : Mk g own cc nL fr lo N K) {j : Fin 4} {x : Nat} {L1 : List (Option AV)} (d : decode cc pc = .ok (.astore_n j, 1)) (hj : (j : Nat) < nL) (hs : stOK L j = true) (eL : L.set j (some (vX x)) = L1) (kk : K n (pc + 1) L1 (st) S) : K n pc L (vX x :: st) S :=
  M.go (fun p e R s m args below meth c A c0 s0 Q C H locs ls hW hS hL hn k => lv_astore_n C.1 C.2.1 d rfl hL.lv hj rfl (fun ls' h => k ls' (by subst eL; exact lvs.of1 (v := vX x) hs h))) kk
theorem r_xstoreG (M : Mk g own cc nL fr lo N K) {j : Nat} {x : Nat} {L1 : List (Option AV)} (d : decode cc pc = .ok (.astore j, 2)) (hj : j < nL) (hs : stOK L j = true) (eL : L.set j (some (vX x)) = L1) (kk : K n (pc + 2) L1 (st) S) : K n pc L (vX x :: st) S :=
  M.go (fun p e R s m args below meth c A c0 s0 Q C H locs ls hW hS hL hn k => lv_astore C.1 C.2.1 d hL.lv hj rfl (fun ls' h => k ls' (by subst eL; exact lvs.of1 (v := vX x) hs h))) kk
theorem r_lstore_nG (M : Mk g own cc nL fr lo N K) {j : Fin 4} {x : Int} {L1 : List (Option AV)} (d : decode cc pc = .ok (.lstore_n j, 1)) (hj : (j : Nat) + 1 < nL) (hs : stOK L j = true) (eL : (L.set j (some (vL x))).set (j + 1) none = L1) (kk : K n (pc + 1) L1 (st) S) : K n pc L (vL x :: st) S :=
  M.go (fun p e R s m args below meth c A c0 s0 Q C H locs ls hW hS hL hn k => lv_lstore_n C.1 C.2.1 d rfl hL.lv hj rfl (fun ls' h => k ls' (by subst eL; exact lvs.of2 (v := vL x) hs h))) kk
theorem r_lstoreG (M : Mk g own cc nL fr lo N K) {j : Nat} {x : Int} {L1 : List (Option AV)} (d : decode cc pc = .ok (.lstore j, 2)) (hj : j + 1 < nL) (hs : stOK L j = true) (eL : (L.set j (some (vL x))).set (j + 1) none = L1) (kk : K n (pc + 2) L1 (st) S) : K n pc L (vL x :: st) S :=
  M.go (fun p e R s m args below meth c A c0 s0 Q C H locs ls hW hS hL hn k => lv_lstore C.1 C.2.1 d hL.lv hj rfl (fun ls' h => k ls' (by subst eL; exact lvs.of2 (v := vL x) hs h))) kk
theorem r_iincG (M : Mk g own cc nL fr lo N K) {j : Nat} {z x y : Int} {L1 : List (Option AV)} (d : decode cc pc = .ok (.iinc j z, 3)) (hl : L[j]? = some (some (vI x))) (hy : x + z = y) (hj : j < nL) (hs : stOK L j = true) (eL : L.set j (some (vI y)) = L1) (kk : K n (pc + 3) L1 (st) S) : K n pc L (st) S :=
  M.go (fun p e R s m args below meth c A c0 s0 Q C H locs ls hW hS hL hn k => (by
    obtain ⟨q, hq⟩ := List.getElem?_of_mem (lvl_mem.mpr ⟨_, hl, rfl⟩ : (j, cv g (vI x)) ∈ lvl g L)
    exact lv_iinc (v := Int32.ofInt y) C.1 C.2.1 d hL.lv hq (by rw [← hy, Int32.ofInt_add]) hj rfl (fun ls' h => k ls' (by subst eL; exact lvs.of1 (v := vI y) hs h)))) kk
theorem r_iadd (M : Mk g own cc nL fr lo N K) {a b : Int} (d : decode cc pc = .ok (.iadd, 1)) (kk : K n (pc + 1) L (vI (a + b) :: st) S) : K n pc L (vI b :: vI a :: st) S :=
  M.go (fun p e R s m args below meth c A c0 s0 Q C H locs ls hW hS hL hn k => lv_iadd C.1 C.2.1 d (by have q := k ls hL; simp only [List.map_cons, cv, Int32.ofInt_add] at q; exact q)) kk
theorem r_isub (M : Mk g own cc nL fr lo N K) {a b : Int} (d : decode cc pc = .ok (.isub, 1)) (kk : K n (pc + 1) L (vI (a - b) :: st) S) : K n pc L (vI b :: vI a :: st) S :=
  M.go (fun p e R s m args below meth c A c0 s0 Q C H locs ls hW hS hL hn k => lv_isub C.1 C.2.1 d (by have q := k ls hL; simp only [List.map_cons, cv, Int32.ofInt_sub] at q; exact q)) kk
theorem r_imul (M : Mk g own cc nL fr lo N K) {a b : Int} (d : decode cc pc = .ok (.imul, 1)) (kk : K n (pc + 1) L (vI (a * b) :: st) S) : K n pc L (vI b :: vI a :: st) S :=
  M.go (fun p e R s m args below meth c A c0 s0 Q C H locs ls hW hS hL hn k => lv_imul C.1 C.2.1 d (by have q := k ls hL; simp only [List.map_cons, cv, Int32.ofInt_mul] at q; exact q)) kk
theorem r_ladd (M : Mk g own cc nL fr lo N K) {a b : Int} (d : decode cc pc = .ok (.ladd, 1)) (kk : K n (pc + 1) L (vL (a + b) :: st) S) : K n pc L (vL b :: vL a :: st) S :=
  M.go (fun p e R s m args below meth c A c0 s0 Q C H locs ls hW hS hL hn k => lv_ladd C.1 C.2.1 d (by have q := k ls hL; simp only [List.map_cons, cv, Int64.ofInt_add] at q; exact q)) kk
theorem r_lsub (M : Mk g own cc nL fr lo N K) {a b : Int} (d : decode cc pc = .ok (.lsub, 1)) (kk : K n (pc + 1) L (vL (a - b) :: st) S) : K n pc L (vL b :: vL a :: st) S :=
  M.go (fun p e R s m args below meth c A c0 s0 Q C H locs ls hW hS hL hn k => lv_lsub C.1 C.2.1 d (by have q := k ls hL; simp only [List.map_cons, cv, Int64.ofInt_sub] at q; exact q)) kk
theorem r_lmul (M : Mk g own cc nL fr lo N K) {a b : Int} (d : decode cc pc = .ok (.lmul, 1)) (kk : K n (pc + 1) L (vL (a * b) :: st) S) : K n pc L (vL b :: vL a :: st) S :=
  M.go (fun p e R s m args below meth c A c0 s0 Q C H locs ls hW hS hL hn k => lv_lmul C.1 C.2.1 d (by have q := k ls hL; simp only [List.map_cons, cv, Int64.ofInt_mul] at q; exact q)) kk
theorem r_ineg (M : Mk g own cc nL fr lo N K) {a : Int} (d : decode cc pc = .ok (.ineg, 1)) (kk : K n (pc + 1) L (vI (-a) :: st) S) : K n pc L (vI a :: st) S :=
  M.go (fun p e R s m args below meth c A c0 s0 Q C H locs ls hW hS hL hn k => lv_ineg C.1 C.2.1 d (by have q := k ls hL; simp only [List.map_cons, cv, Int32.ofInt_neg] at q; exact q)) kk
theorem r_idiv (M : Mk g own cc nL fr lo N K) {a b : Int} (d : decode cc pc = .ok (.idiv, 1)) (h : (0 ≤ a ∧ a ≤ 2147483647) ∧ 0 < b ∧ b ≤ 2147483647) (kk : K n (pc + 1) L (vI (a / b) :: st) S) : K n pc L (vI b :: vI a :: st) S :=
  M.go (fun p e R s m args below meth c A c0 s0 Q C H locs ls hW hS hL hn k => lv_idiv C.1 C.2.1 d (divI_ne h) (by rw [divI h]; exact k ls hL)) kk
theorem r_ldiv (M : Mk g own cc nL fr lo N K) {a b : Int} (d : decode cc pc = .ok (.ldiv, 1)) (h : (0 ≤ a ∧ a ≤ 9223372036854775807) ∧ 0 < b ∧ b ≤ 9223372036854775807) (kk : K n (pc + 1) L (vL (a / b) :: st) S) : K n pc L (vL b :: vL a :: st) S :=
  M.go (fun p e R s m args below meth c A c0 s0 Q C H locs ls hW hS hL hn k => lv_ldiv C.1 C.2.1 d (divL_ne h) (by rw [divL h]; exact k ls hL)) kk
theorem r_i2l (M : Mk g own cc nL fr lo N K) {a : Int} (d : decode cc pc = .ok (.i2l, 1)) (h : -2147483648 ≤ a ∧ a ≤ 2147483647) (kk : K n (pc + 1) L (vL a :: st) S) : K n pc L (vI a :: st) S :=
  M.go (fun p e R s m args below meth c A c0 s0 Q C H locs ls hW hS hL hn k => lv_i2l C.1 C.2.1 d (i2lI h) (k ls hL)) kk
theorem r_l2i (M : Mk g own cc nL fr lo N K) {a : Int} (d : decode cc pc = .ok (.l2i, 1)) (kk : K n (pc + 1) L (vI a :: st) S) : K n pc L (vL a :: st) S :=
  M.go (fun p e R s m args below meth c A c0 s0 Q C H locs ls hW hS hL hn k => lv_l2i C.1 C.2.1 d (l2iI a) (k ls hL)) kk
theorem r_lcmp (M : Mk g own cc nL fr lo N K) {a b : Int} (d : decode cc pc = .ok (.lcmp, 1)) (h : (-9223372036854775808 ≤ a ∧ a ≤ 9223372036854775807) ∧ -9223372036854775808 ≤ b ∧ b ≤ 9223372036854775807) (kk : K n (pc + 1) L (vI (if b < a then 1 else if a = b then 0 else -1) :: st) S) : K n pc L (vL b :: vL a :: st) S :=
  M.go (fun p e R s m args below meth c A c0 s0 Q C H locs ls hW hS hL hn k => W.lcmp C.1 C.2.1 d (by rw [lcmpI h]; exact k ls hL)) kk
theorem r_dupR (M : Mk g own cc nL fr lo N K) {t i : Nat} (d : decode cc pc = .ok (.dup, 1)) (kk : K n (pc + 1) L (vR t i :: vR t i :: st) S) : K n pc L (vR t i :: st) S :=
  M.go (fun p e R s m args below meth c A c0 s0 Q C H locs ls hW hS hL hn k => lv_dup C.1 C.2.1 d rfl (k ls hL)) kk
theorem r_dupI (M : Mk g own cc nL fr lo N K) {a : Int} (d : decode cc pc = .ok (.dup, 1)) (kk : K n (pc + 1) L (vI a :: vI a :: st) S) : K n pc L (vI a :: st) S :=
  M.go (fun p e R s m args below meth c A c0 s0 Q C H locs ls hW hS hL hn k => lv_dup C.1 C.2.1 d rfl (k ls hL)) kk
theorem r_pop (M : Mk g own cc nL fr lo N K) {a : Int} (d : decode cc pc = .ok (.pop, 1)) (kk : K n (pc + 1) L (st) S) : K n pc L (vI a :: st) S :=
  M.go (fun p e R s m args below meth c A c0 s0 Q C H locs ls hW hS hL hn k => lv_pop C.1 C.2.1 d rfl (k ls hL)) kk
theorem r_dup2 (M : Mk g own cc nL fr lo N K) {a : Int} {t i : Nat} (d : decode cc pc = .ok (.dup2, 1)) (kk : K n (pc + 1) L (vI a :: vR t i :: vI a :: vR t i :: st) S) : K n pc L (vI a :: vR t i :: st) S :=
  M.go (fun p e R s m args below meth c A c0 s0 Q C H locs ls hW hS hL hn k => lv_dup2_11 C.1 C.2.1 d rfl rfl (k ls hL)) kk
theorem r_goto (M : Mk g own cc nL fr lo N K) {off : Int} {tgt : Nat} (d : decode cc pc = .ok (.goto off, 3)) (ht : (pc : Int) + off = (tgt : Int)) (kk : K n (tgt) L (st) S) : K n pc L (st) S :=
  M.go (fun p e R s m args below meth c A c0 s0 Q C H locs ls hW hS hL hn k => lv_goto C.1 C.2.1 d ht (k ls hL)) kk
theorem r_icmp_ge (M : Mk g own cc nL fr lo N K) {a b off : Int} {tgt : Nat} (d : decode cc pc = .ok (.if_icmp .ge off, 3)) (ht : (pc : Int) + off = (tgt : Int)) (h : (-2147483648 ≤ a ∧ a ≤ 2147483647) ∧ -2147483648 ≤ b ∧ b ≤ 2147483647) (k1 : b ≤ a → K n tgt L st S) (k2 : a < b → K n (pc + 3) L st S) : K n pc L (vI b :: vI a :: st) S :=
  M.two (fun p e R s m args below meth c A c0 s0 Q C H locs ls k1 k2 => lv_icmp_ge C.1 C.2.1 d ht (fun q => k1 ((ofI_le h.2 h.1).mp q)) (fun q => k2 (Int.not_le.mp (fun w => q ((ofI_le h.2 h.1).mpr w))))) k1 k2
theorem r_icmp_lt (M : Mk g own cc nL fr lo N K) {a b off : Int} {tgt : Nat} (d : decode cc pc = .ok (.if_icmp .lt off, 3)) (ht : (pc : Int) + off = (tgt : Int)) (h : (-2147483648 ≤ a ∧ a ≤ 2147483647) ∧ -2147483648 ≤ b ∧ b ≤ 2147483647) (k1 : a < b → K n tgt L st S) (k2 : b ≤ a → K n (pc + 3) L st S) : K n pc L (vI b :: vI a :: st) S :=
  M.two (fun p e R s m args below meth c A c0 s0 Q C H locs ls k1 k2 => lv_icmp_lt C.1 C.2.1 d ht (fun q => k1 ((ofI_lt h.1 h.2).mp q)) (fun q => k2 (Int.not_lt.mp (fun w => q ((ofI_lt h.1 h.2).mpr w))))) k1 k2
theorem r_icmp_le (M : Mk g own cc nL fr lo N K) {a b off : Int} {tgt : Nat} (d : decode cc pc = .ok (.if_icmp .le off, 3)) (ht : (pc : Int) + off = (tgt : Int)) (h : (-2147483648 ≤ a ∧ a ≤ 2147483647) ∧ -2147483648 ≤ b ∧ b ≤ 2147483647) (k1 : a ≤ b → K n tgt L st S) (k2 : b < a → K n (pc + 3) L st S) : K n pc L (vI b :: vI a :: st) S :=
  M.two (fun p e R s m args below meth c A c0 s0 Q C H locs ls k1 k2 => lv_icmp_le C.1 C.2.1 d ht (fun q => k1 ((ofI_le h.1 h.2).mp q)) (fun q => k2 (Int.not_le.mp (fun w => q ((ofI_le h.1 h.2).mpr w))))) k1 k2
theorem r_icmp_gt (M : Mk g own cc nL fr lo N K) {a b off : Int} {tgt : Nat} (d : decode cc pc = .ok (.if_icmp .gt off, 3)) (ht : (pc : Int) + off = (tgt : Int)) (h : (-2147483648 ≤ a ∧ a ≤ 2147483647) ∧ -2147483648 ≤ b ∧ b ≤ 2147483647) (k1 : b < a → K n tgt L st S) (k2 : a ≤ b → K n (pc + 3) L st S) : K n pc L (vI b :: vI a :: st) S :=
  M.two (fun p e R s m args below meth c A c0 s0 Q C H locs ls k1 k2 => lv_icmp_gt C.1 C.2.1 d ht (fun q => k1 ((ofI_lt h.2 h.1).mp q)) (fun q => k2 (Int.not_lt.mp (fun w => q ((ofI_lt h.2 h.1).mpr w))))) k1 k2
theorem r_icmp_eq (M : Mk g own cc nL fr lo N K) {a b off : Int} {tgt : Nat} (d : decode cc pc = .ok (.if_icmp .eq off, 3)) (ht : (pc : Int) + off = (tgt : Int)) (h : (-2147483648 ≤ a ∧ a ≤ 2147483647) ∧ -2147483648 ≤ b ∧ b ≤ 2147483647) (k1 : a = b → K n tgt L st S) (k2 : a ≠ b → K n (pc + 3) L st S) : K n pc L (vI b :: vI a :: st) S :=
  M.two (fun p e R s m args below meth c A c0 s0 Q C H locs ls k1 k2 => lv_icmp_eq C.1 C.2.1 d ht (fun q => k1 ((ofI_eq h.1 h.2).mp q)) (fun q => k2 (fun w => q ((ofI_eq h.1 h.2).mpr w)))) k1 k2
theorem r_icmp_ne (M : Mk g own cc nL fr lo N K) {a b off : Int} {tgt : Nat} (d : decode cc pc = .ok (.if_icmp .ne off, 3)) (ht : (pc : Int) + off = (tgt : Int)) (h : (-2147483648 ≤ a ∧ a ≤ 2147483647) ∧ -2147483648 ≤ b ∧ b ≤ 2147483647) (k1 : a ≠ b → K n tgt L st S) (k2 : a = b → K n (pc + 3) L st S) : K n pc L (vI b :: vI a :: st) S :=
  M.two (fun p e R s m args below meth c A c0 s0 Q C H locs ls k1 k2 => lv_icmp_ne C.1 C.2.1 d ht (fun q => k1 (fun w => q ((ofI_eq h.1 h.2).mpr w))) (fun q => k2 (Classical.byContradiction fun w => w ((ofI_eq h.1 h.2).mp (by first | exact q | exact Classical.not_not.mp q))))) k1 k2
theorem r_if_ge (M : Mk g own cc nL fr lo N K) {a off : Int} {tgt : Nat} (d : decode cc pc = .ok (.ifCond .ge off, 3)) (ht : (pc : Int) + off = (tgt : Int)) (h : -2147483648 ≤ a ∧ a ≤ 2147483647) (k1 : 0 ≤ a → K n tgt L st S) (k2 : a < 0 → K n (pc + 3) L st S) : K n pc L (vI a :: st) S :=
  M.two (fun p e R s m args below meth c A c0 s0 Q C H locs ls k1 k2 => lv_if_ge C.1 C.2.1 d ht (fun q => k1 ((ofI_le (⟨by omega, by omega⟩ : (-2147483648 : Int) ≤ 0 ∧ (0 : Int) ≤ 2147483647) h).mp q)) (fun q => k2 (Int.not_le.mp (fun w => q ((ofI_le (⟨by omega, by omega⟩ : (-2147483648 : Int) ≤ 0 ∧ (0 : Int) ≤ 2147483647) h).mpr w))))) k1 k2
theorem r_if_lt (M : Mk g own cc nL fr lo N K) {a off : Int} {tgt : Nat} (d : decode cc pc = .ok (.ifCond .lt off, 3)) (ht : (pc : Int) + off = (tgt : Int)) (h : -2147483648 ≤ a ∧ a ≤ 2147483647) (k1 : a < 0 → K n tgt L st S) (k2 : 0 ≤ a → K n (pc + 3) L st S) : K n pc L (vI a :: st) S :=
  M.two (fun p e R s m args below meth c A c0 s0 Q C H locs ls k1 k2 => lv_if_lt C.1 C.2.1 d ht (fun q => k1 ((ofI_lt h (⟨by omega, by omega⟩ : (-2147483648 : Int) ≤ 0 ∧ (0 : Int) ≤ 2147483647)).mp q)) (fun q => k2 (Int.not_lt.mp (fun w => q ((ofI_lt h (⟨by omega, by omega⟩ : (-2147483648 : Int) ≤ 0 ∧ (0 : Int) ≤ 2147483647)).mpr w))))) k1 k2
theorem r_if_le (M : Mk g own cc nL fr lo N K) {a off : Int} {tgt : Nat} (d : decode cc pc = .ok (.ifCond .le off, 3)) (ht : (pc : Int) + off = (tgt : Int)) (h : -2147483648 ≤ a ∧ a ≤ 2147483647) (k1 : a ≤ 0 → K n tgt L st S) (k2 : 0 < a → K n (pc + 3) L st S) : K n pc L (vI a :: st) S :=
  M.two (fun p e R s m args below meth c A c0 s0 Q C H locs ls k1 k2 => lv_if_le C.1 C.2.1 d ht (fun q => k1 ((ofI_le h (⟨by omega, by omega⟩ : (-2147483648 : Int) ≤ 0 ∧ (0 : Int) ≤ 2147483647)).mp q)) (fun q => k2 (Int.not_le.mp (fun w => q ((ofI_le h (⟨by omega, by omega⟩ : (-2147483648 : Int) ≤ 0 ∧ (0 : Int) ≤ 2147483647)).mpr w))))) k1 k2
theorem r_if_gt (M : Mk g own cc nL fr lo N K) {a off : Int} {tgt : Nat} (d : decode cc pc = .ok (.ifCond .gt off, 3)) (ht : (pc : Int) + off = (tgt : Int)) (h : -2147483648 ≤ a ∧ a ≤ 2147483647) (k1 : 0 < a → K n tgt L st S) (k2 : a ≤ 0 → K n (pc + 3) L st S) : K n pc L (vI a :: st) S :=
  M.two (fun p e R s m args below meth c A c0 s0 Q C H locs ls k1 k2 => lv_if_gt C.1 C.2.1 d ht (fun q => k1 ((ofI_lt (⟨by omega, by omega⟩ : (-2147483648 : Int) ≤ 0 ∧ (0 : Int) ≤ 2147483647) h).mp q)) (fun q => k2 (Int.not_lt.mp (fun w => q ((ofI_lt (⟨by omega, by omega⟩ : (-2147483648 : Int) ≤ 0 ∧ (0 : Int) ≤ 2147483647) h).mpr w))))) k1 k2
theorem r_if_eq (M : Mk g own cc nL fr lo N K) {a off : Int} {tgt : Nat} (d : decode cc pc = .ok (.ifCond .eq off, 3)) (ht : (pc : Int) + off = (tgt : Int)) (h : -2147483648 ≤ a ∧ a ≤ 2147483647) (k1 : a = 0 → K n tgt L st S) (k2 : a ≠ 0 → K n (pc + 3) L st S) : K n pc L (vI a :: st) S :=
  M.two (fun p e R s m args below meth c A c0 s0 Q C H locs ls k1 k2 => lv_if_eq C.1 C.2.1 d ht (fun q => k1 ((ofI_eq h (⟨by omega, by omega⟩ : (-2147483648 : Int) ≤ 0 ∧ (0 : Int) ≤ 2147483647)).mp q)) (fun q => k2 (fun w => q ((ofI_eq h (⟨by omega, by omega⟩ : (-2147483648 : Int) ≤ 0 ∧ (0 : Int) ≤ 2147483647)).mpr w)))) k1 k2
theorem r_if_ne (M : Mk g own cc nL fr lo N K) {a off : Int} {tgt : Nat} (d : decode cc pc = .ok (.ifCond .ne off, 3)) (ht : (pc : Int) + off = (tgt : Int)) (h : -2147483648 ≤ a ∧ a ≤ 2147483647) (k1 : a ≠ 0 → K n tgt L st S) (k2 : a = 0 → K n (pc + 3) L st S) : K n pc L (vI a :: st) S :=
  M.two (fun p e R s m args below meth c A c0 s0 Q C H locs ls k1 k2 => lv_if_ne C.1 C.2.1 d ht (fun q => k1 (fun w => q ((ofI_eq h (⟨by omega, by omega⟩ : (-2147483648 : Int) ≤ 0 ∧ (0 : Int) ≤ 2147483647)).mpr w))) (fun q => k2 ((ofI_eq h (⟨by omega, by omega⟩ : (-2147483648 : Int) ≤ 0 ∧ (0 : Int) ≤ 2147483647)).mp q))) k1 k2
theorem r_istore_0 (M : Mk g own cc nL fr lo N K) {w : Option AV} {T : List (Option AV)} {x : Int} (d : decode cc pc = .ok (.istore_n 0, 1)) (hj : 0 < nL) (hs : stOK (w :: T) 0 = true) (kk : K n (pc + 1) (some (vI x) :: T) st S) : K n pc (w :: T) (vI x :: st) S := r_istore_nG M d hj hs rfl kk
theorem r_astore_0 (M : Mk g own cc nL fr lo N K) {w : Option AV} {T : List (Option AV)} {t i : Nat} (d : decode cc pc = .ok (.astore_n 0, 1)) (hj : 0 < nL) (hs : stOK (w :: T) 0 = true) (kk : K n (pc + 1) (some (vR t i) :: T) st S) : K n pc (w :: T) (vR t i :: st) S := r_astore_nG M d hj hs rfl kk
theorem r_xstore_0 (M : Mk g own cc nL fr lo N K) {w : Option AV} {T : List (Option AV)} {x : Nat} (d : decode cc pc = .ok (.astore_n 0, 1)) (hj : 0 < nL) (hs : stOK (w :: T) 0 = true) (kk : K n (pc + 1) (some (vX x) :: T) st S) : K n pc (w :: T) (vX x :: st) S := r_xstore_nG M d hj hs rfl kk
theorem r_lstore_0 (M : Mk g own cc nL fr lo N K) {w : Option AV} {w2 : Option AV} {T : List (Option AV)} {x : Int} (d : decode cc pc = .ok (.lstore_n 0, 1)) (hj : 0 + 1 < nL) (hs : stOK (w :: w2 :: T) 0 = true) (kk : K n (pc + 1) (some (vL x) :: none :: T) st S) : K n pc (w :: w2 :: T) (vL x :: st) S := r_lstore_nG M d hj hs rfl kk
theorem r_iinc_0 (M : Mk g own cc nL fr lo N K) {T : List (Option AV)} {x z : Int} (y : Int) (d : decode cc pc = .ok (.iinc 0 z, 3)) (hy : x + z = y) (hj : 0 < nL) (hs : stOK (some (vI x) :: T) 0 = true) (kk : K n (pc + 3) (some (vI y) :: T) st S) : K n pc (some (vI x) :: T) st S := r_iincG M d rfl hy hj hs rfl kk
theorem r_istore_1 (M : Mk g own cc nL fr lo N K) {a0 w : Option AV} {T : List (Option AV)} {x : Int} (d : decode cc pc = .ok (.istore_n 1, 1)) (hj : 1 < nL) (hs : stOK (a0 :: w :: T) 1 = true) (kk : K n (pc + 1) (a0 :: some (vI x) :: T) st S) : K n pc (a0 :: w :: T) (vI x :: st) S := r_istore_nG M d hj hs rfl kk
theorem r_astore_1 (M : Mk g own cc nL fr lo N K) {a0 w : Option AV} {T : List (Option AV)} {t i : Nat} (d : decode cc pc = .ok (.astore_n 1, 1)) (hj : 1 < nL) (hs : stOK (a0 :: w :: T) 1 = true) (kk : K n (pc + 1) (a0 :: some (vR t i) :: T) st S) : K n pc (a0 :: w :: T) (vR t i :: st) S := r_astore_nG M d hj hs rfl kk
theorem r_xstore_1 (M : Mk g own cc nL fr lo N K) {a0 w : Option AV} {T : List (Option AV)} {x : Nat} (d : decode cc pc = .ok (.astore_n 1, 1)) (hj : 1 < nL) (hs : stOK (a0 :: w :: T) 1 = true) (kk : K n (pc + 1) (a0 :: some (vX x) :: T) st S) : K n pc (a0 :: w :: T) (vX x :: st) S := r_xstore_nG M d hj hs rfl kk
theorem r_lstore_1 (M : Mk g own cc nL fr lo N K) {a0 w : Option AV} {w2 : Option AV} {T : List (Option AV)} {x : Int} (d : decode cc pc = .ok (.lstore_n 1, 1)) (hj : 1 + 1 < nL) (hs : stOK (a0 :: w :: w2 :: T) 1 = true) (kk : K n (pc + 1) (a0 :: some (vL x) :: none :: T) st S) : K n pc (a0 :: w :: w2 :: T) (vL x :: st) S := r_lstore_nG M d hj hs rfl kk
theorem r_iinc_1 (M : Mk g own cc nL fr lo N K) {a0 : Option AV} {T : List (Option AV)} {x z : Int} (y : Int) (d : decode cc pc = .ok (.iinc 1 z, 3)) (hy : x + z = y) (hj : 1 < nL) (hs : stOK (a0 :: some (vI x) :: T) 1 = true) (kk : K n (pc + 3) (a0 :: some (vI y) :: T) st S) : K n pc (a0 :: some (vI x) :: T) st S := r_iincG M d rfl hy hj hs rfl kk
theorem r_istore_2 (M : Mk g own cc nL fr lo N K) {a0 a1 w : Option AV} {T : List (Option AV)} {x : Int} (d : decode cc pc = .ok (.istore_n 2, 1)) (hj : 2 < nL) (hs : stOK (a0 :: a1 :: w :: T) 2 = true) (kk : K n (pc + 1) (a0 :: a1 :: some (vI x) :: T) st S) : K n pc (a0 :: a1 :: w :: T) (vI x :: st) S := r_istore_nG M d hj hs rfl kk
theorem r_astore_2 (M : Mk g own cc nL fr lo N K) {a0 a1 w : Option AV} {T : List (Option AV)} {t i : Nat} (d : decode cc pc = .ok (.astore_n 2, 1)) (hj : 2 < nL) (hs : stOK (a0 :: a1 :: w :: T) 2 = true) (kk : K n (pc + 1) (a0 :: a1 :: some (vR t i) :: T) st S) : K n pc (a0 :: a1 :: w :: T) (vR t i :: st) S := r_astore_nG M d hj hs rfl kk
theorem r_xstore_2 (M : Mk g own cc nL fr lo N K) {a0 a1 w : Option AV} {T : List (Option AV)} {x : Nat} (d : decode cc pc = .ok (.astore_n 2, 1)) (hj : 2 < nL) (hs : stOK (a0 :: a1 :: w :: T) 2 = true) (kk : K n (pc + 1) (a0 :: a1 :: some (vX x) :: T) st S) : K n pc (a0 :: a1 :: w :: T) (vX x :: st) S := r_xstore_nG M d hj hs rfl kk
theorem r_lstore_2 (M : Mk g own cc nL fr lo N K) {a0 a1 w : Option AV} {w2 : Option AV} {T : List (Option AV)} {x : Int} (d : decode cc pc = .ok (.lstore_n 2, 1)) (hj : 2 + 1 < nL) (hs : stOK (a0 :: a1 :: w :: w2 :: T) 2 = true) (kk : K n (pc + 1) (a0 :: a1 :: some (vL x) :: none :: T) st S) : K n pc (a0 :: a1 :: w :: w2 :: T) (vL x :: st) S := r_lstore_nG M d hj hs rfl kk
theorem r_iinc_2 (M : Mk g own cc nL fr lo N K) {a0 a1 : Option AV} {T : List (Option AV)} {x z : Int} (y : Int) (d : decode cc pc = .ok (.iinc 2 z, 3)) (hy : x + z = y) (hj : 2 < nL) (hs : stOK (a0 :: a1 :: some (vI x) :: T) 2 = true) (kk : K n (pc + 3) (a0 :: a1 :: some (vI y) :: T) st S) : K n pc (a0 :: a1 :: some (vI x) :: T) st S := r_iincG M d rfl hy hj hs rfl kk
theorem r_istore_3 (M : Mk g own cc nL fr lo N K) {a0 a1 a2 w : Option AV} {T : List (Option AV)} {x : Int} (d : decode cc pc = .ok (.istore_n 3, 1)) (hj : 3 < nL) (hs : stOK (a0 :: a1 :: a2 :: w :: T) 3 = true) (kk : K n (pc + 1) (a0 :: a1 :: a2 :: some (vI x) :: T) st S) : K n pc (a0 :: a1 :: a2 :: w :: T) (vI x :: st) S := r_istore_nG M d hj hs rfl kk
theorem r_astore_3 (M : Mk g own cc nL fr lo N K) {a0 a1 a2 w : Option AV} {T : List (Option AV)} {t i : Nat} (d : decode cc pc = .ok (.astore_n 3, 1)) (hj : 3 < nL) (hs : stOK (a0 :: a1 :: a2 :: w :: T) 3 = true) (kk : K n (pc + 1) (a0 :: a1 :: a2 :: some (vR t i) :: T) st S) : K n pc (a0 :: a1 :: a2 :: w :: T) (vR t i :: st) S := r_astore_nG M d hj hs rfl kk
theorem r_xstore_3 (M : Mk g own cc nL fr lo N K) {a0 a1 a2 w : Option AV} {T : List (Option AV)} {x : Nat} (d : decode cc pc = .ok (.astore_n 3, 1)) (hj : 3 < nL) (hs : stOK (a0 :: a1 :: a2 :: w :: T) 3 = true) (kk : K n (pc + 1) (a0 :: a1 :: a2 :: some (vX x) :: T) st S) : K n pc (a0 :: a1 :: a2 :: w :: T) (vX x :: st) S := r_xstore_nG M d hj hs rfl kk
theorem r_lstore_3 (M : Mk g own cc nL fr lo N K) {a0 a1 a2 w : Option AV} {w2 : Option AV} {T : List (Option AV)} {x : Int} (d : decode cc pc = .ok (.lstore_n 3, 1)) (hj : 3 + 1 < nL) (hs : stOK (a0 :: a1 :: a2 :: w :: w2 :: T) 3 = true) (kk : K n (pc + 1) (a0 :: a1 :: a2 :: some (vL x) :: none :: T) st S) : K n pc (a0 :: a1 :: a2 :: w :: w2 :: T) (vL x :: st) S := r_lstore_nG M d hj hs rfl kk
theorem r_iinc_3 (M : Mk g own cc nL fr lo N K) {a0 a1 a2 : Option AV} {T : List (Option AV)} {x z : Int} (y : Int) (d : decode cc pc = .ok (.iinc 3 z, 3)) (hy : x + z = y) (hj : 3 < nL) (hs : stOK (a0 :: a1 :: a2 :: some (vI x) :: T) 3 = true) (kk : K n (pc + 3) (a0 :: a1 :: a2 :: some (vI y) :: T) st S) : K n pc (a0 :: a1 :: a2 :: some (vI x) :: T) st S := r_iincG M d rfl hy hj hs rfl kk
theorem r_istore_4 (M : Mk g own cc nL fr lo N K) {a0 a1 a2 a3 w : Option AV} {T : List (Option AV)} {x : Int} (d : decode cc pc = .ok (.istore 4, 2)) (hj : 4 < nL) (hs : stOK (a0 :: a1 :: a2 :: a3 :: w :: T) 4 = true) (kk : K n (pc + 2) (a0 :: a1 :: a2 :: a3 :: some (vI x) :: T) st S) : K n pc (a0 :: a1 :: a2 :: a3 :: w :: T) (vI x :: st) S := r_istoreG M d hj hs rfl kk
theorem r_astore_4 (M : Mk g own cc nL fr lo N K) {a0 a1 a2 a3 w : Option AV} {T : List (Option AV)} {t i : Nat} (d : decode cc pc = .ok (.astore 4, 2)) (hj : 4 < nL) (hs : stOK (a0 :: a1 :: a2 :: a3 :: w :: T) 4 = true) (kk : K n (pc + 2) (a0 :: a1 :: a2 :: a3 :: some (vR t i) :: T) st S) : K n pc (a0 :: a1 :: a2 :: a3 :: w :: T) (vR t i :: st) S := r_astoreG M d hj hs rfl kk
theorem r_xstore_4 (M : Mk g own cc nL fr lo N K) {a0 a1 a2 a3 w : Option AV} {T : List (Option AV)} {x : Nat} (d : decode cc pc = .ok (.astore 4, 2)) (hj : 4 < nL) (hs : stOK (a0 :: a1 :: a2 :: a3 :: w :: T) 4 = true) (kk : K n (pc + 2) (a0 :: a1 :: a2 :: a3 :: some (vX x) :: T) st S) : K n pc (a0 :: a1 :: a2 :: a3 :: w :: T) (vX x :: st) S := r_xstoreG M d hj hs rfl kk
theorem r_lstore_4 (M : Mk g own cc nL fr lo N K) {a0 a1 a2 a3 w : Option AV} {w2 : Option AV} {T : List (Option AV)} {x : Int} (d : decode cc pc = .ok (.lstore 4, 2)) (hj : 4 + 1 < nL) (hs : stOK (a0 :: a1 :: a2 :: a3 :: w :: w2 :: T) 4 = true) (kk : K n (pc + 2) (a0 :: a1 :: a2 :: a3 :: some (vL x) :: none :: T) st S) : K n pc (a0 :: a1 :: a2 :: a3 :: w :: w2 :: T) (vL x :: st) S := r_lstoreG M d hj hs rfl kk
theorem r_iinc_4 (M : Mk g own cc nL fr lo N K) {a0 a1 a2 a3 : Option AV} {T : List (Option AV)} {x z : Int} (y : Int) (d : decode cc pc = .ok (.iinc 4 z, 3)) (hy : x + z = y) (hj : 4 < nL) (hs : stOK (a0 :: a1 :: a2 :: a3 :: some (vI x) :: T) 4 = true) (kk : K n (pc + 3) (a0 :: a1 :: a2 :: a3 :: some (vI y) :: T) st S) : K n pc (a0 :: a1 :: a2 :: a3 :: some (vI x) :: T) st S := r_iincG M d rfl hy hj hs rfl kk
theorem r_istore_5 (M : Mk g own cc nL fr lo N K) {a0 a1 a2 a3 a4 w : Option AV} {T : List (Option AV)} {x : Int} (d : decode cc pc = .ok (.istore 5, 2)) (hj : 5 < nL) (hs : stOK (a0 :: a1 :: a2 :: a3 :: a4 :: w :: T) 5 = true) (kk : K n (pc + 2) (a0 :: a1 :: a2 :: a3 :: a4 :: some (vI x) :: T) st S) : K n pc (a0 :: a1 :: a2 :: a3 :: a4 :: w :: T) (vI x :: st) S := r_istoreG M d hj hs rfl kk
theorem r_astore_5 (M : Mk g own cc nL fr lo N K) {a0 a1 a2 a3 a4 w : Option AV} {T : List (Option AV)} {t i : Nat} (d : decode cc pc = .ok (.astore 5, 2)) (hj : 5 < nL) (hs : stOK (a0 :: a1 :: a2 :: a3 :: a4 :: w :: T) 5 = true) (kk : K n (pc + 2) (a0 :: a1 :: a2 :: a3 :: a4 :: some (vR t i) :: T) st S) : K n pc (a0 :: a1 :: a2 :: a3 :: a4 :: w :: T) (vR t i :: st) S := r_astoreG M d hj hs rfl kk
theorem r_xstore_5 (M : Mk g own cc nL fr lo N K) {a0 a1 a2 a3 a4 w : Option AV} {T : List (Option AV)} {x : Nat} (d : decode cc pc = .ok (.astore 5, 2)) (hj : 5 < nL) (hs : stOK (a0 :: a1 :: a2 :: a3 :: a4 :: w :: T) 5 = true) (kk : K n (pc + 2) (a0 :: a1 :: a2 :: a3 :: a4 :: some (vX x) :: T) st S) : K n pc (a0 :: a1 :: a2 :: a3 :: a4 :: w :: T) (vX x :: st) S := r_xstoreG M d hj hs rfl kk
theorem r_lstore_5 (M : Mk g own cc nL fr lo N K) {a0 a1 a2 a3 a4 w : Option AV} {w2 : Option AV} {T : List (Option AV)} {x : Int} (d : decode cc pc = .ok (.lstore 5, 2)) (hj : 5 + 1 < nL) (hs : stOK (a0 :: a1 :: a2 :: a3 :: a4 :: w :: w2 :: T) 5 = true) (kk : K n (pc + 2) (a0 :: a1 :: a2 :: a3 :: a4 :: some (vL x) :: none :: T) st S) : K n pc (a0 :: a1 :: a2 :: a3 :: a4 :: w :: w2 :: T) (vL x :: st) S := r_lstoreG M d hj hs rfl kk
theorem r_iinc_5 (M : Mk g own cc nL fr lo N K) {a0 a1 a2 a3 a4 : Option AV} {T : List (Option AV)} {x z : Int} (y : Int) (d : decode cc pc = .ok (.iinc 5 z, 3)) (hy : x + z = y) (hj : 5 < nL) (hs : stOK (a0 :: a1 :: a2 :: a3 :: a4 :: some (vI x) :: T) 5 = true) (kk : K n (pc + 3) (a0 :: a1 :: a2 :: a3 :: a4 :: some (vI y) :: T) st S) : K n pc (a0 :: a1 :: a2 :: a3 :: a4 :: some (vI x) :: T) st S := r_iincG M d rfl hy hj hs rfl kk
theorem r_istore_6 (M : Mk g own cc nL fr lo N K) {a0 a1 a2 a3 a4 a5 w : Option AV} {T : List (Option AV)} {x : Int} (d : decode cc pc = .ok (.istore 6, 2)) (hj : 6 < nL) (hs : stOK (a0 :: a1 :: a2 :: a3 :: a4 :: a5 :: w :: T) 6 = true) (kk : K n (pc + 2) (a0 :: a1 :: a2 :: a3 :: a4 :: a5 :: some (vI x) :: T) st S) : K n pc (a0 :: a1 :: a2 :: a3 :: a4 :: a5 :: w :: T) (vI x :: st) S := r_istoreG M d hj hs rfl kk
theorem r_astore_6 (M : Mk g own cc nL fr lo N K) {a0 a1 a2 a3 a4 a5 w : Option AV} {T : List (Option AV)} {t i : Nat} (d : decode cc pc = .ok (.astore 6, 2)) (hj : 6 < nL) (hs : stOK (a0 :: a1 :: a2 :: a3 :: a4 :: a5 :: w :: T) 6 = true) (kk : K n (pc + 2) (a0 :: a1 :: a2 :: a3 :: a4 :: a5 :: some (vR t i) :: T) st S) : K n pc (a0 :: a1 :: a2 :: a3 :: a4 :: a5 :: w :: T) (vR t i :: st) S := r_astoreG M d hj hs rfl kk
theorem r_xstore_6 (M : Mk g own cc nL fr lo N K) {a0 a1 a2 a3 a4 a5 w : Option AV} {T : List (Option AV)} {x : Nat} (d : decode cc pc = .ok (.astore 6, 2)) (hj : 6 < nL) (hs : stOK (a0 :: a1 :: a2 :: a3 :: a4 :: a5 :: w :: T) 6 = true) (kk : K n (pc + 2) (a0 :: a1 :: a2 :: a3 :: a4 :: a5 :: some (vX x) :: T) st S) : K n pc (a0 :: a1 :: a2 :: a3 :: a4 :: a5 :: w :: T) (vX x :: st) S := r_xstoreG M d hj hs rfl kk
theorem r_lstore_6 (M : Mk g own cc nL fr lo N K) {a0 a1 a2 a3 a4 a5 w : Option AV} {w2 : Option AV} {T : List (Option AV)} {x : Int} (d : decode cc pc = .ok (.lstore 6, 2)) (hj : 6 + 1 < nL) (hs : stOK (a0 :: a1 :: a2 :: a3 :: a4 :: a5 :: w :: w2 :: T) 6 = true) (kk : K n (pc + 2) (a0 :: a1 :: a2 :: a3 :: a4 :: a5 :: some (vL x) :: none :: T) st S) : K n pc (a0 :: a1 :: a2 :: a3 :: a4 :: a5 :: w :: w2 :: T) (vL x :: st) S := r_lstoreG M d hj hs rfl kk
theorem r_iinc_6 (M : Mk g own cc nL fr lo N K) {a0 a1 a2 a3 a4 a5 : Option AV} {T : List (Option AV)} {x z : Int} (y : Int) (d : decode cc pc = .ok (.iinc 6 z, 3)) (hy : x + z = y) (hj : 6 < nL) (hs : stOK (a0 :: a1 :: a2 :: a3 :: a4 :: a5 :: some (vI x) :: T) 6 = true) (kk : K n (pc + 3) (a0 :: a1 :: a2 :: a3 :: a4 :: a5 :: some (vI y) :: T) st S) : K n pc (a0 :: a1 :: a2 :: a3 :: a4 :: a5 :: some (vI x) :: T) st S := r_iincG M d rfl hy hj hs rfl kk
theorem r_istore_7 (M : Mk g own cc nL fr lo N K) {a0 a1 a2 a3 a4 a5 a6 w : Option AV} {T : List (Option AV)} {x : Int} (d : decode cc pc = .ok (.istore 7, 2)) (hj : 7 < nL) (hs : stOK (a0 :: a1 :: a2 :: a3 :: a4 :: a5 :: a6 :: w :: T) 7 = true) (kk : K n (pc + 2) (a0 :: a1 :: a2 :: a3 :: a4 :: a5 :: a6 :: some (vI x) :: T) st S) : K n pc (a0 :: a1 :: a2 :: a3 :: a4 :: a5 :: a6 :: w :: T) (vI x :: st) S := r_istoreG M d hj hs rfl kk
theorem r_astore_7 (M : Mk g own cc nL fr lo N K) {a0 a1 a2 a3 a4 a5 a6 w : Option AV} {T : List (Option AV)} {t i : Nat} (d : decode cc pc = .ok (.astore 7, 2)) (hj : 7 < nL) (hs : stOK (a0 :: a1 :: a2 :: a3 :: a4 :: a5 :: a6 :: w :: T) 7 = true) (kk : K n (pc + 2) (a0 :: a1 :: a2 :: a3 :: a4 :: a5 :: a6 :: some (vR t i) :: T) st S) : K n pc (a0 :: a1 :: a2 :: a3 :: a4 :: a5 :: a6 :: w :: T) (vR t i :: st) S := r_astoreG M d hj hs rfl kk
theorem r_xstore_7 (M : Mk g own cc nL fr lo N K) {a0 a1 a2 a3 a4 a5 a6 w : Option AV} {T : List (Option AV)} {x : Nat} (d : decode cc pc = .ok (.astore 7, 2)) (hj : 7 < nL) (hs : stOK (a0 :: a1 :: a2 :: a3 :: a4 :: a5 :: a6 :: w :: T) 7 = true) (kk : K n (pc + 2) (a0 :: a1 :: a2 :: a3 :: a4 :: a5 :: a6 :: some (vX x) :: T) st S) : K n pc (a0 :: a1 :: a2 :: a3 :: a4 :: a5 :: a6 :: w :: T) (vX x :: st) S := r_xstoreG M d hj hs rfl kk
theorem r_lstore_7 (M : Mk g own cc nL fr lo N K) {a0 a1 a2 a3 a4 a5 a6 w : Option AV} {w2 : Option AV} {T : List (Option AV)} {x : Int} (d : decode cc pc = .ok (.lstore 7, 2)) (hj : 7 + 1 < nL) (hs : stOK (a0 :: a1 :: a2 :: a3 :: a4 :: a5 :: a6 :: w :: w2 :: T) 7 = true) (kk : K n (pc + 2) (a0 :: a1 :: a2 :: a3 :: a4 :: a5 :: a6 :: some (vL x) :: none :: T) st S) : K n pc (a0 :: a1 :: a2 :: a3 :: a4 :: a5 :: a6 :: w :: w2 :: T) (vL x :: st) S := r_lstoreG M d hj hs rfl kk
theorem r_iinc_7 (M : Mk g own cc nL fr lo N K) {a0 a1 a2 a3 a4 a5 a6 : Option AV} {T : List (Option AV)} {x z : Int} (y : Int) (d : decode cc pc = .ok (.iinc 7 z, 3)) (hy : x + z = y) (hj : 7 < nL) (hs : stOK (a0 :: a1 :: a2 :: a3 :: a4 :: a5 :: a6 :: some (vI x) :: T) 7 = true) (kk : K n (pc + 3) (a0 :: a1 :: a2 :: a3 :: a4 :: a5 :: a6 :: some (vI y) :: T) st S) : K n pc (a0 :: a1 :: a2 :: a3 :: a4 :: a5 :: a6 :: some (vI x) :: T) st S := r_iincG M d rfl hy hj hs rfl kk
theorem r_istore_8 (M : Mk g own cc nL fr lo N K) {a0 a1 a2 a3 a4 a5 a6 a7 w : Option AV} {T : List (Option AV)} {x : Int} (d : decode cc pc = .ok (.istore 8, 2)) (hj : 8 < nL) (hs : stOK (a0 :: a1 :: a2 :: a3 :: a4 :: a5 :: a6 :: a7 :: w :: T) 8 = true) (kk : K n (pc + 2) (a0 :: a1 :: a2 :: a3 :: a4 :: a5 :: a6 :: a7 :: some (vI x) :: T) st S) : K n pc (a0 :: a1 :: a2 :: a3 :: a4 :: a5 :: a6 :: a7 :: w :: T) (vI x :: st) S := r_istoreG M d hj hs rfl kk
theorem r_astore_8 (M : Mk g own cc nL fr lo N K) {a0 a1 a2 a3 a4 a5 a6 a7 w : Option AV} {T : List (Option AV)} {t i : Nat} (d : decode cc pc = .ok (.astore 8, 2)) (hj : 8 < nL) (hs : stOK (a0 :: a1 :: a2 :: a3 :: a4 :: a5 :: a6 :: a7 :: w :: T) 8 = true) (kk : K n (pc + 2) (a0 :: a1 :: a2 :: a3 :: a4 :: a5 :: a6 :: a7 :: some (vR t i) :: T) st S) : K n pc (a0 :: a1 :: a2 :: a3 :: a4 :: a5 :: a6 :: a7 :: w :: T) (vR t i :: st) S := r_astoreG M d hj hs rfl kk
theorem r_xstore_8 (M : Mk g own cc nL fr lo N K) {a0 a1 a2 a3 a4 a5 a6 a7 w : Option AV} {T : List (Option AV)} {x : Nat} (d : decode cc pc = .ok (.astore 8, 2)) (hj : 8 < nL) (hs : stOK (a0 :: a1 :: a2 :: a3 :: a4 :: a5 :: a6 :: a7 :: w :: T) 8 = true) (kk : K n (pc + 2) (a0 :: a1 :: a2 :: a3 :: a4 :: a5 :: a6 :: a7 :: some (vX x) :: T) st S) : K n pc (a0 :: a1 :: a2 :: a3 :: a4 :: a5 :: a6 :: a7 :: w :: T) (vX x :: st) S := r_xstoreG M d hj hs rfl kk
theorem r_lstore_8 (M : Mk g own cc nL fr lo N K) {a0 a1 a2 a3 a4 a5 a6 a7 w : Option AV} {w2 : Option AV} {T : List (Option AV)} {x : Int} (d : decode cc pc = .ok (.lstore 8, 2)) (hj : 8 + 1 < nL) (hs : stOK (a0 :: a1 :: a2 :: a3 :: a4 :: a5 :: a6 :: a7 :: w :: w2 :: T) 8 = true) (kk : K n (pc + 2) (a0 :: a1 :: a2 :: a3 :: a4 :: a5 :: a6 :: a7 :: some (vL x) :: none :: T) st S) : K n pc (a0 :: a1 :: a2 :: a3 :: a4 :: a5 :: a6 :: a7 :: w :: w2 :: T) (vL x :: st) S := r_lstoreG M d hj hs rfl kk
theorem r_iinc_8 (M : Mk g own cc nL fr lo N K) {a0 a1 a2 a3 a4 a5 a6 a7 : Option AV} {T : List (Option AV)} {x z : Int} (y : Int) (d : decode cc pc = .ok (.iinc 8 z, 3)) (hy : x + z = y) (hj : 8 < nL) (hs : stOK (a0 :: a1 :: a2 :: a3 :: a4 :: a5 :: a6 :: a7 :: some (vI x) :: T) 8 = true) (kk : K n (pc + 3) (a0 :: a1 :: a2 :: a3 :: a4 :: a5 :: a6 :: a7 :: some (vI y) :: T) st S) : K n pc (a0 :: a1 :: a2 :: a3 :: a4 :: a5 :: a6 :: a7 :: some (vI x) :: T) st S := r_iincG M d rfl hy hj hs rfl kk
theorem r_istore_9 (M : Mk g own cc nL fr lo N K) {a0 a1 a2 a3 a4 a5 a6 a7 a8 w : Option AV} {T : List (Option AV)} {x : Int} (d : decode cc pc = .ok (.istore 9, 2)) (hj : 9 < nL) (hs : stOK (a0 :: a1 :: a2 :: a3 :: a4 :: a5 :: a6 :: a7 :: a8 :: w :: T) 9 = true) (kk : K n (pc + 2) (a0 :: a1 :: a2 :: a3 :: a4 :: a5 :: a6 :: a7 :: a8 :: some (vI x) :: T) st S) : K n pc (a0 :: a1 :: a2 :: a3 :: a4 :: a5 :: a6 :: a7 :: a8 :: w :: T) (vI x :: st) S := r_istoreG M d hj hs rfl kk
theorem r_astore_9 (M : Mk g own cc nL fr lo N K) {a0 a1 a2 a3 a4 a5 a6 a7 a8 w : Option AV} {T : List (Option AV)} {t i : Nat} (d : decode cc pc = .ok (.astore 9, 2)) (hj : 9 < nL) (hs : stOK (a0 :: a1 :: a2 :: a3 :: a4 :: a5 :: a6 :: a7 :: a8 :: w :: T) 9 = true) (kk : K n (pc + 2) (a0 :: a1 :: a2 :: a3 :: a4 :: a5 :: a6 :: a7 :: a8 :: some (vR t i) :: T) st S) : K n pc (a0 :: a1 :: a2 :: a3 :: a4 :: a5 :: a6 :: a7 :: a8 :: w :: T) (vR t i :: st) S := r_astoreG M d hj hs rfl kk
theorem r_xstore_9 (M : Mk g own cc nL fr lo N K) {a0 a1 a2 a3 a4 a5 a6 a7 a8 w : Option AV} {T : List (Option AV)} {x : Nat} (d : decode cc pc = .ok (.astore 9, 2)) (hj : 9 < nL) (hs : stOK (a0 :: a1 :: a2 :: a3 :: a4 :: a5 :: a6 :: a7 :: a8 :: w :: T) 9 = true) (kk : K n (pc + 2) (a0 :: a1 :: a2 :: a3 :: a4 :: a5 :: a6 :: a7 :: a8 :: some (vX x) :: T) st S) : K n pc (a0 :: a1 :: a2 :: a3 :: a4 :: a5 :: a6 :: a7 :: a8 :: w :: T) (vX x :: st) S := r_xstoreG M d hj hs rfl kk
theorem r_lstore_9 (M : Mk g own cc nL fr lo N K) {a0 a1 a2 a3 a4 a5 a6 a7 a8 w : Option AV} {w2 : Option AV} {T : List (Option AV)} {x : Int} (d : decode cc pc = .ok (.lstore 9, 2)) (hj : 9 + 1 < nL) (hs : stOK (a0 :: a1 :: a2 :: a3 :: a4 :: a5 :: a6 :: a7 :: a8 :: w :: w2 :: T) 9 = true) (kk : K n (pc + 2) (a0 :: a1 :: a2 :: a3 :: a4 :: a5 :: a6 :: a7 :: a8 :: some (vL x) :: none :: T) st S) : K n pc (a0 :: a1 :: a2 :: a3 :: a4 :: a5 :: a6 :: a7 :: a8 :: w :: w2 :: T) (vL x :: st) S := r_lstoreG M d hj hs rfl kk
theorem r_iinc_9 (M : Mk g own cc nL fr lo N K) {a0 a1 a2 a3 a4 a5 a6 a7 a8 : Option AV} {T : List (Option AV)} {x z : Int} (y : Int) (d : decode cc pc = .ok (.iinc 9 z, 3)) (hy : x + z = y) (hj : 9 < nL) (hs : stOK (a0 :: a1 :: a2 :: a3 :: a4 :: a5 :: a6 :: a7 :: a8 :: some (vI x) :: T) 9 = true) (kk : K n (pc + 3) (a0 :: a1 :: a2 :: a3 :: a4 :: a5 :: a6 :: a7 :: a8 :: some (vI y) :: T) st S) : K n pc (a0 :: a1 :: a2 :: a3 :: a4 :: a5 :: a6 :: a7 :: a8 :: some (vI x) :: T) st S := r_iincG M d rfl hy hj hs rfl kk
theorem r_istore_10 (M : Mk g own cc nL fr lo N K) {a0 a1 a2 a3 a4 a5 a6 a7 a8 a9 w : Option AV} {T : List (Option AV)} {x : Int} (d : decode cc pc = .ok (.istore 10, 2)) (hj : 10 < nL) (hs : stOK (a0 :: a1 :: a2 :: a3 :: a4 :: a5 :: a6 :: a7 :: a8 :: a9 :: w :: T) 10 = true) (kk : K n (pc + 2) (a0 :: a1 :: a2 :: a3 :: a4 :: a5 :: a6 :: a7 :: a8 :: a9 :: some (vI x) :: T) st S) : K n pc (a0 :: a1 :: a2 :: a3 :: a4 :: a5 :: a6 :: a7 :: a8 :: a9 :: w :: T) (vI x :: st) S := r_istoreG M d hj hs rfl kk
theorem r_astore_10 (M : Mk g own cc nL fr lo N K) {a0 a1 a2 a3 a4 a5 a6 a7 a8 a9 w : Option AV} {T : List (Option AV)} {t i : Nat} (d : decode cc pc = .ok (.astore 10, 2)) (hj : 10 < nL) (hs : stOK (a0 :: a1 :: a2 :: a3 :: a4 :: a5 :: a6 :: a7 :: a8 :: a9 :: w :: T) 10 = true) (kk : K n (pc + 2) (a0 :: a1 :: a2 :: a3 :: a4 :: a5 :: a6 :: a7 :: a8 :: a9 :: some (vR t i) :: T) st S) : K n pc (a0 :: a1 :: a2 :: a3 :: a4 :: a5 :: a6 :: a7 :: a8 :: a9 :: w :: T) (vR t i :: st) S := r_astoreG M d hj hs rfl kk
theorem r_xstore_10 (M : Mk g own cc nL fr lo N K) {a0 a1 a2 a3 a4 a5 a6 a7 a8 a9 w : Option AV} {T : List (Option AV)} {x : Nat} (d : decode cc pc = .ok (.astore 10, 2)) (hj : 10 < nL) (hs : stOK (a0 :: a1 :: a2 :: a3 :: a4 :: a5 :: a6 :: a7 :: a8 :: a9 :: w :: T) 10 = true) (kk : K n (pc + 2) (a0 :: a1 :: a2 :: a3 :: a4 :: a5 :: a6 :: a7 :: a8 :: a9 :: some (vX x) :: T) st S) : K n pc (a0 :: a1 :: a2 :: a3 :: a4 :: a5 :: a6 :: a7 :: a8 :: a9 :: w :: T) (vX x :: st) S := r_xstoreG M d hj hs rfl kk
theorem r_lstore_10 (M : Mk g own cc nL fr lo N K) {a0 a1 a2 a3 a4 a5 a6 a7 a8 a9 w : Option AV} {w2 : Option AV} {T : List (Option AV)} {x : Int} (d : decode cc pc = .ok (.lstore 10, 2)) (hj : 10 + 1 < nL) (hs : stOK (a0 :: a1 :: a2 :: a3 :: a4 :: a5 :: a6 :: a7 :: a8 :: a9 :: w :: w2 :: T) 10 = true) (kk : K n (pc + 2) (a0 :: a1 :: a2 :: a3 :: a4 :: a5 :: a6 :: a7 :: a8 :: a9 :: some (vL x) :: none :: T) st S) : K n pc (a0 :: a1 :: a2 :: a3 :: a4 :: a5 :: a6 :: a7 :: a8 :: a9 :: w :: w2 :: T) (vL x :: st) S := r_lstoreG M d hj hs rfl kk
theorem r_iinc_10 (M : Mk g own cc nL fr lo N K) {a0 a1 a2 a3 a4 a5 a6 a7 a8 a9 : Option AV} {T : List (Option AV)} {x z : Int} (y : Int) (d : decode cc pc = .ok (.iinc 10 z, 3)) (hy : x + z = y) (hj : 10 < nL) (hs : stOK (a0 :: a1 :: a2 :: a3 :: a4 :: a5 :: a6 :: a7 :: a8 :: a9 :: some (vI x) :: T) 10 = true) (kk : K n (pc + 3) (a0 :: a1 :: a2 :: a3 :: a4 :: a5 :: a6 :: a7 :: a8 :: a9 :: some (vI y) :: T) st S) : K n pc (a0 :: a1 :: a2 :: a3 :: a4 :: a5 :: a6 :: a7 :: a8 :: a9 :: some (vI x) :: T) st S := r_iincG M d rfl hy hj hs rfl kk
theorem r_istore_11 (M : Mk g own cc nL fr lo N K) {a0 a1 a2 a3 a4 a5 a6 a7 a8 a9 a10 w : Option AV} {T : List (Option AV)} {x : Int} (d : decode cc pc = .ok (.istore 11, 2)) (hj : 11 < nL) (hs : stOK (a0 :: a1 :: a2 :: a3 :: a4 :: a5 :: a6 :: a7 :: a8 :: a9 :: a10 :: w :: T) 11 = true) (kk : K n (pc + 2) (a0 :: a1 :: a2 :: a3 :: a4 :: a5 :: a6 :: a7 :: a8 :: a9 :: a10 :: some (vI x) :: T) st S) : K n pc (a0 :: a1 :: a2 :: a3 :: a4 :: a5 :: a6 :: a7 :: a8 :: a9 :: a10 :: w :: T) (vI x :: st) S := r_istoreG M d hj hs rfl kk
theorem r_astore_11 (M : Mk g own cc nL fr lo N K) {a0 a1 a2 a3 a4 a5 a6 a7 a8 a9 a10 w : Option AV} {T : List (Option AV)} {t i : Nat} (d : decode cc pc = .ok (.astore 11, 2)) (hj : 11 < nL) (hs : stOK (a0 :: a1 :: a2 :: a3 :: a4 :: a5 :: a6 :: a7 :: a8 :: a9 :: a10 :: w :: T) 11 = true) (kk : K n (pc + 2) (a0 :: a1 :: a2 :: a3 :: a4 :: a5 :: a6 :: a7 :: a8 :: a9 :: a10 :: some (vR t i) :: T) st S) : K n pc (a0 :: a1 :: a2 :: a3 :: a4 :: a5 :: a6 :: a7 :: a8 :: a9 :: a10 :: w :: T) (vR t i :: st) S := r_astoreG M d hj hs rfl kk
theorem r_xstore_11 (M : Mk g own cc nL fr lo N K) {a0 a1 a2 a3 a4 a5 a6 a7 a8 a9 a10 w : Option AV} {T : List (Option AV)} {x : Nat} (d : decode cc pc = .ok (.astore 11, 2)) (hj : 11 < nL) (hs : stOK (a0 :: a1 :: a2 :: a3 :: a4 :: a5 :: a6 :: a7 :: a8 :: a9 :: a10 :: w :: T) 11 = true) (kk : K n (pc + 2) (a0 :: a1 :: a2 :: a3 :: a4 :: a5 :: a6 :: a7 :: a8 :: a9 :: a10 :: some (vX x) :: T) st S) : K n pc (a0 :: a1 :: a2 :: a3 :: a4 :: a5 :: a6 :: a7 :: a8 :: a9 :: a10 :: w :: T) (vX x :: st) S := r_xstoreG M d hj hs rfl kk
theorem r_lstore_11 (M : Mk g own cc nL fr lo N K) {a0 a1 a2 a3 a4 a5 a6 a7 a8 a9 a10 w : Option AV} {w2 : Option AV} {T : List (Option AV)} {x : Int} (d : decode cc pc = .ok (.lstore 11, 2)) (hj : 11 + 1 < nL) (hs : stOK (a0 :: a1 :: a2 :: a3 :: a4 :: a5 :: a6 :: a7 :: a8 :: a9 :: a10 :: w :: w2 :: T) 11 = true) (kk : K n (pc + 2) (a0 :: a1 :: a2 :: a3 :: a4 :: a5 :: a6 :: a7 :: a8 :: a9 :: a10 :: some (vL x) :: none :: T) st S) : K n pc (a0 :: a1 :: a2 :: a3 :: a4 :: a5 :: a6 :: a7 :: a8 :: a9 :: a10 :: w :: w2 :: T) (vL x :: st) S := r_lstoreG M d hj hs rfl kk
theorem r_iinc_11 (M : Mk g own cc nL fr lo N K) {a0 a1 a2 a3 a4 a5 a6 a7 a8 a9 a10 : Option AV} {T : List (Option AV)} {x z : Int} (y : Int) (d : decode cc pc = .ok (.iinc 11 z, 3)) (hy : x + z = y) (hj : 11 < nL) (hs : stOK (a0 :: a1 :: a2 :: a3 :: a4 :: a5 :: a6 :: a7 :: a8 :: a9 :: a10 :: some (vI x) :: T) 11 = true) (kk : K n (pc + 3) (a0 :: a1 :: a2 :: a3 :: a4 :: a5 :: a6 :: a7 :: a8 :: a9 :: a10 :: some (vI y) :: T) st S) : K n pc (a0 :: a1 :: a2 :: a3 :: a4 :: a5 :: a6 :: a7 :: a8 :: a9 :: a10 :: some (vI x) :: T) st S := r_iincG M d rfl hy hj hs rfl kk
theorem r_istore_12 (M : Mk g own cc nL fr lo N K) {a0 a1 a2 a3 a4 a5 a6 a7 a8 a9 a10 a11 w : Option AV} {T : List (Option AV)} {x : Int} (d : decode cc pc = .ok (.istore 12, 2)) (hj : 12 < nL) (hs : stOK (a0 :: a1 :: a2 :: a3 :: a4 :: a5 :: a6 :: a7 :: a8 :: a9 :: a10 :: a11 :: w :: T) 12 = true) (kk : K n (pc + 2) (a0 :: a1 :: a2 :: a3 :: a4 :: a5 :: a6 :: a7 :: a8 :: a9 :: a10 :: a11 :: some (vI x) :: T) st S) : K n pc (a0 :: a1 :: a2 :: a3 :: a4 :: a5 :: a6 :: a7 :: a8 :: a9 :: a10 :: a11 :: w :: T) (vI x :: st) S := r_istoreG M d hj hs rfl kk
theorem r_astore_12 (M : Mk g own cc nL fr lo N K) {a0 a1 a2 a3 a4 a5 a6 a7 a8 a9 a10 a11 w : Option AV} {T : List (Option AV)} {t i : Nat} (d : decode cc pc = .ok (.astore 12, 2)) (hj : 12 < nL) (hs : stOK (a0 :: a1 :: a2 :: a3 :: a4 :: a5 :: a6 :: a7 :: a8 :: a9 :: a10 :: a11 :: w :: T) 12 = true) (kk : K n (pc + 2) (a0 :: a1 :: a2 :: a3 :: a4 :: a5 :: a6 :: a7 :: a8 :: a9 :: a10 :: a11 :: some (vR t i) :: T) st S) : K n pc (a0 :: a1 :: a2 :: a3 :: a4 :: a5 :: a6 :: a7 :: a8 :: a9 :: a10 :: a11 :: w :: T) (vR t i :: st) S := r_astoreG M d hj hs rfl kk
theorem r_xstore_12 (M : Mk g own cc nL fr lo N K) {a0 a1 a2 a3 a4 a5 a6 a7 a8 a9 a10 a11 w : Option AV} {T : List (Option AV)} {x : Nat} (d : decode cc pc = .ok (.astore 12, 2)) (hj : 12 < nL) (hs : stOK (a0 :: a1 :: a2 :: a3 :: a4 :: a5 :: a6 :: a7 :: a8 :: a9 :: a10 :: a11 :: w :: T) 12 = true) (kk : K n (pc + 2) (a0 :: a1 :: a2 :: a3 :: a4 :: a5 :: a6 :: a7 :: a8 :: a9 :: a10 :: a11 :: some (vX x) :: T) st S) : K n pc (a0 :: a1 :: a2 :: a3 :: a4 :: a5 :: a6 :: a7 :: a8 :: a9 :: a10 :: a11 :: w :: T) (vX x :: st) S := r_xstoreG M d hj hs rfl kk
theorem r_lstore_12 (M : Mk g own cc nL fr lo N K) {a0 a1 a2 a3 a4 a5 a6 a7 a8 a9 a10 a11 w : Option AV} {w2 : Option AV} {T : List (Option AV)} {x : Int} (d : decode cc pc = .ok (.lstore 12, 2)) (hj : 12 + 1 < nL) (hs : stOK (a0 :: a1 :: a2 :: a3 :: a4 :: a5 :: a6 :: a7 :: a8 :: a9 :: a10 :: a11 :: w :: w2 :: T) 12 = true) (kk : K n (pc + 2) (a0 :: a1 :: a2 :: a3 :: a4 :: a5 :: a6 :: a7 :: a8 :: a9 :: a10 :: a11 :: some (vL x) :: none :: T) st S) : K n pc (a0 :: a1 :: a2 :: a3 :: a4 :: a5 :: a6 :: a7 :: a8 :: a9 :: a10 :: a11 :: w :: w2 :: T) (vL x :: st) S := r_lstoreG M d hj hs rfl kk
theorem r_iinc_12 (M : Mk g own cc nL fr lo N K) {a0 a1 a2 a3 a4 a5 a6 a7 a8 a9 a10 a11 : Option AV} {T : List (Option AV)} {x z : Int} (y : Int) (d : decode cc pc = .ok (.iinc 12 z, 3)) (hy : x + z = y) (hj : 12 < nL) (hs : stOK (a0 :: a1 :: a2 :: a3 :: a4 :: a5 :: a6 :: a7 :: a8 :: a9 :: a10 :: a11 :: some (vI x) :: T) 12 = true) (kk : K n (pc + 3) (a0 :: a1 :: a2 :: a3 :: a4 :: a5 :: a6 :: a7 :: a8 :: a9 :: a10 :: a11 :: some (vI y) :: T) st S) : K n pc (a0 :: a1 :: a2 :: a3 :: a4 :: a5 :: a6 :: a7 :: a8 :: a9 :: a10 :: a11 :: some (vI x) :: T) st S := r_iincG M d rfl hy hj hs rfl kk
end KL
end
section
/-! ===== BEGIN a private method of a nest mate that may throw (follows va_callVN, va_callSN, va_runVN, va_runSN) ===== -/
section
variable {p : Program} {l : Launch} {e : Env} {R : Room} {s : State} {m : MethodId} {args : Array Value} {below : List Frame} {meth : Method} {c : Code} {H : Heap} {locs : List Loc} {cells slots : Nat}
variable {T : State}
theorem vx_callVN (X : Stand p l e R s m args below meth c T locs cells slots) (hexec : p.tables.exec = Jvm.exec) {own C : String} {index : Nat} {host : String} {y : MethodName} {bytes : ByteArray} {maxL : Nat} {ret : Option FieldType}
    (hown : s.vm.findClass own = some m.cls) (hlink : (Cond.methodLinkNest own index y host).before args s = true) (hinst : (Cond.instanceMethod y).before args s = true) (hsel : (Cond.selects C y y).before args s = true)
    (hcode : (Cond.code y bytes maxL ret).before args s = true) (hy : y.cls ≠ "java/lang/invoke/MethodHandle" ∧ y.cls ≠ "java/lang/invoke/VarHandle")
    {W : Nat} {Pre : Pt → Array Value → Prop} {Post : Pt → Array Value → Option Value → Pt → Prop} {PostX : Pt → Array Value → Addr → Pt → Prop} (hK : vx_Back l R p e below s args y 3 W Pre Post PostX)
    {b : Addr} {cellB : Cell} (hcell : T.heap[b]? = some cellB) (hobj : cellB.vm.isStatics = false) (hcls : s.vm.findClass C = some cellB.cls)
    {g : JFrame} (hg : g.method = m) (hsize : g.locals.size = c.maxLocals) {argsL rest : List Value} (hlen : ∀ sig, parseMethodDescriptor y.desc = some sig → argsL.length = sig.parameters.length)
    (hstack : g.stack = argsL.reverse ++ .ref b :: rest) (hW : 2 * g.monitorRoom + (rest.map fun v => v.category).sum ≤ W) (hdg : decode c.code g.pc = .ok (.invokevirtual index, 3))
    (hpre : ∀ vm₁, s.WarmedH vm₁ → Pre ⟨T.setVm vm₁, locs, cells, slots⟩ (Value.ref b :: argsL).toArray) :
    (∃ (v : Option Value) (vm₁ : Vm) (B : Pt), s.WarmedH vm₁ ∧ Stand p l e R s m args below meth c B.U B.locs B.cells B.slots ∧ Post ⟨T.setVm vm₁, locs, cells, slots⟩ (Value.ref b :: argsL).toArray v B ∧
      ∀ target, Steps p.tables e below (B.U.setTop { g with pc := g.pc + 3, stack := v.toList ++ rest }) target → Steps p.tables e below (T.setTop g) target) ∨
    (∃ (q : Addr) (vm₁ : Vm) (B : Pt), s.WarmedH vm₁ ∧ Stand p l e R s m args below meth c B.U B.locs B.cells B.slots ∧ PostX ⟨T.setVm vm₁, locs, cells, slots⟩ (Value.ref b :: argsL).toArray q B ∧
      Steps p.tables e below (T.setTop g) ((B.U.setTop { g with stack := rest }).pushFrame (.throwing q))) := by
  obtain ⟨mk, methM, hnamed, hmethM, hstM, habM⟩ := Cond.instanceMethod_spec hinst
  obtain ⟨methM', cM, hmethM', -, -, -, -, -, -, hsigM⟩ := Cond.code_spec hnamed hcode
  cases hmethM.symm.trans hmethM'
  obtain ⟨c2, r2, m2, q1, q2, q3, q4, kP, hkP, hkPi⟩ := Cond.selects_spec hsel
  cases hcls.symm.trans q1
  cases (State.methodFound?_of_named hnamed hy).symm.trans q2
  cases hnamed.symm.trans q3
  have hselP : selectMethod e.platform s.vm cellB.cls mk = .method mk := by rw [Launch.admits_selectMethod X.admits]; exact q4
  obtain ⟨vm₁, X₁, hstep₁⟩ := X.invokevirtualNest hexec hown hlink hnamed hmethM hstM hkP hkPi hy (a := b) (cell := cellB) hcell
    (fun z h => by rw [h] at hobj; cases hobj) hselP hmethM habM hkP hkPi (g := g) hg (argsL := argsL) (rest := rest) (hlen _ hsigM) hstack hdg
  rcases hK m meth c ⟨T.setVm vm₁, locs, cells, slots⟩ { g with stack := rest } (.invokevirtual index) mk (Value.ref b :: argsL).toArray X₁ hg hsize hdg hW (X₁.named hnamed) (hpre vm₁ X₁.warmed) with ⟨v, B, X', hpost, hsteps⟩ | ⟨q, B, X', hpost, hsteps⟩
  · exact Or.inl ⟨v, vm₁, B, X₁.warmed, X', hpost, fun target h => hstep₁ _ fun acts => by rw [doInvoke_state]; exact hsteps.trans h⟩
  · exact Or.inr ⟨q, vm₁, B, X₁.warmed, X', hpost, hstep₁ _ fun acts => by rw [doInvoke_state]; exact hsteps⟩
theorem vx_callSN (X : Stand p l e R s m args below meth c T locs cells slots) (hexec : p.tables.exec = Jvm.exec) {own : String} {index : Nat} {host : String} {y : MethodName} {bytes : ByteArray} {maxL : Nat} {ret : Option FieldType}
    (hown : s.vm.findClass own = some m.cls) (hlink : (Cond.methodLinkNest own index y host).before args s = true) (hstat : (Cond.static y).before args s = true) (hinit : (Cond.initialized y.cls).before args s = true)
    (hcode : (Cond.code y bytes maxL ret).before args s = true) (hy : y.cls ≠ "java/lang/invoke/MethodHandle" ∧ y.cls ≠ "java/lang/invoke/VarHandle")
    {W : Nat} {Pre : Pt → Array Value → Prop} {Post : Pt → Array Value → Option Value → Pt → Prop} {PostX : Pt → Array Value → Addr → Pt → Prop} (hK : vx_Back l R p e below s args y 3 W Pre Post PostX)
    {g : JFrame} (hg : g.method = m) (hsize : g.locals.size = c.maxLocals) {argsL rest : List Value} (hlen : ∀ sig, parseMethodDescriptor y.desc = some sig → argsL.length = sig.parameters.length)
    (hstack : g.stack = argsL.reverse ++ rest) (hW : 2 * g.monitorRoom + (rest.map fun v => v.category).sum ≤ W) (hdg : decode c.code g.pc = .ok (.invokestatic index, 3))
    (hpre : ∀ vm₁, s.WarmedH vm₁ → Pre ⟨T.setVm vm₁, locs, cells, slots⟩ argsL.toArray) :
    (∃ (v : Option Value) (vm₁ : Vm) (B : Pt), s.WarmedH vm₁ ∧ Stand p l e R s m args below meth c B.U B.locs B.cells B.slots ∧ Post ⟨T.setVm vm₁, locs, cells, slots⟩ argsL.toArray v B ∧
      ∀ target, Steps p.tables e below (B.U.setTop { g with pc := g.pc + 3, stack := v.toList ++ rest }) target → Steps p.tables e below (T.setTop g) target) ∨
    (∃ (q : Addr) (vm₁ : Vm) (B : Pt), s.WarmedH vm₁ ∧ Stand p l e R s m args below meth c B.U B.locs B.cells B.slots ∧ PostX ⟨T.setVm vm₁, locs, cells, slots⟩ argsL.toArray q B ∧
      Steps p.tables e below (T.setTop g) ((B.U.setTop { g with stack := rest }).pushFrame (.throwing q))) := by
  obtain ⟨mk, hnamed⟩ := Cond.code_named hcode
  obtain ⟨methM, cM, hmethM, -, -, -, -, -, -, hsigM⟩ := Cond.code_spec hnamed hcode
  have hstatic : methM.isStatic = true := Cond.static_spec hnamed hmethM hstat
  obtain ⟨kP, hkP, -⟩ := className_of_methodNamed hnamed
  have hinitP : kP.init = .initialized := Cond.initialized_spec (findClass_of_methodNamed hnamed) hkP hinit
  obtain ⟨vm₁, X₁, hstep₁⟩ := X.invokestaticNest hexec hown hlink hnamed hmethM hstatic hkP hinitP hy (g := g) hg (argsL := argsL) (rest := rest) (hlen _ hsigM) hstack hdg
  rcases hK m meth c ⟨T.setVm vm₁, locs, cells, slots⟩ { g with stack := rest } (.invokestatic index) mk argsL.toArray X₁ hg hsize hdg hW (X₁.named hnamed) (hpre vm₁ X₁.warmed) with ⟨v, B, X', hpost, hsteps⟩ | ⟨q, B, X', hpost, hsteps⟩
  · exact Or.inl ⟨v, vm₁, B, X₁.warmed, X', hpost, fun target h => hstep₁ _ fun acts => by rw [doInvoke_state]; exact hsteps.trans h⟩
  · exact Or.inr ⟨q, vm₁, B, X₁.warmed, X', hpost, hstep₁ _ fun acts => by rw [doInvoke_state]; exact hsteps⟩
theorem vx_runVN {y : MethodName} {bytes cc : ByteArray} {maxL nL mc ms n index : Nat} {ret : Option FieldType} {ws : List Cond} {rm : Room} {Pc : Array Value → State → Prop} {Qc : Array Value → State → Outcome → State → Prop} {XC : String → State → State → Prop} {free : Addr → Prop} {Ts : List Cond} {own C host : String} {b : Addr} {As rest : List Value} {g : JFrame}
    (S : CallFix p m c cc nL s args Ts own) (hM : vx_Met l y ws rm Pc Qc XC mc ms free) (cw : va_CN R s args own index y host bytes maxL ret ws rm mc ms n ∧ (Cond.instanceMethod y).before args s = true ∧ (Cond.selects C y y).before args s = true) (hp : PreV s H C b Pc As)
    (hg : g.method = m) (hn : As.length = n) (hsize : g.locals.size = nL) (hstack : g.stack = As.reverse ++ .ref b :: rest) (hW : 2 * g.monitorRoom + (rest.map fun v => v.category).sum ≤ 8) (hdg : decode cc g.pc = .ok (.invokevirtual index, 3)) (hf : cells + mc ≤ R.cells ∧ slots + ms ≤ R.slots) :
    vx_Run p l e R s m args below meth c H locs cells slots mc ms g rest (Qc (Value.ref b :: As).toArray) XC free := by
  obtain ⟨⟨⟨hrc, hrs, hfr, hlo, hws, hcw⟩, hcode, hini, hy, hlen, hl⟩, hx1, hx2⟩ := cw
  have hK : vx_Back l R p e below s args y 3 8 (PreOf R mc ms Pc) (PostOf Qc mc ms free) (vx_Post XC mc ms free) := vx_back (bytes := bytes) (maxL := maxL) (ret := ret) hM hp.1 hrc hrs hfr hlo hws hcw (fun a' U hW => word_at hW (Or.inl (by first | rfl | simp [Cond.onTables, Cond.keeps, Cond.steady])) hini)
  obtain ⟨hx, hb, hml, ho, -⟩ := S
  obtain ⟨-, ⟨cellB, hcB, hoB, hclB⟩, hPc⟩ := hp
  intro T hT X
  rcases vx_callVN X hx (C := C) (bytes := bytes) (maxL := maxL) (ret := ret) ho hl hx1 hx2 hcode hy hK (by rw [hT]; exact hcB) hoB hclB hg (hsize.trans hml.symm) (argsL := As) (rest := rest) (fun sig h => hn.trans (hlen sig h)) hstack hW (by rw [hb]; exact hdg)
    (fun vm₁ hW₁ => ⟨hf.1, hf.2, hPc (T.setVm vm₁) hT hW₁⟩) with ⟨v, vm₁, ⟨U', l2, c2, s2⟩, hW₁, X', ⟨g', mk, t, L, e1, e2, hq, h1, hL, h2, h3⟩, st⟩ | ⟨q, vm₁, ⟨U', l2, c2, s2⟩, hW₁, X', ⟨g', mk, t, L, E, ce, e1, e2, hq, hce, hcv, hcl, h1, hL, h2, h3⟩, st⟩
  · dsimp only [Pt.U, Pt.locs, Pt.cells, Pt.slots] at X' e1 e2 h1 h2 h3 st
    subst h1; subst h2; subst h3
    exact Or.inl ⟨v, (T.setVm vm₁).calling g' mk (Value.ref b :: As).toArray, t, U', L, hT, X', hL, e1, e2, hq, st⟩
  · dsimp only [Pt.U, Pt.locs, Pt.cells, Pt.slots] at X' e1 e2 h1 h2 h3 st hcl
    subst h1; subst h2; subst h3
    exact Or.inr ⟨q, (T.setVm vm₁).calling g' mk (Value.ref b :: As).toArray, t, U', L, E, ce, hT, X', hL, e1, e2, hq, hce, hcv, vx_cls hW₁ hcl, st⟩
theorem vx_runSN {y : MethodName} {bytes cc : ByteArray} {maxL nL mc ms n index : Nat} {ret : Option FieldType} {ws : List Cond} {rm : Room} {Pc : Array Value → State → Prop} {Qc : Array Value → State → Outcome → State → Prop} {XC : String → State → State → Prop} {free : Addr → Prop} {Ts : List Cond} {own host : String} {As rest : List Value} {g : JFrame}
    (S : CallFix p m c cc nL s args Ts own) (hM : vx_Met l y ws rm Pc Qc XC mc ms free) (cw : va_CN R s args own index y host bytes maxL ret ws rm mc ms n ∧ (Cond.static y).before args s = true ∧ True) (hp : PreS s H Pc As)
    (hg : g.method = m) (hn : As.length = n) (hsize : g.locals.size = nL) (hstack : g.stack = As.reverse ++ rest) (hW : 2 * g.monitorRoom + (rest.map fun v => v.category).sum ≤ 8) (hdg : decode cc g.pc = .ok (.invokestatic index, 3)) (hf : cells + mc ≤ R.cells ∧ slots + ms ≤ R.slots) :
    vx_Run p l e R s m args below meth c H locs cells slots mc ms g rest (Qc As.toArray) XC free := by
  obtain ⟨⟨⟨hrc, hrs, hfr, hlo, hws, hcw⟩, hcode, hini, hy, hlen, hl⟩, hx1, hx2⟩ := cw
  have hK : vx_Back l R p e below s args y 3 8 (PreOf R mc ms Pc) (PostOf Qc mc ms free) (vx_Post XC mc ms free) := vx_back (bytes := bytes) (maxL := maxL) (ret := ret) hM hp.1 hrc hrs hfr hlo hws hcw (fun a' U hW => word_at hW (Or.inl (by first | rfl | simp [Cond.onTables, Cond.keeps, Cond.steady])) hini)
  obtain ⟨hx, hb, hml, ho, -⟩ := S
  have hPc := hp.2
  intro T hT X
  rcases vx_callSN X hx (bytes := bytes) (maxL := maxL) (ret := ret) ho hl hx1 hini hcode hy hK hg (hsize.trans hml.symm) (argsL := As) (rest := rest) (fun sig h => hn.trans (hlen sig h)) hstack hW (by rw [hb]; exact hdg)
    (fun vm₁ hW₁ => ⟨hf.1, hf.2, hPc (T.setVm vm₁) hT hW₁⟩) with ⟨v, vm₁, ⟨U', l2, c2, s2⟩, hW₁, X', ⟨g', mk, t, L, e1, e2, hq, h1, hL, h2, h3⟩, st⟩ | ⟨q, vm₁, ⟨U', l2, c2, s2⟩, hW₁, X', ⟨g', mk, t, L, E, ce, e1, e2, hq, hce, hcv, hcl, h1, hL, h2, h3⟩, st⟩
  · dsimp only [Pt.U, Pt.locs, Pt.cells, Pt.slots] at X' e1 e2 h1 h2 h3 st
    subst h1; subst h2; subst h3
    exact Or.inl ⟨v, (T.setVm vm₁).calling g' mk As.toArray, t, U', L, hT, X', hL, e1, e2, hq, st⟩
  · dsimp only [Pt.U, Pt.locs, Pt.cells, Pt.slots] at X' e1 e2 h1 h2 h3 st hcl
    subst h1; subst h2; subst h3
    exact Or.inr ⟨q, (T.setVm vm₁).calling g' mk As.toArray, t, U', L, E, ce, hT, X', hL, e1, e2, hq, hce, hcv, vx_cls hW₁ hcl, st⟩
end
/-! ===== END ===== -/
end
section
/-! ===== rows over the world: fields, arrays, the two of Math ===== -/
section KH
variable {g : Gl} {own : String} {cc : ByteArray} {nL fr lo N : Nat} {K : KT} {n pc : Nat} {L : List (Option AV)} {st : List AV} {S : St}
def Lk (own : String) (ix : Nat) (a b d : String) : Prop := (Cond.fieldLink own ix a b d ∈ WT) ∨ ∃ host, Cond.fieldLinkNest own ix a b d host ∈ NW
def Fk (own : String) (ix t k : Nat) : Prop := kd t < 5 ∧ t < 13 ∧ k < nf t ∧ ∃ (C : String) (T : u_T), vwCl[kd t]? = some (C, T, nf t) ∧ (∀ w ∈ u_ws C T (nf t), w ∈ WT) ∧ Lk own ix (T k).1 (T k).2.1 (T k).2.2.1
def Pk (own : String) (ix t k : Nat) (ty : FieldType) : Prop := kd t < 5 ∧ t < 13 ∧ k < nf t ∧ rfp t k = none ∧ ∃ (C : String) (T : u_T) (ty0 : Nat → FieldType), vwCl[kd t]? = some (C, T, nf t) ∧ (∀ w ∈ u_ws C T (nf t), w ∈ WT) ∧ Lk own ix (T k).1 (T k).2.1 (T k).2.2.1 ∧
  (∀ k, k < nf t → parseFieldDescriptor (T k).2.2.1 = some (ty0 k)) ∧ (∀ a, a < nf t → ∀ b, b < nf t → a ≠ b → (T a).2.1 ≠ (T b).2.1) ∧ (T k).2.2.2 = false ∧ parseFieldDescriptor (T k).2.2.1 = some ty
theorem r_get (M : Mk g own cc nL fr lo N K) {ix t k i : Nat} (d : decode cc pc = .ok (.getfield ix, 3)) (hF : Fk own ix t k) (hi : i < ctn t) {v : AV} (hv : slt g t i k (S t i k) = cv g v) (kk : K n (pc + 3) L (v :: st) S) : K n pc L (vR t i :: st) S :=
  M.go (fun p e R s m args below meth c A c0 s0 Q C H locs ls hW hS hL hn kk => by
    obtain ⟨h1, h2, h3, C9, T, hc, hw, hl⟩ := hF
    obtain ⟨q, hq, he⟩ := wl_get g S h2 hi
    rw [en_obj g i _ h1] at he
    have hv2 := (slots_get (n := nf t) (fun k => slt g t i k (S t i k)) h3).trans (congrArg some hv)
    rcases hl with hl | ⟨host, hl⟩
    · exact va_get (D := g.2.1) C.1 C.2.1 C.2.2.2.2.1 hw C.2.2.2.1 C.2.2.2.2.2.1.2.1 hW q he hc k h3 (C.2.2.2.2.1 _ hl) (fun _ h => h) hv2 d (kk ls hL)
    · exact va_getN (D := g.2.1) C.1 C.2.1 C.2.2.2.2.1 hw C.2.2.2.1 C.2.2.2.2.2.1.2.1 hW q he hc k h3 (va_Nw.use rfl (C.2.2.2.2.2.1.1 _ hl)) (fun _ h => h) hv2 d (kk ls hL)) kk
theorem r_getI (M : Mk g own cc nL fr lo N K) {ix t k i : Nat} (d : decode cc pc = .ok (.getfield ix, 3)) (hF : Fk own ix t k) (hi : i < ctn t) (hr : rfp t k = none) (kk : K n (pc + 3) L (vI (S t i k) :: st) S) : K n pc L (vR t i :: st) S :=
  r_get M d hF hi (by unfold slt; rw [hr]; rfl) kk
theorem r_getR (M : Mk g own cc nL fr lo N K) {ix t k i u : Nat} (d : decode cc pc = .ok (.getfield ix, 3)) (hF : Fk own ix t k) (hi : i < ctn t) (hr : rfp t k = some u) (kk : K n (pc + 3) L (vR u i :: st) S) : K n pc L (vR t i :: st) S :=
  r_get M d hF hi (by unfold slt; rw [hr]; rfl) kk
/-- one cell of the world is written -/
theorem wd_set {H1 : Heap} {t i q : Nat} (hq : prs[q]? = some (t, i)) {f : Nat → Int} {x : va_E} (hx : x = en g t i f) (h : va_P g.2.1 vwCl ((wl g S).set q (g.2.2.1 t i, x)) H1) : Wd g (upT S t i f) H1 := by
  subst hx
  rw [wl_set g S hq] at h
  exact h
theorem r_put (M : Mk g own cc nL fr lo N K) {ix t k i : Nat} {ty : FieldType} {x : Int} (d : decode cc pc = .ok (.putfield ix, 3)) (hF : Pk own ix t k ty) (hi : i < ctn t) (hn1 : narrow ty (.int (Int32.ofInt x)) = .int (Int32.ofInt x)) (hfit : fits ty (.int (Int32.ofInt x)) = true) (kk : K n (pc + 3) L st (up3 S t i k x)) : K n pc L (vI x :: vR t i :: st) S := by
  obtain ⟨p, e, R, s, m, args, below, meth, c, A, c0, s0, Q, C, hK⟩ := M
  rw [hK] at kk ⊢
  intro hn H locs ls hW hS hL
  obtain ⟨h1, h2, h3, hr, C9, T, ty0, hc, hw, hl, hty, hnm, hfin, hd⟩ := hF
  obtain ⟨q, hq, he⟩ := wl_get g S h2 hi
  rw [en_obj g i _ h1] at he
  have hD := Apt.D C.2.2.2.2.2.1.2.2.2.2.1 C.2.2.2.2.2.2.1 S
  have hset : ((List.range (nf t)).map fun k => slt g t i k (S t i k)).set k (.int (Int32.ofInt x)) = (List.range (nf t)).map fun c => slt g t i c (if c = k then x else S t i c) := by
    have e1 := slots_set (n := nf t) (k := k) (fun c => slt g t i c (S t i c)) (fun c => slt g t i c (if c = k then x else S t i c)) (fun j hj => by simp only [if_neg hj])
    rw [← e1]
    congr 1
    unfold slt
    rw [hr]
    simp
  have go : ∀ (H1 : Heap) (locs1 : List Loc), va_P g.2.1 vwCl ((wl g S).set q (g.2.2.1 t i, .inr (kd t, ((List.range (nf t)).map fun k => slt g t i k (S t i k)).set k (.int (Int32.ofInt x))))) H1 → va_D A ((wl g S).set q (g.2.2.1 t i, .inr (kd t, ((List.range (nf t)).map fun k => slt g t i k (S t i k)).set k (.int (Int32.ofInt x))))) → va_S A s.heap H1 locs1 → W p g.1 e R s m args below meth c H1 locs1 (c0 + n) (s0 + 6 * n) Q (F0 m (pc + 3) ls (st.map (cv g))) := fun H1 locs1 hP1 _ hS1 => by
    have hW1 := wd_set (f := fun c => if c = k then x else S t i c) hq (by rw [en_obj g i _ h1, hset]) hP1
    rw [← up3_T] at hW1
    exact kk hn H1 locs1 ls hW1 hS1 hL
  rcases hl with hl | ⟨host, hl⟩
  · exact va_put (D := g.2.1) (v := .int (Int32.ofInt x)) C.1 C.2.1 C.2.2.2.2.1 hw ty0 hty hnm C.2.2.2.1 C.2.2.2.2.2.1.2.1 hW hD hS q he hc k h3 (C.2.2.2.2.1 _ hl) (fun _ h => h) hfin hd hn1 hfit (by rw [List.length_map, List.length_range]; exact h3) d go
  · exact va_putN (D := g.2.1) (v := .int (Int32.ofInt x)) C.1 C.2.1 C.2.2.2.2.1 hw ty0 hty hnm C.2.2.2.1 C.2.2.2.2.2.1.2.1 hW hD hS q he hc k h3 (va_Nw.use rfl (C.2.2.2.2.2.1.1 _ hl)) (fun _ h => h) hfin hd hn1 hfit (by rw [List.length_map, List.length_range]; exact h3) d go
theorem r_putI (M : Mk g own cc nL fr lo N K) {ix t k i : Nat} {x : Int} (d : decode cc pc = .ok (.putfield ix, 3)) (hF : Pk own ix t k .int) (hi : i < ctn t) (kk : K n (pc + 3) L st (up3 S t i k x)) : K n pc L (vI x :: vR t i :: st) S :=
  r_put M d hF hi rfl rfl kk
theorem r_putZ (M : Mk g own cc nL fr lo N K) {ix t k i : Nat} {x : Int} (d : decode cc pc = .ok (.putfield ix, 3)) (hF : Pk own ix t k .boolean) (hi : i < ctn t) (hx : x = 0 ∨ x = 1) (kk : K n (pc + 3) L st (up3 S t i k x)) : K n pc L (vI x :: vR t i :: st) S :=
  r_put M d hF hi (by rcases hx with rfl | rfl <;> rfl) (by rcases hx with rfl | rfl <;> rfl) kk
theorem r_iald (M : Mk g own cc nL fr lo N K) {t i : Nat} {z : Int} (j : Nat) (d : decode cc pc = .ok (.iaload, 1)) (ht : kd t = 5 ∧ t < 13) (hi : i < ctn t) (hz : z = (j : Int)) (hj : j < nf t) (hnf : nf t ≤ 2147483647) (kk : K n (pc + 1) L (vI (S t i j) :: st) S) : K n pc L (vI z :: vR t i :: st) S :=
  M.go (fun p e R s m args below meth c A c0 s0 Q C H locs ls hW hS hL hn kk => by
    obtain ⟨q, hq, he⟩ := wl_get g S ht.2 hi
    rw [en_int g i _ ht.1] at he
    obtain ⟨e1, e2⟩ := ofI_clamp (j := z) (n := nf t) (by omega) hnf
    have e3 : z.toNat = j := by omega
    refine va_iald (D := g.2.1) C.1 C.2.1 C.2.2.2.2.2.1.2.1 hW q 0 he rfl e2 d ?_
    rw [e1, e3]
    exact kk ls hL) kk
theorem upT_up3 (S : St) (t i j : Nat) (x : Int) : upT S t i (fun c => if c = j then x else S t i c) = up3 S t i j x := (up3_T S t i j x).symm
theorem r_iast (M : Mk g own cc nL fr lo N K) {t i : Nat} {z x : Int} (j : Nat) (d : decode cc pc = .ok (.iastore, 1)) (ht : kd t = 5 ∧ t < 13) (hi : i < ctn t) (hz : z = (j : Int)) (hj : j < nf t) (hnf : nf t ≤ 2147483647) (kk : K n (pc + 1) L st (up3 S t i j x)) : K n pc L (vI x :: vI z :: vR t i :: st) S := by
  obtain ⟨p, e, R, s, m, args, below, meth, c, A, c0, s0, Q, C, hK⟩ := M
  rw [hK] at kk ⊢
  intro hn H locs ls hW hS hL
  obtain ⟨q, hq, he⟩ := wl_get g S ht.2 hi
  rw [en_int g i _ ht.1] at he
  obtain ⟨e1, e2⟩ := ofI_clamp (j := z) (n := nf t) (by omega) hnf
  have e3 : z.toNat = j := by omega
  have hD := Apt.D C.2.2.2.2.2.1.2.2.2.2.1 C.2.2.2.2.2.2.1 S
  refine va_iast (D := g.2.1) C.1 C.2.1 C.2.2.2.2.2.1.2.1 hW hD hS q 0 he rfl e2 d (fun H1 locs1 hP1 _ hS1 => ?_)
  have hW1 := wd_set (f := fun c => if c = j then x else S t i c) hq (by
    rw [en_int g i _ ht.1, e1, e3]
    congr 4
    funext c
    unfold upd
    by_cases hc : c = j <;> simp [hc]) hP1
  rw [← up3_T] at hW1
  exact kk hn H1 locs1 ls hW1 hS1 hL
theorem r_aaldM (M : Mk g own cc nL fr lo N K) {z : Int} (j : Nat) (d : decode cc pc = .ok (.aaload, 1)) (hz : z = (j : Int)) (hj : j < 10) (kk : K n (pc + 1) L (vR 4 j :: st) S) : K n pc L (vI z :: vR 1 0 :: st) S :=
  M.go (fun p e R s m args below meth c A c0 s0 Q C H locs ls hW hS hL hn kk => by
    obtain ⟨q, hq, he⟩ := wl_get g S (t := 1) (i := 0) (by omega) (by decide)
    rw [en_ref g 0 _ rfl] at he
    obtain ⟨e1, e2⟩ := ofI_clamp (j := z) (n := 10) (by omega) (by omega)
    have e3 : z.toNat = j := by omega
    refine va_aldq (D := g.2.1) C.1 C.2.1 C.2.2.2.2.2.1.2.1 hW q 1 he rfl e2 d ?_
    rw [e1, e3]
    exact kk ls hL) kk
theorem kw_alda {p : Program} {l : Launch} {e : Env} {R : Room} {s : State} {m : MethodId} {args : Array Value} {below : List Frame} {meth : Method} {c : Code} {H : Heap} {locs : List Loc} {cells slots : Nat} {Q : State → Prop} {cc : ByteArray} {pc : Nat} {ls : Array Slot} {rest : List Value} {D : va_G} {cl : List vw_C} {a : Nat} {tys : List (ClassId × FieldType)} {ws : va_W} (hexec : p.tables.exec = Jvm.exec) (hb : c.code = cc) (hK : va_K D cl tys s) (hP : va_P D cl ws H) (q0 t0 : Nat) {cA : ClassId} {ty : FieldType} {n : Nat} {f : Nat → Option Nat} (ha : ws[q0]? = some (a, .inl (cA, n, .inr (.inr (.inr (.inr f)))))) (ht : tys[t0]? = some (cA, .array ty)) {i : Int32} (hin : vp_in i n) (hdg : decode cc pc = .ok (.aaload, 1))
    (kk : W p l e R s m args below meth c H locs cells slots Q (F0 m (pc + 1) ls (va_rf (f i.toNatClampNeg) :: rest))) : W p l e R s m args below meth c H locs cells slots Q (F0 m pc ls (.int i :: .ref a :: rest)) := by
  have hlt : i.toNatClampNeg < n := Nat.not_le.mp fun q => hin (Or.inr q)
  exact W.aald (v := va_rf (f i.toNatClampNeg)) (ty := .array ty) hexec hb (hP q0 _ ha) ((hK.2 t0 _ ht).1 n (fun j => va_rf (f j))) rfl (fun q => by cases q) (by show ¬ (i < 0 ∨ (arrV _ _ _).slots.size ≤ _); rw [arrV_size]; exact hin) (by show (arrV _ _ _).slots[_]? = _; rw [arrV_read _ _ hlt]) rfl rfl hdg kk
theorem r_aaldB (M : Mk g own cc nL fr lo N K) {z : Int} (j : Nat) (d : decode cc pc = .ok (.aaload, 1)) (hz : z = (j : Int)) (hj : j < 10) (kk : K n (pc + 1) L (vR 7 j :: st) S) : K n pc L (vI z :: vR 6 0 :: st) S :=
  M.go (fun p e R s m args below meth c A c0 s0 Q C H locs ls hW hS hL hn kk => by
    obtain ⟨q, hq, he⟩ := wl_get g S (t := 6) (i := 0) (by omega) (by decide)
    rw [en_ref g 0 _ rfl] at he
    obtain ⟨e1, e2⟩ := ofI_clamp (j := z) (n := 10) (by omega) (by omega)
    have e3 : z.toNat = j := by omega
    refine kw_alda (D := g.2.1) C.1 C.2.1 C.2.2.2.2.2.1.2.1 hW q 2 he rfl e2 d ?_
    rw [e1, e3]
    exact kk ls hL) kk
def Mx (own : String) (ix : Nat) : Prop := Cond.methodLink own ix Lib.Math.max.name ∈ WT ∧ Cond.static Lib.Math.max.name ∈ WT ∧ Cond.initialized "java/lang/Math" ∈ WT ∧ Cond.code Lib.Math.max.name Lib.Math.max.code 2 (some .int) ∈ WT
def Mn (own : String) (ix : Nat) : Prop := Cond.methodLink own ix Lib.Math.min.name ∈ WT ∧ Cond.static Lib.Math.min.name ∈ WT ∧ Cond.initialized "java/lang/Math" ∈ WT ∧ Cond.code Lib.Math.min.name Lib.Math.min.code 2 (some .int) ∈ WT
theorem r_max (M : Mk g own cc nL fr lo N K) {ix : Nat} {a b : Int} (d : decode cc pc = .ok (.invokestatic ix, 3)) (hw : Mx own ix) (h : (-2147483648 ≤ a ∧ a ≤ 2147483647) ∧ -2147483648 ≤ b ∧ b ≤ 2147483647) (hR : 1 ≤ fr ∧ 21 ≤ lo) (hcat : (st.map fun v => (cv g v).category).sum ≤ 8) (kk : K n (pc + 3) L (vI (max a b) :: st) S) : K n pc L (vI b :: vI a :: st) S :=
  M.go (fun p e R s m args below meth c A c0 s0 Q C H locs ls hW hS hL hn kk => by
    have hc2 : ((st.map (cv g)).map fun v => v.category).sum ≤ 8 := by rw [List.map_map]; exact hcat
    have hR1 := C.2.2.2.2.2.2.2.2.2.2
    refine va_mmax C.1 C.2.1 (by rw [C.2.2.1]; exact hL.1.symm) C.2.2.2.1 (C.2.2.2.2.1 _ hw.1) (C.2.2.2.2.1 _ hw.2.1) (C.2.2.2.2.1 _ hw.2.2.1) (C.2.2.2.2.1 _ hw.2.2.2) (by omega) (by omega) (by omega) (by omega) d ?_
    have e1 : (if Int32.ofInt a < Int32.ofInt b then Int32.ofInt b else Int32.ofInt a) = Int32.ofInt (max a b) := by
      by_cases q : a < b
      · rw [if_pos ((ofI_lt h.1 h.2).mpr q)]; congr 1; omega
      · rw [if_neg (fun w => q ((ofI_lt h.1 h.2).mp w))]; congr 1; omega
    rw [e1]
    exact kk ls hL) kk
theorem r_min (M : Mk g own cc nL fr lo N K) {ix : Nat} {a b : Int} (d : decode cc pc = .ok (.invokestatic ix, 3)) (hw : Mn own ix) (h : (-2147483648 ≤ a ∧ a ≤ 2147483647) ∧ -2147483648 ≤ b ∧ b ≤ 2147483647) (hR : 1 ≤ fr ∧ 21 ≤ lo) (hcat : (st.map fun v => (cv g v).category).sum ≤ 8) (kk : K n (pc + 3) L (vI (min a b) :: st) S) : K n pc L (vI b :: vI a :: st) S :=
  M.go (fun p e R s m args below meth c A c0 s0 Q C H locs ls hW hS hL hn kk => by
    have hc2 : ((st.map (cv g)).map fun v => v.category).sum ≤ 8 := by rw [List.map_map]; exact hcat
    have hR1 := C.2.2.2.2.2.2.2.2.2.2
    refine va_mmin C.1 C.2.1 (by rw [C.2.2.1]; exact hL.1.symm) C.2.2.2.1 (C.2.2.2.2.1 _ hw.1) (C.2.2.2.2.1 _ hw.2.1) (C.2.2.2.2.1 _ hw.2.2.1) (C.2.2.2.2.1 _ hw.2.2.2) (by omega) (by omega) (by omega) (by omega) d ?_
    have e2 : (if Int32.ofInt b < Int32.ofInt a then Int32.ofInt b else Int32.ofInt a) = Int32.ofInt (min a b) := by
      by_cases q : b < a
      · rw [if_pos ((ofI_lt h.2 h.1).mpr q)]; congr 1; omega
      · rw [if_neg (fun w => q ((ofI_lt h.2 h.1).mp w))]; congr 1; omega
    rw [e2]
    exact kk ls hL) kk
end KH
end
section
/-! ===== contracts, calls, ends, throws ===== -/
section KC
def Qr (g : Gl) (Ret : Option AV → St → Prop) (A : Nat → Prop) : Array Value → State → Outcome → State → Prop := fun _ st oc t => (∃ (v : Option AV) (S' : St), oc = .returned (v.map (cv g)) ∧ Ret v S' ∧ Wd g S' t.heap) ∧ va_F A st t
def XCr (g : Gl) (Thr : String → St → Prop) (A : Nat → Prop) : String → State → State → Prop := fun E st t => ∃ S' : St, Thr E S' ∧ Wd g S' t.heap ∧ va_F A st t
def Pr (g : Gl) (av : List AV) (S : St) (sz : Nat) : Array Value → State → Prop := va_Pc (av.map (cv g)) (fun U => U.heap.size = sz ∧ GV g U ∧ Wd g S U.heap ∧ Zs (Ag g sz) U U.heap)
/-- the contract of a method at these arguments over this world: it ends so that Ret holds, or throws so that Thr holds; at most N throws -/
def Cn (g : Gl) (y : MethodName) (cc : ByteArray) (nL : Nat) (ret : Option FieldType) (fr lo N : Nat) (av : List AV) (S : St) (Ret : Option AV → St → Prop) (Thr : String → St → Prop) : Prop :=
  ∀ sz : Nat, vx_Met g.1 y (Cond.code y cc nL ret :: WT) ({ frames := fr, cells := N, slots := 6 * N, locals := lo }) (Pr g av S sz) (Qr g Ret (Ag g sz)) (XCr g Thr (Ag g sz)) N (6 * N) (Ag g sz)
def CnH (g : Gl) (y : MethodName) (cc : ByteArray) (nL : Nat) (ret : Option FieldType) (hh : List (Nat × Nat × Nat × Nat)) (fr lo N : Nat) (av : List AV) (S : St) (Ret : Option AV → St → Prop) (Thr : String → St → Prop) : Prop :=
  ∀ sz : Nat, vx_Met g.1 y (Cond.codeWith y cc nL ret hh :: WT) ({ frames := fr, cells := N, slots := 6 * N, locals := lo }) (Pr g av S sz) (Qr g Ret (Ag g sz)) (XCr g Thr (Ag g sz)) N (6 * N) (Ag g sz)
theorem Pr_blind (g : Gl) (av : List AV) (S : St) (sz : Nat) : FrameBlind (Pr g av S sz) := fun a U f mk h => by
  obtain ⟨h1, h2, h3, h4, h5⟩ := h
  have hal : U.vm.Alike (U.calling f mk a).vm := Vm.Alike.refl U.vm
  exact ⟨h1, h2, GV.same (u := U) rfl h3, h4, vx_Zq.moved hal h5.1, vx_Zq.moved hal h5.2⟩
theorem Ag_in {g : Gl} {A : Nat → Prop} {sz0 sz : Nat} (h1 : ∀ q, q ∈ prs → A (g.2.2.1 q.1 q.2)) (h2 : ∀ q, sz0 ≤ q → A q) (h : sz0 ≤ sz) : ∀ q, Ag g sz q → A q := fun q hq => by
  rcases hq with ⟨p, hp, rfl⟩ | hq
  · exact h1 p hp
  · exact h2 q (Nat.le_trans h hq)
/-- a method that may throw, its locals at entry, what is left for its end -/
def Mach (g : Gl) (own : String) (cc : ByteArray) (nL : Nat) (ret : Option FieldType) (fr lo N : Nat) (Ret : Option AV → St → Prop) (Thr : String → St → Prop) (K : KT) : Prop :=
  ∃ (p : Program) (e : Env) (R : Room) (s : State) (m : MethodId) (args : Array Value) (below : List Frame) (meth : Method) (c : Code) (A : Nat → Prop), Ctx g own cc nL fr lo N p R s m args meth c A 0 0 ∧ (∀ x ∈ c.exceptionTable.toList, False) ∧ meth.sig.returnType = ret ∧
    ∀ n pc L st S, K n pc L st S ↔ Wk g nL N p e R s m args below meth c A 0 0 (vx_MQ below (Qr g Ret A) (XCr g Thr A) args s N (6 * N) A) n pc L st S
variable {g : Gl} {own : String} {cc : ByteArray} {nL fr lo N : Nat} {ret : Option FieldType} {Ret : Option AV → St → Prop} {Thr : String → St → Prop} {K : KT} {n pc : Nat} {L : List (Option AV)} {st : List AV} {S : St}
theorem Mach.mk (M : Mach g own cc nL ret fr lo N Ret Thr K) : Mk g own cc nL fr lo N K := by
  obtain ⟨p, e, R, s, m, args, below, meth, c, A, C, _, _, hK⟩ := M
  exact ⟨p, e, R, s, m, args, below, meth, c, A, 0, 0, _, C, hK⟩
theorem Mach.ends (M : Mach g own cc nL ret fr lo N Ret Thr K) {v : Option AV} (hv : Ret v S)
    (h : ∀ (p : Program) (e : Env) (R : Room) (s : State) (m : MethodId) (args : Array Value) (below : List Frame) (meth : Method) (c : Code) (A : Nat → Prop), p.tables.exec = Jvm.exec → c.code = cc → meth.sig.returnType = ret → meth.locks = false → ∀ (H : Heap) (locs : List Loc) (ls : Array Slot) (Qc : Array Value → State → Outcome → State → Prop),
      (∀ t : State, t.heap = H → s.WarmedH t.vm → Qc args s (.returned (v.map (cv g))) t) → (∀ q ∈ locs, A q.base) → W p g.1 e R s m args below meth c H locs N (6 * N) (MQ below Qc args s N (6 * N) A) (F0 m pc ls (st.map (cv g)))) : K n pc L st S := by
  obtain ⟨p, e, R, s, m, args, below, meth, c, A, C, _, hr, hK⟩ := M
  rw [hK]
  intro hn H locs ls hW hS hL
  refine W.widen (k := N) (n := 6 * N) (by omega) (by omega) (vx_ret (h p e R s m args below meth c A C.1 C.2.1 hr C.2.2.2.2.2.2.2.2.2.1 H locs ls _ (fun t ht _ => ⟨⟨v, S, rfl, hv, by rw [ht]; exact hW⟩, hS.F ht⟩) hS.2.2))
theorem r_iret (M : Mach g own cc nL (some .int) fr lo N Ret Thr K) {x : Int} (d : decode cc pc = .ok (.ireturn, 1)) (hv : Ret (some (vI x)) S) : K n pc L [vI x] S :=
  M.ends hv (fun p e R s m args below meth c A hx hb hr hlo H locs ls Qc hq hf => W.iret hx hb hr hq hf d hlo)
theorem r_zret (M : Mach g own cc nL (some .boolean) fr lo N Ret Thr K) {x : Int} (d : decode cc pc = .ok (.ireturn, 1)) (h01 : x = 0 ∨ x = 1) (hv : Ret (some (vI x)) S) : K n pc L [vI x] S :=
  M.ends hv (fun p e R s m args below meth c A hx hb hr hlo H locs ls Qc hq hf => W.zret hx hb hr (by rcases h01 with rfl | rfl <;> rfl) hq hf d hlo)
theorem r_vret (M : Mach g own cc nL none fr lo N Ret Thr K) (d : decode cc pc = .ok (.return_, 1)) (hv : Ret none S) : K n pc L [] S :=
  M.ends hv (fun p e R s m args below meth c A hx hb hr hlo H locs ls Qc hq hf => W.vret hx hb hr hq hf d hlo)
theorem r_aret {C9 : String} (M : Mach g own cc nL (some (.object C9)) fr lo N Ret Thr K) {t i : Nat} (d : decode cc pc = .ok (.areturn, 1)) (hv : Ret (some (vR t i)) S) : K n pc L [vR t i] S :=
  M.ends hv (fun p e R s m args below meth c A hx hb hr hlo H locs ls Qc hq hf => W.aret hx hb hr (Or.inl ⟨_, rfl⟩) (Or.inr ⟨_, rfl⟩) hq hf d hlo)
def exN : List String := ["java/lang/RuntimeException", "java/lang/Exception"]
/-- what throw new E("..") needs of the tables -/
def Tk (own : String) (ik is ic : Nat) (E : String) : Prop := (∃ tx, (own, is, tx) ∈ strs) ∧ Bundle.fit E = true ∧ Cond.classLink own ik E ∈ WT ∧ Cond.initialized E ∈ WT ∧ (∀ w ∈ (vx_atS own ic E exN).filter goodWord, w ∈ WT) ∧ (∀ w ∈ (vx_atS own ic E exN).filter (fun w => !goodWord w), w ∈ NW) ∧ (∀ w ∈ Cond.classLink own ik E :: Cond.initialized E :: vx_atS own ic E exN, vx_ot w = true)
theorem nw_before {g : Gl} {s : State} {args : Array Value} (h : GV g s) {w : Cond} (hw : w ∈ NW) : w.before args s = true := va_Nw.use (nest_tab (List.mem_filter.mp hw).2) (h.1 w hw)
theorem Zs.kept {A : Nat → Prop} {U : State} {H H1 : Heap} (h : Zs A U H) (hq : ∀ a : Nat, a < H.size → ¬ A a → H1[a]? = H[a]?) : Zs A U H1 := ⟨vx_Zq.kept h.1 hq, vx_Zq.kept h.2 hq⟩
theorem Zs.narrow {A B : Nat → Prop} {U : State} {H : Heap} (h : Zs A U H) (hAB : ∀ q, B q → A q) : Zs B U H := ⟨vx_Zq.narrow h.1 hAB, vx_Zq.narrow h.2 hAB⟩
theorem Zs.moved {A : Nat → Prop} {u U : State} {H : Heap} (hvm : u.vm.Alike U.vm) (h : Zs A u H) : Zs A U H := ⟨vx_Zq.moved hvm h.1, vx_Zq.moved hvm h.2⟩
theorem wd_keep {g : Gl} {S : St} {H H1 : Heap} (h : Wd g S H) (hq : ∀ q : Nat, q < H.size → H1[q]? = H[q]?) : Wd g S H1 := fun k q hk => (h k q hk).kept (hq _ (h k q hk).lt)
theorem r_throw (M : Mach g own cc nL ret fr lo N Ret Thr K) {ik is ic : Nat} {E : String} (hT : Tk own ik is ic E)
    (d0 : decode cc pc = .ok (.new ik, 3)) (d3 : decode cc (pc + 3) = .ok (.dup, 1)) (d4 : decode cc (pc + 4) = .ok (.ldc is, 2)) (d6 : decode cc (pc + 6) = .ok (.invokespecial ic, 3)) (d9 : decode cc (pc + 9) = .ok (.athrow, 1))
    (hR : 6 ≤ fr ∧ 90 ≤ lo ∧ n + 1 ≤ N) (hcat : (st.map fun v => (cv g v).category).sum ≤ 8) (hE : Thr E S) : K n pc L st S := by
  obtain ⟨p, e, R, s, m, args, below, meth, c, A, C, hx, hr, hK⟩ := M
  rw [hK]
  intro hn H locs ls hW hS hL
  obtain ⟨⟨tx, htx⟩, hfit, h1, h2, h3, h4, h5⟩ := hT
  obtain ⟨sa, hsa⟩ := C.2.2.2.2.2.1.2.2.1 _ htx
  have hR1 := C.2.2.2.2.2.2.2.2.2.2
  have hc2 : ((st.map (cv g)).map fun v => v.category).sum ≤ 8 := by rw [List.map_map]; exact hcat
  refine vx_throwS C.1 C.2.1 C.2.2.2.2.2.1.2.2.2.2.2 C.2.2.2.1 hfit (names := exN) (by decide) (C.2.2.2.2.1 _ h1) (C.2.2.2.2.1 _ h2) hsa (vx_hat (B := NW) (fun w hw => C.2.2.2.2.1 _ (h3 w hw)) h4 (fun w hw => nw_before C.2.2.2.2.2.1 hw)) h5
    C.2.2.2.2.2.2.2.2.1.1 C.2.2.2.2.2.2.2.2.1.2 hS (by rw [C.2.2.1]; exact hL.1) d0 d3 d4 d6 d9 (fun x hxx => (hx x hxx).elim) (by show 2 + 3 < _; omega) (by show _ + (13 * (2 + 1) + 43) ≤ _; omega) (by omega) (by omega) C.2.2.2.2.2.2.2.2.2.1
    (fun t hal hsz hk => ⟨S, hE, wd_keep hW hk, ⟨Nat.le_trans hS.1 hsz, fun q hq hA => by rw [hk q (Nat.lt_of_lt_of_le hq hS.1)]; exact hS.2.1 q hq hA⟩⟩) hS.2.2 (by omega) (by omega)
/-- behind a call -/
theorem run_core {p : Program} {e : Env} {R : Room} {s : State} {m : MethodId} {args : Array Value} {below : List Frame} {meth : Method} {c : Code} {A : Nat → Prop} {c0 s0 Ny : Nat} {Q : State → Prop} (C : Ctx g own cc nL fr lo N p R s m args meth c A c0 s0) {H : Heap} {locs : List Loc} {ls : Array Slot} {st0 rst : List Value} {a : Array Value} (hS : va_S A s.heap H locs)
    (hr : vx_Run p g.1 e R s m args below meth c H locs (c0 + n) (s0 + 6 * n) Ny (6 * Ny) (F0 m pc ls st0) rst (Qr g Ret (Ag g H.size) a) (XCr g Thr (Ag g H.size)) (Ag g H.size))
    (kx : ∀ (E : String) (ce : Cell) (q9 : Addr) (S' : St) (H1 : Heap) (locs1 : List Loc), Thr E S' → Wd g S' H1 → va_S A s.heap H1 locs1 → H1[q9]? = some ce → ce.vm = .none → s.vm.findClass E = some ce.cls → vx_W p g.1 e R s m args below meth c H1 locs1 (c0 + (n + Ny)) (s0 + 6 * (n + Ny)) Q (F0 m pc ls rst) q9)
    (kk : ∀ (v : Option AV) (S' : St) (H1 : Heap) (locs1 : List Loc), Ret v S' → Wd g S' H1 → va_S A s.heap H1 locs1 → W p g.1 e R s m args below meth c H1 locs1 (c0 + (n + Ny)) (s0 + 6 * (n + Ny)) Q (F0 m (pc + 3) ls ((v.map (cv g)).toList ++ rst))) : W p g.1 e R s m args below meth c H locs (c0 + n) (s0 + 6 * n) Q (F0 m pc ls st0) := by
  have e1' : c0 + n + Ny = c0 + (n + Ny) := by omega
  have e2' : s0 + 6 * n + 6 * Ny = s0 + 6 * (n + Ny) := by omega
  have hin := Ag_in C.2.2.2.2.2.2.1 C.2.2.2.2.2.2.2.1 hS.1
  intro T hT X
  rcases hr T hT X with ⟨v, st₀, t, T', L9, h0, X', hL, e1, e2, ⟨⟨v9, S', hv, hp, hb⟩, hF⟩, st9⟩ | ⟨q, st₀, t, T', L9, E, ce, h0, X', hL, e1, e2, ⟨S', hp, hb, hF⟩, hce, hcv, hcl, st9⟩
  · obtain ⟨k1, k2, k3⟩ := vx_keep h0 e1 hS (fun q _ h => hin q h) hin hL hF
    rw [e1', e2'] at X'
    obtain ⟨t2, a1, b1⟩ := kk v9 S' T'.heap (locs ++ L9) hp (by rw [e1]; exact hb) k3 T' rfl X'
    cases hv
    exact ⟨t2, st9 t2 a1, b1⟩
  · obtain ⟨k1, k2, k3⟩ := vx_keep h0 e1 hS (fun q _ h => hin q h) hin hL hF
    rw [e1', e2'] at X'
    obtain ⟨t2, a1, b1⟩ := kx E ce q S' T'.heap (locs ++ L9) hp (by rw [e1]; exact hb) k3 (by rw [e1]; exact hce) hcv hcl T' rfl X'
    exact ⟨t2, st9.trans a1, b1⟩
def Ck (own : String) (ix : Nat) (y : MethodName) (cc : ByteArray) (nL : Nat) (ret : Option FieldType) (na : Nat) : Prop := (Cond.methodLink own ix y ∈ WT ∨ ∃ host, Cond.methodLinkNest own ix y host ∈ NW) ∧ Cond.initialized y.cls ∈ WT ∧ Cond.code y cc nL ret ∈ WT ∧ (y.cls ≠ "java/lang/invoke/MethodHandle" ∧ y.cls ≠ "java/lang/invoke/VarHandle") ∧ (parseMethodDescriptor y.desc).map (fun d => d.parameters.length) = some na
def Vk (y : MethodName) : Prop := Cond.instanceMethod y ∈ WT ∧ Cond.selects y.cls y y ∈ WT
theorem wt_code {y : MethodName} {cc : ByteArray} {nL : Nat} {ret : Option FieldType} (h : Cond.code y cc nL ret ∈ WT) : GoodIn WT (Cond.code y cc nL ret :: WT) := wt_good (fun w hw => (List.mem_cons.mp hw).elim (fun q => q ▸ h) id)
/-- what a call finds at its start -/
theorem pre_of {p : Program} {R : Room} {s : State} {m : MethodId} {args : Array Value} {meth : Method} {c : Code} {A : Nat → Prop} {c0 s0 : Nat} (C : Ctx g own cc nL fr lo N p R s m args meth c A c0 s0) {H : Heap} {locs : List Loc} (hW : Wd g S H) (hS : va_S A s.heap H locs) (av : List AV) :
    ∀ U : State, U.heap = H → s.WarmedH U.vm → Pr g av S H.size (av.map (cv g)).toArray U := fun U hU hWU =>
  ⟨rfl, by rw [hU], GV.warm hWU C.2.2.2.2.2.1, by rw [hU]; exact hW, by
    rw [hU]
    exact Zs.moved hWU.alike (Zs.narrow (Zs.kept C.2.2.2.2.2.2.2.2.1 hS.2.1) (Ag_in C.2.2.2.2.2.2.1 C.2.2.2.2.2.2.2.1 hS.1))⟩
theorem runV_of {p : Program} {e : Env} {R : Room} {s : State} {m : MethodId} {args : Array Value} {below : List Frame} {meth : Method} {c : Code} {A : Nat → Prop} {c0 s0 : Nat} (C : Ctx g own cc nL fr lo N p R s m args meth c A c0 s0) {H : Heap} {locs : List Loc} {ls : Array Slot} (hW : Wd g S H) (hS : va_S A s.heap H locs) (hL : lvs g ls nL L)
    {y : MethodName} {ccy : ByteArray} {nLy fry loy Ny ix na t i : Nat} {rety : Option FieldType} {As rst : List AV} (d : decode cc pc = .ok (.invokevirtual ix, 3)) (hc : Ck own ix y ccy nLy rety na) (hv : Vk y) (hna : As.length = na) (hR : fry + 1 ≤ fr ∧ 8 + (nLy + 11) + loy ≤ lo ∧ n + Ny ≤ N)
    (ht : kd t < 5 ∧ t < 13 ∧ (vwCl[kd t]?).map (fun q => q.1) = some y.cls) (hi : i < ctn t) (hcat : (rst.map fun v => (cv g v).category).sum ≤ 8) (hC : Cn g y ccy nLy rety fry loy Ny (vR t i :: As) S Ret Thr) :
    vx_Run p g.1 e R s m args below meth c H locs (c0 + n) (s0 + 6 * n) Ny (6 * Ny) (F0 m pc ls ((As.reverse ++ vR t i :: rst).map (cv g))) (rst.map (cv g)) (Qr g Ret (Ag g H.size) ((vR t i :: As).map (cv g)).toArray) (XCr g Thr (Ag g H.size)) (Ag g H.size) := by
  obtain ⟨hk1, hk2, hk3, hk4, hk5⟩ := hc
  obtain ⟨q, hq, he⟩ := wl_get g S ht.2.1 hi
  rw [en_obj g i _ ht.1] at he
  obtain ⟨qc, hqc, hqn⟩ := Option.map_eq_some_iff.mp ht.2.2
  have hrecv := va_recv C.2.2.2.2.2.1.2.1 hW hqc he
  rw [hqn] at hrecv
  have hR1 := C.2.2.2.2.2.2.2.2.2.2
  have hst : ((As.reverse ++ vR t i :: rst).map (cv g)) = (As.map (cv g)).reverse ++ .ref (g.2.2.1 t i) :: rst.map (cv g) := by simp [cv]
  have hcat2 : ((rst.map (cv g)).map fun v => v.category).sum ≤ 8 := by rw [List.map_map]; exact hcat
  have hfix : CallFix p m c cc nL s args WT own := ⟨C.1, C.2.1, C.2.2.1, C.2.2.2.1, C.2.2.2.2.1⟩
  rcases hk1 with hk1 | ⟨host, hk1⟩
  · exact vx_runV (C := y.cls) (As := As.map (cv g)) hfix (hC H.size) (cwV na C.2.2.2.2.1 (wt_good (fun w hw => by
        rcases List.mem_append.mp hw with hw | hw
        · simp only [List.mem_cons, List.not_mem_nil, or_false] at hw
          rcases hw with rfl | rfl | rfl | rfl
          · exact hk1
          · exact hv.1
          · exact hv.2
          · exact hk2
        · exact (wt_code hk3 w hw).1)) rfl rfl rfl ⟨rfl, hk4.1, hk4.2, hk5⟩ ⟨by show fry + 1 ≤ _; omega, by show 8 + (nLy + 11) + loy ≤ _; omega⟩)
      ⟨Pr_blind g _ S _, hrecv, pre_of C hW hS (vR t i :: As)⟩ rfl (by rw [List.length_map]; exact hna) (hL.1) (by rw [hst]) (lv_room hcat2) d ⟨by omega, by omega⟩
  · exact vx_runVN (C := y.cls) (As := As.map (cv g)) hfix (hC H.size) ⟨va_cnB na C.2.2.2.2.1 (wt_code hk3) rfl rfl rfl (C.2.2.2.2.2.1.1 _ hk1) (C.2.2.2.2.1 _ hk2) ⟨hk4.1, hk4.2, hk5⟩ ⟨by show fry + 1 ≤ _; omega, by show 8 + (nLy + 11) + loy ≤ _; omega⟩, C.2.2.2.2.1 _ hv.1, C.2.2.2.2.1 _ hv.2⟩
      ⟨Pr_blind g _ S _, hrecv, pre_of C hW hS (vR t i :: As)⟩ rfl (by rw [List.length_map]; exact hna) (hL.1) (by rw [hst]) (lv_room hcat2) d ⟨by omega, by omega⟩
theorem runS_of {p : Program} {e : Env} {R : Room} {s : State} {m : MethodId} {args : Array Value} {below : List Frame} {meth : Method} {c : Code} {A : Nat → Prop} {c0 s0 : Nat} (C : Ctx g own cc nL fr lo N p R s m args meth c A c0 s0) {H : Heap} {locs : List Loc} {ls : Array Slot} (hW : Wd g S H) (hS : va_S A s.heap H locs) (hL : lvs g ls nL L)
    {y : MethodName} {ccy : ByteArray} {nLy fry loy Ny ix na : Nat} {rety : Option FieldType} {As rst : List AV} (d : decode cc pc = .ok (.invokestatic ix, 3)) (hl : Cond.methodLink own ix y ∈ WT) (hst9 : Cond.static y ∈ WT) (how : y.cls = own) (hc : Ck own ix y ccy nLy rety na) (hna : As.length = na) (hR : fry + 1 ≤ fr ∧ 8 + (nLy + 11) + loy ≤ lo ∧ n + Ny ≤ N)
    (hcat : (rst.map fun v => (cv g v).category).sum ≤ 8) (hC : Cn g y ccy nLy rety fry loy Ny As S Ret Thr) :
    vx_Run p g.1 e R s m args below meth c H locs (c0 + n) (s0 + 6 * n) Ny (6 * Ny) (F0 m pc ls ((As.reverse ++ rst).map (cv g))) (rst.map (cv g)) (Qr g Ret (Ag g H.size) (As.map (cv g)).toArray) (XCr g Thr (Ag g H.size)) (Ag g H.size) := by
  obtain ⟨hk1, hk2, hk3, hk4, hk5⟩ := hc
  have hR1 := C.2.2.2.2.2.2.2.2.2.2
  have hst : ((As.reverse ++ rst).map (cv g)) = (As.map (cv g)).reverse ++ rst.map (cv g) := by simp
  have hcat2 : ((rst.map (cv g)).map fun v => v.category).sum ≤ 8 := by rw [List.map_map]; exact hcat
  have hfix : CallFix p m c cc nL s args WT own := ⟨C.1, C.2.1, C.2.2.1, C.2.2.2.1, C.2.2.2.2.1⟩
  exact vx_runS (As := As.map (cv g)) hfix (hC H.size) (cwS na C.2.2.2.2.1 (wt_good (fun w hw => by
        rcases List.mem_append.mp hw with hw | hw
        · simp only [List.mem_cons, List.not_mem_nil, or_false] at hw
          rcases hw with rfl | rfl | rfl
          · exact hl
          · exact hst9
          · rw [how] at hk2; exact hk2
        · exact (wt_code hk3 w hw).1)) rfl rfl rfl ⟨how, hk4.1, hk4.2, hk5⟩ ⟨by show fry + 1 ≤ _; omega, by show 8 + (nLy + 11) + loy ≤ _; omega⟩)
      ⟨Pr_blind g _ S _, pre_of C hW hS As⟩ rfl (by rw [List.length_map]; exact hna) (hL.1) (by rw [hst]) (lv_room hcat2) d ⟨by omega, by omega⟩
/-- what stands on the stack behind a call -/
def pv (v : Option AV) (r : List AV) : List AV := match v with
  | some x => x :: r
  | none => r
theorem pv_map (g : Gl) (v : Option AV) (r : List AV) : (v.map (cv g)).toList ++ r.map (cv g) = (pv v r).map (cv g) := by
  cases v <;> rfl
/-- an uncaught throw leaves the method -/
theorem Mach.leave (M : Mach g own cc nL ret fr lo N Ret Thr K) {T9 : Prop} (h : ∀ (p : Program) (e : Env) (R : Room) (s : State) (m : MethodId) (args : Array Value) (below : List Frame) (meth : Method) (c : Code) (A : Nat → Prop) (Q : State → Prop), Ctx g own cc nL fr lo N p R s m args meth c A 0 0 → (∀ n pc L st S, K n pc L st S ↔ Wk g nL N p e R s m args below meth c A 0 0 Q n pc L st S) →
    (∀ (n pc : Nat) (ls : Array Slot) (rst : List Value) (E : String) (ce : Cell) (q9 : Addr) (S' : St) (H1 : Heap) (locs1 : List Loc), n ≤ N → Thr E S' → Wd g S' H1 → va_S A s.heap H1 locs1 → H1[q9]? = some ce → ce.vm = .none → s.vm.findClass E = some ce.cls → vx_W p g.1 e R s m args below meth c H1 locs1 (0 + n) (0 + 6 * n) Q (F0 m pc ls rst) q9) → T9) : T9 := by
  obtain ⟨p, e, R, s, m, args, below, meth, c, A, C, hx, hr, hK⟩ := M
  refine h p e R s m args below meth c A _ C hK (fun n pc ls rst E ce q9 S' H1 locs1 hn hE hW hS hce hcv hcl => ?_)
  exact vx_out (fun x hxx => (hx x hxx).elim) C.2.2.2.2.2.2.2.2.2.1 hce hcv hcl (fun t ht hal => ⟨S', hE, by rw [ht]; exact hW, hS.F ht⟩) hS.2.2 (by omega) (by omega)
theorem r_callV (M : Mach g own cc nL ret fr lo N Ret Thr K) {y : MethodName} {ccy : ByteArray} {nLy fry loy Ny ix na t i : Nat} {rety : Option FieldType} {As rst : List AV} (d : decode cc pc = .ok (.invokevirtual ix, 3)) (hc : Ck own ix y ccy nLy rety na) (hv : Vk y) (hna : As.length = na) (hR : fry + 1 ≤ fr ∧ 8 + (nLy + 11) + loy ≤ lo ∧ n + Ny ≤ N)
    (ht : kd t < 5 ∧ t < 13 ∧ (vwCl[kd t]?).map (fun q => q.1) = some y.cls) (hi : i < ctn t) (hcat : (rst.map fun v => (cv g v).category).sum ≤ 8) (hC : Cn g y ccy nLy rety fry loy Ny (vR t i :: As) S (fun v S' => K (n + Ny) (pc + 3) L (pv v rst) S') Thr) : K n pc L (As.reverse ++ vR t i :: rst) S := by
  refine M.leave (fun p e R s m args below meth c A Q C hK hout => ?_)
  rw [hK]
  intro hn H locs ls hW hS hL
  refine run_core C hS (runV_of C hW hS hL d hc hv hna hR ht hi hcat hC) (fun E ce q9 S' H1 locs1 hE hW1 hS1 h1 h2 h3 => hout (n + Ny) pc ls _ E ce q9 S' H1 locs1 hR.2.2 hE hW1 hS1 h1 h2 h3) (fun v S' H1 locs1 hk hW1 hS1 => ?_)
  rw [pv_map]
  exact (hK _ _ _ _ _).mp hk hR.2.2 H1 locs1 ls hW1 hS1 hL
theorem r_callS (M : Mach g own cc nL ret fr lo N Ret Thr K) {y : MethodName} {ccy : ByteArray} {nLy fry loy Ny ix na : Nat} {rety : Option FieldType} {As rst : List AV} (d : decode cc pc = .ok (.invokestatic ix, 3)) (hl : Cond.methodLink own ix y ∈ WT) (hst9 : Cond.static y ∈ WT) (how : y.cls = own) (hc : Ck own ix y ccy nLy rety na) (hna : As.length = na) (hR : fry + 1 ≤ fr ∧ 8 + (nLy + 11) + loy ≤ lo ∧ n + Ny ≤ N)
    (hcat : (rst.map fun v => (cv g v).category).sum ≤ 8) (hC : Cn g y ccy nLy rety fry loy Ny As S (fun v S' => K (n + Ny) (pc + 3) L (pv v rst) S') Thr) : K n pc L (As.reverse ++ rst) S := by
  refine M.leave (fun p e R s m args below meth c A Q C hK hout => ?_)
  rw [hK]
  intro hn H locs ls hW hS hL
  refine run_core C hS (runS_of C hW hS hL d hl hst9 how hc hna hR hcat hC) (fun E ce q9 S' H1 locs1 hE hW1 hS1 h1 h2 h3 => hout (n + Ny) pc ls _ E ce q9 S' H1 locs1 hR.2.2 hE hW1 hS1 h1 h2 h3) (fun v S' H1 locs1 hk hW1 hS1 => ?_)
  rw [pv_map]
  exact (hK _ _ _ _ _).mp hk hR.2.2 H1 locs1 ls hW1 hS1 hL
/-- a walk of the body gives the contract -/
theorem enter {y : MethodName} {av : List AV} (hy : plainName y.cls = true) (hlen : (lg_sl (av.map (cv g))).length ≤ nL) (hLL : lvl g L = lv_args 0 (av.map (cv g)))
    (h : ∀ K : KT, Mach g y.cls cc nL ret fr lo N Ret Thr K → K 0 0 L [] S) : Cn g y cc nL ret fr lo N av S Ret Thr := by
  intro sz
  refine vx_ofW (cc := cc) (maxL := nL) (ret := ret) hy rfl ?_
  intro p e s m args below meth c s₁ B hml hex hv
  obtain ⟨rfl, hsz, hG, hW, hZ⟩ := hv
  subst hsz
  have hts0 := atoms_spec (ws := Cond.code y cc nL ret :: WT) B.pre
  have C : Ctx g y.cls cc nL fr lo N p (headSpec (Cond.code y cc nL ret :: WT) ({ frames := fr, cells := N, slots := 6 * N, locals := lo })).room s m (av.map (cv g)).toArray meth c (Ag g s.heap.size) 0 0 :=
    ⟨B.exec, B.bytes, hml, findClass_of_methodNamed B.named, fun w hw => hts0 w (List.mem_cons_of_mem _ hw), hG, fun q hq => Or.inl ⟨q, hq, rfl⟩, fun q hq => Or.inr hq, hZ, B.notSynchronized, Nat.le_refl _, Nat.le_refl _, by show 0 + N ≤ N; omega, by show 0 + 6 * N ≤ 6 * N; omega⟩
  have k := h (Wk g nL N p e (headSpec (Cond.code y cc nL ret :: WT) ({ frames := fr, cells := N, slots := 6 * N, locals := lo })).room s m (av.map (cv g)).toArray below meth c (Ag g s.heap.size) 0 0 (vx_MQ below (Qr g Ret (Ag g s.heap.size)) (XCr g Thr (Ag g s.heap.size)) (av.map (cv g)).toArray s N (6 * N) (Ag g s.heap.size)))
    ⟨p, e, _, s, m, _, below, meth, c, _, C, fun x hx => (hex x hx).elim, B.returns, fun _ _ _ _ _ => Iff.rfl⟩
  have hl := lv_entry (av.map (cv g)) (n := nL) hlen
  rw [lg_entry_eq]
  refine k (Nat.zero_le _) s.heap [] _ hW va_S.rf ⟨hl.1, hl.2.1, fun j v hj => ?_⟩
  exact hl.2.2 (j, cv g v) (by rw [← hLL]; exact lvl_mem.mpr ⟨v, hj, rfl⟩)
end KC
end
section
/-! ===== what the tables say of each field, call and throw ===== -/
theorem wt_list {ws : List Cond} (ps : List Nat) (hp : ws = ps.filterMap (fun i => lw_tbl[i]?)) (h : ws.all goodWord = true) : ∀ w ∈ ws, w ∈ WT := fun w hw => by
  have hg := List.all_eq_true.mp h w hw
  rw [hp] at hw
  obtain ⟨i, -, hi⟩ := List.mem_filterMap.mp hw
  exact wt_at i hi hg
theorem inW0 : ∀ w ∈ u_ws RX0 TX0 2, w ∈ WT := wt_list [66, 68] (by decide +kernel) (by decide +kernel)
theorem inW1 : ∀ w ∈ u_ws RX1 TX1 13, w ∈ WT := wt_list [118, 120, 122, 124, 126, 128, 130, 132, 134, 136, 138, 140, 142] (by decide +kernel) (by decide +kernel)
theorem inW2 : ∀ w ∈ u_ws RX2 TX2 3, w ∈ WT := wt_list [81, 83, 85] (by decide +kernel) (by decide +kernel)
theorem inW3 : ∀ w ∈ u_ws RX3 TX3 8, w ∈ WT := wt_list [153, 155, 157, 159, 161, 163, 165, 167] (by decide +kernel) (by decide +kernel)
theorem fk_X0_11 : Fk RX0 11 2 0 := ⟨by decide, by decide, by decide, RX0, TX0, rfl, inW0, Or.inl (wt_at 63 (by decide +kernel) rfl)⟩
theorem fk_X0_16 : Fk RX0 16 2 1 := ⟨by decide, by decide, by decide, RX0, TX0, rfl, inW0, Or.inl (wt_at 64 (by decide +kernel) rfl)⟩
theorem pk_X0_16 : Pk RX0 16 2 1 .int := ⟨by decide, by decide, by decide, rfl, RX0, TX0, tyX0, rfl, inW0, Or.inl (wt_at 64 (by decide +kernel) rfl), tyX0_ok, nmX0, rfl, by decide +kernel⟩
theorem fk_X3_204 : Fk RX3 204 2 1 := ⟨by decide, by decide, by decide, RX0, TX0, rfl, inW0, Or.inr ⟨"DefaultFund", nw_at 65 (by decide +kernel) rfl⟩⟩
theorem pk_X3_204 : Pk RX3 204 2 1 .int := ⟨by decide, by decide, by decide, rfl, RX0, TX0, tyX0, rfl, inW0, Or.inr ⟨"DefaultFund", nw_at 65 (by decide +kernel) rfl⟩, tyX0_ok, nmX0, rfl, by decide +kernel⟩
theorem fk_X2_9 : Fk RX2 9 3 0 := ⟨by decide, by decide, by decide, RX2, TX2, rfl, inW2, Or.inl (wt_at 78 (by decide +kernel) rfl)⟩
theorem fk_X2_15 : Fk RX2 15 3 1 := ⟨by decide, by decide, by decide, RX2, TX2, rfl, inW2, Or.inl (wt_at 79 (by decide +kernel) rfl)⟩
theorem fk_X2_18 : Fk RX2 18 3 2 := ⟨by decide, by decide, by decide, RX2, TX2, rfl, inW2, Or.inl (wt_at 80 (by decide +kernel) rfl)⟩
theorem fk_X1_9 : Fk RX1 9 4 0 := ⟨by decide, by decide, by decide, RX1, TX1, rfl, inW1, Or.inl (wt_at 93 (by decide +kernel) rfl)⟩
theorem fk_X3_194 : Fk RX3 194 4 0 := ⟨by decide, by decide, by decide, RX1, TX1, rfl, inW1, Or.inr ⟨"DefaultFund", nw_at 94 (by decide +kernel) rfl⟩⟩
theorem fk_X1_15 : Fk RX1 15 4 1 := ⟨by decide, by decide, by decide, RX1, TX1, rfl, inW1, Or.inl (wt_at 95 (by decide +kernel) rfl)⟩
theorem pk_X1_15 : Pk RX1 15 4 1 .int := ⟨by decide, by decide, by decide, rfl, RX1, TX1, tyX1, rfl, inW1, Or.inl (wt_at 95 (by decide +kernel) rfl), tyX1_ok, nmX1, rfl, by decide +kernel⟩
theorem fk_X3_191 : Fk RX3 191 4 1 := ⟨by decide, by decide, by decide, RX1, TX1, rfl, inW1, Or.inr ⟨"DefaultFund", nw_at 96 (by decide +kernel) rfl⟩⟩
theorem pk_X3_191 : Pk RX3 191 4 1 .int := ⟨by decide, by decide, by decide, rfl, RX1, TX1, tyX1, rfl, inW1, Or.inr ⟨"DefaultFund", nw_at 96 (by decide +kernel) rfl⟩, tyX1_ok, nmX1, rfl, by decide +kernel⟩
theorem fk_X1_19 : Fk RX1 19 4 2 := ⟨by decide, by decide, by decide, RX1, TX1, rfl, inW1, Or.inl (wt_at 97 (by decide +kernel) rfl)⟩
theorem pk_X1_19 : Pk RX1 19 4 2 .int := ⟨by decide, by decide, by decide, rfl, RX1, TX1, tyX1, rfl, inW1, Or.inl (wt_at 97 (by decide +kernel) rfl), tyX1_ok, nmX1, rfl, by decide +kernel⟩
theorem fk_X3_171 : Fk RX3 171 4 2 := ⟨by decide, by decide, by decide, RX1, TX1, rfl, inW1, Or.inr ⟨"DefaultFund", nw_at 98 (by decide +kernel) rfl⟩⟩
theorem pk_X3_171 : Pk RX3 171 4 2 .int := ⟨by decide, by decide, by decide, rfl, RX1, TX1, tyX1, rfl, inW1, Or.inr ⟨"DefaultFund", nw_at 98 (by decide +kernel) rfl⟩, tyX1_ok, nmX1, rfl, by decide +kernel⟩
theorem fk_X1_22 : Fk RX1 22 4 3 := ⟨by decide, by decide, by decide, RX1, TX1, rfl, inW1, Or.inl (wt_at 99 (by decide +kernel) rfl)⟩
theorem pk_X1_22 : Pk RX1 22 4 3 .int := ⟨by decide, by decide, by decide, rfl, RX1, TX1, tyX1, rfl, inW1, Or.inl (wt_at 99 (by decide +kernel) rfl), tyX1_ok, nmX1, rfl, by decide +kernel⟩
theorem fk_X3_85 : Fk RX3 85 4 3 := ⟨by decide, by decide, by decide, RX1, TX1, rfl, inW1, Or.inr ⟨"DefaultFund", nw_at 100 (by decide +kernel) rfl⟩⟩
theorem pk_X3_85 : Pk RX3 85 4 3 .int := ⟨by decide, by decide, by decide, rfl, RX1, TX1, tyX1, rfl, inW1, Or.inr ⟨"DefaultFund", nw_at 100 (by decide +kernel) rfl⟩, tyX1_ok, nmX1, rfl, by decide +kernel⟩
theorem fk_X1_25 : Fk RX1 25 4 4 := ⟨by decide, by decide, by decide, RX1, TX1, rfl, inW1, Or.inl (wt_at 101 (by decide +kernel) rfl)⟩
theorem pk_X1_25 : Pk RX1 25 4 4 .int := ⟨by decide, by decide, by decide, rfl, RX1, TX1, tyX1, rfl, inW1, Or.inl (wt_at 101 (by decide +kernel) rfl), tyX1_ok, nmX1, rfl, by decide +kernel⟩
theorem fk_X3_100 : Fk RX3 100 4 4 := ⟨by decide, by decide, by decide, RX1, TX1, rfl, inW1, Or.inr ⟨"DefaultFund", nw_at 102 (by decide +kernel) rfl⟩⟩
theorem pk_X3_100 : Pk RX3 100 4 4 .int := ⟨by decide, by decide, by decide, rfl, RX1, TX1, tyX1, rfl, inW1, Or.inr ⟨"DefaultFund", nw_at 102 (by decide +kernel) rfl⟩, tyX1_ok, nmX1, rfl, by decide +kernel⟩
theorem fk_X1_28 : Fk RX1 28 4 5 := ⟨by decide, by decide, by decide, RX1, TX1, rfl, inW1, Or.inl (wt_at 103 (by decide +kernel) rfl)⟩
theorem pk_X1_28 : Pk RX1 28 4 5 .int := ⟨by decide, by decide, by decide, rfl, RX1, TX1, tyX1, rfl, inW1, Or.inl (wt_at 103 (by decide +kernel) rfl), tyX1_ok, nmX1, rfl, by decide +kernel⟩
theorem fk_X3_116 : Fk RX3 116 4 5 := ⟨by decide, by decide, by decide, RX1, TX1, rfl, inW1, Or.inr ⟨"DefaultFund", nw_at 104 (by decide +kernel) rfl⟩⟩
theorem pk_X3_116 : Pk RX3 116 4 5 .int := ⟨by decide, by decide, by decide, rfl, RX1, TX1, tyX1, rfl, inW1, Or.inr ⟨"DefaultFund", nw_at 104 (by decide +kernel) rfl⟩, tyX1_ok, nmX1, rfl, by decide +kernel⟩
theorem fk_X1_31 : Fk RX1 31 4 6 := ⟨by decide, by decide, by decide, RX1, TX1, rfl, inW1, Or.inl (wt_at 105 (by decide +kernel) rfl)⟩
theorem pk_X1_31 : Pk RX1 31 4 6 .int := ⟨by decide, by decide, by decide, rfl, RX1, TX1, tyX1, rfl, inW1, Or.inl (wt_at 105 (by decide +kernel) rfl), tyX1_ok, nmX1, rfl, by decide +kernel⟩
theorem fk_X1_34 : Fk RX1 34 4 7 := ⟨by decide, by decide, by decide, RX1, TX1, rfl, inW1, Or.inl (wt_at 106 (by decide +kernel) rfl)⟩
theorem pk_X1_34 : Pk RX1 34 4 7 .int := ⟨by decide, by decide, by decide, rfl, RX1, TX1, tyX1, rfl, inW1, Or.inl (wt_at 106 (by decide +kernel) rfl), tyX1_ok, nmX1, rfl, by decide +kernel⟩
theorem fk_X3_79 : Fk RX3 79 4 7 := ⟨by decide, by decide, by decide, RX1, TX1, rfl, inW1, Or.inr ⟨"DefaultFund", nw_at 107 (by decide +kernel) rfl⟩⟩
theorem pk_X3_79 : Pk RX3 79 4 7 .int := ⟨by decide, by decide, by decide, rfl, RX1, TX1, tyX1, rfl, inW1, Or.inr ⟨"DefaultFund", nw_at 107 (by decide +kernel) rfl⟩, tyX1_ok, nmX1, rfl, by decide +kernel⟩
theorem fk_X1_37 : Fk RX1 37 4 8 := ⟨by decide, by decide, by decide, RX1, TX1, rfl, inW1, Or.inl (wt_at 108 (by decide +kernel) rfl)⟩
theorem pk_X1_37 : Pk RX1 37 4 8 .int := ⟨by decide, by decide, by decide, rfl, RX1, TX1, tyX1, rfl, inW1, Or.inl (wt_at 108 (by decide +kernel) rfl), tyX1_ok, nmX1, rfl, by decide +kernel⟩
theorem fk_X3_82 : Fk RX3 82 4 8 := ⟨by decide, by decide, by decide, RX1, TX1, rfl, inW1, Or.inr ⟨"DefaultFund", nw_at 109 (by decide +kernel) rfl⟩⟩
theorem pk_X3_82 : Pk RX3 82 4 8 .int := ⟨by decide, by decide, by decide, rfl, RX1, TX1, tyX1, rfl, inW1, Or.inr ⟨"DefaultFund", nw_at 109 (by decide +kernel) rfl⟩, tyX1_ok, nmX1, rfl, by decide +kernel⟩
theorem fk_X1_40 : Fk RX1 40 4 9 := ⟨by decide, by decide, by decide, RX1, TX1, rfl, inW1, Or.inl (wt_at 110 (by decide +kernel) rfl)⟩
theorem pk_X1_40 : Pk RX1 40 4 9 .boolean := ⟨by decide, by decide, by decide, rfl, RX1, TX1, tyX1, rfl, inW1, Or.inl (wt_at 110 (by decide +kernel) rfl), tyX1_ok, nmX1, rfl, by decide +kernel⟩
theorem fk_X3_164 : Fk RX3 164 4 9 := ⟨by decide, by decide, by decide, RX1, TX1, rfl, inW1, Or.inr ⟨"DefaultFund", nw_at 111 (by decide +kernel) rfl⟩⟩
theorem pk_X3_164 : Pk RX3 164 4 9 .boolean := ⟨by decide, by decide, by decide, rfl, RX1, TX1, tyX1, rfl, inW1, Or.inr ⟨"DefaultFund", nw_at 111 (by decide +kernel) rfl⟩, tyX1_ok, nmX1, rfl, by decide +kernel⟩
theorem fk_X1_44 : Fk RX1 44 4 10 := ⟨by decide, by decide, by decide, RX1, TX1, rfl, inW1, Or.inl (wt_at 112 (by decide +kernel) rfl)⟩
theorem pk_X1_44 : Pk RX1 44 4 10 .int := ⟨by decide, by decide, by decide, rfl, RX1, TX1, tyX1, rfl, inW1, Or.inl (wt_at 112 (by decide +kernel) rfl), tyX1_ok, nmX1, rfl, by decide +kernel⟩
theorem fk_X3_168 : Fk RX3 168 4 10 := ⟨by decide, by decide, by decide, RX1, TX1, rfl, inW1, Or.inr ⟨"DefaultFund", nw_at 113 (by decide +kernel) rfl⟩⟩
theorem pk_X3_168 : Pk RX3 168 4 10 .int := ⟨by decide, by decide, by decide, rfl, RX1, TX1, tyX1, rfl, inW1, Or.inr ⟨"DefaultFund", nw_at 113 (by decide +kernel) rfl⟩, tyX1_ok, nmX1, rfl, by decide +kernel⟩
theorem fk_X1_47 : Fk RX1 47 4 11 := ⟨by decide, by decide, by decide, RX1, TX1, rfl, inW1, Or.inl (wt_at 114 (by decide +kernel) rfl)⟩
theorem pk_X1_47 : Pk RX1 47 4 11 .int := ⟨by decide, by decide, by decide, rfl, RX1, TX1, tyX1, rfl, inW1, Or.inl (wt_at 114 (by decide +kernel) rfl), tyX1_ok, nmX1, rfl, by decide +kernel⟩
theorem fk_X3_174 : Fk RX3 174 4 11 := ⟨by decide, by decide, by decide, RX1, TX1, rfl, inW1, Or.inr ⟨"DefaultFund", nw_at 115 (by decide +kernel) rfl⟩⟩
theorem pk_X3_174 : Pk RX3 174 4 11 .int := ⟨by decide, by decide, by decide, rfl, RX1, TX1, tyX1, rfl, inW1, Or.inr ⟨"DefaultFund", nw_at 115 (by decide +kernel) rfl⟩, tyX1_ok, nmX1, rfl, by decide +kernel⟩
theorem fk_X1_50 : Fk RX1 50 4 12 := ⟨by decide, by decide, by decide, RX1, TX1, rfl, inW1, Or.inl (wt_at 116 (by decide +kernel) rfl)⟩
theorem pk_X1_50 : Pk RX1 50 4 12 .int := ⟨by decide, by decide, by decide, rfl, RX1, TX1, tyX1, rfl, inW1, Or.inl (wt_at 116 (by decide +kernel) rfl), tyX1_ok, nmX1, rfl, by decide +kernel⟩
theorem fk_X3_119 : Fk RX3 119 4 12 := ⟨by decide, by decide, by decide, RX1, TX1, rfl, inW1, Or.inr ⟨"DefaultFund", nw_at 117 (by decide +kernel) rfl⟩⟩
theorem pk_X3_119 : Pk RX3 119 4 12 .int := ⟨by decide, by decide, by decide, rfl, RX1, TX1, tyX1, rfl, inW1, Or.inr ⟨"DefaultFund", nw_at 117 (by decide +kernel) rfl⟩, tyX1_ok, nmX1, rfl, by decide +kernel⟩
theorem fk_X3_11 : Fk RX3 11 0 0 := ⟨by decide, by decide, by decide, RX3, TX3, rfl, inW3, Or.inl (wt_at 145 (by decide +kernel) rfl)⟩
theorem fk_X3_18 : Fk RX3 18 0 1 := ⟨by decide, by decide, by decide, RX3, TX3, rfl, inW3, Or.inl (wt_at 146 (by decide +kernel) rfl)⟩
theorem fk_X3_25 : Fk RX3 25 0 2 := ⟨by decide, by decide, by decide, RX3, TX3, rfl, inW3, Or.inl (wt_at 147 (by decide +kernel) rfl)⟩
theorem fk_X3_29 : Fk RX3 29 0 3 := ⟨by decide, by decide, by decide, RX3, TX3, rfl, inW3, Or.inl (wt_at 148 (by decide +kernel) rfl)⟩
theorem pk_X3_29 : Pk RX3 29 0 3 .int := ⟨by decide, by decide, by decide, rfl, RX3, TX3, tyX3, rfl, inW3, Or.inl (wt_at 148 (by decide +kernel) rfl), tyX3_ok, nmX3, rfl, by decide +kernel⟩
theorem fk_X3_33 : Fk RX3 33 0 4 := ⟨by decide, by decide, by decide, RX3, TX3, rfl, inW3, Or.inl (wt_at 149 (by decide +kernel) rfl)⟩
theorem pk_X3_33 : Pk RX3 33 0 4 .int := ⟨by decide, by decide, by decide, rfl, RX3, TX3, tyX3, rfl, inW3, Or.inl (wt_at 149 (by decide +kernel) rfl), tyX3_ok, nmX3, rfl, by decide +kernel⟩
theorem fk_X3_36 : Fk RX3 36 0 5 := ⟨by decide, by decide, by decide, RX3, TX3, rfl, inW3, Or.inl (wt_at 150 (by decide +kernel) rfl)⟩
theorem pk_X3_36 : Pk RX3 36 0 5 .int := ⟨by decide, by decide, by decide, rfl, RX3, TX3, tyX3, rfl, inW3, Or.inl (wt_at 150 (by decide +kernel) rfl), tyX3_ok, nmX3, rfl, by decide +kernel⟩
theorem fk_X3_39 : Fk RX3 39 0 6 := ⟨by decide, by decide, by decide, RX3, TX3, rfl, inW3, Or.inl (wt_at 151 (by decide +kernel) rfl)⟩
theorem pk_X3_39 : Pk RX3 39 0 6 .int := ⟨by decide, by decide, by decide, rfl, RX3, TX3, tyX3, rfl, inW3, Or.inl (wt_at 151 (by decide +kernel) rfl), tyX3_ok, nmX3, rfl, by decide +kernel⟩
theorem fk_X3_42 : Fk RX3 42 0 7 := ⟨by decide, by decide, by decide, RX3, TX3, rfl, inW3, Or.inl (wt_at 152 (by decide +kernel) rfl)⟩
theorem pk_X3_42 : Pk RX3 42 0 7 .int := ⟨by decide, by decide, by decide, rfl, RX3, TX3, tyX3, rfl, inW3, Or.inl (wt_at 152 (by decide +kernel) rfl), tyX3_ok, nmX3, rfl, by decide +kernel⟩
theorem ck_L_80 : Ck RL 80 yX3_addMember cX3_addMember 4 (some .int) 3 := ⟨Or.inl (wt_at 170 (by decide +kernel) rfl), wt_at 34 (by decide +kernel) rfl, wt_at 173 (by decide +kernel) rfl, ⟨by decide +kernel, by decide +kernel⟩, by decide +kernel⟩
theorem vk_X3_addMember : Vk yX3_addMember := ⟨wt_at 171 (by decide +kernel) rfl, wt_at 172 (by decide +kernel) rfl⟩
theorem ck_X3_47 : Ck RX3 47 yX3_requireBetween cX3_requireBetween 3 none 3 := ⟨Or.inl (wt_at 175 (by decide +kernel) rfl), wt_at 34 (by decide +kernel) rfl, wt_at 177 (by decide +kernel) rfl, ⟨by decide +kernel, by decide +kernel⟩, by decide +kernel⟩
theorem sl_X3_47 : Cond.methodLink RX3 47 yX3_requireBetween ∈ WT := wt_at 175 (by decide +kernel) rfl
theorem st_X3_requireBetween : Cond.static yX3_requireBetween ∈ WT := wt_at 176 (by decide +kernel) rfl
theorem ck_X3_58 : Ck RX3 58 yX1_join cX1_join 4 none 3 := ⟨Or.inr ⟨"DefaultFund", nw_at 262 (by decide +kernel) rfl⟩, wt_at 37 (by decide +kernel) rfl, wt_at 265 (by decide +kernel) rfl, ⟨by decide +kernel, by decide +kernel⟩, by decide +kernel⟩
theorem vk_X1_join : Vk yX1_join := ⟨wt_at 264 (by decide +kernel) rfl, wt_at 1 (by decide +kernel) rfl⟩
theorem ck_L_88 : Ck RL 88 yX3_setGain cX3_setGain 5 (some .int) 2 := ⟨Or.inl (wt_at 266 (by decide +kernel) rfl), wt_at 34 (by decide +kernel) rfl, wt_at 269 (by decide +kernel) rfl, ⟨by decide +kernel, by decide +kernel⟩, by decide +kernel⟩
theorem vk_X3_setGain : Vk yX3_setGain := ⟨wt_at 267 (by decide +kernel) rfl, wt_at 268 (by decide +kernel) rfl⟩
theorem ck_X3_61 : Ck RX3 61 yX3_existing cX3_existing 2 (some (.object "DefaultFund$Member")) 1 := ⟨Or.inl (wt_at 270 (by decide +kernel) rfl), wt_at 34 (by decide +kernel) rfl, wt_at 273 (by decide +kernel) rfl, ⟨by decide +kernel, by decide +kernel⟩, by decide +kernel⟩
theorem vk_X3_existing : Vk yX3_existing := ⟨wt_at 272 (by decide +kernel) rfl, wt_at 2 (by decide +kernel) rfl⟩
theorem ck_X3_65 : Ck RX3 65 yX3_requireActive cX3_requireActive 1 none 1 := ⟨Or.inl (wt_at 290 (by decide +kernel) rfl), wt_at 34 (by decide +kernel) rfl, wt_at 292 (by decide +kernel) rfl, ⟨by decide +kernel, by decide +kernel⟩, by decide +kernel⟩
theorem sl_X3_65 : Cond.methodLink RX3 65 yX3_requireActive ∈ WT := wt_at 290 (by decide +kernel) rfl
theorem st_X3_requireActive : Cond.static yX3_requireActive ∈ WT := wt_at 291 (by decide +kernel) rfl
theorem ck_X3_96 : Ck RX3 96 yX1_isActive cX1_isActive 1 (some .boolean) 0 := ⟨Or.inr ⟨"DefaultFund", nw_at 293 (by decide +kernel) rfl⟩, wt_at 37 (by decide +kernel) rfl, wt_at 296 (by decide +kernel) rfl, ⟨by decide +kernel, by decide +kernel⟩, by decide +kernel⟩
theorem vk_X1_isActive : Vk yX1_isActive := ⟨wt_at 295 (by decide +kernel) rfl, wt_at 3 (by decide +kernel) rfl⟩
theorem ck_L_91 : Ck RL 91 yX3_setTested cX3_setTested 5 (some .int) 2 := ⟨Or.inl (wt_at 298 (by decide +kernel) rfl), wt_at 34 (by decide +kernel) rfl, wt_at 301 (by decide +kernel) rfl, ⟨by decide +kernel, by decide +kernel⟩, by decide +kernel⟩
theorem vk_X3_setTested : Vk yX3_setTested := ⟨wt_at 299 (by decide +kernel) rfl, wt_at 300 (by decide +kernel) rfl⟩
theorem ck_L_98 : Ck RL 98 yX3_setCapital cX3_setCapital 3 (some .int) 1 := ⟨Or.inl (wt_at 302 (by decide +kernel) rfl), wt_at 34 (by decide +kernel) rfl, wt_at 305 (by decide +kernel) rfl, ⟨by decide +kernel, by decide +kernel⟩, by decide +kernel⟩
theorem vk_X3_setCapital : Vk yX3_setCapital := ⟨wt_at 303 (by decide +kernel) rfl, wt_at 304 (by decide +kernel) rfl⟩
theorem ck_L_94 : Ck RL 94 yX3_giveNotice cX3_giveNotice 3 none 1 := ⟨Or.inl (wt_at 306 (by decide +kernel) rfl), wt_at 34 (by decide +kernel) rfl, wt_at 309 (by decide +kernel) rfl, ⟨by decide +kernel, by decide +kernel⟩, by decide +kernel⟩
theorem vk_X3_giveNotice : Vk yX3_giveNotice := ⟨wt_at 307 (by decide +kernel) rfl, wt_at 308 (by decide +kernel) rfl⟩
theorem ck_X3_90 : Ck RX3 90 yX3_requireNoFailure cX3_requireNoFailure 1 none 0 := ⟨Or.inl (wt_at 311 (by decide +kernel) rfl), wt_at 34 (by decide +kernel) rfl, wt_at 314 (by decide +kernel) rfl, ⟨by decide +kernel, by decide +kernel⟩, by decide +kernel⟩
theorem vk_X3_requireNoFailure : Vk yX3_requireNoFailure := ⟨wt_at 313 (by decide +kernel) rfl, wt_at 4 (by decide +kernel) rfl⟩
theorem ck_L_14 : Ck RL 14 yX3_members cX3_members 1 (some .int) 0 := ⟨Or.inl (wt_at 316 (by decide +kernel) rfl), wt_at 34 (by decide +kernel) rfl, wt_at 319 (by decide +kernel) rfl, ⟨by decide +kernel, by decide +kernel⟩, by decide +kernel⟩
theorem vk_X3_members : Vk yX3_members := ⟨wt_at 317 (by decide +kernel) rfl, wt_at 318 (by decide +kernel) rfl⟩
theorem ck_L_33 : Ck RL 33 yX3_state cX3_state 2 (some .int) 1 := ⟨Or.inl (wt_at 320 (by decide +kernel) rfl), wt_at 34 (by decide +kernel) rfl, wt_at 323 (by decide +kernel) rfl, ⟨by decide +kernel, by decide +kernel⟩, by decide +kernel⟩
theorem vk_X3_state : Vk yX3_state := ⟨wt_at 321 (by decide +kernel) rfl, wt_at 322 (by decide +kernel) rfl⟩
theorem ck_L_75 : Ck RL 75 yL_cell cL_cell 2 (some .int) 2 := ⟨Or.inl (wt_at 324 (by decide +kernel) rfl), wt_at 33 (by decide +kernel) rfl, wt_at 326 (by decide +kernel) rfl, ⟨by decide +kernel, by decide +kernel⟩, by decide +kernel⟩
theorem sl_L_75 : Cond.methodLink RL 75 yL_cell ∈ WT := wt_at 324 (by decide +kernel) rfl
theorem st_L_cell : Cond.static yL_cell ∈ WT := wt_at 325 (by decide +kernel) rfl
theorem ck_L_55 : Ck RL 55 yL_at cL_at 2 (some .int) 2 := ⟨Or.inl (wt_at 328 (by decide +kernel) rfl), wt_at 33 (by decide +kernel) rfl, wt_at 330 (by decide +kernel) rfl, ⟨by decide +kernel, by decide +kernel⟩, by decide +kernel⟩
theorem sl_L_55 : Cond.methodLink RL 55 yL_at ∈ WT := wt_at 328 (by decide +kernel) rfl
theorem st_L_at : Cond.static yL_at ∈ WT := wt_at 329 (by decide +kernel) rfl
theorem ck_L_113 : Ck RL 113 yL_ends cL_ends 14 (some .boolean) 3 := ⟨Or.inl (wt_at 331 (by decide +kernel) rfl), wt_at 33 (by decide +kernel) rfl, wt_at 333 (by decide +kernel) rfl, ⟨by decide +kernel, by decide +kernel⟩, by decide +kernel⟩
theorem sl_L_113 : Cond.methodLink RL 113 yL_ends ∈ WT := wt_at 331 (by decide +kernel) rfl
theorem st_L_ends : Cond.static yL_ends ∈ WT := wt_at 332 (by decide +kernel) rfl
theorem ck_L_27 : Ck RL 27 yX3_failing cX3_failing 1 (some .int) 0 := ⟨Or.inl (wt_at 334 (by decide +kernel) rfl), wt_at 34 (by decide +kernel) rfl, wt_at 337 (by decide +kernel) rfl, ⟨by decide +kernel, by decide +kernel⟩, by decide +kernel⟩
theorem vk_X3_failing : Vk yX3_failing := ⟨wt_at 335 (by decide +kernel) rfl, wt_at 336 (by decide +kernel) rfl⟩
theorem ck_L_30 : Ck RL 30 yX3_uncovered cX3_uncovered 1 (some .int) 0 := ⟨Or.inl (wt_at 338 (by decide +kernel) rfl), wt_at 34 (by decide +kernel) rfl, wt_at 341 (by decide +kernel) rfl, ⟨by decide +kernel, by decide +kernel⟩, by decide +kernel⟩
theorem vk_X3_uncovered : Vk yX3_uncovered := ⟨wt_at 339 (by decide +kernel) rfl, wt_at 340 (by decide +kernel) rfl⟩
theorem ck_L_8 : Ck RL 8 yX3_capital cX3_capital 1 (some .int) 0 := ⟨Or.inl (wt_at 342 (by decide +kernel) rfl), wt_at 34 (by decide +kernel) rfl, wt_at 345 (by decide +kernel) rfl, ⟨by decide +kernel, by decide +kernel⟩, by decide +kernel⟩
theorem vk_X3_capital : Vk yX3_capital := ⟨wt_at 343 (by decide +kernel) rfl, wt_at 344 (by decide +kernel) rfl⟩
theorem ck_L_17 : Ck RL 17 yX3_share cX3_share 2 (some .int) 1 := ⟨Or.inl (wt_at 346 (by decide +kernel) rfl), wt_at 34 (by decide +kernel) rfl, wt_at 349 (by decide +kernel) rfl, ⟨by decide +kernel, by decide +kernel⟩, by decide +kernel⟩
theorem vk_X3_share : Vk yX3_share := ⟨wt_at 347 (by decide +kernel) rfl, wt_at 348 (by decide +kernel) rfl⟩
theorem ck_L_21 : Ck RL 21 yX3_gain cX3_gain 2 (some .int) 1 := ⟨Or.inl (wt_at 350 (by decide +kernel) rfl), wt_at 34 (by decide +kernel) rfl, wt_at 353 (by decide +kernel) rfl, ⟨by decide +kernel, by decide +kernel⟩, by decide +kernel⟩
theorem vk_X3_gain : Vk yX3_gain := ⟨wt_at 351 (by decide +kernel) rfl, wt_at 352 (by decide +kernel) rfl⟩
theorem ck_L_24 : Ck RL 24 yX3_assessed cX3_assessed 2 (some .int) 1 := ⟨Or.inl (wt_at 354 (by decide +kernel) rfl), wt_at 34 (by decide +kernel) rfl, wt_at 357 (by decide +kernel) rfl, ⟨by decide +kernel, by decide +kernel⟩, by decide +kernel⟩
theorem vk_X3_assessed : Vk yX3_assessed := ⟨wt_at 355 (by decide +kernel) rfl, wt_at 356 (by decide +kernel) rfl⟩
theorem ck_L_36 : Ck RL 36 yX3_won cX3_won 2 (some .int) 1 := ⟨Or.inl (wt_at 358 (by decide +kernel) rfl), wt_at 34 (by decide +kernel) rfl, wt_at 361 (by decide +kernel) rfl, ⟨by decide +kernel, by decide +kernel⟩, by decide +kernel⟩
theorem vk_X3_won : Vk yX3_won := ⟨wt_at 359 (by decide +kernel) rfl, wt_at 360 (by decide +kernel) rfl⟩
theorem ck_L_39 : Ck RL 39 yX3_margin cX3_margin 2 (some .int) 1 := ⟨Or.inl (wt_at 362 (by decide +kernel) rfl), wt_at 34 (by decide +kernel) rfl, wt_at 365 (by decide +kernel) rfl, ⟨by decide +kernel, by decide +kernel⟩, by decide +kernel⟩
theorem vk_X3_margin : Vk yX3_margin := ⟨wt_at 363 (by decide +kernel) rfl, wt_at 364 (by decide +kernel) rfl⟩
theorem ck_L_42 : Ck RL 42 yX3_close cX3_close 2 (some .int) 0 := ⟨Or.inl (wt_at 366 (by decide +kernel) rfl), wt_at 34 (by decide +kernel) rfl, wt_at 369 (by decide +kernel) rfl, ⟨by decide +kernel, by decide +kernel⟩, by decide +kernel⟩
theorem vk_X3_close : Vk yX3_close := ⟨wt_at 367 (by decide +kernel) rfl, wt_at 368 (by decide +kernel) rfl⟩
theorem ck_X3_147 : Ck RX3 147 yX3_awardLots cX3_awardLots 4 (some .int) 0 := ⟨Or.inl (wt_at 371 (by decide +kernel) rfl), wt_at 34 (by decide +kernel) rfl, wt_at 374 (by decide +kernel) rfl, ⟨by decide +kernel, by decide +kernel⟩, by decide +kernel⟩
theorem vk_X3_awardLots : Vk yX3_awardLots := ⟨wt_at 373 (by decide +kernel) rfl, wt_at 5 (by decide +kernel) rfl⟩
theorem ck_X3_207 : Ck RX3 207 yX0_winnerOf cX0_winnerOf 5 (some .int) 1 := ⟨Or.inr ⟨"DefaultFund", nw_at 375 (by decide +kernel) rfl⟩, wt_at 35 (by decide +kernel) rfl, wt_at 378 (by decide +kernel) rfl, ⟨by decide +kernel, by decide +kernel⟩, by decide +kernel⟩
theorem vk_X0_winnerOf : Vk yX0_winnerOf := ⟨wt_at 377 (by decide +kernel) rfl, wt_at 6 (by decide +kernel) rfl⟩
theorem ck_X3_138 : Ck RX3 138 yX0_bidOf cX0_bidOf 3 (some .int) 2 := ⟨Or.inr ⟨"DefaultFund", nw_at 379 (by decide +kernel) rfl⟩, wt_at 35 (by decide +kernel) rfl, wt_at 382 (by decide +kernel) rfl, ⟨by decide +kernel, by decide +kernel⟩, by decide +kernel⟩
theorem vk_X0_bidOf : Vk yX0_bidOf := ⟨wt_at 381 (by decide +kernel) rfl, wt_at 7 (by decide +kernel) rfl⟩
theorem mm_X3_150 : Mx RX3 150 := ⟨wt_at 383 (by decide +kernel) rfl, wt_at 384 (by decide +kernel) rfl, wt_at 44 (by decide +kernel) rfl, wt_at 385 (by decide +kernel) rfl⟩
theorem ck_X3_155 : Ck RX3 155 yX3_rankBidders cX3_rankBidders 2 none 0 := ⟨Or.inl (wt_at 386 (by decide +kernel) rfl), wt_at 34 (by decide +kernel) rfl, wt_at 389 (by decide +kernel) rfl, ⟨by decide +kernel, by decide +kernel⟩, by decide +kernel⟩
theorem vk_X3_rankBidders : Vk yX3_rankBidders := ⟨wt_at 388 (by decide +kernel) rfl, wt_at 8 (by decide +kernel) rfl⟩
theorem ck_X3_210 : Ck RX3 210 yX0_bidPoorly cX0_bidPoorly 5 (some .boolean) 1 := ⟨Or.inr ⟨"DefaultFund", nw_at 390 (by decide +kernel) rfl⟩, wt_at 35 (by decide +kernel) rfl, wt_at 393 (by decide +kernel) rfl, ⟨by decide +kernel, by decide +kernel⟩, by decide +kernel⟩
theorem vk_X0_bidPoorly : Vk yX0_bidPoorly := ⟨wt_at 392 (by decide +kernel) rfl, wt_at 9 (by decide +kernel) rfl⟩
theorem ck_X0_26 : Ck RX0 26 yX0_isLow cX0_isLow 4 (some .boolean) 2 := ⟨Or.inl (wt_at 394 (by decide +kernel) rfl), wt_at 35 (by decide +kernel) rfl, wt_at 397 (by decide +kernel) rfl, ⟨by decide +kernel, by decide +kernel⟩, by decide +kernel⟩
theorem vk_X0_isLow : Vk yX0_isLow := ⟨wt_at 396 (by decide +kernel) rfl, wt_at 10 (by decide +kernel) rfl⟩
theorem ck_X0_30 : Ck RX0 30 yX0_winnerOf cX0_winnerOf 5 (some .int) 1 := ⟨Or.inl (wt_at 398 (by decide +kernel) rfl), wt_at 35 (by decide +kernel) rfl, wt_at 378 (by decide +kernel) rfl, ⟨by decide +kernel, by decide +kernel⟩, by decide +kernel⟩
theorem ck_X3_158 : Ck RX3 158 yX3_eatLoss cX3_eatLoss 4 (some .int) 1 := ⟨Or.inl (wt_at 399 (by decide +kernel) rfl), wt_at 34 (by decide +kernel) rfl, wt_at 402 (by decide +kernel) rfl, ⟨by decide +kernel, by decide +kernel⟩, by decide +kernel⟩
theorem vk_X3_eatLoss : Vk yX3_eatLoss := ⟨wt_at 401 (by decide +kernel) rfl, wt_at 11 (by decide +kernel) rfl⟩
theorem mm_X3_188 : Mn RX3 188 := ⟨wt_at 403 (by decide +kernel) rfl, wt_at 404 (by decide +kernel) rfl, wt_at 44 (by decide +kernel) rfl, wt_at 405 (by decide +kernel) rfl⟩
theorem ck_X3_216 : Ck RX3 216 yX3_eatShares cX3_eatShares 6 (some .int) 2 := ⟨Or.inl (wt_at 406 (by decide +kernel) rfl), wt_at 34 (by decide +kernel) rfl, wt_at 409 (by decide +kernel) rfl, ⟨by decide +kernel, by decide +kernel⟩, by decide +kernel⟩
theorem vk_X3_eatShares : Vk yX3_eatShares := ⟨wt_at 408 (by decide +kernel) rfl, wt_at 12 (by decide +kernel) rfl⟩
theorem ck_X3_103 : Ck RX3 103 yX2_enter cX2_enter 4 none 3 := ⟨Or.inr ⟨"DefaultFund", nw_at 410 (by decide +kernel) rfl⟩, wt_at 36 (by decide +kernel) rfl, wt_at 413 (by decide +kernel) rfl, ⟨by decide +kernel, by decide +kernel⟩, by decide +kernel⟩
theorem vk_X2_enter : Vk yX2_enter := ⟨wt_at 412 (by decide +kernel) rfl, wt_at 13 (by decide +kernel) rfl⟩
theorem ck_X3_106 : Ck RX3 106 yX2_part cX2_part 6 (some .int) 1 := ⟨Or.inr ⟨"DefaultFund", nw_at 414 (by decide +kernel) rfl⟩, wt_at 36 (by decide +kernel) rfl, wt_at 417 (by decide +kernel) rfl, ⟨by decide +kernel, by decide +kernel⟩, by decide +kernel⟩
theorem vk_X2_part : Vk yX2_part := ⟨wt_at 416 (by decide +kernel) rfl, wt_at 14 (by decide +kernel) rfl⟩
theorem mm_X2_21 : Mn RX2 21 := ⟨wt_at 418 (by decide +kernel) rfl, wt_at 404 (by decide +kernel) rfl, wt_at 44 (by decide +kernel) rfl, wt_at 405 (by decide +kernel) rfl⟩
theorem ck_X2_27 : Ck RX2 27 yX2_giveCoins cX2_giveCoins 6 (some .int) 1 := ⟨Or.inl (wt_at 419 (by decide +kernel) rfl), wt_at 36 (by decide +kernel) rfl, wt_at 422 (by decide +kernel) rfl, ⟨by decide +kernel, by decide +kernel⟩, by decide +kernel⟩
theorem vk_X2_giveCoins : Vk yX2_giveCoins := ⟨wt_at 421 (by decide +kernel) rfl, wt_at 15 (by decide +kernel) rfl⟩
theorem ck_X2_31 : Ck RX2 31 yX2_roundsAtAStroke cX2_roundsAtAStroke 5 (some .int) 1 := ⟨Or.inl (wt_at 423 (by decide +kernel) rfl), wt_at 36 (by decide +kernel) rfl, wt_at 426 (by decide +kernel) rfl, ⟨by decide +kernel, by decide +kernel⟩, by decide +kernel⟩
theorem vk_X2_roundsAtAStroke : Vk yX2_roundsAtAStroke := ⟨wt_at 425 (by decide +kernel) rfl, wt_at 16 (by decide +kernel) rfl⟩
theorem ck_X2_34 : Ck RX2 34 yX2_canTake cX2_canTake 2 (some .boolean) 1 := ⟨Or.inl (wt_at 427 (by decide +kernel) rfl), wt_at 36 (by decide +kernel) rfl, wt_at 430 (by decide +kernel) rfl, ⟨by decide +kernel, by decide +kernel⟩, by decide +kernel⟩
theorem vk_X2_canTake : Vk yX2_canTake := ⟨wt_at 429 (by decide +kernel) rfl, wt_at 17 (by decide +kernel) rfl⟩
theorem mm_X2_38 : Mx RX2 38 := ⟨wt_at 431 (by decide +kernel) rfl, wt_at 384 (by decide +kernel) rfl, wt_at 44 (by decide +kernel) rfl, wt_at 385 (by decide +kernel) rfl⟩
theorem ck_X3_110 : Ck RX3 110 yX2_partOf cX2_partOf 2 (some .int) 1 := ⟨Or.inr ⟨"DefaultFund", nw_at 432 (by decide +kernel) rfl⟩, wt_at 36 (by decide +kernel) rfl, wt_at 435 (by decide +kernel) rfl, ⟨by decide +kernel, by decide +kernel⟩, by decide +kernel⟩
theorem vk_X2_partOf : Vk yX2_partOf := ⟨wt_at 434 (by decide +kernel) rfl, wt_at 18 (by decide +kernel) rfl⟩
theorem ck_X3_220 : Ck RX3 220 yX3_eatAssessments cX3_eatAssessments 5 (some .int) 1 := ⟨Or.inl (wt_at 436 (by decide +kernel) rfl), wt_at 34 (by decide +kernel) rfl, wt_at 439 (by decide +kernel) rfl, ⟨by decide +kernel, by decide +kernel⟩, by decide +kernel⟩
theorem vk_X3_eatAssessments : Vk yX3_eatAssessments := ⟨wt_at 438 (by decide +kernel) rfl, wt_at 19 (by decide +kernel) rfl⟩
theorem ck_X3_223 : Ck RX3 223 yX3_eatGains cX3_eatGains 4 (some .int) 1 := ⟨Or.inl (wt_at 440 (by decide +kernel) rfl), wt_at 34 (by decide +kernel) rfl, wt_at 443 (by decide +kernel) rfl, ⟨by decide +kernel, by decide +kernel⟩, by decide +kernel⟩
theorem vk_X3_eatGains : Vk yX3_eatGains := ⟨wt_at 442 (by decide +kernel) rfl, wt_at 20 (by decide +kernel) rfl⟩
theorem ck_X3_161 : Ck RX3 161 yX3_endFailure cX3_endFailure 3 none 1 := ⟨Or.inl (wt_at 444 (by decide +kernel) rfl), wt_at 34 (by decide +kernel) rfl, wt_at 447 (by decide +kernel) rfl, ⟨by decide +kernel, by decide +kernel⟩, by decide +kernel⟩
theorem vk_X3_endFailure : Vk yX3_endFailure := ⟨wt_at 446 (by decide +kernel) rfl, wt_at 21 (by decide +kernel) rfl⟩
theorem ck_X3_213 : Ck RX3 213 yX1_loseAll cX1_loseAll 1 none 0 := ⟨Or.inr ⟨"DefaultFund", nw_at 448 (by decide +kernel) rfl⟩, wt_at 37 (by decide +kernel) rfl, wt_at 451 (by decide +kernel) rfl, ⟨by decide +kernel, by decide +kernel⟩, by decide +kernel⟩
theorem vk_X1_loseAll : Vk yX1_loseAll := ⟨wt_at 450 (by decide +kernel) rfl, wt_at 22 (by decide +kernel) rfl⟩
theorem ck_X1_63 : Ck RX1 63 yX1_dropClients cX1_dropClients 1 none 0 := ⟨Or.inl (wt_at 452 (by decide +kernel) rfl), wt_at 37 (by decide +kernel) rfl, wt_at 455 (by decide +kernel) rfl, ⟨by decide +kernel, by decide +kernel⟩, by decide +kernel⟩
theorem vk_X1_dropClients : Vk yX1_dropClients := ⟨wt_at 454 (by decide +kernel) rfl, wt_at 23 (by decide +kernel) rfl⟩
theorem ck_L_45 : Ck RL 45 yX3_loss cX3_loss 1 (some .int) 0 := ⟨Or.inl (wt_at 456 (by decide +kernel) rfl), wt_at 34 (by decide +kernel) rfl, wt_at 459 (by decide +kernel) rfl, ⟨by decide +kernel, by decide +kernel⟩, by decide +kernel⟩
theorem vk_X3_loss : Vk yX3_loss := ⟨wt_at 457 (by decide +kernel) rfl, wt_at 458 (by decide +kernel) rfl⟩
theorem ck_L_48 : Ck RL 48 yX3_clientLots cX3_clientLots 2 (some .int) 1 := ⟨Or.inl (wt_at 460 (by decide +kernel) rfl), wt_at 34 (by decide +kernel) rfl, wt_at 463 (by decide +kernel) rfl, ⟨by decide +kernel, by decide +kernel⟩, by decide +kernel⟩
theorem vk_X3_clientLots : Vk yX3_clientLots := ⟨wt_at 461 (by decide +kernel) rfl, wt_at 462 (by decide +kernel) rfl⟩
theorem ck_L_105 : Ck RL 105 yL_fails cL_fails 7 (some .int) 3 := ⟨Or.inl (wt_at 464 (by decide +kernel) rfl), wt_at 33 (by decide +kernel) rfl, wt_at 466 (by decide +kernel) rfl, ⟨by decide +kernel, by decide +kernel⟩, by decide +kernel⟩
theorem sl_L_105 : Cond.methodLink RL 105 yL_fails ∈ WT := wt_at 464 (by decide +kernel) rfl
theorem st_L_fails : Cond.static yL_fails ∈ WT := wt_at 465 (by decide +kernel) rfl
theorem ck_L_51 : Ck RL 51 yX3_fail cX3_fail 5 (some .int) 2 := ⟨Or.inl (wt_at 467 (by decide +kernel) rfl), wt_at 34 (by decide +kernel) rfl, wt_at 470 (by decide +kernel) rfl, ⟨by decide +kernel, by decide +kernel⟩, by decide +kernel⟩
theorem vk_X3_fail : Vk yX3_fail := ⟨wt_at 468 (by decide +kernel) rfl, wt_at 469 (by decide +kernel) rfl⟩
theorem ck_X3_122 : Ck RX3 122 yX3_moveClients cX3_moveClients 5 (some .int) 1 := ⟨Or.inl (wt_at 471 (by decide +kernel) rfl), wt_at 34 (by decide +kernel) rfl, wt_at 474 (by decide +kernel) rfl, ⟨by decide +kernel, by decide +kernel⟩, by decide +kernel⟩
theorem vk_X3_moveClients : Vk yX3_moveClients := ⟨wt_at 473 (by decide +kernel) rfl, wt_at 24 (by decide +kernel) rfl⟩
theorem ck_X3_198 : Ck RX3 198 yX3_findsHost cX3_findsHost 3 (some .boolean) 1 := ⟨Or.inl (wt_at 475 (by decide +kernel) rfl), wt_at 34 (by decide +kernel) rfl, wt_at 478 (by decide +kernel) rfl, ⟨by decide +kernel, by decide +kernel⟩, by decide +kernel⟩
theorem vk_X3_findsHost : Vk yX3_findsHost := ⟨wt_at 477 (by decide +kernel) rfl, wt_at 25 (by decide +kernel) rfl⟩
theorem ck_X3_69 : Ck RX3 69 yX1_takesClient cX1_takesClient 2 (some .boolean) 1 := ⟨Or.inr ⟨"DefaultFund", nw_at 479 (by decide +kernel) rfl⟩, wt_at 37 (by decide +kernel) rfl, wt_at 482 (by decide +kernel) rfl, ⟨by decide +kernel, by decide +kernel⟩, by decide +kernel⟩
theorem vk_X1_takesClient : Vk yX1_takesClient := ⟨wt_at 481 (by decide +kernel) rfl, wt_at 26 (by decide +kernel) rfl⟩
theorem ck_X1_53 : Ck RX1 53 yX1_freeRoom cX1_freeRoom 1 (some .int) 0 := ⟨Or.inl (wt_at 483 (by decide +kernel) rfl), wt_at 37 (by decide +kernel) rfl, wt_at 486 (by decide +kernel) rfl, ⟨by decide +kernel, by decide +kernel⟩, by decide +kernel⟩
theorem vk_X1_freeRoom : Vk yX1_freeRoom := ⟨wt_at 485 (by decide +kernel) rfl, wt_at 27 (by decide +kernel) rfl⟩
theorem ck_X3_201 : Ck RX3 201 yX1_dropClients cX1_dropClients 1 none 0 := ⟨Or.inr ⟨"DefaultFund", nw_at 487 (by decide +kernel) rfl⟩, wt_at 37 (by decide +kernel) rfl, wt_at 455 (by decide +kernel) rfl, ⟨by decide +kernel, by decide +kernel⟩, by decide +kernel⟩
theorem ck_X3_126 : Ck RX3 126 yX0_open cX0_open 4 none 1 := ⟨Or.inr ⟨"DefaultFund", nw_at 488 (by decide +kernel) rfl⟩, wt_at 35 (by decide +kernel) rfl, wt_at 491 (by decide +kernel) rfl, ⟨by decide +kernel, by decide +kernel⟩, by decide +kernel⟩
theorem vk_X0_open : Vk yX0_open := ⟨wt_at 490 (by decide +kernel) rfl, wt_at 28 (by decide +kernel) rfl⟩
theorem mm_X0_20 : Mn RX0 20 := ⟨wt_at 492 (by decide +kernel) rfl, wt_at 404 (by decide +kernel) rfl, wt_at 44 (by decide +kernel) rfl, wt_at 405 (by decide +kernel) rfl⟩
theorem ck_L_84 : Ck RL 84 yL_clients cL_clients 7 (some .boolean) 4 := ⟨Or.inl (wt_at 493 (by decide +kernel) rfl), wt_at 33 (by decide +kernel) rfl, wt_at 495 (by decide +kernel) rfl, ⟨by decide +kernel, by decide +kernel⟩, by decide +kernel⟩
theorem sl_L_84 : Cond.methodLink RL 84 yL_clients ∈ WT := wt_at 493 (by decide +kernel) rfl
theorem st_L_clients : Cond.static yL_clients ∈ WT := wt_at 494 (by decide +kernel) rfl
theorem ck_L_60 : Ck RL 60 yX3_addClient cX3_addClient 4 (some .int) 2 := ⟨Or.inl (wt_at 496 (by decide +kernel) rfl), wt_at 34 (by decide +kernel) rfl, wt_at 499 (by decide +kernel) rfl, ⟨by decide +kernel, by decide +kernel⟩, by decide +kernel⟩
theorem vk_X3_addClient : Vk yX3_addClient := ⟨wt_at 497 (by decide +kernel) rfl, wt_at 498 (by decide +kernel) rfl⟩
theorem ck_X3_75 : Ck RX3 75 yX1_freeRoom cX1_freeRoom 1 (some .int) 0 := ⟨Or.inr ⟨"DefaultFund", nw_at 501 (by decide +kernel) rfl⟩, wt_at 37 (by decide +kernel) rfl, wt_at 486 (by decide +kernel) rfl, ⟨by decide +kernel, by decide +kernel⟩, by decide +kernel⟩
theorem ck_L_101 : Ck RL 101 yL_sizes cL_sizes 4 (some .boolean) 1 := ⟨Or.inl (wt_at 502 (by decide +kernel) rfl), wt_at 33 (by decide +kernel) rfl, wt_at 504 (by decide +kernel) rfl, ⟨by decide +kernel, by decide +kernel⟩, by decide +kernel⟩
theorem sl_L_101 : Cond.methodLink RL 101 yL_sizes ∈ WT := wt_at 502 (by decide +kernel) rfl
theorem st_L_sizes : Cond.static yL_sizes ∈ WT := wt_at 503 (by decide +kernel) rfl
theorem ck_L_63 : Ck RL 63 yL_funds cL_funds 4 (some .long) 1 := ⟨Or.inl (wt_at 505 (by decide +kernel) rfl), wt_at 33 (by decide +kernel) rfl, wt_at 507 (by decide +kernel) rfl, ⟨by decide +kernel, by decide +kernel⟩, by decide +kernel⟩
theorem sl_L_63 : Cond.methodLink RL 63 yL_funds ∈ WT := wt_at 505 (by decide +kernel) rfl
theorem st_L_funds : Cond.static yL_funds ∈ WT := wt_at 506 (by decide +kernel) rfl
theorem ck_L_67 : Ck RL 67 yX3_size cX3_size 4 (some .int) 0 := ⟨Or.inl (wt_at 508 (by decide +kernel) rfl), wt_at 34 (by decide +kernel) rfl, wt_at 511 (by decide +kernel) rfl, ⟨by decide +kernel, by decide +kernel⟩, by decide +kernel⟩
theorem vk_X3_size : Vk yX3_size := ⟨wt_at 509 (by decide +kernel) rfl, wt_at 510 (by decide +kernel) rfl⟩
theorem ck_X3_93 : Ck RX3 93 yX3_neededFund cX3_neededFund 5 (some .int) 0 := ⟨Or.inl (wt_at 512 (by decide +kernel) rfl), wt_at 34 (by decide +kernel) rfl, wt_at 515 (by decide +kernel) rfl, ⟨by decide +kernel, by decide +kernel⟩, by decide +kernel⟩
theorem vk_X3_neededFund : Vk yX3_neededFund := ⟨wt_at 514 (by decide +kernel) rfl, wt_at 29 (by decide +kernel) rfl⟩
theorem ck_X3_113 : Ck RX3 113 yX1_raiseShare cX1_raiseShare 3 (some .int) 1 := ⟨Or.inr ⟨"DefaultFund", nw_at 516 (by decide +kernel) rfl⟩, wt_at 37 (by decide +kernel) rfl, wt_at 519 (by decide +kernel) rfl, ⟨by decide +kernel, by decide +kernel⟩, by decide +kernel⟩
theorem vk_X1_raiseShare : Vk yX1_raiseShare := ⟨wt_at 518 (by decide +kernel) rfl, wt_at 30 (by decide +kernel) rfl⟩
theorem mm_X1_57 : Mx RX1 57 := ⟨wt_at 520 (by decide +kernel) rfl, wt_at 384 (by decide +kernel) rfl, wt_at 44 (by decide +kernel) rfl, wt_at 385 (by decide +kernel) rfl⟩
theorem ck_L_109 : Ck RL 109 yL_bids cL_bids 6 none 4 := ⟨Or.inl (wt_at 521 (by decide +kernel) rfl), wt_at 33 (by decide +kernel) rfl, wt_at 523 (by decide +kernel) rfl, ⟨by decide +kernel, by decide +kernel⟩, by decide +kernel⟩
theorem sl_L_109 : Cond.methodLink RL 109 yL_bids ∈ WT := wt_at 521 (by decide +kernel) rfl
theorem st_L_bids : Cond.static yL_bids ∈ WT := wt_at 522 (by decide +kernel) rfl
theorem ck_L_70 : Ck RL 70 yX3_bid cX3_bid 5 none 3 := ⟨Or.inl (wt_at 524 (by decide +kernel) rfl), wt_at 34 (by decide +kernel) rfl, wt_at 527 (by decide +kernel) rfl, ⟨by decide +kernel, by decide +kernel⟩, by decide +kernel⟩
theorem vk_X3_bid : Vk yX3_bid := ⟨wt_at 525 (by decide +kernel) rfl, wt_at 526 (by decide +kernel) rfl⟩
theorem ck_X3_130 : Ck RX3 130 yX0_hasLot cX0_hasLot 2 (some .boolean) 1 := ⟨Or.inr ⟨"DefaultFund", nw_at 528 (by decide +kernel) rfl⟩, wt_at 35 (by decide +kernel) rfl, wt_at 531 (by decide +kernel) rfl, ⟨by decide +kernel, by decide +kernel⟩, by decide +kernel⟩
theorem vk_X0_hasLot : Vk yX0_hasLot := ⟨wt_at 530 (by decide +kernel) rfl, wt_at 31 (by decide +kernel) rfl⟩
theorem ck_X3_144 : Ck RX3 144 yX0_enter cX0_enter 4 none 3 := ⟨Or.inr ⟨"DefaultFund", nw_at 534 (by decide +kernel) rfl⟩, wt_at 35 (by decide +kernel) rfl, wt_at 537 (by decide +kernel) rfl, ⟨by decide +kernel, by decide +kernel⟩, by decide +kernel⟩
theorem vk_X0_enter : Vk yX0_enter := ⟨wt_at 536 (by decide +kernel) rfl, wt_at 32 (by decide +kernel) rfl⟩
theorem kc_X3_46 : Cond.constant RX3 46 (1000000) ∈ WT := wt_at 174 (by decide +kernel) rfl
theorem kc_L_7 : Cond.constant RL 7 (836225459) ∈ WT := wt_at 327 (by decide +kernel) rfl
theorem kc_L_79 : Cond.constant RL 79 (2147483647) ∈ WT := wt_at 538 (by decide +kernel) rfl
theorem xa_55 : ∀ w ∈ (vx_atS RX3 55 E_S exN).filter goodWord, w ∈ lw_tbl := by decide +kernel
theorem xb_55 : ∀ w ∈ (vx_atS RX3 55 E_S exN).filter (fun w => !goodWord w), w ∈ NW := by decide +kernel
theorem xc_55 : ∀ w ∈ Cond.classLink RX3 51 E_S :: Cond.initialized E_S :: vx_atS RX3 55 E_S exN, vx_ot w = true := by decide +kernel
theorem tk_51_53_55 : Tk RX3 51 53 55 E_S := ⟨⟨"there are 10 members", by decide +kernel⟩, by decide +kernel, wt_at 246 (by decide +kernel) rfl, wt_at 42 (by decide +kernel) rfl, fun w hw => List.mem_filter.mpr ⟨xa_55 w hw, (List.mem_filter.mp hw).2⟩, xb_55, xc_55⟩
theorem tk_51_73_55 : Tk RX3 51 73 55 E_S := ⟨⟨"the member has no room for the client", by decide +kernel⟩, by decide +kernel, wt_at 246 (by decide +kernel) rfl, wt_at 42 (by decide +kernel) rfl, fun w hw => List.mem_filter.mpr ⟨xa_55 w hw, (List.mem_filter.mp hw).2⟩, xb_55, xc_55⟩
theorem tk_51_88_55 : Tk RX3 51 88 55 E_S := ⟨⟨"the member does not go on", by decide +kernel⟩, by decide +kernel, wt_at 246 (by decide +kernel) rfl, wt_at 42 (by decide +kernel) rfl, fun w hw => List.mem_filter.mpr ⟨xa_55 w hw, (List.mem_filter.mp hw).2⟩, xb_55, xc_55⟩
theorem tk_51_142_55 : Tk RX3 51 142 55 E_S := ⟨⟨"the member has bid for the lot", by decide +kernel⟩, by decide +kernel, wt_at 246 (by decide +kernel) rfl, wt_at 42 (by decide +kernel) rfl, fun w hw => List.mem_filter.mpr ⟨xa_55 w hw, (List.mem_filter.mp hw).2⟩, xb_55, xc_55⟩
theorem tk_51_145_55 : Tk RX3 51 145 55 E_S := ⟨⟨"no failure is dealt with", by decide +kernel⟩, by decide +kernel, wt_at 246 (by decide +kernel) rfl, wt_at 42 (by decide +kernel) rfl, fun w hw => List.mem_filter.mpr ⟨xa_55 w hw, (List.mem_filter.mp hw).2⟩, xb_55, xc_55⟩
theorem tk_51_184_55 : Tk RX3 51 184 55 E_S := ⟨⟨"the member is not active", by decide +kernel⟩, by decide +kernel, wt_at 246 (by decide +kernel) rfl, wt_at 42 (by decide +kernel) rfl, fun w hw => List.mem_filter.mpr ⟨xa_55 w hw, (List.mem_filter.mp hw).2⟩, xb_55, xc_55⟩
theorem tk_51_186_55 : Tk RX3 51 186 55 E_S := ⟨⟨"a failure is dealt with", by decide +kernel⟩, by decide +kernel, wt_at 246 (by decide +kernel) rfl, wt_at 42 (by decide +kernel) rfl, fun w hw => List.mem_filter.mpr ⟨xa_55 w hw, (List.mem_filter.mp hw).2⟩, xb_55, xc_55⟩
theorem xa_137 : ∀ w ∈ (vx_atS RX3 137 E_B exN).filter goodWord, w ∈ lw_tbl := by decide +kernel
theorem xb_137 : ∀ w ∈ (vx_atS RX3 137 E_B exN).filter (fun w => !goodWord w), w ∈ NW := by decide +kernel
theorem xc_137 : ∀ w ∈ Cond.classLink RX3 133 E_B :: Cond.initialized E_B :: vx_atS RX3 137 E_B exN, vx_ot w = true := by decide +kernel
theorem tk_133_135_137 : Tk RX3 133 135 137 E_B := ⟨⟨"there is no such lot", by decide +kernel⟩, by decide +kernel, wt_at 274 (by decide +kernel) rfl, wt_at 43 (by decide +kernel) rfl, fun w hw => List.mem_filter.mpr ⟨xa_137 w hw, (List.mem_filter.mp hw).2⟩, xb_137, xc_137⟩
theorem tk_133_177_137 : Tk RX3 133 177 137 E_B := ⟨⟨"there is no such member", by decide +kernel⟩, by decide +kernel, wt_at 274 (by decide +kernel) rfl, wt_at 43 (by decide +kernel) rfl, fun w hw => List.mem_filter.mpr ⟨xa_137 w hw, (List.mem_filter.mp hw).2⟩, xb_137, xc_137⟩
theorem xa_183 : ∀ w ∈ (vx_atS RX3 183 E_A exN).filter goodWord, w ∈ lw_tbl := by decide +kernel
theorem xb_183 : ∀ w ∈ (vx_atS RX3 183 E_A exN).filter (fun w => !goodWord w), w ∈ NW := by decide +kernel
theorem xc_183 : ∀ w ∈ Cond.classLink RX3 179 E_A :: Cond.initialized E_A :: vx_atS RX3 183 E_A exN, vx_ot w = true := by decide +kernel
theorem tk_179_181_183 : Tk RX3 179 181 183 E_A := ⟨⟨"an argument is out of range", by decide +kernel⟩, by decide +kernel, wt_at 178 (by decide +kernel) rfl, wt_at 41 (by decide +kernel) rfl, fun w hw => List.mem_filter.mpr ⟨xa_183 w hw, (List.mem_filter.mp hw).2⟩, xb_183, xc_183⟩
end
section
theorem dX1_init_0 : decode cX1_init 0 = .ok (.aload_n 0, 1) := by decide +kernel
theorem dX1_init_1 : decode cX1_init 1 = .ok (.invokespecial 3, 3) := by decide +kernel
theorem dX1_init_4 : decode cX1_init 4 = .ok (.aload_n 0, 1) := by decide +kernel
theorem dX1_init_5 : decode cX1_init 5 = .ok (.bipush 100, 2) := by decide +kernel
theorem dX1_init_7 : decode cX1_init 7 = .ok (.newarray .int, 2) := by decide +kernel
theorem dX1_init_9 : decode cX1_init 9 = .ok (.putfield 9, 3) := by decide +kernel
theorem dX1_init_12 : decode cX1_init 12 = .ok (.aload_n 0, 1) := by decide +kernel
theorem dX1_init_13 : decode cX1_init 13 = .ok (.iconst 0, 1) := by decide +kernel
theorem dX1_init_14 : decode cX1_init 14 = .ok (.putfield 15, 3) := by decide +kernel
theorem dX1_init_17 : decode cX1_init 17 = .ok (.aload_n 0, 1) := by decide +kernel
theorem dX1_init_18 : decode cX1_init 18 = .ok (.iconst 0, 1) := by decide +kernel
theorem dX1_init_19 : decode cX1_init 19 = .ok (.putfield 19, 3) := by decide +kernel
theorem dX1_init_22 : decode cX1_init 22 = .ok (.aload_n 0, 1) := by decide +kernel
theorem dX1_init_23 : decode cX1_init 23 = .ok (.iconst 0, 1) := by decide +kernel
theorem dX1_init_24 : decode cX1_init 24 = .ok (.putfield 22, 3) := by decide +kernel
theorem dX1_init_27 : decode cX1_init 27 = .ok (.aload_n 0, 1) := by decide +kernel
theorem dX1_init_28 : decode cX1_init 28 = .ok (.iconst 0, 1) := by decide +kernel
theorem dX1_init_29 : decode cX1_init 29 = .ok (.putfield 25, 3) := by decide +kernel
theorem dX1_init_32 : decode cX1_init 32 = .ok (.aload_n 0, 1) := by decide +kernel
theorem dX1_init_33 : decode cX1_init 33 = .ok (.iconst 0, 1) := by decide +kernel
theorem dX1_init_34 : decode cX1_init 34 = .ok (.putfield 28, 3) := by decide +kernel
theorem dX1_init_37 : decode cX1_init 37 = .ok (.aload_n 0, 1) := by decide +kernel
theorem dX1_init_38 : decode cX1_init 38 = .ok (.iconst 0, 1) := by decide +kernel
theorem dX1_init_39 : decode cX1_init 39 = .ok (.putfield 31, 3) := by decide +kernel
theorem dX1_init_42 : decode cX1_init 42 = .ok (.aload_n 0, 1) := by decide +kernel
theorem dX1_init_43 : decode cX1_init 43 = .ok (.iconst 0, 1) := by decide +kernel
theorem dX1_init_44 : decode cX1_init 44 = .ok (.putfield 34, 3) := by decide +kernel
theorem dX1_init_47 : decode cX1_init 47 = .ok (.aload_n 0, 1) := by decide +kernel
theorem dX1_init_48 : decode cX1_init 48 = .ok (.iconst 0, 1) := by decide +kernel
theorem dX1_init_49 : decode cX1_init 49 = .ok (.putfield 37, 3) := by decide +kernel
theorem dX1_init_52 : decode cX1_init 52 = .ok (.aload_n 0, 1) := by decide +kernel
theorem dX1_init_53 : decode cX1_init 53 = .ok (.iconst 0, 1) := by decide +kernel
theorem dX1_init_54 : decode cX1_init 54 = .ok (.putfield 40, 3) := by decide +kernel
theorem dX1_init_57 : decode cX1_init 57 = .ok (.aload_n 0, 1) := by decide +kernel
theorem dX1_init_58 : decode cX1_init 58 = .ok (.iconst 0, 1) := by decide +kernel
theorem dX1_init_59 : decode cX1_init 59 = .ok (.putfield 44, 3) := by decide +kernel
theorem dX1_init_62 : decode cX1_init 62 = .ok (.aload_n 0, 1) := by decide +kernel
theorem dX1_init_63 : decode cX1_init 63 = .ok (.iconst 0, 1) := by decide +kernel
theorem dX1_init_64 : decode cX1_init 64 = .ok (.putfield 47, 3) := by decide +kernel
theorem dX1_init_67 : decode cX1_init 67 = .ok (.aload_n 0, 1) := by decide +kernel
theorem dX1_init_68 : decode cX1_init 68 = .ok (.iconst 0, 1) := by decide +kernel
theorem dX1_init_69 : decode cX1_init 69 = .ok (.putfield 50, 3) := by decide +kernel
theorem dX1_init_72 : decode cX1_init 72 = .ok (.return_, 1) := by decide +kernel
theorem dX1_join_0 : decode cX1_join 0 = .ok (.aload_n 0, 1) := by decide +kernel
theorem dX1_join_1 : decode cX1_join 1 = .ok (.iload_n 1, 1) := by decide +kernel
theorem dX1_join_2 : decode cX1_join 2 = .ok (.putfield 25, 3) := by decide +kernel
theorem dX1_join_5 : decode cX1_join 5 = .ok (.aload_n 0, 1) := by decide +kernel
theorem dX1_join_6 : decode cX1_join 6 = .ok (.iload_n 2, 1) := by decide +kernel
theorem dX1_join_7 : decode cX1_join 7 = .ok (.putfield 28, 3) := by decide +kernel
theorem dX1_join_10 : decode cX1_join 10 = .ok (.aload_n 0, 1) := by decide +kernel
theorem dX1_join_11 : decode cX1_join 11 = .ok (.iload_n 3, 1) := by decide +kernel
theorem dX1_join_12 : decode cX1_join 12 = .ok (.putfield 31, 3) := by decide +kernel
theorem dX1_join_15 : decode cX1_join 15 = .ok (.return_, 1) := by decide +kernel
theorem dX1_isActive_0 : decode cX1_isActive 0 = .ok (.aload_n 0, 1) := by decide +kernel
theorem dX1_isActive_1 : decode cX1_isActive 1 = .ok (.getfield 22, 3) := by decide +kernel
theorem dX1_isActive_4 : decode cX1_isActive 4 = .ok (.ifCond .eq 11, 3) := by decide +kernel
theorem dX1_isActive_7 : decode cX1_isActive 7 = .ok (.aload_n 0, 1) := by decide +kernel
theorem dX1_isActive_8 : decode cX1_isActive 8 = .ok (.getfield 22, 3) := by decide +kernel
theorem dX1_isActive_11 : decode cX1_isActive 11 = .ok (.iconst 1, 1) := by decide +kernel
theorem dX1_isActive_12 : decode cX1_isActive 12 = .ok (.if_icmp .ne 7, 3) := by decide +kernel
theorem dX1_isActive_15 : decode cX1_isActive 15 = .ok (.iconst 1, 1) := by decide +kernel
theorem dX1_isActive_16 : decode cX1_isActive 16 = .ok (.goto 4, 3) := by decide +kernel
theorem dX1_isActive_19 : decode cX1_isActive 19 = .ok (.iconst 0, 1) := by decide +kernel
theorem dX1_isActive_20 : decode cX1_isActive 20 = .ok (.ireturn, 1) := by decide +kernel
theorem dX1_freeRoom_0 : decode cX1_freeRoom 0 = .ok (.aload_n 0, 1) := by decide +kernel
theorem dX1_freeRoom_1 : decode cX1_freeRoom 1 = .ok (.getfield 31, 3) := by decide +kernel
theorem dX1_freeRoom_4 : decode cX1_freeRoom 4 = .ok (.aload_n 0, 1) := by decide +kernel
theorem dX1_freeRoom_5 : decode cX1_freeRoom 5 = .ok (.getfield 19, 3) := by decide +kernel
theorem dX1_freeRoom_8 : decode cX1_freeRoom 8 = .ok (.isub, 1) := by decide +kernel
theorem dX1_freeRoom_9 : decode cX1_freeRoom 9 = .ok (.ireturn, 1) := by decide +kernel
theorem dX1_takesClient_0 : decode cX1_takesClient 0 = .ok (.iload_n 1, 1) := by decide +kernel
theorem dX1_takesClient_1 : decode cX1_takesClient 1 = .ok (.aload_n 0, 1) := by decide +kernel
theorem dX1_takesClient_2 : decode cX1_takesClient 2 = .ok (.invokevirtual 53, 3) := by decide +kernel
theorem dX1_takesClient_5 : decode cX1_takesClient 5 = .ok (.if_icmp .gt 12, 3) := by decide +kernel
theorem dX1_takesClient_8 : decode cX1_takesClient 8 = .ok (.aload_n 0, 1) := by decide +kernel
theorem dX1_takesClient_9 : decode cX1_takesClient 9 = .ok (.getfield 15, 3) := by decide +kernel
theorem dX1_takesClient_12 : decode cX1_takesClient 12 = .ok (.bipush 100, 2) := by decide +kernel
theorem dX1_takesClient_14 : decode cX1_takesClient 14 = .ok (.if_icmp .lt 5, 3) := by decide +kernel
theorem dX1_takesClient_17 : decode cX1_takesClient 17 = .ok (.iconst 0, 1) := by decide +kernel
theorem dX1_takesClient_18 : decode cX1_takesClient 18 = .ok (.ireturn, 1) := by decide +kernel
theorem dX1_takesClient_19 : decode cX1_takesClient 19 = .ok (.aload_n 0, 1) := by decide +kernel
theorem dX1_takesClient_20 : decode cX1_takesClient 20 = .ok (.getfield 9, 3) := by decide +kernel
theorem dX1_takesClient_23 : decode cX1_takesClient 23 = .ok (.aload_n 0, 1) := by decide +kernel
theorem dX1_takesClient_24 : decode cX1_takesClient 24 = .ok (.getfield 15, 3) := by decide +kernel
theorem dX1_takesClient_27 : decode cX1_takesClient 27 = .ok (.iload_n 1, 1) := by decide +kernel
theorem dX1_takesClient_28 : decode cX1_takesClient 28 = .ok (.iastore, 1) := by decide +kernel
theorem dX1_takesClient_29 : decode cX1_takesClient 29 = .ok (.aload_n 0, 1) := by decide +kernel
theorem dX1_takesClient_30 : decode cX1_takesClient 30 = .ok (.dup, 1) := by decide +kernel
theorem dX1_takesClient_31 : decode cX1_takesClient 31 = .ok (.getfield 15, 3) := by decide +kernel
theorem dX1_takesClient_34 : decode cX1_takesClient 34 = .ok (.iconst 1, 1) := by decide +kernel
theorem dX1_takesClient_35 : decode cX1_takesClient 35 = .ok (.iadd, 1) := by decide +kernel
theorem dX1_takesClient_36 : decode cX1_takesClient 36 = .ok (.putfield 15, 3) := by decide +kernel
theorem dX1_takesClient_39 : decode cX1_takesClient 39 = .ok (.aload_n 0, 1) := by decide +kernel
theorem dX1_takesClient_40 : decode cX1_takesClient 40 = .ok (.dup, 1) := by decide +kernel
theorem dX1_takesClient_41 : decode cX1_takesClient 41 = .ok (.getfield 19, 3) := by decide +kernel
theorem dX1_takesClient_44 : decode cX1_takesClient 44 = .ok (.iload_n 1, 1) := by decide +kernel
theorem dX1_takesClient_45 : decode cX1_takesClient 45 = .ok (.iadd, 1) := by decide +kernel
theorem dX1_takesClient_46 : decode cX1_takesClient 46 = .ok (.putfield 19, 3) := by decide +kernel
theorem dX1_takesClient_49 : decode cX1_takesClient 49 = .ok (.iconst 1, 1) := by decide +kernel
theorem dX1_takesClient_50 : decode cX1_takesClient 50 = .ok (.ireturn, 1) := by decide +kernel
theorem dX1_dropClients_0 : decode cX1_dropClients 0 = .ok (.aload_n 0, 1) := by decide +kernel
theorem dX1_dropClients_1 : decode cX1_dropClients 1 = .ok (.iconst 0, 1) := by decide +kernel
theorem dX1_dropClients_2 : decode cX1_dropClients 2 = .ok (.putfield 15, 3) := by decide +kernel
theorem dX1_dropClients_5 : decode cX1_dropClients 5 = .ok (.aload_n 0, 1) := by decide +kernel
theorem dX1_dropClients_6 : decode cX1_dropClients 6 = .ok (.iconst 0, 1) := by decide +kernel
theorem dX1_dropClients_7 : decode cX1_dropClients 7 = .ok (.putfield 19, 3) := by decide +kernel
theorem dX1_dropClients_10 : decode cX1_dropClients 10 = .ok (.return_, 1) := by decide +kernel
theorem dX1_raiseShare_0 : decode cX1_raiseShare 0 = .ok (.iconst 0, 1) := by decide +kernel
theorem dX1_raiseShare_1 : decode cX1_raiseShare 1 = .ok (.iload_n 1, 1) := by decide +kernel
theorem dX1_raiseShare_2 : decode cX1_raiseShare 2 = .ok (.aload_n 0, 1) := by decide +kernel
theorem dX1_raiseShare_3 : decode cX1_raiseShare 3 = .ok (.getfield 28, 3) := by decide +kernel
theorem dX1_raiseShare_6 : decode cX1_raiseShare 6 = .ok (.isub, 1) := by decide +kernel
theorem dX1_raiseShare_7 : decode cX1_raiseShare 7 = .ok (.invokestatic 57, 3) := by decide +kernel
theorem dX1_raiseShare_10 : decode cX1_raiseShare 10 = .ok (.istore_n 2, 1) := by decide +kernel
theorem dX1_raiseShare_11 : decode cX1_raiseShare 11 = .ok (.aload_n 0, 1) := by decide +kernel
theorem dX1_raiseShare_12 : decode cX1_raiseShare 12 = .ok (.dup, 1) := by decide +kernel
theorem dX1_raiseShare_13 : decode cX1_raiseShare 13 = .ok (.getfield 28, 3) := by decide +kernel
theorem dX1_raiseShare_16 : decode cX1_raiseShare 16 = .ok (.iload_n 2, 1) := by decide +kernel
theorem dX1_raiseShare_17 : decode cX1_raiseShare 17 = .ok (.iadd, 1) := by decide +kernel
theorem dX1_raiseShare_18 : decode cX1_raiseShare 18 = .ok (.putfield 28, 3) := by decide +kernel
theorem dX1_raiseShare_21 : decode cX1_raiseShare 21 = .ok (.iload_n 2, 1) := by decide +kernel
theorem dX1_raiseShare_22 : decode cX1_raiseShare 22 = .ok (.ireturn, 1) := by decide +kernel
theorem dX1_loseAll_0 : decode cX1_loseAll 0 = .ok (.aload_n 0, 1) := by decide +kernel
theorem dX1_loseAll_1 : decode cX1_loseAll 1 = .ok (.iconst 0, 1) := by decide +kernel
theorem dX1_loseAll_2 : decode cX1_loseAll 2 = .ok (.putfield 25, 3) := by decide +kernel
theorem dX1_loseAll_5 : decode cX1_loseAll 5 = .ok (.aload_n 0, 1) := by decide +kernel
theorem dX1_loseAll_6 : decode cX1_loseAll 6 = .ok (.iconst 0, 1) := by decide +kernel
theorem dX1_loseAll_7 : decode cX1_loseAll 7 = .ok (.putfield 28, 3) := by decide +kernel
theorem dX1_loseAll_10 : decode cX1_loseAll 10 = .ok (.aload_n 0, 1) := by decide +kernel
theorem dX1_loseAll_11 : decode cX1_loseAll 11 = .ok (.iconst 0, 1) := by decide +kernel
theorem dX1_loseAll_12 : decode cX1_loseAll 12 = .ok (.putfield 34, 3) := by decide +kernel
theorem dX1_loseAll_15 : decode cX1_loseAll 15 = .ok (.aload_n 0, 1) := by decide +kernel
theorem dX1_loseAll_16 : decode cX1_loseAll 16 = .ok (.invokevirtual 63, 3) := by decide +kernel
theorem dX1_loseAll_19 : decode cX1_loseAll 19 = .ok (.return_, 1) := by decide +kernel
end
section
theorem dX2_init_0 : decode cX2_init 0 = .ok (.aload_n 0, 1) := by decide +kernel
theorem dX2_init_1 : decode cX2_init 1 = .ok (.invokespecial 3, 3) := by decide +kernel
theorem dX2_init_4 : decode cX2_init 4 = .ok (.aload_n 0, 1) := by decide +kernel
theorem dX2_init_5 : decode cX2_init 5 = .ok (.bipush 10, 2) := by decide +kernel
theorem dX2_init_7 : decode cX2_init 7 = .ok (.newarray .int, 2) := by decide +kernel
theorem dX2_init_9 : decode cX2_init 9 = .ok (.putfield 9, 3) := by decide +kernel
theorem dX2_init_12 : decode cX2_init 12 = .ok (.aload_n 0, 1) := by decide +kernel
theorem dX2_init_13 : decode cX2_init 13 = .ok (.bipush 10, 2) := by decide +kernel
theorem dX2_init_15 : decode cX2_init 15 = .ok (.newarray .int, 2) := by decide +kernel
theorem dX2_init_17 : decode cX2_init 17 = .ok (.putfield 15, 3) := by decide +kernel
theorem dX2_init_20 : decode cX2_init 20 = .ok (.aload_n 0, 1) := by decide +kernel
theorem dX2_init_21 : decode cX2_init 21 = .ok (.bipush 10, 2) := by decide +kernel
theorem dX2_init_23 : decode cX2_init 23 = .ok (.newarray .int, 2) := by decide +kernel
theorem dX2_init_25 : decode cX2_init 25 = .ok (.putfield 18, 3) := by decide +kernel
theorem dX2_init_28 : decode cX2_init 28 = .ok (.return_, 1) := by decide +kernel
theorem dX2_enter_0 : decode cX2_enter 0 = .ok (.aload_n 0, 1) := by decide +kernel
theorem dX2_enter_1 : decode cX2_enter 1 = .ok (.getfield 9, 3) := by decide +kernel
theorem dX2_enter_4 : decode cX2_enter 4 = .ok (.iload_n 1, 1) := by decide +kernel
theorem dX2_enter_5 : decode cX2_enter 5 = .ok (.iload_n 2, 1) := by decide +kernel
theorem dX2_enter_6 : decode cX2_enter 6 = .ok (.iastore, 1) := by decide +kernel
theorem dX2_enter_7 : decode cX2_enter 7 = .ok (.aload_n 0, 1) := by decide +kernel
theorem dX2_enter_8 : decode cX2_enter 8 = .ok (.getfield 15, 3) := by decide +kernel
theorem dX2_enter_11 : decode cX2_enter 11 = .ok (.iload_n 1, 1) := by decide +kernel
theorem dX2_enter_12 : decode cX2_enter 12 = .ok (.iload_n 3, 1) := by decide +kernel
theorem dX2_enter_13 : decode cX2_enter 13 = .ok (.iastore, 1) := by decide +kernel
theorem dX2_enter_14 : decode cX2_enter 14 = .ok (.return_, 1) := by decide +kernel
theorem dX2_partOf_0 : decode cX2_partOf 0 = .ok (.aload_n 0, 1) := by decide +kernel
theorem dX2_partOf_1 : decode cX2_partOf 1 = .ok (.getfield 18, 3) := by decide +kernel
theorem dX2_partOf_4 : decode cX2_partOf 4 = .ok (.iload_n 1, 1) := by decide +kernel
theorem dX2_partOf_5 : decode cX2_partOf 5 = .ok (.iaload, 1) := by decide +kernel
theorem dX2_partOf_6 : decode cX2_partOf 6 = .ok (.ireturn, 1) := by decide +kernel
theorem dX2_part_0 : decode cX2_part 0 = .ok (.iconst 0, 1) := by decide +kernel
theorem dX2_part_1 : decode cX2_part 1 = .ok (.istore_n 2, 1) := by decide +kernel
theorem dX2_part_2 : decode cX2_part 2 = .ok (.iconst 0, 1) := by decide +kernel
theorem dX2_part_3 : decode cX2_part 3 = .ok (.istore_n 3, 1) := by decide +kernel
theorem dX2_part_4 : decode cX2_part 4 = .ok (.iload_n 3, 1) := by decide +kernel
theorem dX2_part_5 : decode cX2_part 5 = .ok (.bipush 10, 2) := by decide +kernel
theorem dX2_part_7 : decode cX2_part 7 = .ok (.if_icmp .ge 25, 3) := by decide +kernel
theorem dX2_part_10 : decode cX2_part 10 = .ok (.iload_n 2, 1) := by decide +kernel
theorem dX2_part_11 : decode cX2_part 11 = .ok (.aload_n 0, 1) := by decide +kernel
theorem dX2_part_12 : decode cX2_part 12 = .ok (.getfield 9, 3) := by decide +kernel
theorem dX2_part_15 : decode cX2_part 15 = .ok (.iload_n 3, 1) := by decide +kernel
theorem dX2_part_16 : decode cX2_part 16 = .ok (.iaload, 1) := by decide +kernel
theorem dX2_part_17 : decode cX2_part 17 = .ok (.iadd, 1) := by decide +kernel
theorem dX2_part_18 : decode cX2_part 18 = .ok (.istore_n 2, 1) := by decide +kernel
theorem dX2_part_19 : decode cX2_part 19 = .ok (.aload_n 0, 1) := by decide +kernel
theorem dX2_part_20 : decode cX2_part 20 = .ok (.getfield 18, 3) := by decide +kernel
theorem dX2_part_23 : decode cX2_part 23 = .ok (.iload_n 3, 1) := by decide +kernel
theorem dX2_part_24 : decode cX2_part 24 = .ok (.iconst 0, 1) := by decide +kernel
theorem dX2_part_25 : decode cX2_part 25 = .ok (.iastore, 1) := by decide +kernel
theorem dX2_part_26 : decode cX2_part 26 = .ok (.iinc 3 1, 3) := by decide +kernel
theorem dX2_part_29 : decode cX2_part 29 = .ok (.goto (-25), 3) := by decide +kernel
theorem dX2_part_32 : decode cX2_part 32 = .ok (.iload_n 2, 1) := by decide +kernel
theorem dX2_part_33 : decode cX2_part 33 = .ok (.ifCond .gt 5, 3) := by decide +kernel
theorem dX2_part_36 : decode cX2_part 36 = .ok (.iload_n 1, 1) := by decide +kernel
theorem dX2_part_37 : decode cX2_part 37 = .ok (.ireturn, 1) := by decide +kernel
theorem dX2_part_38 : decode cX2_part 38 = .ok (.iload_n 1, 1) := by decide +kernel
theorem dX2_part_39 : decode cX2_part 39 = .ok (.istore_n 3, 1) := by decide +kernel
theorem dX2_part_40 : decode cX2_part 40 = .ok (.iconst 0, 1) := by decide +kernel
theorem dX2_part_41 : decode cX2_part 41 = .ok (.istore 4, 2) := by decide +kernel
theorem dX2_part_43 : decode cX2_part 43 = .ok (.iload 4, 2) := by decide +kernel
theorem dX2_part_45 : decode cX2_part 45 = .ok (.bipush 10, 2) := by decide +kernel
theorem dX2_part_47 : decode cX2_part 47 = .ok (.if_icmp .ge 55, 3) := by decide +kernel
theorem dX2_part_50 : decode cX2_part 50 = .ok (.iload_n 1, 1) := by decide +kernel
theorem dX2_part_51 : decode cX2_part 51 = .ok (.i2l, 1) := by decide +kernel
theorem dX2_part_52 : decode cX2_part 52 = .ok (.aload_n 0, 1) := by decide +kernel
theorem dX2_part_53 : decode cX2_part 53 = .ok (.getfield 9, 3) := by decide +kernel
theorem dX2_part_56 : decode cX2_part 56 = .ok (.iload 4, 2) := by decide +kernel
theorem dX2_part_58 : decode cX2_part 58 = .ok (.iaload, 1) := by decide +kernel
theorem dX2_part_59 : decode cX2_part 59 = .ok (.i2l, 1) := by decide +kernel
theorem dX2_part_60 : decode cX2_part 60 = .ok (.lmul, 1) := by decide +kernel
theorem dX2_part_61 : decode cX2_part 61 = .ok (.iload_n 2, 1) := by decide +kernel
theorem dX2_part_62 : decode cX2_part 62 = .ok (.i2l, 1) := by decide +kernel
theorem dX2_part_63 : decode cX2_part 63 = .ok (.ldiv, 1) := by decide +kernel
theorem dX2_part_64 : decode cX2_part 64 = .ok (.l2i, 1) := by decide +kernel
theorem dX2_part_65 : decode cX2_part 65 = .ok (.istore 5, 2) := by decide +kernel
theorem dX2_part_67 : decode cX2_part 67 = .ok (.aload_n 0, 1) := by decide +kernel
theorem dX2_part_68 : decode cX2_part 68 = .ok (.getfield 18, 3) := by decide +kernel
theorem dX2_part_71 : decode cX2_part 71 = .ok (.iload 4, 2) := by decide +kernel
theorem dX2_part_73 : decode cX2_part 73 = .ok (.iload 5, 2) := by decide +kernel
theorem dX2_part_75 : decode cX2_part 75 = .ok (.aload_n 0, 1) := by decide +kernel
theorem dX2_part_76 : decode cX2_part 76 = .ok (.getfield 15, 3) := by decide +kernel
theorem dX2_part_79 : decode cX2_part 79 = .ok (.iload 4, 2) := by decide +kernel
theorem dX2_part_81 : decode cX2_part 81 = .ok (.iaload, 1) := by decide +kernel
theorem dX2_part_82 : decode cX2_part 82 = .ok (.invokestatic 21, 3) := by decide +kernel
theorem dX2_part_85 : decode cX2_part 85 = .ok (.iastore, 1) := by decide +kernel
theorem dX2_part_86 : decode cX2_part 86 = .ok (.iload_n 3, 1) := by decide +kernel
theorem dX2_part_87 : decode cX2_part 87 = .ok (.aload_n 0, 1) := by decide +kernel
theorem dX2_part_88 : decode cX2_part 88 = .ok (.getfield 18, 3) := by decide +kernel
theorem dX2_part_91 : decode cX2_part 91 = .ok (.iload 4, 2) := by decide +kernel
theorem dX2_part_93 : decode cX2_part 93 = .ok (.iaload, 1) := by decide +kernel
theorem dX2_part_94 : decode cX2_part 94 = .ok (.isub, 1) := by decide +kernel
theorem dX2_part_95 : decode cX2_part 95 = .ok (.istore_n 3, 1) := by decide +kernel
theorem dX2_part_96 : decode cX2_part 96 = .ok (.iinc 4 1, 3) := by decide +kernel
theorem dX2_part_99 : decode cX2_part 99 = .ok (.goto (-56), 3) := by decide +kernel
theorem dX2_part_102 : decode cX2_part 102 = .ok (.aload_n 0, 1) := by decide +kernel
theorem dX2_part_103 : decode cX2_part 103 = .ok (.iload_n 3, 1) := by decide +kernel
theorem dX2_part_104 : decode cX2_part 104 = .ok (.invokevirtual 27, 3) := by decide +kernel
theorem dX2_part_107 : decode cX2_part 107 = .ok (.ireturn, 1) := by decide +kernel
theorem dX2_giveCoins_0 : decode cX2_giveCoins 0 = .ok (.iload_n 1, 1) := by decide +kernel
theorem dX2_giveCoins_1 : decode cX2_giveCoins 1 = .ok (.istore_n 2, 1) := by decide +kernel
theorem dX2_giveCoins_2 : decode cX2_giveCoins 2 = .ok (.iconst 0, 1) := by decide +kernel
theorem dX2_giveCoins_3 : decode cX2_giveCoins 3 = .ok (.istore_n 3, 1) := by decide +kernel
theorem dX2_giveCoins_4 : decode cX2_giveCoins 4 = .ok (.iload_n 3, 1) := by decide +kernel
theorem dX2_giveCoins_5 : decode cX2_giveCoins 5 = .ok (.bipush 12, 2) := by decide +kernel
theorem dX2_giveCoins_7 : decode cX2_giveCoins 7 = .ok (.if_icmp .ge 68, 3) := by decide +kernel
theorem dX2_giveCoins_10 : decode cX2_giveCoins 10 = .ok (.iload_n 2, 1) := by decide +kernel
theorem dX2_giveCoins_11 : decode cX2_giveCoins 11 = .ok (.ifCond .le 64, 3) := by decide +kernel
theorem dX2_giveCoins_14 : decode cX2_giveCoins 14 = .ok (.aload_n 0, 1) := by decide +kernel
theorem dX2_giveCoins_15 : decode cX2_giveCoins 15 = .ok (.iload_n 2, 1) := by decide +kernel
theorem dX2_giveCoins_16 : decode cX2_giveCoins 16 = .ok (.invokevirtual 31, 3) := by decide +kernel
theorem dX2_giveCoins_19 : decode cX2_giveCoins 19 = .ok (.istore 4, 2) := by decide +kernel
theorem dX2_giveCoins_21 : decode cX2_giveCoins 21 = .ok (.iconst 0, 1) := by decide +kernel
theorem dX2_giveCoins_22 : decode cX2_giveCoins 22 = .ok (.istore 5, 2) := by decide +kernel
theorem dX2_giveCoins_24 : decode cX2_giveCoins 24 = .ok (.iload 5, 2) := by decide +kernel
theorem dX2_giveCoins_26 : decode cX2_giveCoins 26 = .ok (.bipush 10, 2) := by decide +kernel
theorem dX2_giveCoins_28 : decode cX2_giveCoins 28 = .ok (.if_icmp .ge 41, 3) := by decide +kernel
theorem dX2_giveCoins_31 : decode cX2_giveCoins 31 = .ok (.aload_n 0, 1) := by decide +kernel
theorem dX2_giveCoins_32 : decode cX2_giveCoins 32 = .ok (.iload 5, 2) := by decide +kernel
theorem dX2_giveCoins_34 : decode cX2_giveCoins 34 = .ok (.invokevirtual 34, 3) := by decide +kernel
theorem dX2_giveCoins_37 : decode cX2_giveCoins 37 = .ok (.ifCond .eq 26, 3) := by decide +kernel
theorem dX2_giveCoins_40 : decode cX2_giveCoins 40 = .ok (.iload 4, 2) := by decide +kernel
theorem dX2_giveCoins_42 : decode cX2_giveCoins 42 = .ok (.iload_n 2, 1) := by decide +kernel
theorem dX2_giveCoins_43 : decode cX2_giveCoins 43 = .ok (.if_icmp .gt 20, 3) := by decide +kernel
theorem dX2_giveCoins_46 : decode cX2_giveCoins 46 = .ok (.aload_n 0, 1) := by decide +kernel
theorem dX2_giveCoins_47 : decode cX2_giveCoins 47 = .ok (.getfield 18, 3) := by decide +kernel
theorem dX2_giveCoins_50 : decode cX2_giveCoins 50 = .ok (.iload 5, 2) := by decide +kernel
theorem dX2_giveCoins_52 : decode cX2_giveCoins 52 = .ok (.dup2, 1) := by decide +kernel
theorem dX2_giveCoins_53 : decode cX2_giveCoins 53 = .ok (.iaload, 1) := by decide +kernel
theorem dX2_giveCoins_54 : decode cX2_giveCoins 54 = .ok (.iload 4, 2) := by decide +kernel
theorem dX2_giveCoins_56 : decode cX2_giveCoins 56 = .ok (.iadd, 1) := by decide +kernel
theorem dX2_giveCoins_57 : decode cX2_giveCoins 57 = .ok (.iastore, 1) := by decide +kernel
theorem dX2_giveCoins_58 : decode cX2_giveCoins 58 = .ok (.iload_n 2, 1) := by decide +kernel
theorem dX2_giveCoins_59 : decode cX2_giveCoins 59 = .ok (.iload 4, 2) := by decide +kernel
theorem dX2_giveCoins_61 : decode cX2_giveCoins 61 = .ok (.isub, 1) := by decide +kernel
theorem dX2_giveCoins_62 : decode cX2_giveCoins 62 = .ok (.istore_n 2, 1) := by decide +kernel
theorem dX2_giveCoins_63 : decode cX2_giveCoins 63 = .ok (.iinc 5 1, 3) := by decide +kernel
theorem dX2_giveCoins_66 : decode cX2_giveCoins 66 = .ok (.goto (-42), 3) := by decide +kernel
theorem dX2_giveCoins_69 : decode cX2_giveCoins 69 = .ok (.iinc 3 1, 3) := by decide +kernel
theorem dX2_giveCoins_72 : decode cX2_giveCoins 72 = .ok (.goto (-68), 3) := by decide +kernel
theorem dX2_giveCoins_75 : decode cX2_giveCoins 75 = .ok (.iload_n 2, 1) := by decide +kernel
theorem dX2_giveCoins_76 : decode cX2_giveCoins 76 = .ok (.ireturn, 1) := by decide +kernel
theorem dX2_roundsAtAStroke_0 : decode cX2_roundsAtAStroke 0 = .ok (.iconst 0, 1) := by decide +kernel
theorem dX2_roundsAtAStroke_1 : decode cX2_roundsAtAStroke 1 = .ok (.istore_n 2, 1) := by decide +kernel
theorem dX2_roundsAtAStroke_2 : decode cX2_roundsAtAStroke 2 = .ok (.iload_n 1, 1) := by decide +kernel
theorem dX2_roundsAtAStroke_3 : decode cX2_roundsAtAStroke 3 = .ok (.istore_n 3, 1) := by decide +kernel
theorem dX2_roundsAtAStroke_4 : decode cX2_roundsAtAStroke 4 = .ok (.iconst 0, 1) := by decide +kernel
theorem dX2_roundsAtAStroke_5 : decode cX2_roundsAtAStroke 5 = .ok (.istore 4, 2) := by decide +kernel
theorem dX2_roundsAtAStroke_7 : decode cX2_roundsAtAStroke 7 = .ok (.iload 4, 2) := by decide +kernel
theorem dX2_roundsAtAStroke_9 : decode cX2_roundsAtAStroke 9 = .ok (.bipush 10, 2) := by decide +kernel
theorem dX2_roundsAtAStroke_11 : decode cX2_roundsAtAStroke 11 = .ok (.if_icmp .ge 41, 3) := by decide +kernel
theorem dX2_roundsAtAStroke_14 : decode cX2_roundsAtAStroke 14 = .ok (.aload_n 0, 1) := by decide +kernel
theorem dX2_roundsAtAStroke_15 : decode cX2_roundsAtAStroke 15 = .ok (.iload 4, 2) := by decide +kernel
theorem dX2_roundsAtAStroke_17 : decode cX2_roundsAtAStroke 17 = .ok (.invokevirtual 34, 3) := by decide +kernel
theorem dX2_roundsAtAStroke_20 : decode cX2_roundsAtAStroke 20 = .ok (.ifCond .eq 26, 3) := by decide +kernel
theorem dX2_roundsAtAStroke_23 : decode cX2_roundsAtAStroke 23 = .ok (.iinc 2 1, 3) := by decide +kernel
theorem dX2_roundsAtAStroke_26 : decode cX2_roundsAtAStroke 26 = .ok (.iload_n 3, 1) := by decide +kernel
theorem dX2_roundsAtAStroke_27 : decode cX2_roundsAtAStroke 27 = .ok (.aload_n 0, 1) := by decide +kernel
theorem dX2_roundsAtAStroke_28 : decode cX2_roundsAtAStroke 28 = .ok (.getfield 15, 3) := by decide +kernel
theorem dX2_roundsAtAStroke_31 : decode cX2_roundsAtAStroke 31 = .ok (.iload 4, 2) := by decide +kernel
theorem dX2_roundsAtAStroke_33 : decode cX2_roundsAtAStroke 33 = .ok (.iaload, 1) := by decide +kernel
theorem dX2_roundsAtAStroke_34 : decode cX2_roundsAtAStroke 34 = .ok (.aload_n 0, 1) := by decide +kernel
theorem dX2_roundsAtAStroke_35 : decode cX2_roundsAtAStroke 35 = .ok (.getfield 18, 3) := by decide +kernel
theorem dX2_roundsAtAStroke_38 : decode cX2_roundsAtAStroke 38 = .ok (.iload 4, 2) := by decide +kernel
theorem dX2_roundsAtAStroke_40 : decode cX2_roundsAtAStroke 40 = .ok (.iaload, 1) := by decide +kernel
theorem dX2_roundsAtAStroke_41 : decode cX2_roundsAtAStroke 41 = .ok (.isub, 1) := by decide +kernel
theorem dX2_roundsAtAStroke_42 : decode cX2_roundsAtAStroke 42 = .ok (.invokestatic 21, 3) := by decide +kernel
theorem dX2_roundsAtAStroke_45 : decode cX2_roundsAtAStroke 45 = .ok (.istore_n 3, 1) := by decide +kernel
theorem dX2_roundsAtAStroke_46 : decode cX2_roundsAtAStroke 46 = .ok (.iinc 4 1, 3) := by decide +kernel
theorem dX2_roundsAtAStroke_49 : decode cX2_roundsAtAStroke 49 = .ok (.goto (-42), 3) := by decide +kernel
theorem dX2_roundsAtAStroke_52 : decode cX2_roundsAtAStroke 52 = .ok (.iload_n 2, 1) := by decide +kernel
theorem dX2_roundsAtAStroke_53 : decode cX2_roundsAtAStroke 53 = .ok (.ifCond .ne 5, 3) := by decide +kernel
theorem dX2_roundsAtAStroke_56 : decode cX2_roundsAtAStroke 56 = .ok (.iconst 0, 1) := by decide +kernel
theorem dX2_roundsAtAStroke_57 : decode cX2_roundsAtAStroke 57 = .ok (.ireturn, 1) := by decide +kernel
theorem dX2_roundsAtAStroke_58 : decode cX2_roundsAtAStroke 58 = .ok (.iconst 1, 1) := by decide +kernel
theorem dX2_roundsAtAStroke_59 : decode cX2_roundsAtAStroke 59 = .ok (.iload_n 3, 1) := by decide +kernel
theorem dX2_roundsAtAStroke_60 : decode cX2_roundsAtAStroke 60 = .ok (.iload_n 1, 1) := by decide +kernel
theorem dX2_roundsAtAStroke_61 : decode cX2_roundsAtAStroke 61 = .ok (.iload_n 2, 1) := by decide +kernel
theorem dX2_roundsAtAStroke_62 : decode cX2_roundsAtAStroke 62 = .ok (.idiv, 1) := by decide +kernel
theorem dX2_roundsAtAStroke_63 : decode cX2_roundsAtAStroke 63 = .ok (.invokestatic 21, 3) := by decide +kernel
theorem dX2_roundsAtAStroke_66 : decode cX2_roundsAtAStroke 66 = .ok (.invokestatic 38, 3) := by decide +kernel
theorem dX2_roundsAtAStroke_69 : decode cX2_roundsAtAStroke 69 = .ok (.ireturn, 1) := by decide +kernel
theorem dX2_canTake_0 : decode cX2_canTake 0 = .ok (.aload_n 0, 1) := by decide +kernel
theorem dX2_canTake_1 : decode cX2_canTake 1 = .ok (.getfield 9, 3) := by decide +kernel
theorem dX2_canTake_4 : decode cX2_canTake 4 = .ok (.iload_n 1, 1) := by decide +kernel
theorem dX2_canTake_5 : decode cX2_canTake 5 = .ok (.iaload, 1) := by decide +kernel
theorem dX2_canTake_6 : decode cX2_canTake 6 = .ok (.ifCond .le 22, 3) := by decide +kernel
theorem dX2_canTake_9 : decode cX2_canTake 9 = .ok (.aload_n 0, 1) := by decide +kernel
theorem dX2_canTake_10 : decode cX2_canTake 10 = .ok (.getfield 18, 3) := by decide +kernel
theorem dX2_canTake_13 : decode cX2_canTake 13 = .ok (.iload_n 1, 1) := by decide +kernel
theorem dX2_canTake_14 : decode cX2_canTake 14 = .ok (.iaload, 1) := by decide +kernel
theorem dX2_canTake_15 : decode cX2_canTake 15 = .ok (.aload_n 0, 1) := by decide +kernel
theorem dX2_canTake_16 : decode cX2_canTake 16 = .ok (.getfield 15, 3) := by decide +kernel
theorem dX2_canTake_19 : decode cX2_canTake 19 = .ok (.iload_n 1, 1) := by decide +kernel
theorem dX2_canTake_20 : decode cX2_canTake 20 = .ok (.iaload, 1) := by decide +kernel
theorem dX2_canTake_21 : decode cX2_canTake 21 = .ok (.if_icmp .ge 7, 3) := by decide +kernel
theorem dX2_canTake_24 : decode cX2_canTake 24 = .ok (.iconst 1, 1) := by decide +kernel
theorem dX2_canTake_25 : decode cX2_canTake 25 = .ok (.goto 4, 3) := by decide +kernel
theorem dX2_canTake_28 : decode cX2_canTake 28 = .ok (.iconst 0, 1) := by decide +kernel
theorem dX2_canTake_29 : decode cX2_canTake 29 = .ok (.ireturn, 1) := by decide +kernel
end
section
theorem dX0_init_0 : decode cX0_init 0 = .ok (.aload_n 0, 1) := by decide +kernel
theorem dX0_init_1 : decode cX0_init 1 = .ok (.invokespecial 3, 3) := by decide +kernel
theorem dX0_init_4 : decode cX0_init 4 = .ok (.aload_n 0, 1) := by decide +kernel
theorem dX0_init_5 : decode cX0_init 5 = .ok (.bipush 10, 2) := by decide +kernel
theorem dX0_init_7 : decode cX0_init 7 = .ok (.bipush 120, 2) := by decide +kernel
theorem dX0_init_9 : decode cX0_init 9 = .ok (.multianewarray 9 2, 4) := by decide +kernel
theorem dX0_init_13 : decode cX0_init 13 = .ok (.putfield 11, 3) := by decide +kernel
theorem dX0_init_16 : decode cX0_init 16 = .ok (.aload_n 0, 1) := by decide +kernel
theorem dX0_init_17 : decode cX0_init 17 = .ok (.iconst 0, 1) := by decide +kernel
theorem dX0_init_18 : decode cX0_init 18 = .ok (.putfield 16, 3) := by decide +kernel
theorem dX0_init_21 : decode cX0_init 21 = .ok (.return_, 1) := by decide +kernel
theorem dX0_open_0 : decode cX0_open 0 = .ok (.aload_n 0, 1) := by decide +kernel
theorem dX0_open_1 : decode cX0_open 1 = .ok (.iload_n 1, 1) := by decide +kernel
theorem dX0_open_2 : decode cX0_open 2 = .ok (.bipush 120, 2) := by decide +kernel
theorem dX0_open_4 : decode cX0_open 4 = .ok (.invokestatic 20, 3) := by decide +kernel
theorem dX0_open_7 : decode cX0_open 7 = .ok (.putfield 16, 3) := by decide +kernel
theorem dX0_open_10 : decode cX0_open 10 = .ok (.iconst 0, 1) := by decide +kernel
theorem dX0_open_11 : decode cX0_open 11 = .ok (.istore_n 2, 1) := by decide +kernel
theorem dX0_open_12 : decode cX0_open 12 = .ok (.iload_n 2, 1) := by decide +kernel
theorem dX0_open_13 : decode cX0_open 13 = .ok (.bipush 10, 2) := by decide +kernel
theorem dX0_open_15 : decode cX0_open 15 = .ok (.if_icmp .ge 36, 3) := by decide +kernel
theorem dX0_open_18 : decode cX0_open 18 = .ok (.iconst 0, 1) := by decide +kernel
theorem dX0_open_19 : decode cX0_open 19 = .ok (.istore_n 3, 1) := by decide +kernel
theorem dX0_open_20 : decode cX0_open 20 = .ok (.iload_n 3, 1) := by decide +kernel
theorem dX0_open_21 : decode cX0_open 21 = .ok (.aload_n 0, 1) := by decide +kernel
theorem dX0_open_22 : decode cX0_open 22 = .ok (.getfield 16, 3) := by decide +kernel
theorem dX0_open_25 : decode cX0_open 25 = .ok (.if_icmp .ge 20, 3) := by decide +kernel
theorem dX0_open_28 : decode cX0_open 28 = .ok (.aload_n 0, 1) := by decide +kernel
theorem dX0_open_29 : decode cX0_open 29 = .ok (.getfield 11, 3) := by decide +kernel
theorem dX0_open_32 : decode cX0_open 32 = .ok (.iload_n 2, 1) := by decide +kernel
theorem dX0_open_33 : decode cX0_open 33 = .ok (.aaload, 1) := by decide +kernel
theorem dX0_open_34 : decode cX0_open 34 = .ok (.iload_n 3, 1) := by decide +kernel
theorem dX0_open_35 : decode cX0_open 35 = .ok (.sipush (-1001), 3) := by decide +kernel
theorem dX0_open_38 : decode cX0_open 38 = .ok (.iastore, 1) := by decide +kernel
theorem dX0_open_39 : decode cX0_open 39 = .ok (.iinc 3 1, 3) := by decide +kernel
theorem dX0_open_42 : decode cX0_open 42 = .ok (.goto (-22), 3) := by decide +kernel
theorem dX0_open_45 : decode cX0_open 45 = .ok (.iinc 2 1, 3) := by decide +kernel
theorem dX0_open_48 : decode cX0_open 48 = .ok (.goto (-36), 3) := by decide +kernel
theorem dX0_open_51 : decode cX0_open 51 = .ok (.return_, 1) := by decide +kernel
theorem dX0_hasLot_0 : decode cX0_hasLot 0 = .ok (.iload_n 1, 1) := by decide +kernel
theorem dX0_hasLot_1 : decode cX0_hasLot 1 = .ok (.ifCond .lt 15, 3) := by decide +kernel
theorem dX0_hasLot_4 : decode cX0_hasLot 4 = .ok (.iload_n 1, 1) := by decide +kernel
theorem dX0_hasLot_5 : decode cX0_hasLot 5 = .ok (.aload_n 0, 1) := by decide +kernel
theorem dX0_hasLot_6 : decode cX0_hasLot 6 = .ok (.getfield 16, 3) := by decide +kernel
theorem dX0_hasLot_9 : decode cX0_hasLot 9 = .ok (.if_icmp .ge 7, 3) := by decide +kernel
theorem dX0_hasLot_12 : decode cX0_hasLot 12 = .ok (.iconst 1, 1) := by decide +kernel
theorem dX0_hasLot_13 : decode cX0_hasLot 13 = .ok (.goto 4, 3) := by decide +kernel
theorem dX0_hasLot_16 : decode cX0_hasLot 16 = .ok (.iconst 0, 1) := by decide +kernel
theorem dX0_hasLot_17 : decode cX0_hasLot 17 = .ok (.ireturn, 1) := by decide +kernel
theorem dX0_bidOf_0 : decode cX0_bidOf 0 = .ok (.aload_n 0, 1) := by decide +kernel
theorem dX0_bidOf_1 : decode cX0_bidOf 1 = .ok (.getfield 11, 3) := by decide +kernel
theorem dX0_bidOf_4 : decode cX0_bidOf 4 = .ok (.iload_n 1, 1) := by decide +kernel
theorem dX0_bidOf_5 : decode cX0_bidOf 5 = .ok (.aaload, 1) := by decide +kernel
theorem dX0_bidOf_6 : decode cX0_bidOf 6 = .ok (.iload_n 2, 1) := by decide +kernel
theorem dX0_bidOf_7 : decode cX0_bidOf 7 = .ok (.iaload, 1) := by decide +kernel
theorem dX0_bidOf_8 : decode cX0_bidOf 8 = .ok (.ireturn, 1) := by decide +kernel
theorem dX0_enter_0 : decode cX0_enter 0 = .ok (.aload_n 0, 1) := by decide +kernel
theorem dX0_enter_1 : decode cX0_enter 1 = .ok (.getfield 11, 3) := by decide +kernel
theorem dX0_enter_4 : decode cX0_enter 4 = .ok (.iload_n 1, 1) := by decide +kernel
theorem dX0_enter_5 : decode cX0_enter 5 = .ok (.aaload, 1) := by decide +kernel
theorem dX0_enter_6 : decode cX0_enter 6 = .ok (.iload_n 2, 1) := by decide +kernel
theorem dX0_enter_7 : decode cX0_enter 7 = .ok (.iload_n 3, 1) := by decide +kernel
theorem dX0_enter_8 : decode cX0_enter 8 = .ok (.iastore, 1) := by decide +kernel
theorem dX0_enter_9 : decode cX0_enter 9 = .ok (.return_, 1) := by decide +kernel
theorem dX0_winnerOf_0 : decode cX0_winnerOf 0 = .ok (.iconst (-1), 1) := by decide +kernel
theorem dX0_winnerOf_1 : decode cX0_winnerOf 1 = .ok (.istore_n 2, 1) := by decide +kernel
theorem dX0_winnerOf_2 : decode cX0_winnerOf 2 = .ok (.sipush (-1001), 3) := by decide +kernel
theorem dX0_winnerOf_5 : decode cX0_winnerOf 5 = .ok (.istore_n 3, 1) := by decide +kernel
theorem dX0_winnerOf_6 : decode cX0_winnerOf 6 = .ok (.iconst 0, 1) := by decide +kernel
theorem dX0_winnerOf_7 : decode cX0_winnerOf 7 = .ok (.istore 4, 2) := by decide +kernel
theorem dX0_winnerOf_9 : decode cX0_winnerOf 9 = .ok (.iload 4, 2) := by decide +kernel
theorem dX0_winnerOf_11 : decode cX0_winnerOf 11 = .ok (.bipush 10, 2) := by decide +kernel
theorem dX0_winnerOf_13 : decode cX0_winnerOf 13 = .ok (.if_icmp .ge 35, 3) := by decide +kernel
theorem dX0_winnerOf_16 : decode cX0_winnerOf 16 = .ok (.aload_n 0, 1) := by decide +kernel
theorem dX0_winnerOf_17 : decode cX0_winnerOf 17 = .ok (.getfield 11, 3) := by decide +kernel
theorem dX0_winnerOf_20 : decode cX0_winnerOf 20 = .ok (.iload 4, 2) := by decide +kernel
theorem dX0_winnerOf_22 : decode cX0_winnerOf 22 = .ok (.aaload, 1) := by decide +kernel
theorem dX0_winnerOf_23 : decode cX0_winnerOf 23 = .ok (.iload_n 1, 1) := by decide +kernel
theorem dX0_winnerOf_24 : decode cX0_winnerOf 24 = .ok (.iaload, 1) := by decide +kernel
theorem dX0_winnerOf_25 : decode cX0_winnerOf 25 = .ok (.iload_n 3, 1) := by decide +kernel
theorem dX0_winnerOf_26 : decode cX0_winnerOf 26 = .ok (.if_icmp .le 16, 3) := by decide +kernel
theorem dX0_winnerOf_29 : decode cX0_winnerOf 29 = .ok (.aload_n 0, 1) := by decide +kernel
theorem dX0_winnerOf_30 : decode cX0_winnerOf 30 = .ok (.getfield 11, 3) := by decide +kernel
theorem dX0_winnerOf_33 : decode cX0_winnerOf 33 = .ok (.iload 4, 2) := by decide +kernel
theorem dX0_winnerOf_35 : decode cX0_winnerOf 35 = .ok (.aaload, 1) := by decide +kernel
theorem dX0_winnerOf_36 : decode cX0_winnerOf 36 = .ok (.iload_n 1, 1) := by decide +kernel
theorem dX0_winnerOf_37 : decode cX0_winnerOf 37 = .ok (.iaload, 1) := by decide +kernel
theorem dX0_winnerOf_38 : decode cX0_winnerOf 38 = .ok (.istore_n 3, 1) := by decide +kernel
theorem dX0_winnerOf_39 : decode cX0_winnerOf 39 = .ok (.iload 4, 2) := by decide +kernel
theorem dX0_winnerOf_41 : decode cX0_winnerOf 41 = .ok (.istore_n 2, 1) := by decide +kernel
theorem dX0_winnerOf_42 : decode cX0_winnerOf 42 = .ok (.iinc 4 1, 3) := by decide +kernel
theorem dX0_winnerOf_45 : decode cX0_winnerOf 45 = .ok (.goto (-36), 3) := by decide +kernel
theorem dX0_winnerOf_48 : decode cX0_winnerOf 48 = .ok (.iload_n 2, 1) := by decide +kernel
theorem dX0_winnerOf_49 : decode cX0_winnerOf 49 = .ok (.ireturn, 1) := by decide +kernel
theorem dX0_bidPoorly_0 : decode cX0_bidPoorly 0 = .ok (.iconst 0, 1) := by decide +kernel
theorem dX0_bidPoorly_1 : decode cX0_bidPoorly 1 = .ok (.istore_n 2, 1) := by decide +kernel
theorem dX0_bidPoorly_2 : decode cX0_bidPoorly 2 = .ok (.iconst 0, 1) := by decide +kernel
theorem dX0_bidPoorly_3 : decode cX0_bidPoorly 3 = .ok (.istore_n 3, 1) := by decide +kernel
theorem dX0_bidPoorly_4 : decode cX0_bidPoorly 4 = .ok (.iconst 0, 1) := by decide +kernel
theorem dX0_bidPoorly_5 : decode cX0_bidPoorly 5 = .ok (.istore 4, 2) := by decide +kernel
theorem dX0_bidPoorly_7 : decode cX0_bidPoorly 7 = .ok (.iload 4, 2) := by decide +kernel
theorem dX0_bidPoorly_9 : decode cX0_bidPoorly 9 = .ok (.aload_n 0, 1) := by decide +kernel
theorem dX0_bidPoorly_10 : decode cX0_bidPoorly 10 = .ok (.getfield 16, 3) := by decide +kernel
theorem dX0_bidPoorly_13 : decode cX0_bidPoorly 13 = .ok (.if_icmp .ge 45, 3) := by decide +kernel
theorem dX0_bidPoorly_16 : decode cX0_bidPoorly 16 = .ok (.aload_n 0, 1) := by decide +kernel
theorem dX0_bidPoorly_17 : decode cX0_bidPoorly 17 = .ok (.getfield 11, 3) := by decide +kernel
theorem dX0_bidPoorly_20 : decode cX0_bidPoorly 20 = .ok (.iload_n 1, 1) := by decide +kernel
theorem dX0_bidPoorly_21 : decode cX0_bidPoorly 21 = .ok (.aaload, 1) := by decide +kernel
theorem dX0_bidPoorly_22 : decode cX0_bidPoorly 22 = .ok (.iload 4, 2) := by decide +kernel
theorem dX0_bidPoorly_24 : decode cX0_bidPoorly 24 = .ok (.iaload, 1) := by decide +kernel
theorem dX0_bidPoorly_25 : decode cX0_bidPoorly 25 = .ok (.sipush (-1001), 3) := by decide +kernel
theorem dX0_bidPoorly_28 : decode cX0_bidPoorly 28 = .ok (.if_icmp .eq 24, 3) := by decide +kernel
theorem dX0_bidPoorly_31 : decode cX0_bidPoorly 31 = .ok (.iinc 2 1, 3) := by decide +kernel
theorem dX0_bidPoorly_34 : decode cX0_bidPoorly 34 = .ok (.iload_n 3, 1) := by decide +kernel
theorem dX0_bidPoorly_35 : decode cX0_bidPoorly 35 = .ok (.aload_n 0, 1) := by decide +kernel
theorem dX0_bidPoorly_36 : decode cX0_bidPoorly 36 = .ok (.iload_n 1, 1) := by decide +kernel
theorem dX0_bidPoorly_37 : decode cX0_bidPoorly 37 = .ok (.iload 4, 2) := by decide +kernel
theorem dX0_bidPoorly_39 : decode cX0_bidPoorly 39 = .ok (.invokevirtual 26, 3) := by decide +kernel
theorem dX0_bidPoorly_42 : decode cX0_bidPoorly 42 = .ok (.ifCond .eq 7, 3) := by decide +kernel
theorem dX0_bidPoorly_45 : decode cX0_bidPoorly 45 = .ok (.iconst 1, 1) := by decide +kernel
theorem dX0_bidPoorly_46 : decode cX0_bidPoorly 46 = .ok (.goto 4, 3) := by decide +kernel
theorem dX0_bidPoorly_49 : decode cX0_bidPoorly 49 = .ok (.iconst 0, 1) := by decide +kernel
theorem dX0_bidPoorly_50 : decode cX0_bidPoorly 50 = .ok (.iadd, 1) := by decide +kernel
theorem dX0_bidPoorly_51 : decode cX0_bidPoorly 51 = .ok (.istore_n 3, 1) := by decide +kernel
theorem dX0_bidPoorly_52 : decode cX0_bidPoorly 52 = .ok (.iinc 4 1, 3) := by decide +kernel
theorem dX0_bidPoorly_55 : decode cX0_bidPoorly 55 = .ok (.goto (-48), 3) := by decide +kernel
theorem dX0_bidPoorly_58 : decode cX0_bidPoorly 58 = .ok (.iconst 2, 1) := by decide +kernel
theorem dX0_bidPoorly_59 : decode cX0_bidPoorly 59 = .ok (.iload_n 2, 1) := by decide +kernel
theorem dX0_bidPoorly_60 : decode cX0_bidPoorly 60 = .ok (.imul, 1) := by decide +kernel
theorem dX0_bidPoorly_61 : decode cX0_bidPoorly 61 = .ok (.aload_n 0, 1) := by decide +kernel
theorem dX0_bidPoorly_62 : decode cX0_bidPoorly 62 = .ok (.getfield 16, 3) := by decide +kernel
theorem dX0_bidPoorly_65 : decode cX0_bidPoorly 65 = .ok (.if_icmp .lt 10, 3) := by decide +kernel
theorem dX0_bidPoorly_68 : decode cX0_bidPoorly 68 = .ok (.iconst 2, 1) := by decide +kernel
theorem dX0_bidPoorly_69 : decode cX0_bidPoorly 69 = .ok (.iload_n 3, 1) := by decide +kernel
theorem dX0_bidPoorly_70 : decode cX0_bidPoorly 70 = .ok (.imul, 1) := by decide +kernel
theorem dX0_bidPoorly_71 : decode cX0_bidPoorly 71 = .ok (.iload_n 2, 1) := by decide +kernel
theorem dX0_bidPoorly_72 : decode cX0_bidPoorly 72 = .ok (.if_icmp .le 7, 3) := by decide +kernel
theorem dX0_bidPoorly_75 : decode cX0_bidPoorly 75 = .ok (.iconst 1, 1) := by decide +kernel
theorem dX0_bidPoorly_76 : decode cX0_bidPoorly 76 = .ok (.goto 4, 3) := by decide +kernel
theorem dX0_bidPoorly_79 : decode cX0_bidPoorly 79 = .ok (.iconst 0, 1) := by decide +kernel
theorem dX0_bidPoorly_80 : decode cX0_bidPoorly 80 = .ok (.ireturn, 1) := by decide +kernel
theorem dX0_isLow_0 : decode cX0_isLow 0 = .ok (.aload_n 0, 1) := by decide +kernel
theorem dX0_isLow_1 : decode cX0_isLow 1 = .ok (.iload_n 2, 1) := by decide +kernel
theorem dX0_isLow_2 : decode cX0_isLow 2 = .ok (.invokevirtual 30, 3) := by decide +kernel
theorem dX0_isLow_5 : decode cX0_isLow 5 = .ok (.istore_n 3, 1) := by decide +kernel
theorem dX0_isLow_6 : decode cX0_isLow 6 = .ok (.iload_n 3, 1) := by decide +kernel
theorem dX0_isLow_7 : decode cX0_isLow 7 = .ok (.iconst (-1), 1) := by decide +kernel
theorem dX0_isLow_8 : decode cX0_isLow 8 = .ok (.if_icmp .eq 29, 3) := by decide +kernel
theorem dX0_isLow_11 : decode cX0_isLow 11 = .ok (.aload_n 0, 1) := by decide +kernel
theorem dX0_isLow_12 : decode cX0_isLow 12 = .ok (.getfield 11, 3) := by decide +kernel
theorem dX0_isLow_15 : decode cX0_isLow 15 = .ok (.iload_n 3, 1) := by decide +kernel
theorem dX0_isLow_16 : decode cX0_isLow 16 = .ok (.aaload, 1) := by decide +kernel
theorem dX0_isLow_17 : decode cX0_isLow 17 = .ok (.iload_n 2, 1) := by decide +kernel
theorem dX0_isLow_18 : decode cX0_isLow 18 = .ok (.iaload, 1) := by decide +kernel
theorem dX0_isLow_19 : decode cX0_isLow 19 = .ok (.aload_n 0, 1) := by decide +kernel
theorem dX0_isLow_20 : decode cX0_isLow 20 = .ok (.getfield 11, 3) := by decide +kernel
theorem dX0_isLow_23 : decode cX0_isLow 23 = .ok (.iload_n 1, 1) := by decide +kernel
theorem dX0_isLow_24 : decode cX0_isLow 24 = .ok (.aaload, 1) := by decide +kernel
theorem dX0_isLow_25 : decode cX0_isLow 25 = .ok (.iload_n 2, 1) := by decide +kernel
theorem dX0_isLow_26 : decode cX0_isLow 26 = .ok (.iaload, 1) := by decide +kernel
theorem dX0_isLow_27 : decode cX0_isLow 27 = .ok (.isub, 1) := by decide +kernel
theorem dX0_isLow_28 : decode cX0_isLow 28 = .ok (.bipush 100, 2) := by decide +kernel
theorem dX0_isLow_30 : decode cX0_isLow 30 = .ok (.if_icmp .le 7, 3) := by decide +kernel
theorem dX0_isLow_33 : decode cX0_isLow 33 = .ok (.iconst 1, 1) := by decide +kernel
theorem dX0_isLow_34 : decode cX0_isLow 34 = .ok (.goto 4, 3) := by decide +kernel
theorem dX0_isLow_37 : decode cX0_isLow 37 = .ok (.iconst 0, 1) := by decide +kernel
theorem dX0_isLow_38 : decode cX0_isLow 38 = .ok (.ireturn, 1) := by decide +kernel
end
section
theorem dX3_init_0 : decode cX3_init 0 = .ok (.aload_n 0, 1) := by decide +kernel
theorem dX3_init_1 : decode cX3_init 1 = .ok (.invokespecial 3, 3) := by decide +kernel
theorem dX3_init_4 : decode cX3_init 4 = .ok (.aload_n 0, 1) := by decide +kernel
theorem dX3_init_5 : decode cX3_init 5 = .ok (.bipush 10, 2) := by decide +kernel
theorem dX3_init_7 : decode cX3_init 7 = .ok (.anewarray 9, 3) := by decide +kernel
theorem dX3_init_10 : decode cX3_init 10 = .ok (.putfield 11, 3) := by decide +kernel
theorem dX3_init_13 : decode cX3_init 13 = .ok (.aload_n 0, 1) := by decide +kernel
theorem dX3_init_14 : decode cX3_init 14 = .ok (.new 15, 3) := by decide +kernel
theorem dX3_init_17 : decode cX3_init 17 = .ok (.dup, 1) := by decide +kernel
theorem dX3_init_18 : decode cX3_init 18 = .ok (.invokespecial 17, 3) := by decide +kernel
theorem dX3_init_21 : decode cX3_init 21 = .ok (.putfield 18, 3) := by decide +kernel
theorem dX3_init_24 : decode cX3_init 24 = .ok (.aload_n 0, 1) := by decide +kernel
theorem dX3_init_25 : decode cX3_init 25 = .ok (.new 22, 3) := by decide +kernel
theorem dX3_init_28 : decode cX3_init 28 = .ok (.dup, 1) := by decide +kernel
theorem dX3_init_29 : decode cX3_init 29 = .ok (.invokespecial 24, 3) := by decide +kernel
theorem dX3_init_32 : decode cX3_init 32 = .ok (.putfield 25, 3) := by decide +kernel
theorem dX3_init_35 : decode cX3_init 35 = .ok (.aload_n 0, 1) := by decide +kernel
theorem dX3_init_36 : decode cX3_init 36 = .ok (.iconst 0, 1) := by decide +kernel
theorem dX3_init_37 : decode cX3_init 37 = .ok (.putfield 29, 3) := by decide +kernel
theorem dX3_init_40 : decode cX3_init 40 = .ok (.aload_n 0, 1) := by decide +kernel
theorem dX3_init_41 : decode cX3_init 41 = .ok (.iconst 0, 1) := by decide +kernel
theorem dX3_init_42 : decode cX3_init 42 = .ok (.putfield 33, 3) := by decide +kernel
theorem dX3_init_45 : decode cX3_init 45 = .ok (.aload_n 0, 1) := by decide +kernel
theorem dX3_init_46 : decode cX3_init 46 = .ok (.iconst 0, 1) := by decide +kernel
theorem dX3_init_47 : decode cX3_init 47 = .ok (.putfield 36, 3) := by decide +kernel
theorem dX3_init_50 : decode cX3_init 50 = .ok (.aload_n 0, 1) := by decide +kernel
theorem dX3_init_51 : decode cX3_init 51 = .ok (.iconst 0, 1) := by decide +kernel
theorem dX3_init_52 : decode cX3_init 52 = .ok (.putfield 39, 3) := by decide +kernel
theorem dX3_init_55 : decode cX3_init 55 = .ok (.aload_n 0, 1) := by decide +kernel
theorem dX3_init_56 : decode cX3_init 56 = .ok (.iconst (-1), 1) := by decide +kernel
theorem dX3_init_57 : decode cX3_init 57 = .ok (.putfield 42, 3) := by decide +kernel
theorem dX3_init_60 : decode cX3_init 60 = .ok (.iconst 0, 1) := by decide +kernel
theorem dX3_init_61 : decode cX3_init 61 = .ok (.istore_n 1, 1) := by decide +kernel
theorem dX3_init_62 : decode cX3_init 62 = .ok (.iload_n 1, 1) := by decide +kernel
theorem dX3_init_63 : decode cX3_init 63 = .ok (.bipush 10, 2) := by decide +kernel
theorem dX3_init_65 : decode cX3_init 65 = .ok (.if_icmp .ge 22, 3) := by decide +kernel
theorem dX3_init_68 : decode cX3_init 68 = .ok (.aload_n 0, 1) := by decide +kernel
theorem dX3_init_69 : decode cX3_init 69 = .ok (.getfield 11, 3) := by decide +kernel
theorem dX3_init_72 : decode cX3_init 72 = .ok (.iload_n 1, 1) := by decide +kernel
theorem dX3_init_73 : decode cX3_init 73 = .ok (.new 9, 3) := by decide +kernel
theorem dX3_init_76 : decode cX3_init 76 = .ok (.dup, 1) := by decide +kernel
theorem dX3_init_77 : decode cX3_init 77 = .ok (.invokespecial 45, 3) := by decide +kernel
theorem dX3_init_80 : decode cX3_init 80 = .ok (.aastore, 1) := by decide +kernel
theorem dX3_init_81 : decode cX3_init 81 = .ok (.iinc 1 1, 3) := by decide +kernel
theorem dX3_init_84 : decode cX3_init 84 = .ok (.goto (-22), 3) := by decide +kernel
theorem dX3_init_87 : decode cX3_init 87 = .ok (.return_, 1) := by decide +kernel
theorem dX3_addMember_0 : decode cX3_addMember 0 = .ok (.iload_n 1, 1) := by decide +kernel
theorem dX3_addMember_1 : decode cX3_addMember 1 = .ok (.iconst 0, 1) := by decide +kernel
theorem dX3_addMember_2 : decode cX3_addMember 2 = .ok (.ldc 46, 2) := by decide +kernel
theorem dX3_addMember_4 : decode cX3_addMember 4 = .ok (.invokestatic 47, 3) := by decide +kernel
theorem dX3_addMember_7 : decode cX3_addMember 7 = .ok (.iload_n 2, 1) := by decide +kernel
theorem dX3_addMember_8 : decode cX3_addMember 8 = .ok (.iconst 0, 1) := by decide +kernel
theorem dX3_addMember_9 : decode cX3_addMember 9 = .ok (.ldc 46, 2) := by decide +kernel
theorem dX3_addMember_11 : decode cX3_addMember 11 = .ok (.invokestatic 47, 3) := by decide +kernel
theorem dX3_addMember_14 : decode cX3_addMember 14 = .ok (.iload_n 3, 1) := by decide +kernel
theorem dX3_addMember_15 : decode cX3_addMember 15 = .ok (.iconst 0, 1) := by decide +kernel
theorem dX3_addMember_16 : decode cX3_addMember 16 = .ok (.bipush 100, 2) := by decide +kernel
theorem dX3_addMember_18 : decode cX3_addMember 18 = .ok (.invokestatic 47, 3) := by decide +kernel
theorem dX3_addMember_21 : decode cX3_addMember 21 = .ok (.aload_n 0, 1) := by decide +kernel
theorem dX3_addMember_22 : decode cX3_addMember 22 = .ok (.getfield 29, 3) := by decide +kernel
theorem dX3_addMember_25 : decode cX3_addMember 25 = .ok (.bipush 10, 2) := by decide +kernel
theorem dX3_addMember_27 : decode cX3_addMember 27 = .ok (.if_icmp .lt 13, 3) := by decide +kernel
theorem dX3_addMember_30 : decode cX3_addMember 30 = .ok (.new 51, 3) := by decide +kernel
theorem dX3_addMember_33 : decode cX3_addMember 33 = .ok (.dup, 1) := by decide +kernel
theorem dX3_addMember_34 : decode cX3_addMember 34 = .ok (.ldc 53, 2) := by decide +kernel
theorem dX3_addMember_36 : decode cX3_addMember 36 = .ok (.invokespecial 55, 3) := by decide +kernel
theorem dX3_addMember_39 : decode cX3_addMember 39 = .ok (.athrow, 1) := by decide +kernel
theorem dX3_addMember_40 : decode cX3_addMember 40 = .ok (.aload_n 0, 1) := by decide +kernel
theorem dX3_addMember_41 : decode cX3_addMember 41 = .ok (.getfield 11, 3) := by decide +kernel
theorem dX3_addMember_44 : decode cX3_addMember 44 = .ok (.aload_n 0, 1) := by decide +kernel
theorem dX3_addMember_45 : decode cX3_addMember 45 = .ok (.getfield 29, 3) := by decide +kernel
theorem dX3_addMember_48 : decode cX3_addMember 48 = .ok (.aaload, 1) := by decide +kernel
theorem dX3_addMember_49 : decode cX3_addMember 49 = .ok (.iload_n 1, 1) := by decide +kernel
theorem dX3_addMember_50 : decode cX3_addMember 50 = .ok (.iload_n 2, 1) := by decide +kernel
theorem dX3_addMember_51 : decode cX3_addMember 51 = .ok (.iload_n 3, 1) := by decide +kernel
theorem dX3_addMember_52 : decode cX3_addMember 52 = .ok (.invokevirtual 58, 3) := by decide +kernel
theorem dX3_addMember_55 : decode cX3_addMember 55 = .ok (.aload_n 0, 1) := by decide +kernel
theorem dX3_addMember_56 : decode cX3_addMember 56 = .ok (.dup, 1) := by decide +kernel
theorem dX3_addMember_57 : decode cX3_addMember 57 = .ok (.getfield 29, 3) := by decide +kernel
theorem dX3_addMember_60 : decode cX3_addMember 60 = .ok (.iconst 1, 1) := by decide +kernel
theorem dX3_addMember_61 : decode cX3_addMember 61 = .ok (.iadd, 1) := by decide +kernel
theorem dX3_addMember_62 : decode cX3_addMember 62 = .ok (.putfield 29, 3) := by decide +kernel
theorem dX3_addMember_65 : decode cX3_addMember 65 = .ok (.aload_n 0, 1) := by decide +kernel
theorem dX3_addMember_66 : decode cX3_addMember 66 = .ok (.getfield 29, 3) := by decide +kernel
theorem dX3_addMember_69 : decode cX3_addMember 69 = .ok (.iconst 1, 1) := by decide +kernel
theorem dX3_addMember_70 : decode cX3_addMember 70 = .ok (.isub, 1) := by decide +kernel
theorem dX3_addMember_71 : decode cX3_addMember 71 = .ok (.ireturn, 1) := by decide +kernel
theorem dX3_addClient_0 : decode cX3_addClient 0 = .ok (.aload_n 0, 1) := by decide +kernel
theorem dX3_addClient_1 : decode cX3_addClient 1 = .ok (.iload_n 1, 1) := by decide +kernel
theorem dX3_addClient_2 : decode cX3_addClient 2 = .ok (.invokevirtual 61, 3) := by decide +kernel
theorem dX3_addClient_5 : decode cX3_addClient 5 = .ok (.astore_n 3, 1) := by decide +kernel
theorem dX3_addClient_6 : decode cX3_addClient 6 = .ok (.iload_n 2, 1) := by decide +kernel
theorem dX3_addClient_7 : decode cX3_addClient 7 = .ok (.iconst 1, 1) := by decide +kernel
theorem dX3_addClient_8 : decode cX3_addClient 8 = .ok (.bipush 20, 2) := by decide +kernel
theorem dX3_addClient_10 : decode cX3_addClient 10 = .ok (.invokestatic 47, 3) := by decide +kernel
theorem dX3_addClient_13 : decode cX3_addClient 13 = .ok (.aload_n 3, 1) := by decide +kernel
theorem dX3_addClient_14 : decode cX3_addClient 14 = .ok (.invokestatic 65, 3) := by decide +kernel
theorem dX3_addClient_17 : decode cX3_addClient 17 = .ok (.aload_n 3, 1) := by decide +kernel
theorem dX3_addClient_18 : decode cX3_addClient 18 = .ok (.iload_n 2, 1) := by decide +kernel
theorem dX3_addClient_19 : decode cX3_addClient 19 = .ok (.invokevirtual 69, 3) := by decide +kernel
theorem dX3_addClient_22 : decode cX3_addClient 22 = .ok (.ifCond .ne 13, 3) := by decide +kernel
theorem dX3_addClient_25 : decode cX3_addClient 25 = .ok (.new 51, 3) := by decide +kernel
theorem dX3_addClient_28 : decode cX3_addClient 28 = .ok (.dup, 1) := by decide +kernel
theorem dX3_addClient_29 : decode cX3_addClient 29 = .ok (.ldc 73, 2) := by decide +kernel
theorem dX3_addClient_31 : decode cX3_addClient 31 = .ok (.invokespecial 55, 3) := by decide +kernel
theorem dX3_addClient_34 : decode cX3_addClient 34 = .ok (.athrow, 1) := by decide +kernel
theorem dX3_addClient_35 : decode cX3_addClient 35 = .ok (.aload_n 3, 1) := by decide +kernel
theorem dX3_addClient_36 : decode cX3_addClient 36 = .ok (.invokevirtual 75, 3) := by decide +kernel
theorem dX3_addClient_39 : decode cX3_addClient 39 = .ok (.ireturn, 1) := by decide +kernel
theorem dX3_setGain_0 : decode cX3_setGain 0 = .ok (.aload_n 0, 1) := by decide +kernel
theorem dX3_setGain_1 : decode cX3_setGain 1 = .ok (.iload_n 1, 1) := by decide +kernel
theorem dX3_setGain_2 : decode cX3_setGain 2 = .ok (.invokevirtual 61, 3) := by decide +kernel
theorem dX3_setGain_5 : decode cX3_setGain 5 = .ok (.astore_n 3, 1) := by decide +kernel
theorem dX3_setGain_6 : decode cX3_setGain 6 = .ok (.iload_n 2, 1) := by decide +kernel
theorem dX3_setGain_7 : decode cX3_setGain 7 = .ok (.iconst 0, 1) := by decide +kernel
theorem dX3_setGain_8 : decode cX3_setGain 8 = .ok (.ldc 46, 2) := by decide +kernel
theorem dX3_setGain_10 : decode cX3_setGain 10 = .ok (.invokestatic 47, 3) := by decide +kernel
theorem dX3_setGain_13 : decode cX3_setGain 13 = .ok (.aload_n 3, 1) := by decide +kernel
theorem dX3_setGain_14 : decode cX3_setGain 14 = .ok (.invokestatic 65, 3) := by decide +kernel
theorem dX3_setGain_17 : decode cX3_setGain 17 = .ok (.aload_n 3, 1) := by decide +kernel
theorem dX3_setGain_18 : decode cX3_setGain 18 = .ok (.getfield 79, 3) := by decide +kernel
theorem dX3_setGain_21 : decode cX3_setGain 21 = .ok (.istore 4, 2) := by decide +kernel
theorem dX3_setGain_23 : decode cX3_setGain 23 = .ok (.aload_n 3, 1) := by decide +kernel
theorem dX3_setGain_24 : decode cX3_setGain 24 = .ok (.iload_n 2, 1) := by decide +kernel
theorem dX3_setGain_25 : decode cX3_setGain 25 = .ok (.putfield 79, 3) := by decide +kernel
theorem dX3_setGain_28 : decode cX3_setGain 28 = .ok (.iload 4, 2) := by decide +kernel
theorem dX3_setGain_30 : decode cX3_setGain 30 = .ok (.ireturn, 1) := by decide +kernel
theorem dX3_setTested_0 : decode cX3_setTested 0 = .ok (.aload_n 0, 1) := by decide +kernel
theorem dX3_setTested_1 : decode cX3_setTested 1 = .ok (.iload_n 1, 1) := by decide +kernel
theorem dX3_setTested_2 : decode cX3_setTested 2 = .ok (.invokevirtual 61, 3) := by decide +kernel
theorem dX3_setTested_5 : decode cX3_setTested 5 = .ok (.astore_n 3, 1) := by decide +kernel
theorem dX3_setTested_6 : decode cX3_setTested 6 = .ok (.iload_n 2, 1) := by decide +kernel
theorem dX3_setTested_7 : decode cX3_setTested 7 = .ok (.iconst 0, 1) := by decide +kernel
theorem dX3_setTested_8 : decode cX3_setTested 8 = .ok (.ldc 46, 2) := by decide +kernel
theorem dX3_setTested_10 : decode cX3_setTested 10 = .ok (.invokestatic 47, 3) := by decide +kernel
theorem dX3_setTested_13 : decode cX3_setTested 13 = .ok (.aload_n 3, 1) := by decide +kernel
theorem dX3_setTested_14 : decode cX3_setTested 14 = .ok (.invokestatic 65, 3) := by decide +kernel
theorem dX3_setTested_17 : decode cX3_setTested 17 = .ok (.aload_n 3, 1) := by decide +kernel
theorem dX3_setTested_18 : decode cX3_setTested 18 = .ok (.getfield 82, 3) := by decide +kernel
theorem dX3_setTested_21 : decode cX3_setTested 21 = .ok (.istore 4, 2) := by decide +kernel
theorem dX3_setTested_23 : decode cX3_setTested 23 = .ok (.aload_n 3, 1) := by decide +kernel
theorem dX3_setTested_24 : decode cX3_setTested 24 = .ok (.iload_n 2, 1) := by decide +kernel
theorem dX3_setTested_25 : decode cX3_setTested 25 = .ok (.putfield 82, 3) := by decide +kernel
theorem dX3_setTested_28 : decode cX3_setTested 28 = .ok (.iload 4, 2) := by decide +kernel
theorem dX3_setTested_30 : decode cX3_setTested 30 = .ok (.ireturn, 1) := by decide +kernel
theorem dX3_setCapital_0 : decode cX3_setCapital 0 = .ok (.iload_n 1, 1) := by decide +kernel
theorem dX3_setCapital_1 : decode cX3_setCapital 1 = .ok (.iconst 0, 1) := by decide +kernel
theorem dX3_setCapital_2 : decode cX3_setCapital 2 = .ok (.ldc 46, 2) := by decide +kernel
theorem dX3_setCapital_4 : decode cX3_setCapital 4 = .ok (.invokestatic 47, 3) := by decide +kernel
theorem dX3_setCapital_7 : decode cX3_setCapital 7 = .ok (.aload_n 0, 1) := by decide +kernel
theorem dX3_setCapital_8 : decode cX3_setCapital 8 = .ok (.getfield 33, 3) := by decide +kernel
theorem dX3_setCapital_11 : decode cX3_setCapital 11 = .ok (.istore_n 2, 1) := by decide +kernel
theorem dX3_setCapital_12 : decode cX3_setCapital 12 = .ok (.aload_n 0, 1) := by decide +kernel
theorem dX3_setCapital_13 : decode cX3_setCapital 13 = .ok (.iload_n 1, 1) := by decide +kernel
theorem dX3_setCapital_14 : decode cX3_setCapital 14 = .ok (.putfield 33, 3) := by decide +kernel
theorem dX3_setCapital_17 : decode cX3_setCapital 17 = .ok (.iload_n 2, 1) := by decide +kernel
theorem dX3_setCapital_18 : decode cX3_setCapital 18 = .ok (.ireturn, 1) := by decide +kernel
theorem dX3_giveNotice_0 : decode cX3_giveNotice 0 = .ok (.aload_n 0, 1) := by decide +kernel
theorem dX3_giveNotice_1 : decode cX3_giveNotice 1 = .ok (.iload_n 1, 1) := by decide +kernel
theorem dX3_giveNotice_2 : decode cX3_giveNotice 2 = .ok (.invokevirtual 61, 3) := by decide +kernel
theorem dX3_giveNotice_5 : decode cX3_giveNotice 5 = .ok (.astore_n 2, 1) := by decide +kernel
theorem dX3_giveNotice_6 : decode cX3_giveNotice 6 = .ok (.aload_n 2, 1) := by decide +kernel
theorem dX3_giveNotice_7 : decode cX3_giveNotice 7 = .ok (.getfield 85, 3) := by decide +kernel
theorem dX3_giveNotice_10 : decode cX3_giveNotice 10 = .ok (.ifCond .eq 13, 3) := by decide +kernel
theorem dX3_giveNotice_13 : decode cX3_giveNotice 13 = .ok (.new 51, 3) := by decide +kernel
theorem dX3_giveNotice_16 : decode cX3_giveNotice 16 = .ok (.dup, 1) := by decide +kernel
theorem dX3_giveNotice_17 : decode cX3_giveNotice 17 = .ok (.ldc 88, 2) := by decide +kernel
theorem dX3_giveNotice_19 : decode cX3_giveNotice 19 = .ok (.invokespecial 55, 3) := by decide +kernel
theorem dX3_giveNotice_22 : decode cX3_giveNotice 22 = .ok (.athrow, 1) := by decide +kernel
theorem dX3_giveNotice_23 : decode cX3_giveNotice 23 = .ok (.aload_n 0, 1) := by decide +kernel
theorem dX3_giveNotice_24 : decode cX3_giveNotice 24 = .ok (.invokevirtual 90, 3) := by decide +kernel
theorem dX3_giveNotice_27 : decode cX3_giveNotice 27 = .ok (.aload_n 2, 1) := by decide +kernel
theorem dX3_giveNotice_28 : decode cX3_giveNotice 28 = .ok (.iconst 1, 1) := by decide +kernel
theorem dX3_giveNotice_29 : decode cX3_giveNotice 29 = .ok (.putfield 85, 3) := by decide +kernel
theorem dX3_giveNotice_32 : decode cX3_giveNotice 32 = .ok (.return_, 1) := by decide +kernel
theorem dX3_size_0 : decode cX3_size 0 = .ok (.aload_n 0, 1) := by decide +kernel
theorem dX3_size_1 : decode cX3_size 1 = .ok (.invokevirtual 90, 3) := by decide +kernel
theorem dX3_size_4 : decode cX3_size 4 = .ok (.aload_n 0, 1) := by decide +kernel
theorem dX3_size_5 : decode cX3_size 5 = .ok (.invokevirtual 93, 3) := by decide +kernel
theorem dX3_size_8 : decode cX3_size 8 = .ok (.istore_n 1, 1) := by decide +kernel
theorem dX3_size_9 : decode cX3_size 9 = .ok (.iconst 0, 1) := by decide +kernel
theorem dX3_size_10 : decode cX3_size 10 = .ok (.istore_n 2, 1) := by decide +kernel
theorem dX3_size_11 : decode cX3_size 11 = .ok (.iload_n 2, 1) := by decide +kernel
theorem dX3_size_12 : decode cX3_size 12 = .ok (.aload_n 0, 1) := by decide +kernel
theorem dX3_size_13 : decode cX3_size 13 = .ok (.getfield 29, 3) := by decide +kernel
theorem dX3_size_16 : decode cX3_size 16 = .ok (.if_icmp .ge 40, 3) := by decide +kernel
theorem dX3_size_19 : decode cX3_size 19 = .ok (.aload_n 0, 1) := by decide +kernel
theorem dX3_size_20 : decode cX3_size 20 = .ok (.getfield 11, 3) := by decide +kernel
theorem dX3_size_23 : decode cX3_size 23 = .ok (.iload_n 2, 1) := by decide +kernel
theorem dX3_size_24 : decode cX3_size 24 = .ok (.aaload, 1) := by decide +kernel
theorem dX3_size_25 : decode cX3_size 25 = .ok (.astore_n 3, 1) := by decide +kernel
theorem dX3_size_26 : decode cX3_size 26 = .ok (.aload_n 0, 1) := by decide +kernel
theorem dX3_size_27 : decode cX3_size 27 = .ok (.getfield 25, 3) := by decide +kernel
theorem dX3_size_30 : decode cX3_size 30 = .ok (.iload_n 2, 1) := by decide +kernel
theorem dX3_size_31 : decode cX3_size 31 = .ok (.aload_n 3, 1) := by decide +kernel
theorem dX3_size_32 : decode cX3_size 32 = .ok (.invokevirtual 96, 3) := by decide +kernel
theorem dX3_size_35 : decode cX3_size 35 = .ok (.ifCond .eq 10, 3) := by decide +kernel
theorem dX3_size_38 : decode cX3_size 38 = .ok (.aload_n 3, 1) := by decide +kernel
theorem dX3_size_39 : decode cX3_size 39 = .ok (.getfield 100, 3) := by decide +kernel
theorem dX3_size_42 : decode cX3_size 42 = .ok (.goto 4, 3) := by decide +kernel
theorem dX3_size_45 : decode cX3_size 45 = .ok (.iconst 0, 1) := by decide +kernel
theorem dX3_size_46 : decode cX3_size 46 = .ok (.iload_n 1, 1) := by decide +kernel
theorem dX3_size_47 : decode cX3_size 47 = .ok (.invokevirtual 103, 3) := by decide +kernel
theorem dX3_size_50 : decode cX3_size 50 = .ok (.iinc 2 1, 3) := by decide +kernel
theorem dX3_size_53 : decode cX3_size 53 = .ok (.goto (-42), 3) := by decide +kernel
theorem dX3_size_56 : decode cX3_size 56 = .ok (.aload_n 0, 1) := by decide +kernel
theorem dX3_size_57 : decode cX3_size 57 = .ok (.getfield 25, 3) := by decide +kernel
theorem dX3_size_60 : decode cX3_size 60 = .ok (.iload_n 1, 1) := by decide +kernel
theorem dX3_size_61 : decode cX3_size 61 = .ok (.invokevirtual 106, 3) := by decide +kernel
theorem dX3_size_64 : decode cX3_size 64 = .ok (.pop, 1) := by decide +kernel
theorem dX3_size_65 : decode cX3_size 65 = .ok (.iconst 0, 1) := by decide +kernel
theorem dX3_size_66 : decode cX3_size 66 = .ok (.istore_n 2, 1) := by decide +kernel
theorem dX3_size_67 : decode cX3_size 67 = .ok (.iconst 0, 1) := by decide +kernel
theorem dX3_size_68 : decode cX3_size 68 = .ok (.istore_n 3, 1) := by decide +kernel
theorem dX3_size_69 : decode cX3_size 69 = .ok (.iload_n 3, 1) := by decide +kernel
theorem dX3_size_70 : decode cX3_size 70 = .ok (.aload_n 0, 1) := by decide +kernel
theorem dX3_size_71 : decode cX3_size 71 = .ok (.getfield 29, 3) := by decide +kernel
theorem dX3_size_74 : decode cX3_size 74 = .ok (.if_icmp .ge 29, 3) := by decide +kernel
theorem dX3_size_77 : decode cX3_size 77 = .ok (.iload_n 2, 1) := by decide +kernel
theorem dX3_size_78 : decode cX3_size 78 = .ok (.aload_n 0, 1) := by decide +kernel
theorem dX3_size_79 : decode cX3_size 79 = .ok (.getfield 11, 3) := by decide +kernel
theorem dX3_size_82 : decode cX3_size 82 = .ok (.iload_n 3, 1) := by decide +kernel
theorem dX3_size_83 : decode cX3_size 83 = .ok (.aaload, 1) := by decide +kernel
theorem dX3_size_84 : decode cX3_size 84 = .ok (.aload_n 0, 1) := by decide +kernel
theorem dX3_size_85 : decode cX3_size 85 = .ok (.getfield 25, 3) := by decide +kernel
theorem dX3_size_88 : decode cX3_size 88 = .ok (.iload_n 3, 1) := by decide +kernel
theorem dX3_size_89 : decode cX3_size 89 = .ok (.invokevirtual 110, 3) := by decide +kernel
theorem dX3_size_92 : decode cX3_size 92 = .ok (.invokevirtual 113, 3) := by decide +kernel
theorem dX3_size_95 : decode cX3_size 95 = .ok (.iadd, 1) := by decide +kernel
theorem dX3_size_96 : decode cX3_size 96 = .ok (.istore_n 2, 1) := by decide +kernel
theorem dX3_size_97 : decode cX3_size 97 = .ok (.iinc 3 1, 3) := by decide +kernel
theorem dX3_size_100 : decode cX3_size 100 = .ok (.goto (-31), 3) := by decide +kernel
theorem dX3_size_103 : decode cX3_size 103 = .ok (.iload_n 2, 1) := by decide +kernel
theorem dX3_size_104 : decode cX3_size 104 = .ok (.ireturn, 1) := by decide +kernel
theorem dX3_fail_0 : decode cX3_fail 0 = .ok (.aload_n 0, 1) := by decide +kernel
theorem dX3_fail_1 : decode cX3_fail 1 = .ok (.iload_n 1, 1) := by decide +kernel
theorem dX3_fail_2 : decode cX3_fail 2 = .ok (.invokevirtual 61, 3) := by decide +kernel
theorem dX3_fail_5 : decode cX3_fail 5 = .ok (.astore_n 3, 1) := by decide +kernel
theorem dX3_fail_6 : decode cX3_fail 6 = .ok (.iload_n 2, 1) := by decide +kernel
theorem dX3_fail_7 : decode cX3_fail 7 = .ok (.iconst 1, 1) := by decide +kernel
theorem dX3_fail_8 : decode cX3_fail 8 = .ok (.bipush 20, 2) := by decide +kernel
theorem dX3_fail_10 : decode cX3_fail 10 = .ok (.invokestatic 47, 3) := by decide +kernel
theorem dX3_fail_13 : decode cX3_fail 13 = .ok (.aload_n 3, 1) := by decide +kernel
theorem dX3_fail_14 : decode cX3_fail 14 = .ok (.invokestatic 65, 3) := by decide +kernel
theorem dX3_fail_17 : decode cX3_fail 17 = .ok (.aload_n 0, 1) := by decide +kernel
theorem dX3_fail_18 : decode cX3_fail 18 = .ok (.invokevirtual 90, 3) := by decide +kernel
theorem dX3_fail_21 : decode cX3_fail 21 = .ok (.iconst 0, 1) := by decide +kernel
theorem dX3_fail_22 : decode cX3_fail 22 = .ok (.istore 4, 2) := by decide +kernel
theorem dX3_fail_24 : decode cX3_fail 24 = .ok (.iload 4, 2) := by decide +kernel
theorem dX3_fail_26 : decode cX3_fail 26 = .ok (.aload_n 0, 1) := by decide +kernel
theorem dX3_fail_27 : decode cX3_fail 27 = .ok (.getfield 29, 3) := by decide +kernel
theorem dX3_fail_30 : decode cX3_fail 30 = .ok (.if_icmp .ge 29, 3) := by decide +kernel
theorem dX3_fail_33 : decode cX3_fail 33 = .ok (.aload_n 0, 1) := by decide +kernel
theorem dX3_fail_34 : decode cX3_fail 34 = .ok (.getfield 11, 3) := by decide +kernel
theorem dX3_fail_37 : decode cX3_fail 37 = .ok (.iload 4, 2) := by decide +kernel
theorem dX3_fail_39 : decode cX3_fail 39 = .ok (.aaload, 1) := by decide +kernel
theorem dX3_fail_40 : decode cX3_fail 40 = .ok (.aload_n 0, 1) := by decide +kernel
theorem dX3_fail_41 : decode cX3_fail 41 = .ok (.getfield 11, 3) := by decide +kernel
theorem dX3_fail_44 : decode cX3_fail 44 = .ok (.iload 4, 2) := by decide +kernel
theorem dX3_fail_46 : decode cX3_fail 46 = .ok (.aaload, 1) := by decide +kernel
theorem dX3_fail_47 : decode cX3_fail 47 = .ok (.getfield 116, 3) := by decide +kernel
theorem dX3_fail_50 : decode cX3_fail 50 = .ok (.putfield 119, 3) := by decide +kernel
theorem dX3_fail_53 : decode cX3_fail 53 = .ok (.iinc 4 1, 3) := by decide +kernel
theorem dX3_fail_56 : decode cX3_fail 56 = .ok (.goto (-32), 3) := by decide +kernel
theorem dX3_fail_59 : decode cX3_fail 59 = .ok (.aload_n 0, 1) := by decide +kernel
theorem dX3_fail_60 : decode cX3_fail 60 = .ok (.iload_n 1, 1) := by decide +kernel
theorem dX3_fail_61 : decode cX3_fail 61 = .ok (.putfield 42, 3) := by decide +kernel
theorem dX3_fail_64 : decode cX3_fail 64 = .ok (.aload_n 3, 1) := by decide +kernel
theorem dX3_fail_65 : decode cX3_fail 65 = .ok (.iconst 2, 1) := by decide +kernel
theorem dX3_fail_66 : decode cX3_fail 66 = .ok (.putfield 85, 3) := by decide +kernel
theorem dX3_fail_69 : decode cX3_fail 69 = .ok (.iload_n 2, 1) := by decide +kernel
theorem dX3_fail_70 : decode cX3_fail 70 = .ok (.aload_n 0, 1) := by decide +kernel
theorem dX3_fail_71 : decode cX3_fail 71 = .ok (.aload_n 3, 1) := by decide +kernel
theorem dX3_fail_72 : decode cX3_fail 72 = .ok (.invokevirtual 122, 3) := by decide +kernel
theorem dX3_fail_75 : decode cX3_fail 75 = .ok (.iadd, 1) := by decide +kernel
theorem dX3_fail_76 : decode cX3_fail 76 = .ok (.istore 4, 2) := by decide +kernel
theorem dX3_fail_78 : decode cX3_fail 78 = .ok (.aload_n 0, 1) := by decide +kernel
theorem dX3_fail_79 : decode cX3_fail 79 = .ok (.getfield 18, 3) := by decide +kernel
theorem dX3_fail_82 : decode cX3_fail 82 = .ok (.iload 4, 2) := by decide +kernel
theorem dX3_fail_84 : decode cX3_fail 84 = .ok (.invokevirtual 126, 3) := by decide +kernel
theorem dX3_fail_87 : decode cX3_fail 87 = .ok (.iload 4, 2) := by decide +kernel
theorem dX3_fail_89 : decode cX3_fail 89 = .ok (.ireturn, 1) := by decide +kernel
theorem dX3_bid_0 : decode cX3_bid 0 = .ok (.aload_n 0, 1) := by decide +kernel
theorem dX3_bid_1 : decode cX3_bid 1 = .ok (.iload_n 1, 1) := by decide +kernel
theorem dX3_bid_2 : decode cX3_bid 2 = .ok (.invokevirtual 61, 3) := by decide +kernel
theorem dX3_bid_5 : decode cX3_bid 5 = .ok (.astore 4, 2) := by decide +kernel
theorem dX3_bid_7 : decode cX3_bid 7 = .ok (.aload_n 0, 1) := by decide +kernel
theorem dX3_bid_8 : decode cX3_bid 8 = .ok (.getfield 42, 3) := by decide +kernel
theorem dX3_bid_11 : decode cX3_bid 11 = .ok (.iconst (-1), 1) := by decide +kernel
theorem dX3_bid_12 : decode cX3_bid 12 = .ok (.if_icmp .eq 14, 3) := by decide +kernel
theorem dX3_bid_15 : decode cX3_bid 15 = .ok (.aload_n 0, 1) := by decide +kernel
theorem dX3_bid_16 : decode cX3_bid 16 = .ok (.getfield 18, 3) := by decide +kernel
theorem dX3_bid_19 : decode cX3_bid 19 = .ok (.iload_n 2, 1) := by decide +kernel
theorem dX3_bid_20 : decode cX3_bid 20 = .ok (.invokevirtual 130, 3) := by decide +kernel
theorem dX3_bid_23 : decode cX3_bid 23 = .ok (.ifCond .ne 13, 3) := by decide +kernel
theorem dX3_bid_26 : decode cX3_bid 26 = .ok (.new 133, 3) := by decide +kernel
theorem dX3_bid_29 : decode cX3_bid 29 = .ok (.dup, 1) := by decide +kernel
theorem dX3_bid_30 : decode cX3_bid 30 = .ok (.ldc 135, 2) := by decide +kernel
theorem dX3_bid_32 : decode cX3_bid 32 = .ok (.invokespecial 137, 3) := by decide +kernel
theorem dX3_bid_35 : decode cX3_bid 35 = .ok (.athrow, 1) := by decide +kernel
theorem dX3_bid_36 : decode cX3_bid 36 = .ok (.iload_n 3, 1) := by decide +kernel
theorem dX3_bid_37 : decode cX3_bid 37 = .ok (.sipush (-1000), 3) := by decide +kernel
theorem dX3_bid_40 : decode cX3_bid 40 = .ok (.sipush 1000, 3) := by decide +kernel
theorem dX3_bid_43 : decode cX3_bid 43 = .ok (.invokestatic 47, 3) := by decide +kernel
theorem dX3_bid_46 : decode cX3_bid 46 = .ok (.aload 4, 2) := by decide +kernel
theorem dX3_bid_48 : decode cX3_bid 48 = .ok (.invokestatic 65, 3) := by decide +kernel
theorem dX3_bid_51 : decode cX3_bid 51 = .ok (.aload_n 0, 1) := by decide +kernel
theorem dX3_bid_52 : decode cX3_bid 52 = .ok (.getfield 18, 3) := by decide +kernel
theorem dX3_bid_55 : decode cX3_bid 55 = .ok (.iload_n 1, 1) := by decide +kernel
theorem dX3_bid_56 : decode cX3_bid 56 = .ok (.iload_n 2, 1) := by decide +kernel
theorem dX3_bid_57 : decode cX3_bid 57 = .ok (.invokevirtual 138, 3) := by decide +kernel
theorem dX3_bid_60 : decode cX3_bid 60 = .ok (.sipush (-1001), 3) := by decide +kernel
theorem dX3_bid_63 : decode cX3_bid 63 = .ok (.if_icmp .eq 13, 3) := by decide +kernel
theorem dX3_bid_66 : decode cX3_bid 66 = .ok (.new 51, 3) := by decide +kernel
theorem dX3_bid_69 : decode cX3_bid 69 = .ok (.dup, 1) := by decide +kernel
theorem dX3_bid_70 : decode cX3_bid 70 = .ok (.ldc 142, 2) := by decide +kernel
theorem dX3_bid_72 : decode cX3_bid 72 = .ok (.invokespecial 55, 3) := by decide +kernel
theorem dX3_bid_75 : decode cX3_bid 75 = .ok (.athrow, 1) := by decide +kernel
theorem dX3_bid_76 : decode cX3_bid 76 = .ok (.aload_n 0, 1) := by decide +kernel
theorem dX3_bid_77 : decode cX3_bid 77 = .ok (.getfield 18, 3) := by decide +kernel
theorem dX3_bid_80 : decode cX3_bid 80 = .ok (.iload_n 1, 1) := by decide +kernel
theorem dX3_bid_81 : decode cX3_bid 81 = .ok (.iload_n 2, 1) := by decide +kernel
theorem dX3_bid_82 : decode cX3_bid 82 = .ok (.iload_n 3, 1) := by decide +kernel
theorem dX3_bid_83 : decode cX3_bid 83 = .ok (.invokevirtual 144, 3) := by decide +kernel
theorem dX3_bid_86 : decode cX3_bid 86 = .ok (.return_, 1) := by decide +kernel
theorem dX3_close_0 : decode cX3_close 0 = .ok (.aload_n 0, 1) := by decide +kernel
theorem dX3_close_1 : decode cX3_close 1 = .ok (.getfield 42, 3) := by decide +kernel
theorem dX3_close_4 : decode cX3_close 4 = .ok (.iconst (-1), 1) := by decide +kernel
theorem dX3_close_5 : decode cX3_close 5 = .ok (.if_icmp .ne 13, 3) := by decide +kernel
theorem dX3_close_8 : decode cX3_close 8 = .ok (.new 51, 3) := by decide +kernel
theorem dX3_close_11 : decode cX3_close 11 = .ok (.dup, 1) := by decide +kernel
theorem dX3_close_12 : decode cX3_close 12 = .ok (.ldc 145, 2) := by decide +kernel
theorem dX3_close_14 : decode cX3_close 14 = .ok (.invokespecial 55, 3) := by decide +kernel
theorem dX3_close_17 : decode cX3_close 17 = .ok (.athrow, 1) := by decide +kernel
theorem dX3_close_18 : decode cX3_close 18 = .ok (.aload_n 0, 1) := by decide +kernel
theorem dX3_close_19 : decode cX3_close 19 = .ok (.iconst 0, 1) := by decide +kernel
theorem dX3_close_20 : decode cX3_close 20 = .ok (.aload_n 0, 1) := by decide +kernel
theorem dX3_close_21 : decode cX3_close 21 = .ok (.invokevirtual 147, 3) := by decide +kernel
theorem dX3_close_24 : decode cX3_close 24 = .ok (.invokestatic 150, 3) := by decide +kernel
theorem dX3_close_27 : decode cX3_close 27 = .ok (.putfield 36, 3) := by decide +kernel
theorem dX3_close_30 : decode cX3_close 30 = .ok (.aload_n 0, 1) := by decide +kernel
theorem dX3_close_31 : decode cX3_close 31 = .ok (.invokevirtual 155, 3) := by decide +kernel
theorem dX3_close_34 : decode cX3_close 34 = .ok (.aload_n 0, 1) := by decide +kernel
theorem dX3_close_35 : decode cX3_close 35 = .ok (.aload_n 0, 1) := by decide +kernel
theorem dX3_close_36 : decode cX3_close 36 = .ok (.getfield 11, 3) := by decide +kernel
theorem dX3_close_39 : decode cX3_close 39 = .ok (.aload_n 0, 1) := by decide +kernel
theorem dX3_close_40 : decode cX3_close 40 = .ok (.getfield 42, 3) := by decide +kernel
theorem dX3_close_43 : decode cX3_close 43 = .ok (.aaload, 1) := by decide +kernel
theorem dX3_close_44 : decode cX3_close 44 = .ok (.invokevirtual 158, 3) := by decide +kernel
theorem dX3_close_47 : decode cX3_close 47 = .ok (.istore_n 1, 1) := by decide +kernel
theorem dX3_close_48 : decode cX3_close 48 = .ok (.aload_n 0, 1) := by decide +kernel
theorem dX3_close_49 : decode cX3_close 49 = .ok (.dup, 1) := by decide +kernel
theorem dX3_close_50 : decode cX3_close 50 = .ok (.getfield 39, 3) := by decide +kernel
theorem dX3_close_53 : decode cX3_close 53 = .ok (.iload_n 1, 1) := by decide +kernel
theorem dX3_close_54 : decode cX3_close 54 = .ok (.iadd, 1) := by decide +kernel
theorem dX3_close_55 : decode cX3_close 55 = .ok (.putfield 39, 3) := by decide +kernel
theorem dX3_close_58 : decode cX3_close 58 = .ok (.aload_n 0, 1) := by decide +kernel
theorem dX3_close_59 : decode cX3_close 59 = .ok (.aload_n 0, 1) := by decide +kernel
theorem dX3_close_60 : decode cX3_close 60 = .ok (.getfield 11, 3) := by decide +kernel
theorem dX3_close_63 : decode cX3_close 63 = .ok (.aload_n 0, 1) := by decide +kernel
theorem dX3_close_64 : decode cX3_close 64 = .ok (.getfield 42, 3) := by decide +kernel
theorem dX3_close_67 : decode cX3_close 67 = .ok (.aaload, 1) := by decide +kernel
theorem dX3_close_68 : decode cX3_close 68 = .ok (.invokevirtual 161, 3) := by decide +kernel
theorem dX3_close_71 : decode cX3_close 71 = .ok (.iload_n 1, 1) := by decide +kernel
theorem dX3_close_72 : decode cX3_close 72 = .ok (.ireturn, 1) := by decide +kernel
theorem dX3_members_0 : decode cX3_members 0 = .ok (.aload_n 0, 1) := by decide +kernel
theorem dX3_members_1 : decode cX3_members 1 = .ok (.getfield 29, 3) := by decide +kernel
theorem dX3_members_4 : decode cX3_members 4 = .ok (.ireturn, 1) := by decide +kernel
theorem dX3_state_0 : decode cX3_state 0 = .ok (.aload_n 0, 1) := by decide +kernel
theorem dX3_state_1 : decode cX3_state 1 = .ok (.iload_n 1, 1) := by decide +kernel
theorem dX3_state_2 : decode cX3_state 2 = .ok (.invokevirtual 61, 3) := by decide +kernel
theorem dX3_state_5 : decode cX3_state 5 = .ok (.getfield 85, 3) := by decide +kernel
theorem dX3_state_8 : decode cX3_state 8 = .ok (.ireturn, 1) := by decide +kernel
theorem dX3_margin_0 : decode cX3_margin 0 = .ok (.aload_n 0, 1) := by decide +kernel
theorem dX3_margin_1 : decode cX3_margin 1 = .ok (.iload_n 1, 1) := by decide +kernel
theorem dX3_margin_2 : decode cX3_margin 2 = .ok (.invokevirtual 61, 3) := by decide +kernel
theorem dX3_margin_5 : decode cX3_margin 5 = .ok (.getfield 100, 3) := by decide +kernel
theorem dX3_margin_8 : decode cX3_margin 8 = .ok (.ireturn, 1) := by decide +kernel
theorem dX3_share_0 : decode cX3_share 0 = .ok (.aload_n 0, 1) := by decide +kernel
theorem dX3_share_1 : decode cX3_share 1 = .ok (.iload_n 1, 1) := by decide +kernel
theorem dX3_share_2 : decode cX3_share 2 = .ok (.invokevirtual 61, 3) := by decide +kernel
theorem dX3_share_5 : decode cX3_share 5 = .ok (.getfield 116, 3) := by decide +kernel
theorem dX3_share_8 : decode cX3_share 8 = .ok (.ireturn, 1) := by decide +kernel
theorem dX3_gain_0 : decode cX3_gain 0 = .ok (.aload_n 0, 1) := by decide +kernel
theorem dX3_gain_1 : decode cX3_gain 1 = .ok (.iload_n 1, 1) := by decide +kernel
theorem dX3_gain_2 : decode cX3_gain 2 = .ok (.invokevirtual 61, 3) := by decide +kernel
theorem dX3_gain_5 : decode cX3_gain 5 = .ok (.getfield 79, 3) := by decide +kernel
theorem dX3_gain_8 : decode cX3_gain 8 = .ok (.ireturn, 1) := by decide +kernel
theorem dX3_assessed_0 : decode cX3_assessed 0 = .ok (.aload_n 0, 1) := by decide +kernel
theorem dX3_assessed_1 : decode cX3_assessed 1 = .ok (.iload_n 1, 1) := by decide +kernel
theorem dX3_assessed_2 : decode cX3_assessed 2 = .ok (.invokevirtual 61, 3) := by decide +kernel
theorem dX3_assessed_5 : decode cX3_assessed 5 = .ok (.getfield 168, 3) := by decide +kernel
theorem dX3_assessed_8 : decode cX3_assessed 8 = .ok (.ireturn, 1) := by decide +kernel
theorem dX3_clientLots_0 : decode cX3_clientLots 0 = .ok (.aload_n 0, 1) := by decide +kernel
theorem dX3_clientLots_1 : decode cX3_clientLots 1 = .ok (.iload_n 1, 1) := by decide +kernel
theorem dX3_clientLots_2 : decode cX3_clientLots 2 = .ok (.invokevirtual 61, 3) := by decide +kernel
theorem dX3_clientLots_5 : decode cX3_clientLots 5 = .ok (.getfield 171, 3) := by decide +kernel
theorem dX3_clientLots_8 : decode cX3_clientLots 8 = .ok (.ireturn, 1) := by decide +kernel
theorem dX3_won_0 : decode cX3_won 0 = .ok (.aload_n 0, 1) := by decide +kernel
theorem dX3_won_1 : decode cX3_won 1 = .ok (.iload_n 1, 1) := by decide +kernel
theorem dX3_won_2 : decode cX3_won 2 = .ok (.invokevirtual 61, 3) := by decide +kernel
theorem dX3_won_5 : decode cX3_won 5 = .ok (.getfield 174, 3) := by decide +kernel
theorem dX3_won_8 : decode cX3_won 8 = .ok (.ireturn, 1) := by decide +kernel
theorem dX3_capital_0 : decode cX3_capital 0 = .ok (.aload_n 0, 1) := by decide +kernel
theorem dX3_capital_1 : decode cX3_capital 1 = .ok (.getfield 33, 3) := by decide +kernel
theorem dX3_capital_4 : decode cX3_capital 4 = .ok (.ireturn, 1) := by decide +kernel
theorem dX3_loss_0 : decode cX3_loss 0 = .ok (.aload_n 0, 1) := by decide +kernel
theorem dX3_loss_1 : decode cX3_loss 1 = .ok (.getfield 36, 3) := by decide +kernel
theorem dX3_loss_4 : decode cX3_loss 4 = .ok (.ireturn, 1) := by decide +kernel
theorem dX3_uncovered_0 : decode cX3_uncovered 0 = .ok (.aload_n 0, 1) := by decide +kernel
theorem dX3_uncovered_1 : decode cX3_uncovered 1 = .ok (.getfield 39, 3) := by decide +kernel
theorem dX3_uncovered_4 : decode cX3_uncovered 4 = .ok (.ireturn, 1) := by decide +kernel
theorem dX3_failing_0 : decode cX3_failing 0 = .ok (.aload_n 0, 1) := by decide +kernel
theorem dX3_failing_1 : decode cX3_failing 1 = .ok (.getfield 42, 3) := by decide +kernel
theorem dX3_failing_4 : decode cX3_failing 4 = .ok (.ireturn, 1) := by decide +kernel
theorem dX3_existing_0 : decode cX3_existing 0 = .ok (.iload_n 1, 1) := by decide +kernel
theorem dX3_existing_1 : decode cX3_existing 1 = .ok (.ifCond .lt 11, 3) := by decide +kernel
theorem dX3_existing_4 : decode cX3_existing 4 = .ok (.iload_n 1, 1) := by decide +kernel
theorem dX3_existing_5 : decode cX3_existing 5 = .ok (.aload_n 0, 1) := by decide +kernel
theorem dX3_existing_6 : decode cX3_existing 6 = .ok (.getfield 29, 3) := by decide +kernel
theorem dX3_existing_9 : decode cX3_existing 9 = .ok (.if_icmp .lt 13, 3) := by decide +kernel
theorem dX3_existing_12 : decode cX3_existing 12 = .ok (.new 133, 3) := by decide +kernel
theorem dX3_existing_15 : decode cX3_existing 15 = .ok (.dup, 1) := by decide +kernel
theorem dX3_existing_16 : decode cX3_existing 16 = .ok (.ldc 177, 2) := by decide +kernel
theorem dX3_existing_18 : decode cX3_existing 18 = .ok (.invokespecial 137, 3) := by decide +kernel
theorem dX3_existing_21 : decode cX3_existing 21 = .ok (.athrow, 1) := by decide +kernel
theorem dX3_existing_22 : decode cX3_existing 22 = .ok (.aload_n 0, 1) := by decide +kernel
theorem dX3_existing_23 : decode cX3_existing 23 = .ok (.getfield 11, 3) := by decide +kernel
theorem dX3_existing_26 : decode cX3_existing 26 = .ok (.iload_n 1, 1) := by decide +kernel
theorem dX3_existing_27 : decode cX3_existing 27 = .ok (.aaload, 1) := by decide +kernel
theorem dX3_existing_28 : decode cX3_existing 28 = .ok (.areturn, 1) := by decide +kernel
theorem dX3_requireBetween_0 : decode cX3_requireBetween 0 = .ok (.iload_n 0, 1) := by decide +kernel
theorem dX3_requireBetween_1 : decode cX3_requireBetween 1 = .ok (.iload_n 1, 1) := by decide +kernel
theorem dX3_requireBetween_2 : decode cX3_requireBetween 2 = .ok (.if_icmp .lt 8, 3) := by decide +kernel
theorem dX3_requireBetween_5 : decode cX3_requireBetween 5 = .ok (.iload_n 0, 1) := by decide +kernel
theorem dX3_requireBetween_6 : decode cX3_requireBetween 6 = .ok (.iload_n 2, 1) := by decide +kernel
theorem dX3_requireBetween_7 : decode cX3_requireBetween 7 = .ok (.if_icmp .le 13, 3) := by decide +kernel
theorem dX3_requireBetween_10 : decode cX3_requireBetween 10 = .ok (.new 179, 3) := by decide +kernel
theorem dX3_requireBetween_13 : decode cX3_requireBetween 13 = .ok (.dup, 1) := by decide +kernel
theorem dX3_requireBetween_14 : decode cX3_requireBetween 14 = .ok (.ldc 181, 2) := by decide +kernel
theorem dX3_requireBetween_16 : decode cX3_requireBetween 16 = .ok (.invokespecial 183, 3) := by decide +kernel
theorem dX3_requireBetween_19 : decode cX3_requireBetween 19 = .ok (.athrow, 1) := by decide +kernel
theorem dX3_requireBetween_20 : decode cX3_requireBetween 20 = .ok (.return_, 1) := by decide +kernel
theorem dX3_requireActive_0 : decode cX3_requireActive 0 = .ok (.aload_n 0, 1) := by decide +kernel
theorem dX3_requireActive_1 : decode cX3_requireActive 1 = .ok (.invokevirtual 96, 3) := by decide +kernel
theorem dX3_requireActive_4 : decode cX3_requireActive 4 = .ok (.ifCond .ne 13, 3) := by decide +kernel
theorem dX3_requireActive_7 : decode cX3_requireActive 7 = .ok (.new 51, 3) := by decide +kernel
theorem dX3_requireActive_10 : decode cX3_requireActive 10 = .ok (.dup, 1) := by decide +kernel
theorem dX3_requireActive_11 : decode cX3_requireActive 11 = .ok (.ldc 184, 2) := by decide +kernel
theorem dX3_requireActive_13 : decode cX3_requireActive 13 = .ok (.invokespecial 55, 3) := by decide +kernel
theorem dX3_requireActive_16 : decode cX3_requireActive 16 = .ok (.athrow, 1) := by decide +kernel
theorem dX3_requireActive_17 : decode cX3_requireActive 17 = .ok (.return_, 1) := by decide +kernel
theorem dX3_requireNoFailure_0 : decode cX3_requireNoFailure 0 = .ok (.aload_n 0, 1) := by decide +kernel
theorem dX3_requireNoFailure_1 : decode cX3_requireNoFailure 1 = .ok (.getfield 42, 3) := by decide +kernel
theorem dX3_requireNoFailure_4 : decode cX3_requireNoFailure 4 = .ok (.iconst (-1), 1) := by decide +kernel
theorem dX3_requireNoFailure_5 : decode cX3_requireNoFailure 5 = .ok (.if_icmp .eq 13, 3) := by decide +kernel
theorem dX3_requireNoFailure_8 : decode cX3_requireNoFailure 8 = .ok (.new 51, 3) := by decide +kernel
theorem dX3_requireNoFailure_11 : decode cX3_requireNoFailure 11 = .ok (.dup, 1) := by decide +kernel
theorem dX3_requireNoFailure_12 : decode cX3_requireNoFailure 12 = .ok (.ldc 186, 2) := by decide +kernel
theorem dX3_requireNoFailure_14 : decode cX3_requireNoFailure 14 = .ok (.invokespecial 55, 3) := by decide +kernel
theorem dX3_requireNoFailure_17 : decode cX3_requireNoFailure 17 = .ok (.athrow, 1) := by decide +kernel
theorem dX3_requireNoFailure_18 : decode cX3_requireNoFailure 18 = .ok (.return_, 1) := by decide +kernel
theorem dX3_neededFund_0 : decode cX3_neededFund 0 = .ok (.iconst 0, 1) := by decide +kernel
theorem dX3_neededFund_1 : decode cX3_neededFund 1 = .ok (.istore_n 1, 1) := by decide +kernel
theorem dX3_neededFund_2 : decode cX3_neededFund 2 = .ok (.iconst 0, 1) := by decide +kernel
theorem dX3_neededFund_3 : decode cX3_neededFund 3 = .ok (.istore_n 2, 1) := by decide +kernel
theorem dX3_neededFund_4 : decode cX3_neededFund 4 = .ok (.iconst 0, 1) := by decide +kernel
theorem dX3_neededFund_5 : decode cX3_neededFund 5 = .ok (.istore_n 3, 1) := by decide +kernel
theorem dX3_neededFund_6 : decode cX3_neededFund 6 = .ok (.iload_n 3, 1) := by decide +kernel
theorem dX3_neededFund_7 : decode cX3_neededFund 7 = .ok (.aload_n 0, 1) := by decide +kernel
theorem dX3_neededFund_8 : decode cX3_neededFund 8 = .ok (.getfield 29, 3) := by decide +kernel
theorem dX3_neededFund_11 : decode cX3_neededFund 11 = .ok (.if_icmp .ge 54, 3) := by decide +kernel
theorem dX3_neededFund_14 : decode cX3_neededFund 14 = .ok (.aload_n 0, 1) := by decide +kernel
theorem dX3_neededFund_15 : decode cX3_neededFund 15 = .ok (.getfield 11, 3) := by decide +kernel
theorem dX3_neededFund_18 : decode cX3_neededFund 18 = .ok (.iload_n 3, 1) := by decide +kernel
theorem dX3_neededFund_19 : decode cX3_neededFund 19 = .ok (.aaload, 1) := by decide +kernel
theorem dX3_neededFund_20 : decode cX3_neededFund 20 = .ok (.invokevirtual 96, 3) := by decide +kernel
theorem dX3_neededFund_23 : decode cX3_neededFund 23 = .ok (.ifCond .eq 15, 3) := by decide +kernel
theorem dX3_neededFund_26 : decode cX3_neededFund 26 = .ok (.aload_n 0, 1) := by decide +kernel
theorem dX3_neededFund_27 : decode cX3_neededFund 27 = .ok (.getfield 11, 3) := by decide +kernel
theorem dX3_neededFund_30 : decode cX3_neededFund 30 = .ok (.iload_n 3, 1) := by decide +kernel
theorem dX3_neededFund_31 : decode cX3_neededFund 31 = .ok (.aaload, 1) := by decide +kernel
theorem dX3_neededFund_32 : decode cX3_neededFund 32 = .ok (.getfield 82, 3) := by decide +kernel
theorem dX3_neededFund_35 : decode cX3_neededFund 35 = .ok (.goto 4, 3) := by decide +kernel
theorem dX3_neededFund_38 : decode cX3_neededFund 38 = .ok (.iconst 0, 1) := by decide +kernel
theorem dX3_neededFund_39 : decode cX3_neededFund 39 = .ok (.istore 4, 2) := by decide +kernel
theorem dX3_neededFund_41 : decode cX3_neededFund 41 = .ok (.iload_n 2, 1) := by decide +kernel
theorem dX3_neededFund_42 : decode cX3_neededFund 42 = .ok (.iload 4, 2) := by decide +kernel
theorem dX3_neededFund_44 : decode cX3_neededFund 44 = .ok (.iload_n 1, 1) := by decide +kernel
theorem dX3_neededFund_45 : decode cX3_neededFund 45 = .ok (.invokestatic 188, 3) := by decide +kernel
theorem dX3_neededFund_48 : decode cX3_neededFund 48 = .ok (.invokestatic 150, 3) := by decide +kernel
theorem dX3_neededFund_51 : decode cX3_neededFund 51 = .ok (.istore_n 2, 1) := by decide +kernel
theorem dX3_neededFund_52 : decode cX3_neededFund 52 = .ok (.iload_n 1, 1) := by decide +kernel
theorem dX3_neededFund_53 : decode cX3_neededFund 53 = .ok (.iload 4, 2) := by decide +kernel
theorem dX3_neededFund_55 : decode cX3_neededFund 55 = .ok (.invokestatic 150, 3) := by decide +kernel
theorem dX3_neededFund_58 : decode cX3_neededFund 58 = .ok (.istore_n 1, 1) := by decide +kernel
theorem dX3_neededFund_59 : decode cX3_neededFund 59 = .ok (.iinc 3 1, 3) := by decide +kernel
theorem dX3_neededFund_62 : decode cX3_neededFund 62 = .ok (.goto (-56), 3) := by decide +kernel
theorem dX3_neededFund_65 : decode cX3_neededFund 65 = .ok (.iload_n 1, 1) := by decide +kernel
theorem dX3_neededFund_66 : decode cX3_neededFund 66 = .ok (.iload_n 2, 1) := by decide +kernel
theorem dX3_neededFund_67 : decode cX3_neededFund 67 = .ok (.iadd, 1) := by decide +kernel
theorem dX3_neededFund_68 : decode cX3_neededFund 68 = .ok (.ireturn, 1) := by decide +kernel
theorem dX3_moveClients_0 : decode cX3_moveClients 0 = .ok (.iconst 0, 1) := by decide +kernel
theorem dX3_moveClients_1 : decode cX3_moveClients 1 = .ok (.istore_n 2, 1) := by decide +kernel
theorem dX3_moveClients_2 : decode cX3_moveClients 2 = .ok (.iconst 0, 1) := by decide +kernel
theorem dX3_moveClients_3 : decode cX3_moveClients 3 = .ok (.istore_n 3, 1) := by decide +kernel
theorem dX3_moveClients_4 : decode cX3_moveClients 4 = .ok (.iload_n 3, 1) := by decide +kernel
theorem dX3_moveClients_5 : decode cX3_moveClients 5 = .ok (.aload_n 1, 1) := by decide +kernel
theorem dX3_moveClients_6 : decode cX3_moveClients 6 = .ok (.getfield 191, 3) := by decide +kernel
theorem dX3_moveClients_9 : decode cX3_moveClients 9 = .ok (.if_icmp .ge 31, 3) := by decide +kernel
theorem dX3_moveClients_12 : decode cX3_moveClients 12 = .ok (.aload_n 1, 1) := by decide +kernel
theorem dX3_moveClients_13 : decode cX3_moveClients 13 = .ok (.getfield 194, 3) := by decide +kernel
theorem dX3_moveClients_16 : decode cX3_moveClients 16 = .ok (.iload_n 3, 1) := by decide +kernel
theorem dX3_moveClients_17 : decode cX3_moveClients 17 = .ok (.iaload, 1) := by decide +kernel
theorem dX3_moveClients_18 : decode cX3_moveClients 18 = .ok (.istore 4, 2) := by decide +kernel
theorem dX3_moveClients_20 : decode cX3_moveClients 20 = .ok (.aload_n 0, 1) := by decide +kernel
theorem dX3_moveClients_21 : decode cX3_moveClients 21 = .ok (.iload 4, 2) := by decide +kernel
theorem dX3_moveClients_23 : decode cX3_moveClients 23 = .ok (.invokevirtual 198, 3) := by decide +kernel
theorem dX3_moveClients_26 : decode cX3_moveClients 26 = .ok (.ifCond .ne 8, 3) := by decide +kernel
theorem dX3_moveClients_29 : decode cX3_moveClients 29 = .ok (.iload_n 2, 1) := by decide +kernel
theorem dX3_moveClients_30 : decode cX3_moveClients 30 = .ok (.iload 4, 2) := by decide +kernel
theorem dX3_moveClients_32 : decode cX3_moveClients 32 = .ok (.iadd, 1) := by decide +kernel
theorem dX3_moveClients_33 : decode cX3_moveClients 33 = .ok (.istore_n 2, 1) := by decide +kernel
theorem dX3_moveClients_34 : decode cX3_moveClients 34 = .ok (.iinc 3 1, 3) := by decide +kernel
theorem dX3_moveClients_37 : decode cX3_moveClients 37 = .ok (.goto (-33), 3) := by decide +kernel
theorem dX3_moveClients_40 : decode cX3_moveClients 40 = .ok (.aload_n 1, 1) := by decide +kernel
theorem dX3_moveClients_41 : decode cX3_moveClients 41 = .ok (.invokevirtual 201, 3) := by decide +kernel
theorem dX3_moveClients_44 : decode cX3_moveClients 44 = .ok (.iload_n 2, 1) := by decide +kernel
theorem dX3_moveClients_45 : decode cX3_moveClients 45 = .ok (.ireturn, 1) := by decide +kernel
theorem dX3_findsHost_0 : decode cX3_findsHost 0 = .ok (.iconst 0, 1) := by decide +kernel
theorem dX3_findsHost_1 : decode cX3_findsHost 1 = .ok (.istore_n 2, 1) := by decide +kernel
theorem dX3_findsHost_2 : decode cX3_findsHost 2 = .ok (.iload_n 2, 1) := by decide +kernel
theorem dX3_findsHost_3 : decode cX3_findsHost 3 = .ok (.aload_n 0, 1) := by decide +kernel
theorem dX3_findsHost_4 : decode cX3_findsHost 4 = .ok (.getfield 29, 3) := by decide +kernel
theorem dX3_findsHost_7 : decode cX3_findsHost 7 = .ok (.if_icmp .ge 36, 3) := by decide +kernel
theorem dX3_findsHost_10 : decode cX3_findsHost 10 = .ok (.aload_n 0, 1) := by decide +kernel
theorem dX3_findsHost_11 : decode cX3_findsHost 11 = .ok (.getfield 11, 3) := by decide +kernel
theorem dX3_findsHost_14 : decode cX3_findsHost 14 = .ok (.iload_n 2, 1) := by decide +kernel
theorem dX3_findsHost_15 : decode cX3_findsHost 15 = .ok (.aaload, 1) := by decide +kernel
theorem dX3_findsHost_16 : decode cX3_findsHost 16 = .ok (.invokevirtual 96, 3) := by decide +kernel
theorem dX3_findsHost_19 : decode cX3_findsHost 19 = .ok (.ifCond .eq 18, 3) := by decide +kernel
theorem dX3_findsHost_22 : decode cX3_findsHost 22 = .ok (.aload_n 0, 1) := by decide +kernel
theorem dX3_findsHost_23 : decode cX3_findsHost 23 = .ok (.getfield 11, 3) := by decide +kernel
theorem dX3_findsHost_26 : decode cX3_findsHost 26 = .ok (.iload_n 2, 1) := by decide +kernel
theorem dX3_findsHost_27 : decode cX3_findsHost 27 = .ok (.aaload, 1) := by decide +kernel
theorem dX3_findsHost_28 : decode cX3_findsHost 28 = .ok (.iload_n 1, 1) := by decide +kernel
theorem dX3_findsHost_29 : decode cX3_findsHost 29 = .ok (.invokevirtual 69, 3) := by decide +kernel
theorem dX3_findsHost_32 : decode cX3_findsHost 32 = .ok (.ifCond .eq 5, 3) := by decide +kernel
theorem dX3_findsHost_35 : decode cX3_findsHost 35 = .ok (.iconst 1, 1) := by decide +kernel
theorem dX3_findsHost_36 : decode cX3_findsHost 36 = .ok (.ireturn, 1) := by decide +kernel
theorem dX3_findsHost_37 : decode cX3_findsHost 37 = .ok (.iinc 2 1, 3) := by decide +kernel
theorem dX3_findsHost_40 : decode cX3_findsHost 40 = .ok (.goto (-38), 3) := by decide +kernel
theorem dX3_findsHost_43 : decode cX3_findsHost 43 = .ok (.iconst 0, 1) := by decide +kernel
theorem dX3_findsHost_44 : decode cX3_findsHost 44 = .ok (.ireturn, 1) := by decide +kernel
theorem dX3_awardLots_0 : decode cX3_awardLots 0 = .ok (.iconst 0, 1) := by decide +kernel
theorem dX3_awardLots_1 : decode cX3_awardLots 1 = .ok (.istore_n 1, 1) := by decide +kernel
theorem dX3_awardLots_2 : decode cX3_awardLots 2 = .ok (.iconst 0, 1) := by decide +kernel
theorem dX3_awardLots_3 : decode cX3_awardLots 3 = .ok (.istore_n 2, 1) := by decide +kernel
theorem dX3_awardLots_4 : decode cX3_awardLots 4 = .ok (.iload_n 2, 1) := by decide +kernel
theorem dX3_awardLots_5 : decode cX3_awardLots 5 = .ok (.aload_n 0, 1) := by decide +kernel
theorem dX3_awardLots_6 : decode cX3_awardLots 6 = .ok (.getfield 18, 3) := by decide +kernel
theorem dX3_awardLots_9 : decode cX3_awardLots 9 = .ok (.getfield 204, 3) := by decide +kernel
theorem dX3_awardLots_12 : decode cX3_awardLots 12 = .ok (.if_icmp .ge 59, 3) := by decide +kernel
theorem dX3_awardLots_15 : decode cX3_awardLots 15 = .ok (.aload_n 0, 1) := by decide +kernel
theorem dX3_awardLots_16 : decode cX3_awardLots 16 = .ok (.getfield 18, 3) := by decide +kernel
theorem dX3_awardLots_19 : decode cX3_awardLots 19 = .ok (.iload_n 2, 1) := by decide +kernel
theorem dX3_awardLots_20 : decode cX3_awardLots 20 = .ok (.invokevirtual 207, 3) := by decide +kernel
theorem dX3_awardLots_23 : decode cX3_awardLots 23 = .ok (.istore_n 3, 1) := by decide +kernel
theorem dX3_awardLots_24 : decode cX3_awardLots 24 = .ok (.iload_n 3, 1) := by decide +kernel
theorem dX3_awardLots_25 : decode cX3_awardLots 25 = .ok (.iconst (-1), 1) := by decide +kernel
theorem dX3_awardLots_26 : decode cX3_awardLots 26 = .ok (.if_icmp .ne 12, 3) := by decide +kernel
theorem dX3_awardLots_29 : decode cX3_awardLots 29 = .ok (.iinc 1 1000, 6) := by decide +kernel
theorem dX3_awardLots_35 : decode cX3_awardLots 35 = .ok (.goto 30, 3) := by decide +kernel
theorem dX3_awardLots_38 : decode cX3_awardLots 38 = .ok (.iload_n 1, 1) := by decide +kernel
theorem dX3_awardLots_39 : decode cX3_awardLots 39 = .ok (.aload_n 0, 1) := by decide +kernel
theorem dX3_awardLots_40 : decode cX3_awardLots 40 = .ok (.getfield 18, 3) := by decide +kernel
theorem dX3_awardLots_43 : decode cX3_awardLots 43 = .ok (.iload_n 3, 1) := by decide +kernel
theorem dX3_awardLots_44 : decode cX3_awardLots 44 = .ok (.iload_n 2, 1) := by decide +kernel
theorem dX3_awardLots_45 : decode cX3_awardLots 45 = .ok (.invokevirtual 138, 3) := by decide +kernel
theorem dX3_awardLots_48 : decode cX3_awardLots 48 = .ok (.isub, 1) := by decide +kernel
theorem dX3_awardLots_49 : decode cX3_awardLots 49 = .ok (.istore_n 1, 1) := by decide +kernel
theorem dX3_awardLots_50 : decode cX3_awardLots 50 = .ok (.aload_n 0, 1) := by decide +kernel
theorem dX3_awardLots_51 : decode cX3_awardLots 51 = .ok (.getfield 11, 3) := by decide +kernel
theorem dX3_awardLots_54 : decode cX3_awardLots 54 = .ok (.iload_n 3, 1) := by decide +kernel
theorem dX3_awardLots_55 : decode cX3_awardLots 55 = .ok (.aaload, 1) := by decide +kernel
theorem dX3_awardLots_56 : decode cX3_awardLots 56 = .ok (.dup, 1) := by decide +kernel
theorem dX3_awardLots_57 : decode cX3_awardLots 57 = .ok (.getfield 174, 3) := by decide +kernel
theorem dX3_awardLots_60 : decode cX3_awardLots 60 = .ok (.iconst 1, 1) := by decide +kernel
theorem dX3_awardLots_61 : decode cX3_awardLots 61 = .ok (.iadd, 1) := by decide +kernel
theorem dX3_awardLots_62 : decode cX3_awardLots 62 = .ok (.putfield 174, 3) := by decide +kernel
theorem dX3_awardLots_65 : decode cX3_awardLots 65 = .ok (.iinc 2 1, 3) := by decide +kernel
theorem dX3_awardLots_68 : decode cX3_awardLots 68 = .ok (.goto (-64), 3) := by decide +kernel
theorem dX3_awardLots_71 : decode cX3_awardLots 71 = .ok (.iload_n 1, 1) := by decide +kernel
theorem dX3_awardLots_72 : decode cX3_awardLots 72 = .ok (.ireturn, 1) := by decide +kernel
theorem dX3_rankBidders_0 : decode cX3_rankBidders 0 = .ok (.iconst 0, 1) := by decide +kernel
theorem dX3_rankBidders_1 : decode cX3_rankBidders 1 = .ok (.istore_n 1, 1) := by decide +kernel
theorem dX3_rankBidders_2 : decode cX3_rankBidders 2 = .ok (.iload_n 1, 1) := by decide +kernel
theorem dX3_rankBidders_3 : decode cX3_rankBidders 3 = .ok (.aload_n 0, 1) := by decide +kernel
theorem dX3_rankBidders_4 : decode cX3_rankBidders 4 = .ok (.getfield 29, 3) := by decide +kernel
theorem dX3_rankBidders_7 : decode cX3_rankBidders 7 = .ok (.if_icmp .ge 38, 3) := by decide +kernel
theorem dX3_rankBidders_10 : decode cX3_rankBidders 10 = .ok (.aload_n 0, 1) := by decide +kernel
theorem dX3_rankBidders_11 : decode cX3_rankBidders 11 = .ok (.getfield 11, 3) := by decide +kernel
theorem dX3_rankBidders_14 : decode cX3_rankBidders 14 = .ok (.iload_n 1, 1) := by decide +kernel
theorem dX3_rankBidders_15 : decode cX3_rankBidders 15 = .ok (.aaload, 1) := by decide +kernel
theorem dX3_rankBidders_16 : decode cX3_rankBidders 16 = .ok (.invokevirtual 96, 3) := by decide +kernel
theorem dX3_rankBidders_19 : decode cX3_rankBidders 19 = .ok (.ifCond .eq 20, 3) := by decide +kernel
theorem dX3_rankBidders_22 : decode cX3_rankBidders 22 = .ok (.aload_n 0, 1) := by decide +kernel
theorem dX3_rankBidders_23 : decode cX3_rankBidders 23 = .ok (.getfield 11, 3) := by decide +kernel
theorem dX3_rankBidders_26 : decode cX3_rankBidders 26 = .ok (.iload_n 1, 1) := by decide +kernel
theorem dX3_rankBidders_27 : decode cX3_rankBidders 27 = .ok (.aaload, 1) := by decide +kernel
theorem dX3_rankBidders_28 : decode cX3_rankBidders 28 = .ok (.aload_n 0, 1) := by decide +kernel
theorem dX3_rankBidders_29 : decode cX3_rankBidders 29 = .ok (.getfield 18, 3) := by decide +kernel
theorem dX3_rankBidders_32 : decode cX3_rankBidders 32 = .ok (.iload_n 1, 1) := by decide +kernel
theorem dX3_rankBidders_33 : decode cX3_rankBidders 33 = .ok (.invokevirtual 210, 3) := by decide +kernel
theorem dX3_rankBidders_36 : decode cX3_rankBidders 36 = .ok (.putfield 164, 3) := by decide +kernel
theorem dX3_rankBidders_39 : decode cX3_rankBidders 39 = .ok (.iinc 1 1, 3) := by decide +kernel
theorem dX3_rankBidders_42 : decode cX3_rankBidders 42 = .ok (.goto (-40), 3) := by decide +kernel
theorem dX3_rankBidders_45 : decode cX3_rankBidders 45 = .ok (.return_, 1) := by decide +kernel
theorem dX3_endFailure_0 : decode cX3_endFailure 0 = .ok (.aload_n 1, 1) := by decide +kernel
theorem dX3_endFailure_1 : decode cX3_endFailure 1 = .ok (.invokevirtual 213, 3) := by decide +kernel
theorem dX3_endFailure_4 : decode cX3_endFailure 4 = .ok (.iconst 0, 1) := by decide +kernel
theorem dX3_endFailure_5 : decode cX3_endFailure 5 = .ok (.istore_n 2, 1) := by decide +kernel
theorem dX3_endFailure_6 : decode cX3_endFailure 6 = .ok (.iload_n 2, 1) := by decide +kernel
theorem dX3_endFailure_7 : decode cX3_endFailure 7 = .ok (.aload_n 0, 1) := by decide +kernel
theorem dX3_endFailure_8 : decode cX3_endFailure 8 = .ok (.getfield 29, 3) := by decide +kernel
theorem dX3_endFailure_11 : decode cX3_endFailure 11 = .ok (.if_icmp .ge 41, 3) := by decide +kernel
theorem dX3_endFailure_14 : decode cX3_endFailure 14 = .ok (.aload_n 0, 1) := by decide +kernel
theorem dX3_endFailure_15 : decode cX3_endFailure 15 = .ok (.getfield 11, 3) := by decide +kernel
theorem dX3_endFailure_18 : decode cX3_endFailure 18 = .ok (.iload_n 2, 1) := by decide +kernel
theorem dX3_endFailure_19 : decode cX3_endFailure 19 = .ok (.aaload, 1) := by decide +kernel
theorem dX3_endFailure_20 : decode cX3_endFailure 20 = .ok (.getfield 85, 3) := by decide +kernel
theorem dX3_endFailure_23 : decode cX3_endFailure 23 = .ok (.iconst 1, 1) := by decide +kernel
theorem dX3_endFailure_24 : decode cX3_endFailure 24 = .ok (.if_icmp .ne 22, 3) := by decide +kernel
theorem dX3_endFailure_27 : decode cX3_endFailure 27 = .ok (.aload_n 0, 1) := by decide +kernel
theorem dX3_endFailure_28 : decode cX3_endFailure 28 = .ok (.getfield 11, 3) := by decide +kernel
theorem dX3_endFailure_31 : decode cX3_endFailure 31 = .ok (.iload_n 2, 1) := by decide +kernel
theorem dX3_endFailure_32 : decode cX3_endFailure 32 = .ok (.aaload, 1) := by decide +kernel
theorem dX3_endFailure_33 : decode cX3_endFailure 33 = .ok (.iconst 3, 1) := by decide +kernel
theorem dX3_endFailure_34 : decode cX3_endFailure 34 = .ok (.putfield 85, 3) := by decide +kernel
theorem dX3_endFailure_37 : decode cX3_endFailure 37 = .ok (.aload_n 0, 1) := by decide +kernel
theorem dX3_endFailure_38 : decode cX3_endFailure 38 = .ok (.getfield 11, 3) := by decide +kernel
theorem dX3_endFailure_41 : decode cX3_endFailure 41 = .ok (.iload_n 2, 1) := by decide +kernel
theorem dX3_endFailure_42 : decode cX3_endFailure 42 = .ok (.aaload, 1) := by decide +kernel
theorem dX3_endFailure_43 : decode cX3_endFailure 43 = .ok (.invokevirtual 213, 3) := by decide +kernel
theorem dX3_endFailure_46 : decode cX3_endFailure 46 = .ok (.iinc 2 1, 3) := by decide +kernel
theorem dX3_endFailure_49 : decode cX3_endFailure 49 = .ok (.goto (-43), 3) := by decide +kernel
theorem dX3_endFailure_52 : decode cX3_endFailure 52 = .ok (.aload_n 0, 1) := by decide +kernel
theorem dX3_endFailure_53 : decode cX3_endFailure 53 = .ok (.iconst (-1), 1) := by decide +kernel
theorem dX3_endFailure_54 : decode cX3_endFailure 54 = .ok (.putfield 42, 3) := by decide +kernel
theorem dX3_endFailure_57 : decode cX3_endFailure 57 = .ok (.return_, 1) := by decide +kernel
theorem dX3_eatLoss_0 : decode cX3_eatLoss 0 = .ok (.aload_n 0, 1) := by decide +kernel
theorem dX3_eatLoss_1 : decode cX3_eatLoss 1 = .ok (.getfield 36, 3) := by decide +kernel
theorem dX3_eatLoss_4 : decode cX3_eatLoss 4 = .ok (.istore_n 2, 1) := by decide +kernel
theorem dX3_eatLoss_5 : decode cX3_eatLoss 5 = .ok (.iload_n 2, 1) := by decide +kernel
theorem dX3_eatLoss_6 : decode cX3_eatLoss 6 = .ok (.iload_n 2, 1) := by decide +kernel
theorem dX3_eatLoss_7 : decode cX3_eatLoss 7 = .ok (.aload_n 1, 1) := by decide +kernel
theorem dX3_eatLoss_8 : decode cX3_eatLoss 8 = .ok (.getfield 100, 3) := by decide +kernel
theorem dX3_eatLoss_11 : decode cX3_eatLoss 11 = .ok (.invokestatic 188, 3) := by decide +kernel
theorem dX3_eatLoss_14 : decode cX3_eatLoss 14 = .ok (.isub, 1) := by decide +kernel
theorem dX3_eatLoss_15 : decode cX3_eatLoss 15 = .ok (.istore_n 2, 1) := by decide +kernel
theorem dX3_eatLoss_16 : decode cX3_eatLoss 16 = .ok (.iload_n 2, 1) := by decide +kernel
theorem dX3_eatLoss_17 : decode cX3_eatLoss 17 = .ok (.iload_n 2, 1) := by decide +kernel
theorem dX3_eatLoss_18 : decode cX3_eatLoss 18 = .ok (.aload_n 1, 1) := by decide +kernel
theorem dX3_eatLoss_19 : decode cX3_eatLoss 19 = .ok (.getfield 116, 3) := by decide +kernel
theorem dX3_eatLoss_22 : decode cX3_eatLoss 22 = .ok (.invokestatic 188, 3) := by decide +kernel
theorem dX3_eatLoss_25 : decode cX3_eatLoss 25 = .ok (.isub, 1) := by decide +kernel
theorem dX3_eatLoss_26 : decode cX3_eatLoss 26 = .ok (.istore_n 2, 1) := by decide +kernel
theorem dX3_eatLoss_27 : decode cX3_eatLoss 27 = .ok (.iload_n 2, 1) := by decide +kernel
theorem dX3_eatLoss_28 : decode cX3_eatLoss 28 = .ok (.aload_n 0, 1) := by decide +kernel
theorem dX3_eatLoss_29 : decode cX3_eatLoss 29 = .ok (.getfield 33, 3) := by decide +kernel
theorem dX3_eatLoss_32 : decode cX3_eatLoss 32 = .ok (.invokestatic 188, 3) := by decide +kernel
theorem dX3_eatLoss_35 : decode cX3_eatLoss 35 = .ok (.istore_n 3, 1) := by decide +kernel
theorem dX3_eatLoss_36 : decode cX3_eatLoss 36 = .ok (.aload_n 0, 1) := by decide +kernel
theorem dX3_eatLoss_37 : decode cX3_eatLoss 37 = .ok (.dup, 1) := by decide +kernel
theorem dX3_eatLoss_38 : decode cX3_eatLoss 38 = .ok (.getfield 33, 3) := by decide +kernel
theorem dX3_eatLoss_41 : decode cX3_eatLoss 41 = .ok (.iload_n 3, 1) := by decide +kernel
theorem dX3_eatLoss_42 : decode cX3_eatLoss 42 = .ok (.isub, 1) := by decide +kernel
theorem dX3_eatLoss_43 : decode cX3_eatLoss 43 = .ok (.putfield 33, 3) := by decide +kernel
theorem dX3_eatLoss_46 : decode cX3_eatLoss 46 = .ok (.iload_n 2, 1) := by decide +kernel
theorem dX3_eatLoss_47 : decode cX3_eatLoss 47 = .ok (.iload_n 3, 1) := by decide +kernel
theorem dX3_eatLoss_48 : decode cX3_eatLoss 48 = .ok (.isub, 1) := by decide +kernel
theorem dX3_eatLoss_49 : decode cX3_eatLoss 49 = .ok (.istore_n 2, 1) := by decide +kernel
theorem dX3_eatLoss_50 : decode cX3_eatLoss 50 = .ok (.aload_n 0, 1) := by decide +kernel
theorem dX3_eatLoss_51 : decode cX3_eatLoss 51 = .ok (.iload_n 2, 1) := by decide +kernel
theorem dX3_eatLoss_52 : decode cX3_eatLoss 52 = .ok (.iconst 1, 1) := by decide +kernel
theorem dX3_eatLoss_53 : decode cX3_eatLoss 53 = .ok (.invokevirtual 216, 3) := by decide +kernel
theorem dX3_eatLoss_56 : decode cX3_eatLoss 56 = .ok (.istore_n 2, 1) := by decide +kernel
theorem dX3_eatLoss_57 : decode cX3_eatLoss 57 = .ok (.aload_n 0, 1) := by decide +kernel
theorem dX3_eatLoss_58 : decode cX3_eatLoss 58 = .ok (.iload_n 2, 1) := by decide +kernel
theorem dX3_eatLoss_59 : decode cX3_eatLoss 59 = .ok (.iconst 0, 1) := by decide +kernel
theorem dX3_eatLoss_60 : decode cX3_eatLoss 60 = .ok (.invokevirtual 216, 3) := by decide +kernel
theorem dX3_eatLoss_63 : decode cX3_eatLoss 63 = .ok (.istore_n 2, 1) := by decide +kernel
theorem dX3_eatLoss_64 : decode cX3_eatLoss 64 = .ok (.aload_n 0, 1) := by decide +kernel
theorem dX3_eatLoss_65 : decode cX3_eatLoss 65 = .ok (.iload_n 2, 1) := by decide +kernel
theorem dX3_eatLoss_66 : decode cX3_eatLoss 66 = .ok (.invokevirtual 220, 3) := by decide +kernel
theorem dX3_eatLoss_69 : decode cX3_eatLoss 69 = .ok (.istore_n 2, 1) := by decide +kernel
theorem dX3_eatLoss_70 : decode cX3_eatLoss 70 = .ok (.aload_n 0, 1) := by decide +kernel
theorem dX3_eatLoss_71 : decode cX3_eatLoss 71 = .ok (.iload_n 2, 1) := by decide +kernel
theorem dX3_eatLoss_72 : decode cX3_eatLoss 72 = .ok (.invokevirtual 223, 3) := by decide +kernel
theorem dX3_eatLoss_75 : decode cX3_eatLoss 75 = .ok (.ireturn, 1) := by decide +kernel
end
section
theorem dX3_eatShares_0 : decode cX3_eatShares 0 = .ok (.iconst 0, 1) := by decide +kernel
theorem dX3_eatShares_1 : decode cX3_eatShares 1 = .ok (.istore_n 3, 1) := by decide +kernel
theorem dX3_eatShares_2 : decode cX3_eatShares 2 = .ok (.iload_n 3, 1) := by decide +kernel
theorem dX3_eatShares_3 : decode cX3_eatShares 3 = .ok (.aload_n 0, 1) := by decide +kernel
theorem dX3_eatShares_4 : decode cX3_eatShares 4 = .ok (.getfield 29, 3) := by decide +kernel
theorem dX3_eatShares_7 : decode cX3_eatShares 7 = .ok (.if_icmp .ge 68, 3) := by decide +kernel
theorem dX3_eatShares_10 : decode cX3_eatShares 10 = .ok (.aload_n 0, 1) := by decide +kernel
theorem dX3_eatShares_11 : decode cX3_eatShares 11 = .ok (.getfield 11, 3) := by decide +kernel
theorem dX3_eatShares_14 : decode cX3_eatShares 14 = .ok (.iload_n 3, 1) := by decide +kernel
theorem dX3_eatShares_15 : decode cX3_eatShares 15 = .ok (.aaload, 1) := by decide +kernel
theorem dX3_eatShares_16 : decode cX3_eatShares 16 = .ok (.astore 4, 2) := by decide +kernel
theorem dX3_eatShares_18 : decode cX3_eatShares 18 = .ok (.aload 4, 2) := by decide +kernel
theorem dX3_eatShares_20 : decode cX3_eatShares 20 = .ok (.invokevirtual 96, 3) := by decide +kernel
theorem dX3_eatShares_23 : decode cX3_eatShares 23 = .ok (.ifCond .eq 16, 3) := by decide +kernel
theorem dX3_eatShares_26 : decode cX3_eatShares 26 = .ok (.aload 4, 2) := by decide +kernel
theorem dX3_eatShares_28 : decode cX3_eatShares 28 = .ok (.getfield 164, 3) := by decide +kernel
theorem dX3_eatShares_31 : decode cX3_eatShares 31 = .ok (.iload_n 2, 1) := by decide +kernel
theorem dX3_eatShares_32 : decode cX3_eatShares 32 = .ok (.if_icmp .ne 7, 3) := by decide +kernel
theorem dX3_eatShares_35 : decode cX3_eatShares 35 = .ok (.iconst 1, 1) := by decide +kernel
theorem dX3_eatShares_36 : decode cX3_eatShares 36 = .ok (.goto 4, 3) := by decide +kernel
theorem dX3_eatShares_39 : decode cX3_eatShares 39 = .ok (.iconst 0, 1) := by decide +kernel
theorem dX3_eatShares_40 : decode cX3_eatShares 40 = .ok (.istore 5, 2) := by decide +kernel
theorem dX3_eatShares_42 : decode cX3_eatShares 42 = .ok (.aload_n 0, 1) := by decide +kernel
theorem dX3_eatShares_43 : decode cX3_eatShares 43 = .ok (.getfield 25, 3) := by decide +kernel
theorem dX3_eatShares_46 : decode cX3_eatShares 46 = .ok (.iload_n 3, 1) := by decide +kernel
theorem dX3_eatShares_47 : decode cX3_eatShares 47 = .ok (.iload 5, 2) := by decide +kernel
theorem dX3_eatShares_49 : decode cX3_eatShares 49 = .ok (.ifCond .eq 11, 3) := by decide +kernel
theorem dX3_eatShares_52 : decode cX3_eatShares 52 = .ok (.aload 4, 2) := by decide +kernel
theorem dX3_eatShares_54 : decode cX3_eatShares 54 = .ok (.getfield 116, 3) := by decide +kernel
theorem dX3_eatShares_57 : decode cX3_eatShares 57 = .ok (.goto 4, 3) := by decide +kernel
theorem dX3_eatShares_60 : decode cX3_eatShares 60 = .ok (.iconst 0, 1) := by decide +kernel
theorem dX3_eatShares_61 : decode cX3_eatShares 61 = .ok (.aload 4, 2) := by decide +kernel
theorem dX3_eatShares_63 : decode cX3_eatShares 63 = .ok (.getfield 116, 3) := by decide +kernel
theorem dX3_eatShares_66 : decode cX3_eatShares 66 = .ok (.invokevirtual 103, 3) := by decide +kernel
theorem dX3_eatShares_69 : decode cX3_eatShares 69 = .ok (.iinc 3 1, 3) := by decide +kernel
theorem dX3_eatShares_72 : decode cX3_eatShares 72 = .ok (.goto (-70), 3) := by decide +kernel
theorem dX3_eatShares_75 : decode cX3_eatShares 75 = .ok (.aload_n 0, 1) := by decide +kernel
theorem dX3_eatShares_76 : decode cX3_eatShares 76 = .ok (.getfield 25, 3) := by decide +kernel
theorem dX3_eatShares_79 : decode cX3_eatShares 79 = .ok (.iload_n 1, 1) := by decide +kernel
theorem dX3_eatShares_80 : decode cX3_eatShares 80 = .ok (.invokevirtual 106, 3) := by decide +kernel
theorem dX3_eatShares_83 : decode cX3_eatShares 83 = .ok (.istore_n 3, 1) := by decide +kernel
theorem dX3_eatShares_84 : decode cX3_eatShares 84 = .ok (.iconst 0, 1) := by decide +kernel
theorem dX3_eatShares_85 : decode cX3_eatShares 85 = .ok (.istore 4, 2) := by decide +kernel
theorem dX3_eatShares_87 : decode cX3_eatShares 87 = .ok (.iload 4, 2) := by decide +kernel
theorem dX3_eatShares_89 : decode cX3_eatShares 89 = .ok (.aload_n 0, 1) := by decide +kernel
theorem dX3_eatShares_90 : decode cX3_eatShares 90 = .ok (.getfield 29, 3) := by decide +kernel
theorem dX3_eatShares_93 : decode cX3_eatShares 93 = .ok (.if_icmp .ge 33, 3) := by decide +kernel
theorem dX3_eatShares_96 : decode cX3_eatShares 96 = .ok (.aload_n 0, 1) := by decide +kernel
theorem dX3_eatShares_97 : decode cX3_eatShares 97 = .ok (.getfield 11, 3) := by decide +kernel
theorem dX3_eatShares_100 : decode cX3_eatShares 100 = .ok (.iload 4, 2) := by decide +kernel
theorem dX3_eatShares_102 : decode cX3_eatShares 102 = .ok (.aaload, 1) := by decide +kernel
theorem dX3_eatShares_103 : decode cX3_eatShares 103 = .ok (.dup, 1) := by decide +kernel
theorem dX3_eatShares_104 : decode cX3_eatShares 104 = .ok (.getfield 116, 3) := by decide +kernel
theorem dX3_eatShares_107 : decode cX3_eatShares 107 = .ok (.aload_n 0, 1) := by decide +kernel
theorem dX3_eatShares_108 : decode cX3_eatShares 108 = .ok (.getfield 25, 3) := by decide +kernel
theorem dX3_eatShares_111 : decode cX3_eatShares 111 = .ok (.iload 4, 2) := by decide +kernel
theorem dX3_eatShares_113 : decode cX3_eatShares 113 = .ok (.invokevirtual 110, 3) := by decide +kernel
theorem dX3_eatShares_116 : decode cX3_eatShares 116 = .ok (.isub, 1) := by decide +kernel
theorem dX3_eatShares_117 : decode cX3_eatShares 117 = .ok (.putfield 116, 3) := by decide +kernel
theorem dX3_eatShares_120 : decode cX3_eatShares 120 = .ok (.iinc 4 1, 3) := by decide +kernel
theorem dX3_eatShares_123 : decode cX3_eatShares 123 = .ok (.goto (-36), 3) := by decide +kernel
theorem dX3_eatShares_126 : decode cX3_eatShares 126 = .ok (.iload_n 3, 1) := by decide +kernel
theorem dX3_eatShares_127 : decode cX3_eatShares 127 = .ok (.ireturn, 1) := by decide +kernel
theorem dX3_eatAssessments_0 : decode cX3_eatAssessments 0 = .ok (.iconst 0, 1) := by decide +kernel
theorem dX3_eatAssessments_1 : decode cX3_eatAssessments 1 = .ok (.istore_n 2, 1) := by decide +kernel
theorem dX3_eatAssessments_2 : decode cX3_eatAssessments 2 = .ok (.iload_n 2, 1) := by decide +kernel
theorem dX3_eatAssessments_3 : decode cX3_eatAssessments 3 = .ok (.aload_n 0, 1) := by decide +kernel
theorem dX3_eatAssessments_4 : decode cX3_eatAssessments 4 = .ok (.getfield 29, 3) := by decide +kernel
theorem dX3_eatAssessments_7 : decode cX3_eatAssessments 7 = .ok (.if_icmp .ge 60, 3) := by decide +kernel
theorem dX3_eatAssessments_10 : decode cX3_eatAssessments 10 = .ok (.aload_n 0, 1) := by decide +kernel
theorem dX3_eatAssessments_11 : decode cX3_eatAssessments 11 = .ok (.getfield 11, 3) := by decide +kernel
theorem dX3_eatAssessments_14 : decode cX3_eatAssessments 14 = .ok (.iload_n 2, 1) := by decide +kernel
theorem dX3_eatAssessments_15 : decode cX3_eatAssessments 15 = .ok (.aaload, 1) := by decide +kernel
theorem dX3_eatAssessments_16 : decode cX3_eatAssessments 16 = .ok (.astore_n 3, 1) := by decide +kernel
theorem dX3_eatAssessments_17 : decode cX3_eatAssessments 17 = .ok (.aload_n 3, 1) := by decide +kernel
theorem dX3_eatAssessments_18 : decode cX3_eatAssessments 18 = .ok (.invokevirtual 96, 3) := by decide +kernel
theorem dX3_eatAssessments_21 : decode cX3_eatAssessments 21 = .ok (.ifCond .eq 10, 3) := by decide +kernel
theorem dX3_eatAssessments_24 : decode cX3_eatAssessments 24 = .ok (.aload_n 3, 1) := by decide +kernel
theorem dX3_eatAssessments_25 : decode cX3_eatAssessments 25 = .ok (.getfield 119, 3) := by decide +kernel
theorem dX3_eatAssessments_28 : decode cX3_eatAssessments 28 = .ok (.goto 4, 3) := by decide +kernel
theorem dX3_eatAssessments_31 : decode cX3_eatAssessments 31 = .ok (.iconst 0, 1) := by decide +kernel
theorem dX3_eatAssessments_32 : decode cX3_eatAssessments 32 = .ok (.istore 4, 2) := by decide +kernel
theorem dX3_eatAssessments_34 : decode cX3_eatAssessments 34 = .ok (.aload_n 0, 1) := by decide +kernel
theorem dX3_eatAssessments_35 : decode cX3_eatAssessments 35 = .ok (.getfield 25, 3) := by decide +kernel
theorem dX3_eatAssessments_38 : decode cX3_eatAssessments 38 = .ok (.iload_n 2, 1) := by decide +kernel
theorem dX3_eatAssessments_39 : decode cX3_eatAssessments 39 = .ok (.iload 4, 2) := by decide +kernel
theorem dX3_eatAssessments_41 : decode cX3_eatAssessments 41 = .ok (.aload_n 3, 1) := by decide +kernel
theorem dX3_eatAssessments_42 : decode cX3_eatAssessments 42 = .ok (.getfield 85, 3) := by decide +kernel
theorem dX3_eatAssessments_45 : decode cX3_eatAssessments 45 = .ok (.iconst 1, 1) := by decide +kernel
theorem dX3_eatAssessments_46 : decode cX3_eatAssessments 46 = .ok (.if_icmp .ne 10, 3) := by decide +kernel
theorem dX3_eatAssessments_49 : decode cX3_eatAssessments 49 = .ok (.iload 4, 2) := by decide +kernel
theorem dX3_eatAssessments_51 : decode cX3_eatAssessments 51 = .ok (.iconst 2, 1) := by decide +kernel
theorem dX3_eatAssessments_52 : decode cX3_eatAssessments 52 = .ok (.idiv, 1) := by decide +kernel
theorem dX3_eatAssessments_53 : decode cX3_eatAssessments 53 = .ok (.goto 5, 3) := by decide +kernel
theorem dX3_eatAssessments_56 : decode cX3_eatAssessments 56 = .ok (.iload 4, 2) := by decide +kernel
theorem dX3_eatAssessments_58 : decode cX3_eatAssessments 58 = .ok (.invokevirtual 103, 3) := by decide +kernel
theorem dX3_eatAssessments_61 : decode cX3_eatAssessments 61 = .ok (.iinc 2 1, 3) := by decide +kernel
theorem dX3_eatAssessments_64 : decode cX3_eatAssessments 64 = .ok (.goto (-62), 3) := by decide +kernel
theorem dX3_eatAssessments_67 : decode cX3_eatAssessments 67 = .ok (.aload_n 0, 1) := by decide +kernel
theorem dX3_eatAssessments_68 : decode cX3_eatAssessments 68 = .ok (.getfield 25, 3) := by decide +kernel
theorem dX3_eatAssessments_71 : decode cX3_eatAssessments 71 = .ok (.iload_n 1, 1) := by decide +kernel
theorem dX3_eatAssessments_72 : decode cX3_eatAssessments 72 = .ok (.invokevirtual 106, 3) := by decide +kernel
theorem dX3_eatAssessments_75 : decode cX3_eatAssessments 75 = .ok (.istore_n 2, 1) := by decide +kernel
theorem dX3_eatAssessments_76 : decode cX3_eatAssessments 76 = .ok (.iconst 0, 1) := by decide +kernel
theorem dX3_eatAssessments_77 : decode cX3_eatAssessments 77 = .ok (.istore_n 3, 1) := by decide +kernel
theorem dX3_eatAssessments_78 : decode cX3_eatAssessments 78 = .ok (.iload_n 3, 1) := by decide +kernel
theorem dX3_eatAssessments_79 : decode cX3_eatAssessments 79 = .ok (.aload_n 0, 1) := by decide +kernel
theorem dX3_eatAssessments_80 : decode cX3_eatAssessments 80 = .ok (.getfield 29, 3) := by decide +kernel
theorem dX3_eatAssessments_83 : decode cX3_eatAssessments 83 = .ok (.if_icmp .ge 31, 3) := by decide +kernel
theorem dX3_eatAssessments_86 : decode cX3_eatAssessments 86 = .ok (.aload_n 0, 1) := by decide +kernel
theorem dX3_eatAssessments_87 : decode cX3_eatAssessments 87 = .ok (.getfield 11, 3) := by decide +kernel
theorem dX3_eatAssessments_90 : decode cX3_eatAssessments 90 = .ok (.iload_n 3, 1) := by decide +kernel
theorem dX3_eatAssessments_91 : decode cX3_eatAssessments 91 = .ok (.aaload, 1) := by decide +kernel
theorem dX3_eatAssessments_92 : decode cX3_eatAssessments 92 = .ok (.dup, 1) := by decide +kernel
theorem dX3_eatAssessments_93 : decode cX3_eatAssessments 93 = .ok (.getfield 168, 3) := by decide +kernel
theorem dX3_eatAssessments_96 : decode cX3_eatAssessments 96 = .ok (.aload_n 0, 1) := by decide +kernel
theorem dX3_eatAssessments_97 : decode cX3_eatAssessments 97 = .ok (.getfield 25, 3) := by decide +kernel
theorem dX3_eatAssessments_100 : decode cX3_eatAssessments 100 = .ok (.iload_n 3, 1) := by decide +kernel
theorem dX3_eatAssessments_101 : decode cX3_eatAssessments 101 = .ok (.invokevirtual 110, 3) := by decide +kernel
theorem dX3_eatAssessments_104 : decode cX3_eatAssessments 104 = .ok (.iadd, 1) := by decide +kernel
theorem dX3_eatAssessments_105 : decode cX3_eatAssessments 105 = .ok (.putfield 168, 3) := by decide +kernel
theorem dX3_eatAssessments_108 : decode cX3_eatAssessments 108 = .ok (.iinc 3 1, 3) := by decide +kernel
theorem dX3_eatAssessments_111 : decode cX3_eatAssessments 111 = .ok (.goto (-33), 3) := by decide +kernel
theorem dX3_eatAssessments_114 : decode cX3_eatAssessments 114 = .ok (.iload_n 2, 1) := by decide +kernel
theorem dX3_eatAssessments_115 : decode cX3_eatAssessments 115 = .ok (.ireturn, 1) := by decide +kernel
theorem dX3_eatGains_0 : decode cX3_eatGains 0 = .ok (.iconst 0, 1) := by decide +kernel
theorem dX3_eatGains_1 : decode cX3_eatGains 1 = .ok (.istore_n 2, 1) := by decide +kernel
theorem dX3_eatGains_2 : decode cX3_eatGains 2 = .ok (.iload_n 2, 1) := by decide +kernel
theorem dX3_eatGains_3 : decode cX3_eatGains 3 = .ok (.aload_n 0, 1) := by decide +kernel
theorem dX3_eatGains_4 : decode cX3_eatGains 4 = .ok (.getfield 29, 3) := by decide +kernel
theorem dX3_eatGains_7 : decode cX3_eatGains 7 = .ok (.if_icmp .ge 43, 3) := by decide +kernel
theorem dX3_eatGains_10 : decode cX3_eatGains 10 = .ok (.aload_n 0, 1) := by decide +kernel
theorem dX3_eatGains_11 : decode cX3_eatGains 11 = .ok (.getfield 11, 3) := by decide +kernel
theorem dX3_eatGains_14 : decode cX3_eatGains 14 = .ok (.iload_n 2, 1) := by decide +kernel
theorem dX3_eatGains_15 : decode cX3_eatGains 15 = .ok (.aaload, 1) := by decide +kernel
theorem dX3_eatGains_16 : decode cX3_eatGains 16 = .ok (.astore_n 3, 1) := by decide +kernel
theorem dX3_eatGains_17 : decode cX3_eatGains 17 = .ok (.aload_n 0, 1) := by decide +kernel
theorem dX3_eatGains_18 : decode cX3_eatGains 18 = .ok (.getfield 25, 3) := by decide +kernel
theorem dX3_eatGains_21 : decode cX3_eatGains 21 = .ok (.iload_n 2, 1) := by decide +kernel
theorem dX3_eatGains_22 : decode cX3_eatGains 22 = .ok (.aload_n 3, 1) := by decide +kernel
theorem dX3_eatGains_23 : decode cX3_eatGains 23 = .ok (.invokevirtual 96, 3) := by decide +kernel
theorem dX3_eatGains_26 : decode cX3_eatGains 26 = .ok (.ifCond .eq 10, 3) := by decide +kernel
theorem dX3_eatGains_29 : decode cX3_eatGains 29 = .ok (.aload_n 3, 1) := by decide +kernel
theorem dX3_eatGains_30 : decode cX3_eatGains 30 = .ok (.getfield 79, 3) := by decide +kernel
theorem dX3_eatGains_33 : decode cX3_eatGains 33 = .ok (.goto 4, 3) := by decide +kernel
theorem dX3_eatGains_36 : decode cX3_eatGains 36 = .ok (.iconst 0, 1) := by decide +kernel
theorem dX3_eatGains_37 : decode cX3_eatGains 37 = .ok (.aload_n 3, 1) := by decide +kernel
theorem dX3_eatGains_38 : decode cX3_eatGains 38 = .ok (.getfield 79, 3) := by decide +kernel
theorem dX3_eatGains_41 : decode cX3_eatGains 41 = .ok (.invokevirtual 103, 3) := by decide +kernel
theorem dX3_eatGains_44 : decode cX3_eatGains 44 = .ok (.iinc 2 1, 3) := by decide +kernel
theorem dX3_eatGains_47 : decode cX3_eatGains 47 = .ok (.goto (-45), 3) := by decide +kernel
theorem dX3_eatGains_50 : decode cX3_eatGains 50 = .ok (.aload_n 0, 1) := by decide +kernel
theorem dX3_eatGains_51 : decode cX3_eatGains 51 = .ok (.getfield 25, 3) := by decide +kernel
theorem dX3_eatGains_54 : decode cX3_eatGains 54 = .ok (.iload_n 1, 1) := by decide +kernel
theorem dX3_eatGains_55 : decode cX3_eatGains 55 = .ok (.invokevirtual 106, 3) := by decide +kernel
theorem dX3_eatGains_58 : decode cX3_eatGains 58 = .ok (.istore_n 2, 1) := by decide +kernel
theorem dX3_eatGains_59 : decode cX3_eatGains 59 = .ok (.iconst 0, 1) := by decide +kernel
theorem dX3_eatGains_60 : decode cX3_eatGains 60 = .ok (.istore_n 3, 1) := by decide +kernel
theorem dX3_eatGains_61 : decode cX3_eatGains 61 = .ok (.iload_n 3, 1) := by decide +kernel
theorem dX3_eatGains_62 : decode cX3_eatGains 62 = .ok (.aload_n 0, 1) := by decide +kernel
theorem dX3_eatGains_63 : decode cX3_eatGains 63 = .ok (.getfield 29, 3) := by decide +kernel
theorem dX3_eatGains_66 : decode cX3_eatGains 66 = .ok (.if_icmp .ge 31, 3) := by decide +kernel
theorem dX3_eatGains_69 : decode cX3_eatGains 69 = .ok (.aload_n 0, 1) := by decide +kernel
theorem dX3_eatGains_70 : decode cX3_eatGains 70 = .ok (.getfield 11, 3) := by decide +kernel
theorem dX3_eatGains_73 : decode cX3_eatGains 73 = .ok (.iload_n 3, 1) := by decide +kernel
theorem dX3_eatGains_74 : decode cX3_eatGains 74 = .ok (.aaload, 1) := by decide +kernel
theorem dX3_eatGains_75 : decode cX3_eatGains 75 = .ok (.dup, 1) := by decide +kernel
theorem dX3_eatGains_76 : decode cX3_eatGains 76 = .ok (.getfield 79, 3) := by decide +kernel
theorem dX3_eatGains_79 : decode cX3_eatGains 79 = .ok (.aload_n 0, 1) := by decide +kernel
theorem dX3_eatGains_80 : decode cX3_eatGains 80 = .ok (.getfield 25, 3) := by decide +kernel
theorem dX3_eatGains_83 : decode cX3_eatGains 83 = .ok (.iload_n 3, 1) := by decide +kernel
theorem dX3_eatGains_84 : decode cX3_eatGains 84 = .ok (.invokevirtual 110, 3) := by decide +kernel
theorem dX3_eatGains_87 : decode cX3_eatGains 87 = .ok (.isub, 1) := by decide +kernel
theorem dX3_eatGains_88 : decode cX3_eatGains 88 = .ok (.putfield 79, 3) := by decide +kernel
theorem dX3_eatGains_91 : decode cX3_eatGains 91 = .ok (.iinc 3 1, 3) := by decide +kernel
theorem dX3_eatGains_94 : decode cX3_eatGains 94 = .ok (.goto (-33), 3) := by decide +kernel
theorem dX3_eatGains_97 : decode cX3_eatGains 97 = .ok (.iload_n 2, 1) := by decide +kernel
theorem dX3_eatGains_98 : decode cX3_eatGains 98 = .ok (.ireturn, 1) := by decide +kernel
end
section
theorem dL_cell_0 : decode cL_cell 0 = .ok (.iload_n 1, 1) := by decide +kernel
theorem dL_cell_1 : decode cL_cell 1 = .ok (.aload_n 0, 1) := by decide +kernel
theorem dL_cell_2 : decode cL_cell 2 = .ok (.arraylength, 1) := by decide +kernel
theorem dL_cell_3 : decode cL_cell 3 = .ok (.if_icmp .ge 9, 3) := by decide +kernel
theorem dL_cell_6 : decode cL_cell 6 = .ok (.aload_n 0, 1) := by decide +kernel
theorem dL_cell_7 : decode cL_cell 7 = .ok (.iload_n 1, 1) := by decide +kernel
theorem dL_cell_8 : decode cL_cell 8 = .ok (.iaload, 1) := by decide +kernel
theorem dL_cell_9 : decode cL_cell 9 = .ok (.goto 9, 3) := by decide +kernel
theorem dL_cell_12 : decode cL_cell 12 = .ok (.ldc 7, 2) := by decide +kernel
theorem dL_cell_14 : decode cL_cell 14 = .ok (.iload_n 1, 1) := by decide +kernel
theorem dL_cell_15 : decode cL_cell 15 = .ok (.iconst 1, 1) := by decide +kernel
theorem dL_cell_16 : decode cL_cell 16 = .ok (.iadd, 1) := by decide +kernel
theorem dL_cell_17 : decode cL_cell 17 = .ok (.imul, 1) := by decide +kernel
theorem dL_cell_18 : decode cL_cell 18 = .ok (.ireturn, 1) := by decide +kernel
theorem dL_at_0 : decode cL_at 0 = .ok (.iload_n 0, 1) := by decide +kernel
theorem dL_at_1 : decode cL_at 1 = .ok (.iconst 1, 1) := by decide +kernel
theorem dL_at_2 : decode cL_at 2 = .ok (.iushr, 1) := by decide +kernel
theorem dL_at_3 : decode cL_at 3 = .ok (.iload_n 1, 1) := by decide +kernel
theorem dL_at_4 : decode cL_at 4 = .ok (.irem, 1) := by decide +kernel
theorem dL_at_5 : decode cL_at 5 = .ok (.ireturn, 1) := by decide +kernel
theorem dL_funds_0 : decode cL_funds 0 = .ok (.aload_n 0, 1) := by decide +kernel
theorem dL_funds_1 : decode cL_funds 1 = .ok (.invokevirtual 8, 3) := by decide +kernel
theorem dL_funds_4 : decode cL_funds 4 = .ok (.i2l, 1) := by decide +kernel
theorem dL_funds_5 : decode cL_funds 5 = .ok (.lstore_n 1, 1) := by decide +kernel
theorem dL_funds_6 : decode cL_funds 6 = .ok (.iconst 0, 1) := by decide +kernel
theorem dL_funds_7 : decode cL_funds 7 = .ok (.istore_n 3, 1) := by decide +kernel
theorem dL_funds_8 : decode cL_funds 8 = .ok (.iload_n 3, 1) := by decide +kernel
theorem dL_funds_9 : decode cL_funds 9 = .ok (.aload_n 0, 1) := by decide +kernel
theorem dL_funds_10 : decode cL_funds 10 = .ok (.invokevirtual 14, 3) := by decide +kernel
theorem dL_funds_13 : decode cL_funds 13 = .ok (.if_icmp .ge 32, 3) := by decide +kernel
theorem dL_funds_16 : decode cL_funds 16 = .ok (.lload_n 1, 1) := by decide +kernel
theorem dL_funds_17 : decode cL_funds 17 = .ok (.aload_n 0, 1) := by decide +kernel
theorem dL_funds_18 : decode cL_funds 18 = .ok (.iload_n 3, 1) := by decide +kernel
theorem dL_funds_19 : decode cL_funds 19 = .ok (.invokevirtual 17, 3) := by decide +kernel
theorem dL_funds_22 : decode cL_funds 22 = .ok (.i2l, 1) := by decide +kernel
theorem dL_funds_23 : decode cL_funds 23 = .ok (.aload_n 0, 1) := by decide +kernel
theorem dL_funds_24 : decode cL_funds 24 = .ok (.iload_n 3, 1) := by decide +kernel
theorem dL_funds_25 : decode cL_funds 25 = .ok (.invokevirtual 21, 3) := by decide +kernel
theorem dL_funds_28 : decode cL_funds 28 = .ok (.i2l, 1) := by decide +kernel
theorem dL_funds_29 : decode cL_funds 29 = .ok (.ladd, 1) := by decide +kernel
theorem dL_funds_30 : decode cL_funds 30 = .ok (.aload_n 0, 1) := by decide +kernel
theorem dL_funds_31 : decode cL_funds 31 = .ok (.iload_n 3, 1) := by decide +kernel
theorem dL_funds_32 : decode cL_funds 32 = .ok (.invokevirtual 24, 3) := by decide +kernel
theorem dL_funds_35 : decode cL_funds 35 = .ok (.i2l, 1) := by decide +kernel
theorem dL_funds_36 : decode cL_funds 36 = .ok (.lsub, 1) := by decide +kernel
theorem dL_funds_37 : decode cL_funds 37 = .ok (.ladd, 1) := by decide +kernel
theorem dL_funds_38 : decode cL_funds 38 = .ok (.lstore_n 1, 1) := by decide +kernel
theorem dL_funds_39 : decode cL_funds 39 = .ok (.iinc 3 1, 3) := by decide +kernel
theorem dL_funds_42 : decode cL_funds 42 = .ok (.goto (-34), 3) := by decide +kernel
theorem dL_funds_45 : decode cL_funds 45 = .ok (.lload_n 1, 1) := by decide +kernel
theorem dL_funds_46 : decode cL_funds 46 = .ok (.lreturn, 1) := by decide +kernel
theorem dL_ends_0 : decode cL_ends 0 = .ok (.aload_n 0, 1) := by decide +kernel
theorem dL_ends_1 : decode cL_ends 1 = .ok (.invokevirtual 27, 3) := by decide +kernel
theorem dL_ends_4 : decode cL_ends 4 = .ok (.istore_n 3, 1) := by decide +kernel
theorem dL_ends_5 : decode cL_ends 5 = .ok (.aload_n 0, 1) := by decide +kernel
theorem dL_ends_6 : decode cL_ends 6 = .ok (.invokevirtual 30, 3) := by decide +kernel
theorem dL_ends_9 : decode cL_ends 9 = .ok (.istore 4, 2) := by decide +kernel
theorem dL_ends_11 : decode cL_ends 11 = .ok (.aload_n 0, 1) := by decide +kernel
theorem dL_ends_12 : decode cL_ends 12 = .ok (.invokevirtual 8, 3) := by decide +kernel
theorem dL_ends_15 : decode cL_ends 15 = .ok (.istore 5, 2) := by decide +kernel
theorem dL_ends_17 : decode cL_ends 17 = .ok (.iconst 0, 1) := by decide +kernel
theorem dL_ends_18 : decode cL_ends 18 = .ok (.istore 6, 2) := by decide +kernel
theorem dL_ends_20 : decode cL_ends 20 = .ok (.iload 6, 2) := by decide +kernel
theorem dL_ends_22 : decode cL_ends 22 = .ok (.aload_n 0, 1) := by decide +kernel
theorem dL_ends_23 : decode cL_ends 23 = .ok (.invokevirtual 14, 3) := by decide +kernel
theorem dL_ends_26 : decode cL_ends 26 = .ok (.if_icmp .ge 71, 3) := by decide +kernel
theorem dL_ends_29 : decode cL_ends 29 = .ok (.aload_n 2, 1) := by decide +kernel
theorem dL_ends_30 : decode cL_ends 30 = .ok (.iload 6, 2) := by decide +kernel
theorem dL_ends_32 : decode cL_ends 32 = .ok (.aload_n 0, 1) := by decide +kernel
theorem dL_ends_33 : decode cL_ends 33 = .ok (.iload 6, 2) := by decide +kernel
theorem dL_ends_35 : decode cL_ends 35 = .ok (.invokevirtual 17, 3) := by decide +kernel
theorem dL_ends_38 : decode cL_ends 38 = .ok (.iastore, 1) := by decide +kernel
theorem dL_ends_39 : decode cL_ends 39 = .ok (.aload_n 2, 1) := by decide +kernel
theorem dL_ends_40 : decode cL_ends 40 = .ok (.bipush 10, 2) := by decide +kernel
theorem dL_ends_42 : decode cL_ends 42 = .ok (.iload 6, 2) := by decide +kernel
theorem dL_ends_44 : decode cL_ends 44 = .ok (.iadd, 1) := by decide +kernel
theorem dL_ends_45 : decode cL_ends 45 = .ok (.aload_n 0, 1) := by decide +kernel
theorem dL_ends_46 : decode cL_ends 46 = .ok (.iload 6, 2) := by decide +kernel
theorem dL_ends_48 : decode cL_ends 48 = .ok (.invokevirtual 21, 3) := by decide +kernel
theorem dL_ends_51 : decode cL_ends 51 = .ok (.iastore, 1) := by decide +kernel
theorem dL_ends_52 : decode cL_ends 52 = .ok (.aload_n 2, 1) := by decide +kernel
theorem dL_ends_53 : decode cL_ends 53 = .ok (.bipush 20, 2) := by decide +kernel
theorem dL_ends_55 : decode cL_ends 55 = .ok (.iload 6, 2) := by decide +kernel
theorem dL_ends_57 : decode cL_ends 57 = .ok (.iadd, 1) := by decide +kernel
theorem dL_ends_58 : decode cL_ends 58 = .ok (.aload_n 0, 1) := by decide +kernel
theorem dL_ends_59 : decode cL_ends 59 = .ok (.iload 6, 2) := by decide +kernel
theorem dL_ends_61 : decode cL_ends 61 = .ok (.invokevirtual 24, 3) := by decide +kernel
theorem dL_ends_64 : decode cL_ends 64 = .ok (.iastore, 1) := by decide +kernel
theorem dL_ends_65 : decode cL_ends 65 = .ok (.aload_n 2, 1) := by decide +kernel
theorem dL_ends_66 : decode cL_ends 66 = .ok (.bipush 30, 2) := by decide +kernel
theorem dL_ends_68 : decode cL_ends 68 = .ok (.iload 6, 2) := by decide +kernel
theorem dL_ends_70 : decode cL_ends 70 = .ok (.iadd, 1) := by decide +kernel
theorem dL_ends_71 : decode cL_ends 71 = .ok (.aload_n 0, 1) := by decide +kernel
theorem dL_ends_72 : decode cL_ends 72 = .ok (.iload 6, 2) := by decide +kernel
theorem dL_ends_74 : decode cL_ends 74 = .ok (.invokevirtual 33, 3) := by decide +kernel
theorem dL_ends_77 : decode cL_ends 77 = .ok (.iastore, 1) := by decide +kernel
theorem dL_ends_78 : decode cL_ends 78 = .ok (.aload_n 2, 1) := by decide +kernel
theorem dL_ends_79 : decode cL_ends 79 = .ok (.bipush 40, 2) := by decide +kernel
theorem dL_ends_81 : decode cL_ends 81 = .ok (.iload 6, 2) := by decide +kernel
theorem dL_ends_83 : decode cL_ends 83 = .ok (.iadd, 1) := by decide +kernel
theorem dL_ends_84 : decode cL_ends 84 = .ok (.aload_n 0, 1) := by decide +kernel
theorem dL_ends_85 : decode cL_ends 85 = .ok (.iload 6, 2) := by decide +kernel
theorem dL_ends_87 : decode cL_ends 87 = .ok (.invokevirtual 36, 3) := by decide +kernel
theorem dL_ends_90 : decode cL_ends 90 = .ok (.iastore, 1) := by decide +kernel
theorem dL_ends_91 : decode cL_ends 91 = .ok (.iinc 6 1, 3) := by decide +kernel
theorem dL_ends_94 : decode cL_ends 94 = .ok (.goto (-74), 3) := by decide +kernel
theorem dL_ends_97 : decode cL_ends 97 = .ok (.aload_n 0, 1) := by decide +kernel
theorem dL_ends_98 : decode cL_ends 98 = .ok (.iload_n 3, 1) := by decide +kernel
theorem dL_ends_99 : decode cL_ends 99 = .ok (.invokevirtual 39, 3) := by decide +kernel
theorem dL_ends_102 : decode cL_ends 102 = .ok (.aload_n 0, 1) := by decide +kernel
theorem dL_ends_103 : decode cL_ends 103 = .ok (.iload_n 3, 1) := by decide +kernel
theorem dL_ends_104 : decode cL_ends 104 = .ok (.invokevirtual 17, 3) := by decide +kernel
theorem dL_ends_107 : decode cL_ends 107 = .ok (.iadd, 1) := by decide +kernel
theorem dL_ends_108 : decode cL_ends 108 = .ok (.istore 6, 2) := by decide +kernel
theorem dL_ends_110 : decode cL_ends 110 = .ok (.aload_n 0, 1) := by decide +kernel
theorem dL_ends_111 : decode cL_ends 111 = .ok (.invokevirtual 42, 3) := by decide +kernel
theorem dL_ends_114 : decode cL_ends 114 = .ok (.istore 7, 2) := by decide +kernel
theorem dL_ends_116 : decode cL_ends 116 = .ok (.aload_n 0, 1) := by decide +kernel
theorem dL_ends_117 : decode cL_ends 117 = .ok (.invokevirtual 30, 3) := by decide +kernel
theorem dL_ends_120 : decode cL_ends 120 = .ok (.iload 4, 2) := by decide +kernel
theorem dL_ends_122 : decode cL_ends 122 = .ok (.iload 7, 2) := by decide +kernel
theorem dL_ends_124 : decode cL_ends 124 = .ok (.iadd, 1) := by decide +kernel
theorem dL_ends_125 : decode cL_ends 125 = .ok (.if_icmp .ne 39, 3) := by decide +kernel
theorem dL_ends_128 : decode cL_ends 128 = .ok (.aload_n 0, 1) := by decide +kernel
theorem dL_ends_129 : decode cL_ends 129 = .ok (.invokevirtual 27, 3) := by decide +kernel
theorem dL_ends_132 : decode cL_ends 132 = .ok (.iconst (-1), 1) := by decide +kernel
theorem dL_ends_133 : decode cL_ends 133 = .ok (.if_icmp .ne 31, 3) := by decide +kernel
theorem dL_ends_136 : decode cL_ends 136 = .ok (.aload_n 0, 1) := by decide +kernel
theorem dL_ends_137 : decode cL_ends 137 = .ok (.invokevirtual 45, 3) := by decide +kernel
theorem dL_ends_140 : decode cL_ends 140 = .ok (.ifCond .lt 24, 3) := by decide +kernel
theorem dL_ends_143 : decode cL_ends 143 = .ok (.aload_n 0, 1) := by decide +kernel
theorem dL_ends_144 : decode cL_ends 144 = .ok (.invokevirtual 45, 3) := by decide +kernel
theorem dL_ends_147 : decode cL_ends 147 = .ok (.sipush 1000, 3) := by decide +kernel
theorem dL_ends_150 : decode cL_ends 150 = .ok (.iload_n 1, 1) := by decide +kernel
theorem dL_ends_151 : decode cL_ends 151 = .ok (.imul, 1) := by decide +kernel
theorem dL_ends_152 : decode cL_ends 152 = .ok (.if_icmp .gt 12, 3) := by decide +kernel
theorem dL_ends_155 : decode cL_ends 155 = .ok (.iload 7, 2) := by decide +kernel
theorem dL_ends_157 : decode cL_ends 157 = .ok (.aload_n 0, 1) := by decide +kernel
theorem dL_ends_158 : decode cL_ends 158 = .ok (.invokevirtual 45, 3) := by decide +kernel
theorem dL_ends_161 : decode cL_ends 161 = .ok (.if_icmp .le 5, 3) := by decide +kernel
theorem dL_ends_164 : decode cL_ends 164 = .ok (.iconst 0, 1) := by decide +kernel
theorem dL_ends_165 : decode cL_ends 165 = .ok (.ireturn, 1) := by decide +kernel
theorem dL_ends_166 : decode cL_ends 166 = .ok (.iload 5, 2) := by decide +kernel
theorem dL_ends_168 : decode cL_ends 168 = .ok (.aload_n 0, 1) := by decide +kernel
theorem dL_ends_169 : decode cL_ends 169 = .ok (.invokevirtual 8, 3) := by decide +kernel
theorem dL_ends_172 : decode cL_ends 172 = .ok (.isub, 1) := by decide +kernel
theorem dL_ends_173 : decode cL_ends 173 = .ok (.istore 8, 2) := by decide +kernel
theorem dL_ends_175 : decode cL_ends 175 = .ok (.iconst 0, 1) := by decide +kernel
theorem dL_ends_176 : decode cL_ends 176 = .ok (.istore 9, 2) := by decide +kernel
theorem dL_ends_178 : decode cL_ends 178 = .ok (.iconst 0, 1) := by decide +kernel
theorem dL_ends_179 : decode cL_ends 179 = .ok (.istore 10, 2) := by decide +kernel
theorem dL_ends_181 : decode cL_ends 181 = .ok (.iconst 0, 1) := by decide +kernel
theorem dL_ends_182 : decode cL_ends 182 = .ok (.istore 11, 2) := by decide +kernel
theorem dL_ends_184 : decode cL_ends 184 = .ok (.iload 11, 2) := by decide +kernel
theorem dL_ends_186 : decode cL_ends 186 = .ok (.aload_n 0, 1) := by decide +kernel
theorem dL_ends_187 : decode cL_ends 187 = .ok (.invokevirtual 14, 3) := by decide +kernel
theorem dL_ends_190 : decode cL_ends 190 = .ok (.if_icmp .ge 266, 3) := by decide +kernel
theorem dL_ends_193 : decode cL_ends 193 = .ok (.iload 9, 2) := by decide +kernel
theorem dL_ends_195 : decode cL_ends 195 = .ok (.aload_n 0, 1) := by decide +kernel
theorem dL_ends_196 : decode cL_ends 196 = .ok (.iload 11, 2) := by decide +kernel
theorem dL_ends_198 : decode cL_ends 198 = .ok (.invokevirtual 36, 3) := by decide +kernel
theorem dL_ends_201 : decode cL_ends 201 = .ok (.aload_n 2, 1) := by decide +kernel
theorem dL_ends_202 : decode cL_ends 202 = .ok (.bipush 40, 2) := by decide +kernel
theorem dL_ends_204 : decode cL_ends 204 = .ok (.iload 11, 2) := by decide +kernel
theorem dL_ends_206 : decode cL_ends 206 = .ok (.iadd, 1) := by decide +kernel
theorem dL_ends_207 : decode cL_ends 207 = .ok (.iaload, 1) := by decide +kernel
theorem dL_ends_208 : decode cL_ends 208 = .ok (.isub, 1) := by decide +kernel
theorem dL_ends_209 : decode cL_ends 209 = .ok (.iadd, 1) := by decide +kernel
theorem dL_ends_210 : decode cL_ends 210 = .ok (.istore 9, 2) := by decide +kernel
theorem dL_ends_212 : decode cL_ends 212 = .ok (.iload 8, 2) := by decide +kernel
theorem dL_ends_214 : decode cL_ends 214 = .ok (.aload_n 0, 1) := by decide +kernel
theorem dL_ends_215 : decode cL_ends 215 = .ok (.iload 11, 2) := by decide +kernel
theorem dL_ends_217 : decode cL_ends 217 = .ok (.invokevirtual 24, 3) := by decide +kernel
theorem dL_ends_220 : decode cL_ends 220 = .ok (.aload_n 2, 1) := by decide +kernel
theorem dL_ends_221 : decode cL_ends 221 = .ok (.bipush 20, 2) := by decide +kernel
theorem dL_ends_223 : decode cL_ends 223 = .ok (.iload 11, 2) := by decide +kernel
theorem dL_ends_225 : decode cL_ends 225 = .ok (.iadd, 1) := by decide +kernel
theorem dL_ends_226 : decode cL_ends 226 = .ok (.iaload, 1) := by decide +kernel
theorem dL_ends_227 : decode cL_ends 227 = .ok (.isub, 1) := by decide +kernel
theorem dL_ends_228 : decode cL_ends 228 = .ok (.iadd, 1) := by decide +kernel
theorem dL_ends_229 : decode cL_ends 229 = .ok (.istore 8, 2) := by decide +kernel
theorem dL_ends_231 : decode cL_ends 231 = .ok (.aload_n 2, 1) := by decide +kernel
theorem dL_ends_232 : decode cL_ends 232 = .ok (.bipush 30, 2) := by decide +kernel
theorem dL_ends_234 : decode cL_ends 234 = .ok (.iload 11, 2) := by decide +kernel
theorem dL_ends_236 : decode cL_ends 236 = .ok (.iadd, 1) := by decide +kernel
theorem dL_ends_237 : decode cL_ends 237 = .ok (.iaload, 1) := by decide +kernel
theorem dL_ends_238 : decode cL_ends 238 = .ok (.iconst 1, 1) := by decide +kernel
theorem dL_ends_239 : decode cL_ends 239 = .ok (.if_icmp .ne 71, 3) := by decide +kernel
theorem dL_ends_242 : decode cL_ends 242 = .ok (.aload_n 0, 1) := by decide +kernel
theorem dL_ends_243 : decode cL_ends 243 = .ok (.iload 11, 2) := by decide +kernel
theorem dL_ends_245 : decode cL_ends 245 = .ok (.invokevirtual 33, 3) := by decide +kernel
theorem dL_ends_248 : decode cL_ends 248 = .ok (.iconst 3, 1) := by decide +kernel
theorem dL_ends_249 : decode cL_ends 249 = .ok (.if_icmp .ne 56, 3) := by decide +kernel
theorem dL_ends_252 : decode cL_ends 252 = .ok (.aload_n 0, 1) := by decide +kernel
theorem dL_ends_253 : decode cL_ends 253 = .ok (.iload 11, 2) := by decide +kernel
theorem dL_ends_255 : decode cL_ends 255 = .ok (.invokevirtual 17, 3) := by decide +kernel
theorem dL_ends_258 : decode cL_ends 258 = .ok (.aload_n 0, 1) := by decide +kernel
theorem dL_ends_259 : decode cL_ends 259 = .ok (.iload 11, 2) := by decide +kernel
theorem dL_ends_261 : decode cL_ends 261 = .ok (.invokevirtual 39, 3) := by decide +kernel
theorem dL_ends_264 : decode cL_ends 264 = .ok (.iadd, 1) := by decide +kernel
theorem dL_ends_265 : decode cL_ends 265 = .ok (.aload_n 0, 1) := by decide +kernel
theorem dL_ends_266 : decode cL_ends 266 = .ok (.iload 11, 2) := by decide +kernel
theorem dL_ends_268 : decode cL_ends 268 = .ok (.invokevirtual 21, 3) := by decide +kernel
theorem dL_ends_271 : decode cL_ends 271 = .ok (.iadd, 1) := by decide +kernel
theorem dL_ends_272 : decode cL_ends 272 = .ok (.aload_n 0, 1) := by decide +kernel
theorem dL_ends_273 : decode cL_ends 273 = .ok (.iload 11, 2) := by decide +kernel
theorem dL_ends_275 : decode cL_ends 275 = .ok (.invokevirtual 48, 3) := by decide +kernel
theorem dL_ends_278 : decode cL_ends 278 = .ok (.iadd, 1) := by decide +kernel
theorem dL_ends_279 : decode cL_ends 279 = .ok (.ifCond .ne 26, 3) := by decide +kernel
theorem dL_ends_282 : decode cL_ends 282 = .ok (.aload_n 0, 1) := by decide +kernel
theorem dL_ends_283 : decode cL_ends 283 = .ok (.iload 11, 2) := by decide +kernel
theorem dL_ends_285 : decode cL_ends 285 = .ok (.invokevirtual 24, 3) := by decide +kernel
theorem dL_ends_288 : decode cL_ends 288 = .ok (.aload_n 2, 1) := by decide +kernel
theorem dL_ends_289 : decode cL_ends 289 = .ok (.bipush 20, 2) := by decide +kernel
theorem dL_ends_291 : decode cL_ends 291 = .ok (.iload 11, 2) := by decide +kernel
theorem dL_ends_293 : decode cL_ends 293 = .ok (.iadd, 1) := by decide +kernel
theorem dL_ends_294 : decode cL_ends 294 = .ok (.iaload, 1) := by decide +kernel
theorem dL_ends_295 : decode cL_ends 295 = .ok (.isub, 1) := by decide +kernel
theorem dL_ends_296 : decode cL_ends 296 = .ok (.aload_n 2, 1) := by decide +kernel
theorem dL_ends_297 : decode cL_ends 297 = .ok (.iload 11, 2) := by decide +kernel
theorem dL_ends_299 : decode cL_ends 299 = .ok (.iaload, 1) := by decide +kernel
theorem dL_ends_300 : decode cL_ends 300 = .ok (.iconst 2, 1) := by decide +kernel
theorem dL_ends_301 : decode cL_ends 301 = .ok (.idiv, 1) := by decide +kernel
theorem dL_ends_302 : decode cL_ends 302 = .ok (.if_icmp .le 5, 3) := by decide +kernel
theorem dL_ends_305 : decode cL_ends 305 = .ok (.iconst 0, 1) := by decide +kernel
theorem dL_ends_306 : decode cL_ends 306 = .ok (.ireturn, 1) := by decide +kernel
theorem dL_ends_307 : decode cL_ends 307 = .ok (.iconst 1, 1) := by decide +kernel
theorem dL_ends_308 : decode cL_ends 308 = .ok (.istore 10, 2) := by decide +kernel
theorem dL_ends_310 : decode cL_ends 310 = .ok (.aload_n 2, 1) := by decide +kernel
theorem dL_ends_311 : decode cL_ends 311 = .ok (.bipush 30, 2) := by decide +kernel
theorem dL_ends_313 : decode cL_ends 313 = .ok (.iload 11, 2) := by decide +kernel
theorem dL_ends_315 : decode cL_ends 315 = .ok (.iadd, 1) := by decide +kernel
theorem dL_ends_316 : decode cL_ends 316 = .ok (.iaload, 1) := by decide +kernel
theorem dL_ends_317 : decode cL_ends 317 = .ok (.ifCond .eq 6, 3) := by decide +kernel
theorem dL_ends_320 : decode cL_ends 320 = .ok (.goto 130, 3) := by decide +kernel
theorem dL_ends_323 : decode cL_ends 323 = .ok (.aload_n 2, 1) := by decide +kernel
theorem dL_ends_324 : decode cL_ends 324 = .ok (.iload 11, 2) := by decide +kernel
theorem dL_ends_326 : decode cL_ends 326 = .ok (.iaload, 1) := by decide +kernel
theorem dL_ends_327 : decode cL_ends 327 = .ok (.aload_n 0, 1) := by decide +kernel
theorem dL_ends_328 : decode cL_ends 328 = .ok (.iload 11, 2) := by decide +kernel
theorem dL_ends_330 : decode cL_ends 330 = .ok (.invokevirtual 17, 3) := by decide +kernel
theorem dL_ends_333 : decode cL_ends 333 = .ok (.isub, 1) := by decide +kernel
theorem dL_ends_334 : decode cL_ends 334 = .ok (.istore 12, 2) := by decide +kernel
theorem dL_ends_336 : decode cL_ends 336 = .ok (.aload_n 2, 1) := by decide +kernel
theorem dL_ends_337 : decode cL_ends 337 = .ok (.bipush 10, 2) := by decide +kernel
theorem dL_ends_339 : decode cL_ends 339 = .ok (.iload 11, 2) := by decide +kernel
theorem dL_ends_341 : decode cL_ends 341 = .ok (.iadd, 1) := by decide +kernel
theorem dL_ends_342 : decode cL_ends 342 = .ok (.iaload, 1) := by decide +kernel
theorem dL_ends_343 : decode cL_ends 343 = .ok (.aload_n 0, 1) := by decide +kernel
theorem dL_ends_344 : decode cL_ends 344 = .ok (.iload 11, 2) := by decide +kernel
theorem dL_ends_346 : decode cL_ends 346 = .ok (.invokevirtual 21, 3) := by decide +kernel
theorem dL_ends_349 : decode cL_ends 349 = .ok (.isub, 1) := by decide +kernel
theorem dL_ends_350 : decode cL_ends 350 = .ok (.istore 13, 2) := by decide +kernel
theorem dL_ends_352 : decode cL_ends 352 = .ok (.aload_n 0, 1) := by decide +kernel
theorem dL_ends_353 : decode cL_ends 353 = .ok (.iload 11, 2) := by decide +kernel
theorem dL_ends_355 : decode cL_ends 355 = .ok (.invokevirtual 33, 3) := by decide +kernel
theorem dL_ends_358 : decode cL_ends 358 = .ok (.ifCond .ne 34, 3) := by decide +kernel
theorem dL_ends_361 : decode cL_ends 361 = .ok (.iload 12, 2) := by decide +kernel
theorem dL_ends_363 : decode cL_ends 363 = .ok (.ifCond .lt 29, 3) := by decide +kernel
theorem dL_ends_366 : decode cL_ends 366 = .ok (.iload 13, 2) := by decide +kernel
theorem dL_ends_368 : decode cL_ends 368 = .ok (.ifCond .lt 24, 3) := by decide +kernel
theorem dL_ends_371 : decode cL_ends 371 = .ok (.aload_n 0, 1) := by decide +kernel
theorem dL_ends_372 : decode cL_ends 372 = .ok (.iload 11, 2) := by decide +kernel
theorem dL_ends_374 : decode cL_ends 374 = .ok (.invokevirtual 24, 3) := by decide +kernel
theorem dL_ends_377 : decode cL_ends 377 = .ok (.aload_n 2, 1) := by decide +kernel
theorem dL_ends_378 : decode cL_ends 378 = .ok (.bipush 20, 2) := by decide +kernel
theorem dL_ends_380 : decode cL_ends 380 = .ok (.iload 11, 2) := by decide +kernel
theorem dL_ends_382 : decode cL_ends 382 = .ok (.iadd, 1) := by decide +kernel
theorem dL_ends_383 : decode cL_ends 383 = .ok (.iaload, 1) := by decide +kernel
theorem dL_ends_384 : decode cL_ends 384 = .ok (.isub, 1) := by decide +kernel
theorem dL_ends_385 : decode cL_ends 385 = .ok (.aload_n 2, 1) := by decide +kernel
theorem dL_ends_386 : decode cL_ends 386 = .ok (.iload 11, 2) := by decide +kernel
theorem dL_ends_388 : decode cL_ends 388 = .ok (.iaload, 1) := by decide +kernel
theorem dL_ends_389 : decode cL_ends 389 = .ok (.if_icmp .le 5, 3) := by decide +kernel
theorem dL_ends_392 : decode cL_ends 392 = .ok (.iconst 0, 1) := by decide +kernel
theorem dL_ends_393 : decode cL_ends 393 = .ok (.ireturn, 1) := by decide +kernel
theorem dL_ends_394 : decode cL_ends 394 = .ok (.iload 13, 2) := by decide +kernel
theorem dL_ends_396 : decode cL_ends 396 = .ok (.ifCond .le 12, 3) := by decide +kernel
theorem dL_ends_399 : decode cL_ends 399 = .ok (.aload_n 0, 1) := by decide +kernel
theorem dL_ends_400 : decode cL_ends 400 = .ok (.iload 11, 2) := by decide +kernel
theorem dL_ends_402 : decode cL_ends 402 = .ok (.invokevirtual 17, 3) := by decide +kernel
theorem dL_ends_405 : decode cL_ends 405 = .ok (.ifCond .gt 33, 3) := by decide +kernel
theorem dL_ends_408 : decode cL_ends 408 = .ok (.iload 7, 2) := by decide +kernel
theorem dL_ends_410 : decode cL_ends 410 = .ok (.ifCond .le 30, 3) := by decide +kernel
theorem dL_ends_413 : decode cL_ends 413 = .ok (.aload_n 0, 1) := by decide +kernel
theorem dL_ends_414 : decode cL_ends 414 = .ok (.iload 11, 2) := by decide +kernel
theorem dL_ends_416 : decode cL_ends 416 = .ok (.invokevirtual 17, 3) := by decide +kernel
theorem dL_ends_419 : decode cL_ends 419 = .ok (.ifCond .gt 19, 3) := by decide +kernel
theorem dL_ends_422 : decode cL_ends 422 = .ok (.aload_n 0, 1) := by decide +kernel
theorem dL_ends_423 : decode cL_ends 423 = .ok (.iload 11, 2) := by decide +kernel
theorem dL_ends_425 : decode cL_ends 425 = .ok (.invokevirtual 21, 3) := by decide +kernel
theorem dL_ends_428 : decode cL_ends 428 = .ok (.ifCond .gt 10, 3) := by decide +kernel
theorem dL_ends_431 : decode cL_ends 431 = .ok (.aload_n 0, 1) := by decide +kernel
theorem dL_ends_432 : decode cL_ends 432 = .ok (.invokevirtual 8, 3) := by decide +kernel
theorem dL_ends_435 : decode cL_ends 435 = .ok (.ifCond .le 5, 3) := by decide +kernel
theorem dL_ends_438 : decode cL_ends 438 = .ok (.iconst 0, 1) := by decide +kernel
theorem dL_ends_439 : decode cL_ends 439 = .ok (.ireturn, 1) := by decide +kernel
theorem dL_ends_440 : decode cL_ends 440 = .ok (.iload 8, 2) := by decide +kernel
theorem dL_ends_442 : decode cL_ends 442 = .ok (.iload 12, 2) := by decide +kernel
theorem dL_ends_444 : decode cL_ends 444 = .ok (.iload 13, 2) := by decide +kernel
theorem dL_ends_446 : decode cL_ends 446 = .ok (.iadd, 1) := by decide +kernel
theorem dL_ends_447 : decode cL_ends 447 = .ok (.iadd, 1) := by decide +kernel
theorem dL_ends_448 : decode cL_ends 448 = .ok (.istore 8, 2) := by decide +kernel
theorem dL_ends_450 : decode cL_ends 450 = .ok (.iinc 11 1, 3) := by decide +kernel
theorem dL_ends_453 : decode cL_ends 453 = .ok (.goto (-269), 3) := by decide +kernel
theorem dL_ends_456 : decode cL_ends 456 = .ok (.iload 9, 2) := by decide +kernel
theorem dL_ends_458 : decode cL_ends 458 = .ok (.iload_n 1, 1) := by decide +kernel
theorem dL_ends_459 : decode cL_ends 459 = .ok (.if_icmp .gt 38, 3) := by decide +kernel
theorem dL_ends_462 : decode cL_ends 462 = .ok (.aload_n 0, 1) := by decide +kernel
theorem dL_ends_463 : decode cL_ends 463 = .ok (.iload_n 3, 1) := by decide +kernel
theorem dL_ends_464 : decode cL_ends 464 = .ok (.invokevirtual 33, 3) := by decide +kernel
theorem dL_ends_467 : decode cL_ends 467 = .ok (.iconst 2, 1) := by decide +kernel
theorem dL_ends_468 : decode cL_ends 468 = .ok (.if_icmp .ne 29, 3) := by decide +kernel
theorem dL_ends_471 : decode cL_ends 471 = .ok (.aload_n 0, 1) := by decide +kernel
theorem dL_ends_472 : decode cL_ends 472 = .ok (.iload_n 3, 1) := by decide +kernel
theorem dL_ends_473 : decode cL_ends 473 = .ok (.invokevirtual 39, 3) := by decide +kernel
theorem dL_ends_476 : decode cL_ends 476 = .ok (.aload_n 0, 1) := by decide +kernel
theorem dL_ends_477 : decode cL_ends 477 = .ok (.iload_n 3, 1) := by decide +kernel
theorem dL_ends_478 : decode cL_ends 478 = .ok (.invokevirtual 17, 3) := by decide +kernel
theorem dL_ends_481 : decode cL_ends 481 = .ok (.iadd, 1) := by decide +kernel
theorem dL_ends_482 : decode cL_ends 482 = .ok (.aload_n 0, 1) := by decide +kernel
theorem dL_ends_483 : decode cL_ends 483 = .ok (.iload_n 3, 1) := by decide +kernel
theorem dL_ends_484 : decode cL_ends 484 = .ok (.invokevirtual 21, 3) := by decide +kernel
theorem dL_ends_487 : decode cL_ends 487 = .ok (.iadd, 1) := by decide +kernel
theorem dL_ends_488 : decode cL_ends 488 = .ok (.aload_n 0, 1) := by decide +kernel
theorem dL_ends_489 : decode cL_ends 489 = .ok (.iload_n 3, 1) := by decide +kernel
theorem dL_ends_490 : decode cL_ends 490 = .ok (.invokevirtual 48, 3) := by decide +kernel
theorem dL_ends_493 : decode cL_ends 493 = .ok (.iadd, 1) := by decide +kernel
theorem dL_ends_494 : decode cL_ends 494 = .ok (.ifCond .eq 5, 3) := by decide +kernel
theorem dL_ends_497 : decode cL_ends 497 = .ok (.iconst 0, 1) := by decide +kernel
theorem dL_ends_498 : decode cL_ends 498 = .ok (.ireturn, 1) := by decide +kernel
theorem dL_ends_499 : decode cL_ends 499 = .ok (.aload_n 0, 1) := by decide +kernel
theorem dL_ends_500 : decode cL_ends 500 = .ok (.invokevirtual 45, 3) := by decide +kernel
theorem dL_ends_503 : decode cL_ends 503 = .ok (.iload 6, 2) := by decide +kernel
theorem dL_ends_505 : decode cL_ends 505 = .ok (.isub, 1) := by decide +kernel
theorem dL_ends_506 : decode cL_ends 506 = .ok (.istore 11, 2) := by decide +kernel
theorem dL_ends_508 : decode cL_ends 508 = .ok (.iload 11, 2) := by decide +kernel
theorem dL_ends_510 : decode cL_ends 510 = .ok (.ifCond .le 8, 3) := by decide +kernel
theorem dL_ends_513 : decode cL_ends 513 = .ok (.iload 11, 2) := by decide +kernel
theorem dL_ends_515 : decode cL_ends 515 = .ok (.goto 4, 3) := by decide +kernel
theorem dL_ends_518 : decode cL_ends 518 = .ok (.iconst 0, 1) := by decide +kernel
theorem dL_ends_519 : decode cL_ends 519 = .ok (.istore 11, 2) := by decide +kernel
theorem dL_ends_521 : decode cL_ends 521 = .ok (.iload 10, 2) := by decide +kernel
theorem dL_ends_523 : decode cL_ends 523 = .ok (.ifCond .eq 21, 3) := by decide +kernel
theorem dL_ends_526 : decode cL_ends 526 = .ok (.iload 8, 2) := by decide +kernel
theorem dL_ends_528 : decode cL_ends 528 = .ok (.iload 11, 2) := by decide +kernel
theorem dL_ends_530 : decode cL_ends 530 = .ok (.iload 7, 2) := by decide +kernel
theorem dL_ends_532 : decode cL_ends 532 = .ok (.isub, 1) := by decide +kernel
theorem dL_ends_533 : decode cL_ends 533 = .ok (.if_icmp .gt 7, 3) := by decide +kernel
theorem dL_ends_536 : decode cL_ends 536 = .ok (.iconst 1, 1) := by decide +kernel
theorem dL_ends_537 : decode cL_ends 537 = .ok (.goto 22, 3) := by decide +kernel
theorem dL_ends_540 : decode cL_ends 540 = .ok (.iconst 0, 1) := by decide +kernel
theorem dL_ends_541 : decode cL_ends 541 = .ok (.goto 18, 3) := by decide +kernel
theorem dL_ends_544 : decode cL_ends 544 = .ok (.iload 8, 2) := by decide +kernel
theorem dL_ends_546 : decode cL_ends 546 = .ok (.iload 11, 2) := by decide +kernel
theorem dL_ends_548 : decode cL_ends 548 = .ok (.iload 7, 2) := by decide +kernel
theorem dL_ends_550 : decode cL_ends 550 = .ok (.isub, 1) := by decide +kernel
theorem dL_ends_551 : decode cL_ends 551 = .ok (.if_icmp .ne 7, 3) := by decide +kernel
theorem dL_ends_554 : decode cL_ends 554 = .ok (.iconst 1, 1) := by decide +kernel
theorem dL_ends_555 : decode cL_ends 555 = .ok (.goto 4, 3) := by decide +kernel
theorem dL_ends_558 : decode cL_ends 558 = .ok (.iconst 0, 1) := by decide +kernel
theorem dL_ends_559 : decode cL_ends 559 = .ok (.ireturn, 1) := by decide +kernel
theorem dL_fails_0 : decode cL_fails 0 = .ok (.iconst 0, 1) := by decide +kernel
theorem dL_fails_1 : decode cL_fails 1 = .ok (.istore_n 3, 1) := by decide +kernel
theorem dL_fails_2 : decode cL_fails 2 = .ok (.iconst 0, 1) := by decide +kernel
theorem dL_fails_3 : decode cL_fails 3 = .ok (.istore 4, 2) := by decide +kernel
theorem dL_fails_5 : decode cL_fails 5 = .ok (.iload 4, 2) := by decide +kernel
theorem dL_fails_7 : decode cL_fails 7 = .ok (.aload_n 0, 1) := by decide +kernel
theorem dL_fails_8 : decode cL_fails 8 = .ok (.invokevirtual 14, 3) := by decide +kernel
theorem dL_fails_11 : decode cL_fails 11 = .ok (.if_icmp .ge 18, 3) := by decide +kernel
theorem dL_fails_14 : decode cL_fails 14 = .ok (.iload_n 3, 1) := by decide +kernel
theorem dL_fails_15 : decode cL_fails 15 = .ok (.aload_n 0, 1) := by decide +kernel
theorem dL_fails_16 : decode cL_fails 16 = .ok (.iload 4, 2) := by decide +kernel
theorem dL_fails_18 : decode cL_fails 18 = .ok (.invokevirtual 48, 3) := by decide +kernel
theorem dL_fails_21 : decode cL_fails 21 = .ok (.iadd, 1) := by decide +kernel
theorem dL_fails_22 : decode cL_fails 22 = .ok (.istore_n 3, 1) := by decide +kernel
theorem dL_fails_23 : decode cL_fails 23 = .ok (.iinc 4 1, 3) := by decide +kernel
theorem dL_fails_26 : decode cL_fails 26 = .ok (.goto (-21), 3) := by decide +kernel
theorem dL_fails_29 : decode cL_fails 29 = .ok (.aload_n 0, 1) := by decide +kernel
theorem dL_fails_30 : decode cL_fails 30 = .ok (.iload_n 1, 1) := by decide +kernel
theorem dL_fails_31 : decode cL_fails 31 = .ok (.iload_n 2, 1) := by decide +kernel
theorem dL_fails_32 : decode cL_fails 32 = .ok (.invokevirtual 51, 3) := by decide +kernel
theorem dL_fails_35 : decode cL_fails 35 = .ok (.istore 4, 2) := by decide +kernel
theorem dL_fails_37 : decode cL_fails 37 = .ok (.iconst 0, 1) := by decide +kernel
theorem dL_fails_38 : decode cL_fails 38 = .ok (.istore 5, 2) := by decide +kernel
theorem dL_fails_40 : decode cL_fails 40 = .ok (.iconst 0, 1) := by decide +kernel
theorem dL_fails_41 : decode cL_fails 41 = .ok (.istore 6, 2) := by decide +kernel
theorem dL_fails_43 : decode cL_fails 43 = .ok (.iload 6, 2) := by decide +kernel
theorem dL_fails_45 : decode cL_fails 45 = .ok (.aload_n 0, 1) := by decide +kernel
theorem dL_fails_46 : decode cL_fails 46 = .ok (.invokevirtual 14, 3) := by decide +kernel
theorem dL_fails_49 : decode cL_fails 49 = .ok (.if_icmp .ge 20, 3) := by decide +kernel
theorem dL_fails_52 : decode cL_fails 52 = .ok (.iload 5, 2) := by decide +kernel
theorem dL_fails_54 : decode cL_fails 54 = .ok (.aload_n 0, 1) := by decide +kernel
theorem dL_fails_55 : decode cL_fails 55 = .ok (.iload 6, 2) := by decide +kernel
theorem dL_fails_57 : decode cL_fails 57 = .ok (.invokevirtual 48, 3) := by decide +kernel
theorem dL_fails_60 : decode cL_fails 60 = .ok (.iadd, 1) := by decide +kernel
theorem dL_fails_61 : decode cL_fails 61 = .ok (.istore 5, 2) := by decide +kernel
theorem dL_fails_63 : decode cL_fails 63 = .ok (.iinc 6 1, 3) := by decide +kernel
theorem dL_fails_66 : decode cL_fails 66 = .ok (.goto (-23), 3) := by decide +kernel
theorem dL_fails_69 : decode cL_fails 69 = .ok (.iload 4, 2) := by decide +kernel
theorem dL_fails_71 : decode cL_fails 71 = .ok (.iload_n 2, 1) := by decide +kernel
theorem dL_fails_72 : decode cL_fails 72 = .ok (.if_icmp .lt 39, 3) := by decide +kernel
theorem dL_fails_75 : decode cL_fails 75 = .ok (.iload_n 3, 1) := by decide +kernel
theorem dL_fails_76 : decode cL_fails 76 = .ok (.iload 5, 2) := by decide +kernel
theorem dL_fails_78 : decode cL_fails 78 = .ok (.isub, 1) := by decide +kernel
theorem dL_fails_79 : decode cL_fails 79 = .ok (.iload 4, 2) := by decide +kernel
theorem dL_fails_81 : decode cL_fails 81 = .ok (.iload_n 2, 1) := by decide +kernel
theorem dL_fails_82 : decode cL_fails 82 = .ok (.isub, 1) := by decide +kernel
theorem dL_fails_83 : decode cL_fails 83 = .ok (.if_icmp .ne 28, 3) := by decide +kernel
theorem dL_fails_86 : decode cL_fails 86 = .ok (.aload_n 0, 1) := by decide +kernel
theorem dL_fails_87 : decode cL_fails 87 = .ok (.iload_n 1, 1) := by decide +kernel
theorem dL_fails_88 : decode cL_fails 88 = .ok (.invokevirtual 48, 3) := by decide +kernel
theorem dL_fails_91 : decode cL_fails 91 = .ok (.ifCond .ne 20, 3) := by decide +kernel
theorem dL_fails_94 : decode cL_fails 94 = .ok (.aload_n 0, 1) := by decide +kernel
theorem dL_fails_95 : decode cL_fails 95 = .ok (.invokevirtual 27, 3) := by decide +kernel
theorem dL_fails_98 : decode cL_fails 98 = .ok (.iload_n 1, 1) := by decide +kernel
theorem dL_fails_99 : decode cL_fails 99 = .ok (.if_icmp .ne 12, 3) := by decide +kernel
theorem dL_fails_102 : decode cL_fails 102 = .ok (.aload_n 0, 1) := by decide +kernel
theorem dL_fails_103 : decode cL_fails 103 = .ok (.iload_n 1, 1) := by decide +kernel
theorem dL_fails_104 : decode cL_fails 104 = .ok (.invokevirtual 33, 3) := by decide +kernel
theorem dL_fails_107 : decode cL_fails 107 = .ok (.iconst 2, 1) := by decide +kernel
theorem dL_fails_108 : decode cL_fails 108 = .ok (.if_icmp .eq 5, 3) := by decide +kernel
theorem dL_fails_111 : decode cL_fails 111 = .ok (.iconst (-1), 1) := by decide +kernel
theorem dL_fails_112 : decode cL_fails 112 = .ok (.ireturn, 1) := by decide +kernel
theorem dL_fails_113 : decode cL_fails 113 = .ok (.iload 4, 2) := by decide +kernel
theorem dL_fails_115 : decode cL_fails 115 = .ok (.ireturn, 1) := by decide +kernel
theorem dL_clients_0 : decode cL_clients 0 = .ok (.iconst 0, 1) := by decide +kernel
theorem dL_clients_1 : decode cL_clients 1 = .ok (.istore 4, 2) := by decide +kernel
theorem dL_clients_3 : decode cL_clients 3 = .ok (.iload 4, 2) := by decide +kernel
theorem dL_clients_5 : decode cL_clients 5 = .ok (.aload_n 0, 1) := by decide +kernel
theorem dL_clients_6 : decode cL_clients 6 = .ok (.invokevirtual 14, 3) := by decide +kernel
theorem dL_clients_9 : decode cL_clients 9 = .ok (.if_icmp .ge 84, 3) := by decide +kernel
theorem dL_clients_12 : decode cL_clients 12 = .ok (.iconst 1, 1) := by decide +kernel
theorem dL_clients_13 : decode cL_clients 13 = .ok (.iload_n 1, 1) := by decide +kernel
theorem dL_clients_14 : decode cL_clients 14 = .ok (.bipush 7, 2) := by decide +kernel
theorem dL_clients_16 : decode cL_clients 16 = .ok (.iload 4, 2) := by decide +kernel
theorem dL_clients_18 : decode cL_clients 18 = .ok (.imul, 1) := by decide +kernel
theorem dL_clients_19 : decode cL_clients 19 = .ok (.iadd, 1) := by decide +kernel
theorem dL_clients_20 : decode cL_clients 20 = .ok (.iconst 2, 1) := by decide +kernel
theorem dL_clients_21 : decode cL_clients 21 = .ok (.ishr, 1) := by decide +kernel
theorem dL_clients_22 : decode cL_clients 22 = .ok (.bipush 9, 2) := by decide +kernel
theorem dL_clients_24 : decode cL_clients 24 = .ok (.invokestatic 55, 3) := by decide +kernel
theorem dL_clients_27 : decode cL_clients 27 = .ok (.iadd, 1) := by decide +kernel
theorem dL_clients_28 : decode cL_clients 28 = .ok (.istore 5, 2) := by decide +kernel
theorem dL_clients_30 : decode cL_clients 30 = .ok (.aload_n 3, 1) := by decide +kernel
theorem dL_clients_31 : decode cL_clients 31 = .ok (.iload 4, 2) := by decide +kernel
theorem dL_clients_33 : decode cL_clients 33 = .ok (.iaload, 1) := by decide +kernel
theorem dL_clients_34 : decode cL_clients 34 = .ok (.aload_n 0, 1) := by decide +kernel
theorem dL_clients_35 : decode cL_clients 35 = .ok (.iload 4, 2) := by decide +kernel
theorem dL_clients_37 : decode cL_clients 37 = .ok (.invokevirtual 48, 3) := by decide +kernel
theorem dL_clients_40 : decode cL_clients 40 = .ok (.isub, 1) := by decide +kernel
theorem dL_clients_41 : decode cL_clients 41 = .ok (.iload 5, 2) := by decide +kernel
theorem dL_clients_43 : decode cL_clients 43 = .ok (.isub, 1) := by decide +kernel
theorem dL_clients_44 : decode cL_clients 44 = .ok (.istore 6, 2) := by decide +kernel
theorem dL_clients_46 : decode cL_clients 46 = .ok (.aload_n 0, 1) := by decide +kernel
theorem dL_clients_47 : decode cL_clients 47 = .ok (.iload 4, 2) := by decide +kernel
theorem dL_clients_49 : decode cL_clients 49 = .ok (.invokevirtual 33, 3) := by decide +kernel
theorem dL_clients_52 : decode cL_clients 52 = .ok (.iconst 2, 1) := by decide +kernel
theorem dL_clients_53 : decode cL_clients 53 = .ok (.if_icmp .ge 34, 3) := by decide +kernel
theorem dL_clients_56 : decode cL_clients 56 = .ok (.iload 6, 2) := by decide +kernel
theorem dL_clients_58 : decode cL_clients 58 = .ok (.ifCond .lt 29, 3) := by decide +kernel
theorem dL_clients_61 : decode cL_clients 61 = .ok (.iload_n 2, 1) := by decide +kernel
theorem dL_clients_62 : decode cL_clients 62 = .ok (.iload 4, 2) := by decide +kernel
theorem dL_clients_64 : decode cL_clients 64 = .ok (.ishr, 1) := by decide +kernel
theorem dL_clients_65 : decode cL_clients 65 = .ok (.iconst 2, 1) := by decide +kernel
theorem dL_clients_66 : decode cL_clients 66 = .ok (.invokestatic 55, 3) := by decide +kernel
theorem dL_clients_69 : decode cL_clients 69 = .ok (.ifCond .ne 18, 3) := by decide +kernel
theorem dL_clients_72 : decode cL_clients 72 = .ok (.aload_n 0, 1) := by decide +kernel
theorem dL_clients_73 : decode cL_clients 73 = .ok (.iload 4, 2) := by decide +kernel
theorem dL_clients_75 : decode cL_clients 75 = .ok (.iload 5, 2) := by decide +kernel
theorem dL_clients_77 : decode cL_clients 77 = .ok (.invokevirtual 60, 3) := by decide +kernel
theorem dL_clients_80 : decode cL_clients 80 = .ok (.iload 6, 2) := by decide +kernel
theorem dL_clients_82 : decode cL_clients 82 = .ok (.if_icmp .eq 5, 3) := by decide +kernel
theorem dL_clients_85 : decode cL_clients 85 = .ok (.iconst 0, 1) := by decide +kernel
theorem dL_clients_86 : decode cL_clients 86 = .ok (.ireturn, 1) := by decide +kernel
theorem dL_clients_87 : decode cL_clients 87 = .ok (.iinc 4 1, 3) := by decide +kernel
theorem dL_clients_90 : decode cL_clients 90 = .ok (.goto (-87), 3) := by decide +kernel
theorem dL_clients_93 : decode cL_clients 93 = .ok (.iconst 1, 1) := by decide +kernel
theorem dL_clients_94 : decode cL_clients 94 = .ok (.ireturn, 1) := by decide +kernel
theorem dL_sizes_0 : decode cL_sizes 0 = .ok (.aload_n 0, 1) := by decide +kernel
theorem dL_sizes_1 : decode cL_sizes 1 = .ok (.invokestatic 63, 3) := by decide +kernel
theorem dL_sizes_4 : decode cL_sizes 4 = .ok (.lstore_n 1, 1) := by decide +kernel
theorem dL_sizes_5 : decode cL_sizes 5 = .ok (.aload_n 0, 1) := by decide +kernel
theorem dL_sizes_6 : decode cL_sizes 6 = .ok (.invokevirtual 67, 3) := by decide +kernel
theorem dL_sizes_9 : decode cL_sizes 9 = .ok (.istore_n 3, 1) := by decide +kernel
theorem dL_sizes_10 : decode cL_sizes 10 = .ok (.iload_n 3, 1) := by decide +kernel
theorem dL_sizes_11 : decode cL_sizes 11 = .ok (.ifCond .lt 26, 3) := by decide +kernel
theorem dL_sizes_14 : decode cL_sizes 14 = .ok (.aload_n 0, 1) := by decide +kernel
theorem dL_sizes_15 : decode cL_sizes 15 = .ok (.invokestatic 63, 3) := by decide +kernel
theorem dL_sizes_18 : decode cL_sizes 18 = .ok (.lload_n 1, 1) := by decide +kernel
theorem dL_sizes_19 : decode cL_sizes 19 = .ok (.iload_n 3, 1) := by decide +kernel
theorem dL_sizes_20 : decode cL_sizes 20 = .ok (.i2l, 1) := by decide +kernel
theorem dL_sizes_21 : decode cL_sizes 21 = .ok (.ladd, 1) := by decide +kernel
theorem dL_sizes_22 : decode cL_sizes 22 = .ok (.lcmp, 1) := by decide +kernel
theorem dL_sizes_23 : decode cL_sizes 23 = .ok (.ifCond .ne 14, 3) := by decide +kernel
theorem dL_sizes_26 : decode cL_sizes 26 = .ok (.aload_n 0, 1) := by decide +kernel
theorem dL_sizes_27 : decode cL_sizes 27 = .ok (.invokevirtual 67, 3) := by decide +kernel
theorem dL_sizes_30 : decode cL_sizes 30 = .ok (.ifCond .ne 7, 3) := by decide +kernel
theorem dL_sizes_33 : decode cL_sizes 33 = .ok (.iconst 1, 1) := by decide +kernel
theorem dL_sizes_34 : decode cL_sizes 34 = .ok (.goto 4, 3) := by decide +kernel
theorem dL_sizes_37 : decode cL_sizes 37 = .ok (.iconst 0, 1) := by decide +kernel
theorem dL_sizes_38 : decode cL_sizes 38 = .ok (.ireturn, 1) := by decide +kernel
theorem dL_bids_0 : decode cL_bids 0 = .ok (.iconst 0, 1) := by decide +kernel
theorem dL_bids_1 : decode cL_bids 1 = .ok (.istore 4, 2) := by decide +kernel
theorem dL_bids_3 : decode cL_bids 3 = .ok (.iload 4, 2) := by decide +kernel
theorem dL_bids_5 : decode cL_bids 5 = .ok (.aload_n 0, 1) := by decide +kernel
theorem dL_bids_6 : decode cL_bids 6 = .ok (.invokevirtual 14, 3) := by decide +kernel
theorem dL_bids_9 : decode cL_bids 9 = .ok (.if_icmp .ge 96, 3) := by decide +kernel
theorem dL_bids_12 : decode cL_bids 12 = .ok (.aload_n 0, 1) := by decide +kernel
theorem dL_bids_13 : decode cL_bids 13 = .ok (.iload 4, 2) := by decide +kernel
theorem dL_bids_15 : decode cL_bids 15 = .ok (.invokevirtual 33, 3) := by decide +kernel
theorem dL_bids_18 : decode cL_bids 18 = .ok (.iconst 1, 1) := by decide +kernel
theorem dL_bids_19 : decode cL_bids 19 = .ok (.if_icmp .le 6, 3) := by decide +kernel
theorem dL_bids_22 : decode cL_bids 22 = .ok (.goto 77, 3) := by decide +kernel
theorem dL_bids_25 : decode cL_bids 25 = .ok (.iconst 0, 1) := by decide +kernel
theorem dL_bids_26 : decode cL_bids 26 = .ok (.istore 5, 2) := by decide +kernel
theorem dL_bids_28 : decode cL_bids 28 = .ok (.iload 5, 2) := by decide +kernel
theorem dL_bids_30 : decode cL_bids 30 = .ok (.iload_n 1, 1) := by decide +kernel
theorem dL_bids_31 : decode cL_bids 31 = .ok (.if_icmp .ge 68, 3) := by decide +kernel
theorem dL_bids_34 : decode cL_bids 34 = .ok (.iload 5, 2) := by decide +kernel
theorem dL_bids_36 : decode cL_bids 36 = .ok (.bipush 12, 2) := by decide +kernel
theorem dL_bids_38 : decode cL_bids 38 = .ok (.if_icmp .ge 61, 3) := by decide +kernel
theorem dL_bids_41 : decode cL_bids 41 = .ok (.iload_n 2, 1) := by decide +kernel
theorem dL_bids_42 : decode cL_bids 42 = .ok (.iload 4, 2) := by decide +kernel
theorem dL_bids_44 : decode cL_bids 44 = .ok (.iload 5, 2) := by decide +kernel
theorem dL_bids_46 : decode cL_bids 46 = .ok (.iconst 5, 1) := by decide +kernel
theorem dL_bids_47 : decode cL_bids 47 = .ok (.irem, 1) := by decide +kernel
theorem dL_bids_48 : decode cL_bids 48 = .ok (.iadd, 1) := by decide +kernel
theorem dL_bids_49 : decode cL_bids 49 = .ok (.ishr, 1) := by decide +kernel
theorem dL_bids_50 : decode cL_bids 50 = .ok (.iconst 3, 1) := by decide +kernel
theorem dL_bids_51 : decode cL_bids 51 = .ok (.invokestatic 55, 3) := by decide +kernel
theorem dL_bids_54 : decode cL_bids 54 = .ok (.ifCond .le 39, 3) := by decide +kernel
theorem dL_bids_57 : decode cL_bids 57 = .ok (.aload_n 0, 1) := by decide +kernel
theorem dL_bids_58 : decode cL_bids 58 = .ok (.iload 4, 2) := by decide +kernel
theorem dL_bids_60 : decode cL_bids 60 = .ok (.iload 5, 2) := by decide +kernel
theorem dL_bids_62 : decode cL_bids 62 = .ok (.iload_n 3, 1) := by decide +kernel
theorem dL_bids_63 : decode cL_bids 63 = .ok (.bipush 37, 2) := by decide +kernel
theorem dL_bids_65 : decode cL_bids 65 = .ok (.iload 4, 2) := by decide +kernel
theorem dL_bids_67 : decode cL_bids 67 = .ok (.imul, 1) := by decide +kernel
theorem dL_bids_68 : decode cL_bids 68 = .ok (.iadd, 1) := by decide +kernel
theorem dL_bids_69 : decode cL_bids 69 = .ok (.bipush 91, 2) := by decide +kernel
theorem dL_bids_71 : decode cL_bids 71 = .ok (.iload 5, 2) := by decide +kernel
theorem dL_bids_73 : decode cL_bids 73 = .ok (.imul, 1) := by decide +kernel
theorem dL_bids_74 : decode cL_bids 74 = .ok (.iadd, 1) := by decide +kernel
theorem dL_bids_75 : decode cL_bids 75 = .ok (.iload 5, 2) := by decide +kernel
theorem dL_bids_77 : decode cL_bids 77 = .ok (.iconst 4, 1) := by decide +kernel
theorem dL_bids_78 : decode cL_bids 78 = .ok (.irem, 1) := by decide +kernel
theorem dL_bids_79 : decode cL_bids 79 = .ok (.ishr, 1) := by decide +kernel
theorem dL_bids_80 : decode cL_bids 80 = .ok (.sipush 700, 3) := by decide +kernel
theorem dL_bids_83 : decode cL_bids 83 = .ok (.invokestatic 55, 3) := by decide +kernel
theorem dL_bids_86 : decode cL_bids 86 = .ok (.sipush 600, 3) := by decide +kernel
theorem dL_bids_89 : decode cL_bids 89 = .ok (.isub, 1) := by decide +kernel
theorem dL_bids_90 : decode cL_bids 90 = .ok (.invokevirtual 70, 3) := by decide +kernel
theorem dL_bids_93 : decode cL_bids 93 = .ok (.iinc 5 1, 3) := by decide +kernel
theorem dL_bids_96 : decode cL_bids 96 = .ok (.goto (-68), 3) := by decide +kernel
theorem dL_bids_99 : decode cL_bids 99 = .ok (.iinc 4 1, 3) := by decide +kernel
theorem dL_bids_102 : decode cL_bids 102 = .ok (.goto (-99), 3) := by decide +kernel
theorem dL_bids_105 : decode cL_bids 105 = .ok (.return_, 1) := by decide +kernel
theorem dL_law_0 : decode cL_law 0 = .ok (.new 9, 3) := by decide +kernel
theorem dL_law_3 : decode cL_law 3 = .ok (.dup, 1) := by decide +kernel
theorem dL_law_4 : decode cL_law 4 = .ok (.invokespecial 74, 3) := by decide +kernel
theorem dL_law_7 : decode cL_law 7 = .ok (.astore_n 1, 1) := by decide +kernel
theorem dL_law_8 : decode cL_law 8 = .ok (.bipush 50, 2) := by decide +kernel
theorem dL_law_10 : decode cL_law 10 = .ok (.newarray .int, 2) := by decide +kernel
theorem dL_law_12 : decode cL_law 12 = .ok (.astore_n 2, 1) := by decide +kernel
theorem dL_law_13 : decode cL_law 13 = .ok (.bipush 10, 2) := by decide +kernel
theorem dL_law_15 : decode cL_law 15 = .ok (.newarray .int, 2) := by decide +kernel
theorem dL_law_17 : decode cL_law 17 = .ok (.astore_n 3, 1) := by decide +kernel
theorem dL_law_18 : decode cL_law 18 = .ok (.iconst 0, 1) := by decide +kernel
theorem dL_law_19 : decode cL_law 19 = .ok (.istore 4, 2) := by decide +kernel
theorem dL_law_21 : decode cL_law 21 = .ok (.iload 4, 2) := by decide +kernel
theorem dL_law_23 : decode cL_law 23 = .ok (.bipush 14, 2) := by decide +kernel
theorem dL_law_25 : decode cL_law 25 = .ok (.if_icmp .ge 308, 3) := by decide +kernel
theorem dL_law_28 : decode cL_law 28 = .ok (.aload_n 0, 1) := by decide +kernel
theorem dL_law_29 : decode cL_law 29 = .ok (.iconst 2, 1) := by decide +kernel
theorem dL_law_30 : decode cL_law 30 = .ok (.iload 4, 2) := by decide +kernel
theorem dL_law_32 : decode cL_law 32 = .ok (.imul, 1) := by decide +kernel
theorem dL_law_33 : decode cL_law 33 = .ok (.invokestatic 75, 3) := by decide +kernel
theorem dL_law_36 : decode cL_law 36 = .ok (.ldc 79, 2) := by decide +kernel
theorem dL_law_38 : decode cL_law 38 = .ok (.iand, 1) := by decide +kernel
theorem dL_law_39 : decode cL_law 39 = .ok (.istore 5, 2) := by decide +kernel
theorem dL_law_41 : decode cL_law 41 = .ok (.aload_n 0, 1) := by decide +kernel
theorem dL_law_42 : decode cL_law 42 = .ok (.iconst 2, 1) := by decide +kernel
theorem dL_law_43 : decode cL_law 43 = .ok (.iload 4, 2) := by decide +kernel
theorem dL_law_45 : decode cL_law 45 = .ok (.imul, 1) := by decide +kernel
theorem dL_law_46 : decode cL_law 46 = .ok (.iconst 1, 1) := by decide +kernel
theorem dL_law_47 : decode cL_law 47 = .ok (.iadd, 1) := by decide +kernel
theorem dL_law_48 : decode cL_law 48 = .ok (.invokestatic 75, 3) := by decide +kernel
theorem dL_law_51 : decode cL_law 51 = .ok (.ldc 79, 2) := by decide +kernel
theorem dL_law_53 : decode cL_law 53 = .ok (.iand, 1) := by decide +kernel
theorem dL_law_54 : decode cL_law 54 = .ok (.istore 6, 2) := by decide +kernel
theorem dL_law_56 : decode cL_law 56 = .ok (.aload_n 1, 1) := by decide +kernel
theorem dL_law_57 : decode cL_law 57 = .ok (.invokevirtual 14, 3) := by decide +kernel
theorem dL_law_60 : decode cL_law 60 = .ok (.bipush 10, 2) := by decide +kernel
theorem dL_law_62 : decode cL_law 62 = .ok (.if_icmp .ge 71, 3) := by decide +kernel
theorem dL_law_65 : decode cL_law 65 = .ok (.iload 4, 2) := by decide +kernel
theorem dL_law_67 : decode cL_law 67 = .ok (.iconst 3, 1) := by decide +kernel
theorem dL_law_68 : decode cL_law 68 = .ok (.if_icmp .lt 12, 3) := by decide +kernel
theorem dL_law_71 : decode cL_law 71 = .ok (.iload 5, 2) := by decide +kernel
theorem dL_law_73 : decode cL_law 73 = .ok (.iconst 2, 1) := by decide +kernel
theorem dL_law_74 : decode cL_law 74 = .ok (.invokestatic 55, 3) := by decide +kernel
theorem dL_law_77 : decode cL_law 77 = .ok (.ifCond .ne 56, 3) := by decide +kernel
theorem dL_law_80 : decode cL_law 80 = .ok (.aload_n 1, 1) := by decide +kernel
theorem dL_law_81 : decode cL_law 81 = .ok (.invokevirtual 14, 3) := by decide +kernel
theorem dL_law_84 : decode cL_law 84 = .ok (.istore 7, 2) := by decide +kernel
theorem dL_law_86 : decode cL_law 86 = .ok (.aload_n 3, 1) := by decide +kernel
theorem dL_law_87 : decode cL_law 87 = .ok (.iload 7, 2) := by decide +kernel
theorem dL_law_89 : decode cL_law 89 = .ok (.iload 5, 2) := by decide +kernel
theorem dL_law_91 : decode cL_law 91 = .ok (.iconst 3, 1) := by decide +kernel
theorem dL_law_92 : decode cL_law 92 = .ok (.ishr, 1) := by decide +kernel
theorem dL_law_93 : decode cL_law 93 = .ok (.bipush 40, 2) := by decide +kernel
theorem dL_law_95 : decode cL_law 95 = .ok (.invokestatic 55, 3) := by decide +kernel
theorem dL_law_98 : decode cL_law 98 = .ok (.iastore, 1) := by decide +kernel
theorem dL_law_99 : decode cL_law 99 = .ok (.aload_n 1, 1) := by decide +kernel
theorem dL_law_100 : decode cL_law 100 = .ok (.iload 6, 2) := by decide +kernel
theorem dL_law_102 : decode cL_law 102 = .ok (.sipush 900, 3) := by decide +kernel
theorem dL_law_105 : decode cL_law 105 = .ok (.invokestatic 55, 3) := by decide +kernel
theorem dL_law_108 : decode cL_law 108 = .ok (.iload 6, 2) := by decide +kernel
theorem dL_law_110 : decode cL_law 110 = .ok (.bipush 9, 2) := by decide +kernel
theorem dL_law_112 : decode cL_law 112 = .ok (.ishr, 1) := by decide +kernel
theorem dL_law_113 : decode cL_law 113 = .ok (.sipush 800, 3) := by decide +kernel
theorem dL_law_116 : decode cL_law 116 = .ok (.invokestatic 55, 3) := by decide +kernel
theorem dL_law_119 : decode cL_law 119 = .ok (.aload_n 3, 1) := by decide +kernel
theorem dL_law_120 : decode cL_law 120 = .ok (.iload 7, 2) := by decide +kernel
theorem dL_law_122 : decode cL_law 122 = .ok (.iaload, 1) := by decide +kernel
theorem dL_law_123 : decode cL_law 123 = .ok (.invokevirtual 80, 3) := by decide +kernel
theorem dL_law_126 : decode cL_law 126 = .ok (.iload 7, 2) := by decide +kernel
theorem dL_law_128 : decode cL_law 128 = .ok (.if_icmp .eq 5, 3) := by decide +kernel
theorem dL_law_131 : decode cL_law 131 = .ok (.iconst 0, 1) := by decide +kernel
theorem dL_law_132 : decode cL_law 132 = .ok (.ireturn, 1) := by decide +kernel
theorem dL_law_133 : decode cL_law 133 = .ok (.aload_n 1, 1) := by decide +kernel
theorem dL_law_134 : decode cL_law 134 = .ok (.iload 5, 2) := by decide +kernel
theorem dL_law_136 : decode cL_law 136 = .ok (.iload 6, 2) := by decide +kernel
theorem dL_law_138 : decode cL_law 138 = .ok (.aload_n 3, 1) := by decide +kernel
theorem dL_law_139 : decode cL_law 139 = .ok (.invokestatic 84, 3) := by decide +kernel
theorem dL_law_142 : decode cL_law 142 = .ok (.ifCond .ne 5, 3) := by decide +kernel
theorem dL_law_145 : decode cL_law 145 = .ok (.iconst 0, 1) := by decide +kernel
theorem dL_law_146 : decode cL_law 146 = .ok (.ireturn, 1) := by decide +kernel
theorem dL_law_147 : decode cL_law 147 = .ok (.iload 5, 2) := by decide +kernel
theorem dL_law_149 : decode cL_law 149 = .ok (.iconst 5, 1) := by decide +kernel
theorem dL_law_150 : decode cL_law 150 = .ok (.ishr, 1) := by decide +kernel
theorem dL_law_151 : decode cL_law 151 = .ok (.aload_n 1, 1) := by decide +kernel
theorem dL_law_152 : decode cL_law 152 = .ok (.invokevirtual 14, 3) := by decide +kernel
theorem dL_law_155 : decode cL_law 155 = .ok (.invokestatic 55, 3) := by decide +kernel
theorem dL_law_158 : decode cL_law 158 = .ok (.istore 7, 2) := by decide +kernel
theorem dL_law_160 : decode cL_law 160 = .ok (.aload_n 1, 1) := by decide +kernel
theorem dL_law_161 : decode cL_law 161 = .ok (.iload 7, 2) := by decide +kernel
theorem dL_law_163 : decode cL_law 163 = .ok (.invokevirtual 33, 3) := by decide +kernel
theorem dL_law_166 : decode cL_law 166 = .ok (.iconst 2, 1) := by decide +kernel
theorem dL_law_167 : decode cL_law 167 = .ok (.if_icmp .ge 64, 3) := by decide +kernel
theorem dL_law_170 : decode cL_law 170 = .ok (.aload_n 1, 1) := by decide +kernel
theorem dL_law_171 : decode cL_law 171 = .ok (.iload 7, 2) := by decide +kernel
theorem dL_law_173 : decode cL_law 173 = .ok (.iload 6, 2) := by decide +kernel
theorem dL_law_175 : decode cL_law 175 = .ok (.iconst 3, 1) := by decide +kernel
theorem dL_law_176 : decode cL_law 176 = .ok (.ishr, 1) := by decide +kernel
theorem dL_law_177 : decode cL_law 177 = .ok (.sipush 500, 3) := by decide +kernel
theorem dL_law_180 : decode cL_law 180 = .ok (.invokestatic 55, 3) := by decide +kernel
theorem dL_law_183 : decode cL_law 183 = .ok (.invokevirtual 88, 3) := by decide +kernel
theorem dL_law_186 : decode cL_law 186 = .ok (.pop, 1) := by decide +kernel
theorem dL_law_187 : decode cL_law 187 = .ok (.aload_n 1, 1) := by decide +kernel
theorem dL_law_188 : decode cL_law 188 = .ok (.iload 7, 2) := by decide +kernel
theorem dL_law_190 : decode cL_law 190 = .ok (.iload 6, 2) := by decide +kernel
theorem dL_law_192 : decode cL_law 192 = .ok (.iconst 5, 1) := by decide +kernel
theorem dL_law_193 : decode cL_law 193 = .ok (.ishr, 1) := by decide +kernel
theorem dL_law_194 : decode cL_law 194 = .ok (.sipush 1500, 3) := by decide +kernel
theorem dL_law_197 : decode cL_law 197 = .ok (.invokestatic 55, 3) := by decide +kernel
theorem dL_law_200 : decode cL_law 200 = .ok (.invokevirtual 91, 3) := by decide +kernel
theorem dL_law_203 : decode cL_law 203 = .ok (.pop, 1) := by decide +kernel
theorem dL_law_204 : decode cL_law 204 = .ok (.iload 5, 2) := by decide +kernel
theorem dL_law_206 : decode cL_law 206 = .ok (.bipush 9, 2) := by decide +kernel
theorem dL_law_208 : decode cL_law 208 = .ok (.ishr, 1) := by decide +kernel
theorem dL_law_209 : decode cL_law 209 = .ok (.iconst 5, 1) := by decide +kernel
theorem dL_law_210 : decode cL_law 210 = .ok (.invokestatic 55, 3) := by decide +kernel
theorem dL_law_213 : decode cL_law 213 = .ok (.ifCond .ne 18, 3) := by decide +kernel
theorem dL_law_216 : decode cL_law 216 = .ok (.aload_n 1, 1) := by decide +kernel
theorem dL_law_217 : decode cL_law 217 = .ok (.iload 7, 2) := by decide +kernel
theorem dL_law_219 : decode cL_law 219 = .ok (.invokevirtual 33, 3) := by decide +kernel
theorem dL_law_222 : decode cL_law 222 = .ok (.ifCond .ne 9, 3) := by decide +kernel
theorem dL_law_225 : decode cL_law 225 = .ok (.aload_n 1, 1) := by decide +kernel
theorem dL_law_226 : decode cL_law 226 = .ok (.iload 7, 2) := by decide +kernel
theorem dL_law_228 : decode cL_law 228 = .ok (.invokevirtual 94, 3) := by decide +kernel
theorem dL_law_231 : decode cL_law 231 = .ok (.aload_n 1, 1) := by decide +kernel
theorem dL_law_232 : decode cL_law 232 = .ok (.iload 5, 2) := by decide +kernel
theorem dL_law_234 : decode cL_law 234 = .ok (.bipush 6, 2) := by decide +kernel
theorem dL_law_236 : decode cL_law 236 = .ok (.ishr, 1) := by decide +kernel
theorem dL_law_237 : decode cL_law 237 = .ok (.sipush 700, 3) := by decide +kernel
theorem dL_law_240 : decode cL_law 240 = .ok (.invokestatic 55, 3) := by decide +kernel
theorem dL_law_243 : decode cL_law 243 = .ok (.invokevirtual 98, 3) := by decide +kernel
theorem dL_law_246 : decode cL_law 246 = .ok (.pop, 1) := by decide +kernel
theorem dL_law_247 : decode cL_law 247 = .ok (.aload_n 1, 1) := by decide +kernel
theorem dL_law_248 : decode cL_law 248 = .ok (.invokestatic 101, 3) := by decide +kernel
theorem dL_law_251 : decode cL_law 251 = .ok (.ifCond .ne 5, 3) := by decide +kernel
theorem dL_law_254 : decode cL_law 254 = .ok (.iconst 0, 1) := by decide +kernel
theorem dL_law_255 : decode cL_law 255 = .ok (.ireturn, 1) := by decide +kernel
theorem dL_law_256 : decode cL_law 256 = .ok (.aload_n 1, 1) := by decide +kernel
theorem dL_law_257 : decode cL_law 257 = .ok (.iload 7, 2) := by decide +kernel
theorem dL_law_259 : decode cL_law 259 = .ok (.invokevirtual 33, 3) := by decide +kernel
theorem dL_law_262 : decode cL_law 262 = .ok (.iconst 1, 1) := by decide +kernel
theorem dL_law_263 : decode cL_law 263 = .ok (.if_icmp .gt 64, 3) := by decide +kernel
theorem dL_law_266 : decode cL_law 266 = .ok (.iload 6, 2) := by decide +kernel
end
section
theorem dL_law_268 : decode cL_law 268 = .ok (.iconst 3, 1) := by decide +kernel
theorem dL_law_269 : decode cL_law 269 = .ok (.invokestatic 55, 3) := by decide +kernel
theorem dL_law_272 : decode cL_law 272 = .ok (.ifCond .ne 6, 3) := by decide +kernel
theorem dL_law_275 : decode cL_law 275 = .ok (.goto 52, 3) := by decide +kernel
theorem dL_law_278 : decode cL_law 278 = .ok (.aload_n 1, 1) := by decide +kernel
theorem dL_law_279 : decode cL_law 279 = .ok (.iload 7, 2) := by decide +kernel
theorem dL_law_281 : decode cL_law 281 = .ok (.iconst 1, 1) := by decide +kernel
theorem dL_law_282 : decode cL_law 282 = .ok (.iload 6, 2) := by decide +kernel
theorem dL_law_284 : decode cL_law 284 = .ok (.bipush 7, 2) := by decide +kernel
theorem dL_law_286 : decode cL_law 286 = .ok (.ishr, 1) := by decide +kernel
theorem dL_law_287 : decode cL_law 287 = .ok (.bipush 6, 2) := by decide +kernel
theorem dL_law_289 : decode cL_law 289 = .ok (.invokestatic 55, 3) := by decide +kernel
theorem dL_law_292 : decode cL_law 292 = .ok (.iadd, 1) := by decide +kernel
theorem dL_law_293 : decode cL_law 293 = .ok (.invokestatic 105, 3) := by decide +kernel
theorem dL_law_296 : decode cL_law 296 = .ok (.istore 8, 2) := by decide +kernel
theorem dL_law_298 : decode cL_law 298 = .ok (.iload 8, 2) := by decide +kernel
theorem dL_law_300 : decode cL_law 300 = .ok (.ifCond .ge 5, 3) := by decide +kernel
theorem dL_law_303 : decode cL_law 303 = .ok (.iconst 0, 1) := by decide +kernel
theorem dL_law_304 : decode cL_law 304 = .ok (.ireturn, 1) := by decide +kernel
theorem dL_law_305 : decode cL_law 305 = .ok (.aload_n 1, 1) := by decide +kernel
theorem dL_law_306 : decode cL_law 306 = .ok (.iload 8, 2) := by decide +kernel
theorem dL_law_308 : decode cL_law 308 = .ok (.iload 5, 2) := by decide +kernel
theorem dL_law_310 : decode cL_law 310 = .ok (.iload 6, 2) := by decide +kernel
theorem dL_law_312 : decode cL_law 312 = .ok (.invokestatic 109, 3) := by decide +kernel
theorem dL_law_315 : decode cL_law 315 = .ok (.aload_n 1, 1) := by decide +kernel
theorem dL_law_316 : decode cL_law 316 = .ok (.iload 8, 2) := by decide +kernel
theorem dL_law_318 : decode cL_law 318 = .ok (.aload_n 2, 1) := by decide +kernel
theorem dL_law_319 : decode cL_law 319 = .ok (.invokestatic 113, 3) := by decide +kernel
theorem dL_law_322 : decode cL_law 322 = .ok (.ifCond .ne 5, 3) := by decide +kernel
theorem dL_law_325 : decode cL_law 325 = .ok (.iconst 0, 1) := by decide +kernel
theorem dL_law_326 : decode cL_law 326 = .ok (.ireturn, 1) := by decide +kernel
theorem dL_law_327 : decode cL_law 327 = .ok (.iinc 4 1, 3) := by decide +kernel
theorem dL_law_330 : decode cL_law 330 = .ok (.goto (-309), 3) := by decide +kernel
theorem dL_law_333 : decode cL_law 333 = .ok (.iconst 1, 1) := by decide +kernel
theorem dL_law_334 : decode cL_law 334 = .ok (.ireturn, 1) := by decide +kernel
end
section
/-! ===== calls by the number of arguments; reads with a value; loops ===== -/
section KM
variable {g : Gl} {own : String} {cc : ByteArray} {nL fr lo N : Nat} {ret : Option FieldType} {Ret : Option AV → St → Prop} {Thr : String → St → Prop} {K : KT} {n pc : Nat} {L : List (Option AV)} {st : List AV} {S : St}
theorem r_getV (M : Mk g own cc nL fr lo N K) {ix t k i : Nat} (d : decode cc pc = .ok (.getfield ix, 3)) (hF : Fk own ix t k) (hi : i < ctn t) (hr : rfp t k = none) (v : Int) (hv : S t i k = v) (kk : K n (pc + 3) L (vI v :: st) S) : K n pc L (vR t i :: st) S := by
  subst hv
  exact r_getI M d hF hi hr kk
theorem r_ialdV (M : Mk g own cc nL fr lo N K) {t i : Nat} {z : Int} (j : Nat) (d : decode cc pc = .ok (.iaload, 1)) (ht : kd t = 5 ∧ t < 13) (hi : i < ctn t) (hz : z = (j : Int)) (hj : j < nf t) (hnf : nf t ≤ 2147483647) (v : Int) (hv : S t i j = v) (kk : K n (pc + 1) L (vI v :: st) S) : K n pc L (vI z :: vR t i :: st) S := by
  subst hv
  exact r_iald M j d ht hi hz hj hnf kk
theorem k_S {S1 S2 : St} (h : K n pc L st S1) (e : S2 = S1) : K n pc L st S2 := e ▸ h
theorem k_St {st2 : List AV} (h : K n pc L st S) (e : st2 = st) : K n pc L st2 S := e ▸ h
theorem ret_S {v : Option AV} {S1 S2 : St} (h : Ret v S1) (e : S2 = S1) : Ret v S2 := e ▸ h
theorem ret_v {v w : Option AV} (h : Ret v S) (e : w = v) : Ret w S := e ▸ h
theorem ret_vS {v w : Option AV} {S1 S2 : St} (h : Ret v S1) (ev : w = v) (e : S2 = S1) : Ret w S2 := by
  subst ev; subst e
  exact h
theorem up_loop {P : Nat → Prop} {m : Nat} (hx : P m) (hs : ∀ l, l < m → P (l + 1) → P l) : ∀ l, l ≤ m → P l := by
  have h : ∀ r l, l + r = m → P l := by
    intro r
    induction r with
    | zero => intro l hl; rw [show l = m by omega]; exact hx
    | succ r ih => intro l hl; exact hs l (by omega) (ih (l + 1) (by omega))
  intro l hl
  exact h (m - l) l (by omega)
/-- a loop that may end early: P is kept while the test fails -/
theorem fz {P : Nat → Prop} {m : Nat} (hx : P m) (hs : ∀ l, l < m → P (l + 1) → P l) : P 0 := up_loop hx hs 0 (Nat.zero_le _)
theorem r_callV0 (M : Mach g own cc nL ret fr lo N Ret Thr K) {y : MethodName} {ccy : ByteArray} {nLy fry loy Ny ix t i : Nat} {rety : Option FieldType} {rst : List AV} (d : decode cc pc = .ok (.invokevirtual ix, 3)) (hc : Ck own ix y ccy nLy rety 0) (hv : Vk y) (hR : fry + 1 ≤ fr ∧ 8 + (nLy + 11) + loy ≤ lo ∧ n + Ny ≤ N)
    (ht : kd t < 5 ∧ t < 13 ∧ (vwCl[kd t]?).map (fun q => q.1) = some y.cls) (hi : i < ctn t) (hcat : (rst.map fun v => (cv g v).category).sum ≤ 8) (hC : Cn g y ccy nLy rety fry loy Ny [vR t i] S (fun v S' => K (n + Ny) (pc + 3) L (pv v rst) S') Thr) : K n pc L (vR t i :: rst) S := r_callV M (As := []) d hc hv rfl hR ht hi hcat hC
theorem r_callV1 (M : Mach g own cc nL ret fr lo N Ret Thr K) {y : MethodName} {ccy : ByteArray} {nLy fry loy Ny ix t i : Nat} {rety : Option FieldType} {a : AV} {rst : List AV} (d : decode cc pc = .ok (.invokevirtual ix, 3)) (hc : Ck own ix y ccy nLy rety 1) (hv : Vk y) (hR : fry + 1 ≤ fr ∧ 8 + (nLy + 11) + loy ≤ lo ∧ n + Ny ≤ N)
    (ht : kd t < 5 ∧ t < 13 ∧ (vwCl[kd t]?).map (fun q => q.1) = some y.cls) (hi : i < ctn t) (hcat : (rst.map fun v => (cv g v).category).sum ≤ 8) (hC : Cn g y ccy nLy rety fry loy Ny [vR t i, a] S (fun v S' => K (n + Ny) (pc + 3) L (pv v rst) S') Thr) : K n pc L (a :: vR t i :: rst) S := r_callV M (As := [a]) d hc hv rfl hR ht hi hcat hC
theorem r_callS1 (M : Mach g own cc nL ret fr lo N Ret Thr K) {y : MethodName} {ccy : ByteArray} {nLy fry loy Ny ix : Nat} {rety : Option FieldType} {a : AV} {rst : List AV} (d : decode cc pc = .ok (.invokestatic ix, 3)) (hl : Cond.methodLink own ix y ∈ WT) (hst9 : Cond.static y ∈ WT) (how : y.cls = own) (hc : Ck own ix y ccy nLy rety 1) (hR : fry + 1 ≤ fr ∧ 8 + (nLy + 11) + loy ≤ lo ∧ n + Ny ≤ N)
    (hcat : (rst.map fun v => (cv g v).category).sum ≤ 8) (hC : Cn g y ccy nLy rety fry loy Ny [a] S (fun v S' => K (n + Ny) (pc + 3) L (pv v rst) S') Thr) : K n pc L (a :: rst) S := r_callS M (As := [a]) d hl hst9 how hc rfl hR hcat hC
theorem r_callV2 (M : Mach g own cc nL ret fr lo N Ret Thr K) {y : MethodName} {ccy : ByteArray} {nLy fry loy Ny ix t i : Nat} {rety : Option FieldType} {a b : AV} {rst : List AV} (d : decode cc pc = .ok (.invokevirtual ix, 3)) (hc : Ck own ix y ccy nLy rety 2) (hv : Vk y) (hR : fry + 1 ≤ fr ∧ 8 + (nLy + 11) + loy ≤ lo ∧ n + Ny ≤ N)
    (ht : kd t < 5 ∧ t < 13 ∧ (vwCl[kd t]?).map (fun q => q.1) = some y.cls) (hi : i < ctn t) (hcat : (rst.map fun v => (cv g v).category).sum ≤ 8) (hC : Cn g y ccy nLy rety fry loy Ny [vR t i, a, b] S (fun v S' => K (n + Ny) (pc + 3) L (pv v rst) S') Thr) : K n pc L (b :: a :: vR t i :: rst) S := r_callV M (As := [a, b]) d hc hv rfl hR ht hi hcat hC
theorem r_callS2 (M : Mach g own cc nL ret fr lo N Ret Thr K) {y : MethodName} {ccy : ByteArray} {nLy fry loy Ny ix : Nat} {rety : Option FieldType} {a b : AV} {rst : List AV} (d : decode cc pc = .ok (.invokestatic ix, 3)) (hl : Cond.methodLink own ix y ∈ WT) (hst9 : Cond.static y ∈ WT) (how : y.cls = own) (hc : Ck own ix y ccy nLy rety 2) (hR : fry + 1 ≤ fr ∧ 8 + (nLy + 11) + loy ≤ lo ∧ n + Ny ≤ N)
    (hcat : (rst.map fun v => (cv g v).category).sum ≤ 8) (hC : Cn g y ccy nLy rety fry loy Ny [a, b] S (fun v S' => K (n + Ny) (pc + 3) L (pv v rst) S') Thr) : K n pc L (b :: a :: rst) S := r_callS M (As := [a, b]) d hl hst9 how hc rfl hR hcat hC
theorem r_callV3 (M : Mach g own cc nL ret fr lo N Ret Thr K) {y : MethodName} {ccy : ByteArray} {nLy fry loy Ny ix t i : Nat} {rety : Option FieldType} {a b c9 : AV} {rst : List AV} (d : decode cc pc = .ok (.invokevirtual ix, 3)) (hc : Ck own ix y ccy nLy rety 3) (hv : Vk y) (hR : fry + 1 ≤ fr ∧ 8 + (nLy + 11) + loy ≤ lo ∧ n + Ny ≤ N)
    (ht : kd t < 5 ∧ t < 13 ∧ (vwCl[kd t]?).map (fun q => q.1) = some y.cls) (hi : i < ctn t) (hcat : (rst.map fun v => (cv g v).category).sum ≤ 8) (hC : Cn g y ccy nLy rety fry loy Ny [vR t i, a, b, c9] S (fun v S' => K (n + Ny) (pc + 3) L (pv v rst) S') Thr) : K n pc L (c9 :: b :: a :: vR t i :: rst) S := r_callV M (As := [a, b, c9]) d hc hv rfl hR ht hi hcat hC
theorem r_callS3 (M : Mach g own cc nL ret fr lo N Ret Thr K) {y : MethodName} {ccy : ByteArray} {nLy fry loy Ny ix : Nat} {rety : Option FieldType} {a b c9 : AV} {rst : List AV} (d : decode cc pc = .ok (.invokestatic ix, 3)) (hl : Cond.methodLink own ix y ∈ WT) (hst9 : Cond.static y ∈ WT) (how : y.cls = own) (hc : Ck own ix y ccy nLy rety 3) (hR : fry + 1 ≤ fr ∧ 8 + (nLy + 11) + loy ≤ lo ∧ n + Ny ≤ N)
    (hcat : (rst.map fun v => (cv g v).category).sum ≤ 8) (hC : Cn g y ccy nLy rety fry loy Ny [a, b, c9] S (fun v S' => K (n + Ny) (pc + 3) L (pv v rst) S') Thr) : K n pc L (c9 :: b :: a :: rst) S := r_callS M (As := [a, b, c9]) d hl hst9 how hc rfl hR hcat hC
end KM
end
section
/-! ===== DefaultFund$Member ===== -/
section XMember
variable {g : Gl} {S : St} {Ret : Option AV → St → Prop} {Thr : String → St → Prop}
abbrev actv (S : St) (i : Nat) : Prop := S 4 i 3 = 0 ∨ S 4 i 3 = 1
/-- join: margin, share, room -/
def joinS (S : St) (i : Nat) (a b c : Int) : St := up3 (up3 (up3 S 4 i 4 a) 4 i 5 b) 4 i 6 c
theorem cn_join {i : Nat} (hi : i < 10) (a b c : Int) (h : Ret none (joinS S i a b c)) : Cn g yX1_join cX1_join 4 none 0 0 0 [vR 4 i, vI a, vI b, vI c] S Ret Thr := by
  refine enter (L := [some (vR 4 i), some (vI a), some (vI b), some (vI c)]) (by decide +kernel) (Nat.le_of_ble_eq_true rfl) rfl (fun K MM => ?_)
  have M := MM.mk
  refine r_aload_n M dX1_join_0 rfl ?_
  refine r_iload_n M dX1_join_1 rfl ?_
  refine r_putI M dX1_join_2 pk_X1_25 (show (_ : Nat) < 10 by omega) ?_
  refine r_aload_n M dX1_join_5 rfl ?_
  refine r_iload_n M dX1_join_6 rfl ?_
  refine r_putI M dX1_join_7 pk_X1_28 (show (_ : Nat) < 10 by omega) ?_
  refine r_aload_n M dX1_join_10 rfl ?_
  refine r_iload_n M dX1_join_11 rfl ?_
  refine r_putI M dX1_join_12 pk_X1_31 (show (_ : Nat) < 10 by omega) ?_
  refine r_vret MM dX1_join_15 ?_
  exact h
theorem cn_isActive {i : Nat} (hi : i < 10) (hr : -2147483648 ≤ S 4 i 3 ∧ S 4 i 3 ≤ 2147483647) (h1 : actv S i → Ret (some (vI 1)) S) (h0 : ¬ actv S i → Ret (some (vI 0)) S) : Cn g yX1_isActive cX1_isActive 1 (some .boolean) 0 0 0 [vR 4 i] S Ret Thr := by
  refine enter (L := [some (vR 4 i)]) (by decide +kernel) (Nat.le_of_ble_eq_true rfl) rfl (fun K MM => ?_)
  have M := MM.mk
  refine r_aload_n M dX1_isActive_0 rfl ?_
  refine r_getI M dX1_isActive_1 fk_X1_22 (show (_ : Nat) < 10 by omega) rfl ?_
  refine r_if_eq M dX1_isActive_4 (tgt := 15) rfl (by omega) (fun b4 => ?_) (fun b4 => ?_)
  · refine r_iconst M dX1_isActive_15 ?_
    refine r_goto M dX1_isActive_16 (tgt := 20) rfl ?_
    refine r_zret MM dX1_isActive_20 (by omega) ?_
    first | (exact h1 (by unfold actv; omega)) | (exact h0 (by unfold actv; omega))
  refine r_aload_n M dX1_isActive_7 rfl ?_
  refine r_getI M dX1_isActive_8 fk_X1_22 (show (_ : Nat) < 10 by omega) rfl ?_
  refine r_iconst M dX1_isActive_11 ?_
  refine r_icmp_ne M dX1_isActive_12 (tgt := 19) rfl (by omega) (fun b12 => ?_) (fun b12 => ?_)
  · refine r_iconst M dX1_isActive_19 ?_
    refine r_zret MM dX1_isActive_20 (by omega) ?_
    first | (exact h1 (by unfold actv; omega)) | (exact h0 (by unfold actv; omega))
  refine r_iconst M dX1_isActive_15 ?_
  refine r_goto M dX1_isActive_16 (tgt := 20) rfl ?_
  refine r_zret MM dX1_isActive_20 (by omega) ?_
  first | (exact h1 (by unfold actv; omega)) | (exact h0 (by unfold actv; omega))
theorem cn_freeRoom {i : Nat} (hi : i < 10) (h : Ret (some (vI (S 4 i 6 - S 4 i 2))) S) : Cn g yX1_freeRoom cX1_freeRoom 1 (some .int) 0 0 0 [vR 4 i] S Ret Thr := by
  refine enter (L := [some (vR 4 i)]) (by decide +kernel) (Nat.le_of_ble_eq_true rfl) rfl (fun K MM => ?_)
  have M := MM.mk
  refine r_aload_n M dX1_freeRoom_0 rfl ?_
  refine r_getI M dX1_freeRoom_1 fk_X1_31 (show (_ : Nat) < 10 by omega) rfl ?_
  refine r_aload_n M dX1_freeRoom_4 rfl ?_
  refine r_getI M dX1_freeRoom_5 fk_X1_19 (show (_ : Nat) < 10 by omega) rfl ?_
  refine r_isub M dX1_freeRoom_8 ?_
  refine r_iret MM dX1_freeRoom_9 ?_
  exact h
def takeS (S : St) (i : Nat) (lots : Int) : St := up3 (up3 (up3 S 5 i (S 4 i 1).toNat lots) 4 i 1 (S 4 i 1 + 1)) 4 i 2 (S 4 i 2 + lots)
abbrev taken (S : St) (i : Nat) (lots : Int) : Prop := lots ≤ S 4 i 6 - S 4 i 2 ∧ S 4 i 1 < 100
theorem cn_takesClient {i : Nat} (hi : i < 10) {lots : Int} (hl : 0 ≤ lots ∧ lots ≤ 1000) (hc : 0 ≤ S 4 i 1 ∧ S 4 i 1 ≤ 100) (hm : 0 ≤ S 4 i 2 ∧ S 4 i 2 ≤ 1000) (hr : 0 ≤ S 4 i 6 ∧ S 4 i 6 ≤ 1000) (h1 : taken S i lots → Ret (some (vI 1)) (takeS S i lots)) (h0 : ¬ taken S i lots → Ret (some (vI 0)) S) : Cn g yX1_takesClient cX1_takesClient 2 (some .boolean) 1 20 0 [vR 4 i, vI lots] S Ret Thr := by
  refine enter (L := [some (vR 4 i), some (vI lots)]) (by decide +kernel) (Nat.le_of_ble_eq_true rfl) rfl (fun K MM => ?_)
  have M := MM.mk
  refine r_iload_n M dX1_takesClient_0 rfl ?_
  refine r_aload_n M dX1_takesClient_1 rfl ?_
  refine r_callV0 MM dX1_takesClient_2 ck_X1_53 vk_X1_freeRoom ⟨by omega, by omega, by omega⟩ ⟨by decide, by decide, rfl⟩ (show (_ : Nat) < 10 by omega) (Nat.le_of_ble_eq_true rfl) (cn_freeRoom hi ?_)
  refine r_icmp_gt M dX1_takesClient_5 (tgt := 17) rfl (by omega) (fun b5 => ?_) (fun b5 => ?_)
  · refine r_iconst M dX1_takesClient_17 ?_
    refine r_zret MM dX1_takesClient_18 (by omega) ?_
    first | (exact h0 (by unfold taken; omega))
  refine r_aload_n M dX1_takesClient_8 rfl ?_
  refine r_getI M dX1_takesClient_9 fk_X1_15 (show (_ : Nat) < 10 by omega) rfl ?_
  refine r_bipush M dX1_takesClient_12 rfl ?_
  refine r_icmp_lt M dX1_takesClient_14 (tgt := 19) rfl (by omega) (fun b14 => ?_) (fun b14 => ?_)
  · refine r_aload_n M dX1_takesClient_19 rfl ?_
    refine r_getR M dX1_takesClient_20 fk_X1_9 (show (_ : Nat) < 10 by omega) rfl ?_
    refine r_aload_n M dX1_takesClient_23 rfl ?_
    refine r_getI M dX1_takesClient_24 fk_X1_15 (show (_ : Nat) < 10 by omega) rfl ?_
    refine r_iload_n M dX1_takesClient_27 rfl ?_
    refine r_iast M ((S 4 i 1).toNat) dX1_takesClient_28 ⟨rfl, by decide⟩ (show (_ : Nat) < 10 by omega) (by omega) (show (_ : Nat) < 100 by omega) (Nat.le_of_ble_eq_true rfl) ?_
    refine r_aload_n M dX1_takesClient_29 rfl ?_
    refine r_dupR M dX1_takesClient_30 ?_
    refine r_getV M dX1_takesClient_31 fk_X1_15 (show (_ : Nat) < 10 by omega) rfl (S 4 i 1) (by simp [up3]) ?_
    refine r_iconst M dX1_takesClient_34 ?_
    refine r_iadd M dX1_takesClient_35 ?_
    refine r_putI M dX1_takesClient_36 pk_X1_15 (show (_ : Nat) < 10 by omega) ?_
    refine r_aload_n M dX1_takesClient_39 rfl ?_
    refine r_dupR M dX1_takesClient_40 ?_
    refine r_getV M dX1_takesClient_41 fk_X1_19 (show (_ : Nat) < 10 by omega) rfl (S 4 i 2) (by simp [up3]) ?_
    refine r_iload_n M dX1_takesClient_44 rfl ?_
    refine r_iadd M dX1_takesClient_45 ?_
    refine r_putI M dX1_takesClient_46 pk_X1_19 (show (_ : Nat) < 10 by omega) ?_
    refine r_iconst M dX1_takesClient_49 ?_
    refine r_zret MM dX1_takesClient_50 (by omega) ?_
    exact h1 (by unfold taken; omega)
  refine r_iconst M dX1_takesClient_17 ?_
  refine r_zret MM dX1_takesClient_18 (by omega) ?_
  first | (exact h0 (by unfold taken; omega))
def dropS (S : St) (i : Nat) : St := up3 (up3 S 4 i 1 0) 4 i 2 0
theorem cn_dropClients {i : Nat} (hi : i < 10) (h : Ret none (dropS S i)) : Cn g yX1_dropClients cX1_dropClients 1 none 0 0 0 [vR 4 i] S Ret Thr := by
  refine enter (L := [some (vR 4 i)]) (by decide +kernel) (Nat.le_of_ble_eq_true rfl) rfl (fun K MM => ?_)
  have M := MM.mk
  refine r_aload_n M dX1_dropClients_0 rfl ?_
  refine r_iconst M dX1_dropClients_1 ?_
  refine r_putI M dX1_dropClients_2 pk_X1_15 (show (_ : Nat) < 10 by omega) ?_
  refine r_aload_n M dX1_dropClients_5 rfl ?_
  refine r_iconst M dX1_dropClients_6 ?_
  refine r_putI M dX1_dropClients_7 pk_X1_19 (show (_ : Nat) < 10 by omega) ?_
  refine r_vret MM dX1_dropClients_10 ?_
  exact h
theorem cn_raiseShare {i : Nat} (hi : i < 10) {p : Int} (hp : 0 ≤ p ∧ p ≤ 100000000) (hs : 0 ≤ S 4 i 5 ∧ S 4 i 5 ≤ 100000000) (h : Ret (some (vI (max 0 (p - S 4 i 5)))) (up3 S 4 i 5 (S 4 i 5 + max 0 (p - S 4 i 5)))) : Cn g yX1_raiseShare cX1_raiseShare 3 (some .int) 1 21 0 [vR 4 i, vI p] S Ret Thr := by
  refine enter (L := [some (vR 4 i), some (vI p), none]) (by decide +kernel) (Nat.le_of_ble_eq_true rfl) rfl (fun K MM => ?_)
  have M := MM.mk
  refine r_iconst M dX1_raiseShare_0 ?_
  refine r_iload_n M dX1_raiseShare_1 rfl ?_
  refine r_aload_n M dX1_raiseShare_2 rfl ?_
  refine r_getI M dX1_raiseShare_3 fk_X1_28 (show (_ : Nat) < 10 by omega) rfl ?_
  refine r_isub M dX1_raiseShare_6 ?_
  refine r_max M dX1_raiseShare_7 mm_X1_57 (by omega) ⟨by omega, by omega⟩ (Nat.le_of_ble_eq_true rfl) ?_
  refine r_istore_2 M dX1_raiseShare_10 (by decide) rfl ?_
  refine r_aload_n M dX1_raiseShare_11 rfl ?_
  refine r_dupR M dX1_raiseShare_12 ?_
  refine r_getI M dX1_raiseShare_13 fk_X1_28 (show (_ : Nat) < 10 by omega) rfl ?_
  refine r_iload_n M dX1_raiseShare_16 rfl ?_
  refine r_iadd M dX1_raiseShare_17 ?_
  refine r_putI M dX1_raiseShare_18 pk_X1_28 (show (_ : Nat) < 10 by omega) ?_
  refine r_iload_n M dX1_raiseShare_21 rfl ?_
  refine r_iret MM dX1_raiseShare_22 ?_
  exact h
theorem cn_raiseV {i : Nat} {v : Int} (hi : i < 10) {p : Int} (hp : 0 ≤ p ∧ p ≤ 100000000) (hv : S 4 i 5 = v) (hs : 0 ≤ v ∧ v ≤ 100000000) (h : Ret (some (vI (max 0 (p - v)))) (up3 S 4 i 5 (v + max 0 (p - v)))) : Cn g yX1_raiseShare cX1_raiseShare 3 (some .int) 1 21 0 [vR 4 i, vI p] S Ret Thr := by
  subst hv
  exact cn_raiseShare hi hp hs h
def loseS (S : St) (i : Nat) : St := dropS (up3 (up3 (up3 S 4 i 4 0) 4 i 5 0) 4 i 7 0) i
theorem cn_loseAll {i : Nat} (hi : i < 10) (h : Ret none (loseS S i)) : Cn g yX1_loseAll cX1_loseAll 1 none 1 20 0 [vR 4 i] S Ret Thr := by
  refine enter (L := [some (vR 4 i)]) (by decide +kernel) (Nat.le_of_ble_eq_true rfl) rfl (fun K MM => ?_)
  have M := MM.mk
  refine r_aload_n M dX1_loseAll_0 rfl ?_
  refine r_iconst M dX1_loseAll_1 ?_
  refine r_putI M dX1_loseAll_2 pk_X1_25 (show (_ : Nat) < 10 by omega) ?_
  refine r_aload_n M dX1_loseAll_5 rfl ?_
  refine r_iconst M dX1_loseAll_6 ?_
  refine r_putI M dX1_loseAll_7 pk_X1_28 (show (_ : Nat) < 10 by omega) ?_
  refine r_aload_n M dX1_loseAll_10 rfl ?_
  refine r_iconst M dX1_loseAll_11 ?_
  refine r_putI M dX1_loseAll_12 pk_X1_34 (show (_ : Nat) < 10 by omega) ?_
  refine r_aload_n M dX1_loseAll_15 rfl ?_
  refine r_callV0 MM dX1_loseAll_16 ck_X1_63 vk_X1_dropClients ⟨by omega, by omega, by omega⟩ ⟨by decide, by decide, rfl⟩ (show (_ : Nat) < 10 by omega) (Nat.le_of_ble_eq_true rfl) (cn_dropClients hi ?_)
  refine r_vret MM dX1_loseAll_19 ?_
  exact h
end XMember
end
section
/-! ===== how an amount is parted, in whole numbers ===== -/
def updI (p : Nat → Int) (k : Nat) (v : Int) : Nat → Int := fun j => if j = k then v else p j
abbrev ct (w b p : Nat → Int) (k : Nat) : Prop := 0 < w k ∧ p k < b k
def tkN (w b p : Nat → Int) : Nat → Int
  | 0 => 0
  | m + 1 => if ct w b p m then tkN w b p m + 1 else tkN w b p m
def rdN (w b p : Nat → Int) (left : Int) : Nat → Int
  | 0 => left
  | m + 1 => if ct w b p m then min (rdN w b p left m) (b m - p m) else rdN w b p left m
def rounds (w b p : Nat → Int) (left : Int) : Int := if tkN w b p 10 = 0 then 0 else max 1 (min (rdN w b p left 10) (left / tkN w b p 10))
def gvN (w b : Nat → Int) (coins : Int) (p : Nat → Int) (left : Int) : Nat → (Nat → Int) × Int
  | 0 => (p, left)
  | m + 1 => if ct w b (gvN w b coins p left m).1 m ∧ coins ≤ (gvN w b coins p left m).2 then (updI (gvN w b coins p left m).1 m ((gvN w b coins p left m).1 m + coins), (gvN w b coins p left m).2 - coins) else gvN w b coins p left m
def stk1 (w b : Nat → Int) (x : (Nat → Int) × Int) : (Nat → Int) × Int := gvN w b (rounds w b x.1 x.2) x.1 x.2 10
def strokes (w b : Nat → Int) (x : (Nat → Int) × Int) : Nat → (Nat → Int) × Int
  | 0 => x
  | n + 1 => if 0 < (strokes w b x n).2 then stk1 w b (strokes w b x n) else strokes w b x n
theorem strokes_succ (w b : Nat → Int) (x : (Nat → Int) × Int) (n : Nat) : strokes w b x (n + 1) = if 0 < (strokes w b x n).2 then stk1 w b (strokes w b x n) else strokes w b x n := rfl
theorem gvN_succ (w b : Nat → Int) (coins : Int) (p : Nat → Int) (left : Int) (m : Nat) : gvN w b coins p left (m + 1) = if ct w b (gvN w b coins p left m).1 m ∧ coins ≤ (gvN w b coins p left m).2 then (updI (gvN w b coins p left m).1 m ((gvN w b coins p left m).1 m + coins), (gvN w b coins p left m).2 - coins) else gvN w b coins p left m := rfl
def smN (f : Nat → Int) : Nat → Int
  | 0 => 0
  | m + 1 => smN f m + f m
theorem tkN_rng (w b p : Nat → Int) : ∀ m, 0 ≤ tkN w b p m ∧ tkN w b p m ≤ m
  | 0 => ⟨Int.le_refl _, Int.le_refl _⟩
  | m + 1 => by
    have h := tkN_rng w b p m
    unfold tkN
    split <;> omega
theorem tkN_z {w b p : Nat → Int} : ∀ {m k : Nat}, tkN w b p m = 0 → k < m → ¬ ct w b p k
  | m + 1, k, h, hk => by
    have h2 := tkN_rng w b p m
    unfold tkN at h
    split at h
    · omega
    · rename_i hc
      by_cases e : k = m
      · subst e; exact hc
      · exact tkN_z h (by omega)
theorem rdN_le (w b p : Nat → Int) (left : Int) : ∀ m, rdN w b p left m ≤ left
  | 0 => Int.le_refl _
  | m + 1 => by
    have h := rdN_le w b p left m
    unfold rdN
    split <;> omega
theorem rdN_nn (w b p : Nat → Int) {left : Int} (hl : 0 ≤ left) : ∀ m, 0 ≤ rdN w b p left m
  | 0 => hl
  | m + 1 => by
    have h := rdN_nn w b p hl m
    unfold rdN
    split
    · rename_i hc
      have := hc.2
      omega
    · exact h
theorem rdN_ct {w b p : Nat → Int} {left : Int} : ∀ {m k : Nat}, k < m → ct w b p k → rdN w b p left m ≤ b k - p k
  | m + 1, k, hk, hc => by
    unfold rdN
    by_cases e : k = m
    · subst e
      rw [if_pos hc]
      omega
    · have h := rdN_ct (left := left) (show k < m by omega) hc
      split <;> omega
theorem rounds_ct {w b p : Nat → Int} {left : Int} (hl : 0 < left) {k : Nat} (hk : k < 10) (hc : ct w b p k) : 1 ≤ rounds w b p left ∧ rounds w b p left ≤ b k - p k := by
  have h1 : ¬ tkN w b p 10 = 0 := fun q => tkN_z q hk hc
  have h2 := rdN_ct (left := left) hk hc
  have h3 := hc.2
  unfold rounds
  rw [if_neg h1]
  omega
theorem gvN_hi (w b : Nat → Int) (coins : Int) (p : Nat → Int) (left : Int) : ∀ (m k : Nat), m ≤ k → (gvN w b coins p left m).1 k = p k
  | 0, _, _ => rfl
  | m + 1, k, h => by
    have h1 := gvN_hi w b coins p left m k (by omega)
    unfold gvN
    split
    · show updI _ m _ k = _
      unfold updI
      rw [if_neg (by omega)]
      exact h1
    · exact h1
/-- what holds of parts and rest -/
def okP (b : Nat → Int) (x : (Nat → Int) × Int) : Prop := (∀ k, k < 10 → 0 ≤ x.1 k ∧ x.1 k ≤ b k) ∧ 0 ≤ x.2 ∧ x.2 ≤ 1000000000
theorem gvN_ok {w b : Nat → Int} {x : (Nat → Int) × Int} (hx : okP b x) (hl : 0 < x.2) : ∀ m, m ≤ 10 → okP b (gvN w b (rounds w b x.1 x.2) x.1 x.2 m)
  | 0, _ => hx
  | m + 1, hm => by
    have h := gvN_ok (w := w) hx hl m (by omega)
    have e := gvN_hi w b (rounds w b x.1 x.2) x.1 x.2 m m (Nat.le_refl _)
    unfold gvN
    split
    · rename_i hc
      have hc1 : ct w b x.1 m := ⟨hc.1.1, by have := hc.1.2; rw [e] at this; exact this⟩
      have hr := rounds_ct hl (by omega) hc1
      have hxm := hx.1 m (by omega)
      refine ⟨fun k hk => ?_, ?_, ?_⟩
      · show 0 ≤ updI _ m _ k ∧ updI _ m _ k ≤ _
        unfold updI
        by_cases ek : k = m
        · subst ek
          rw [if_pos rfl, e]
          omega
        · rw [if_neg ek]
          exact h.1 k hk
      · have := hc.2
        show 0 ≤ _ - _
        omega
      · have := h.2.2
        show _ - _ ≤ _
        omega
    · exact h
theorem strokes_ok {w b : Nat → Int} {x : (Nat → Int) × Int} (hx : okP b x) : ∀ n, okP b (strokes w b x n)
  | 0 => hx
  | n + 1 => by
    have h := strokes_ok (w := w) hx n
    unfold strokes
    split
    · rename_i hl
      exact gvN_ok h hl 10 (Nat.le_refl _)
    · exact h
/-- the array of parts is p -/
def wp (S : St) (p : Nat → Int) : St := upT S 10 0 p
theorem wp_self (S : St) : wp S (S 10 0) = S := by
  funext a b c
  unfold wp upT
  split
  · rename_i h; rw [h.1, h.2]
  · rfl
theorem wp_10 (S : St) (p : Nat → Int) : wp S p 10 0 = p := by
  unfold wp upT
  rw [if_pos ⟨rfl, rfl⟩]
theorem wp_ne (S : St) (p : Nat → Int) {t i : Nat} (h : ¬ t = 10) : wp S p t i = S t i := by
  unfold wp upT
  rw [if_neg (fun q => h q.1)]
theorem wp_up (S : St) (p : Nat → Int) (k : Nat) (v : Int) : up3 (wp S p) 10 0 k v = wp S (updI p k v) := by
  funext a b c
  unfold up3 wp upT updI
  by_cases h : a = 10 ∧ b = 0
  · obtain ⟨rfl, rfl⟩ := h
    by_cases hc : c = k <;> simp [hc]
  · simp only [if_neg h, if_neg (fun q : a = 10 ∧ b = 0 ∧ c = k => h ⟨q.1, q.2.1⟩)]
/-! ===== DefaultFund$Parting ===== -/
section XParting
variable {g : Gl} {S : St} {Ret : Option AV → St → Prop} {Thr : String → St → Prop}
def enterS (S : St) (k : Nat) (w b : Int) : St := up3 (up3 S 8 0 k w) 9 0 k b
theorem cn_enter {k : Nat} (hk : k < 10) (w b : Int) (h : Ret none (enterS S k w b)) : Cn g yX2_enter cX2_enter 4 none 0 0 0 [vR 3 0, vI (k : Int), vI w, vI b] S Ret Thr := by
  refine enter (L := [some (vR 3 0), some (vI (k : Int)), some (vI w), some (vI b)]) (by decide +kernel) (Nat.le_of_ble_eq_true rfl) rfl (fun K MM => ?_)
  have M := MM.mk
  refine r_aload_n M dX2_enter_0 rfl ?_
  refine r_getR M dX2_enter_1 fk_X2_9 (by decide) rfl ?_
  refine r_iload_n M dX2_enter_4 rfl ?_
  refine r_iload_n M dX2_enter_5 rfl ?_
  refine r_iast M (_) dX2_enter_6 ⟨rfl, by decide⟩ (by decide) rfl (show (_ : Nat) < 10 by omega) (Nat.le_of_ble_eq_true rfl) ?_
  refine r_aload_n M dX2_enter_7 rfl ?_
  refine r_getR M dX2_enter_8 fk_X2_15 (by decide) rfl ?_
  refine r_iload_n M dX2_enter_11 rfl ?_
  refine r_iload_n M dX2_enter_12 rfl ?_
  refine r_iast M (_) dX2_enter_13 ⟨rfl, by decide⟩ (by decide) rfl (show (_ : Nat) < 10 by omega) (Nat.le_of_ble_eq_true rfl) ?_
  refine r_vret MM dX2_enter_14 ?_
  exact h
theorem cn_partOf {k : Nat} (hk : k < 10) (h : Ret (some (vI (S 10 0 k))) S) : Cn g yX2_partOf cX2_partOf 2 (some .int) 0 0 0 [vR 3 0, vI (k : Int)] S Ret Thr := by
  refine enter (L := [some (vR 3 0), some (vI (k : Int))]) (by decide +kernel) (Nat.le_of_ble_eq_true rfl) rfl (fun K MM => ?_)
  have M := MM.mk
  refine r_aload_n M dX2_partOf_0 rfl ?_
  refine r_getR M dX2_partOf_1 fk_X2_18 (by decide) rfl ?_
  refine r_iload_n M dX2_partOf_4 rfl ?_
  refine r_iald M (_) dX2_partOf_5 ⟨rfl, by decide⟩ (by decide) rfl (show (_ : Nat) < 10 by omega) (Nat.le_of_ble_eq_true rfl) ?_
  refine r_iret MM dX2_partOf_6 ?_
  exact h
/-- the three arrays' numbers are small -/
def smP (S : St) : Prop := ∀ k, k < 10 → (0 ≤ S 8 0 k ∧ S 8 0 k ≤ 100000000) ∧ (0 ≤ S 9 0 k ∧ S 9 0 k ≤ 100000000) ∧ 0 ≤ S 10 0 k ∧ S 10 0 k ≤ 1000000000
theorem cn_canTake {w b p : Nat → Int} (e8 : S 8 0 = w) (e9 : S 9 0 = b) (e10 : S 10 0 = p) {k : Nat} (hk : k < 10) (hS : smP S) (h1 : ct w b p k → Ret (some (vI 1)) S) (h0 : ¬ ct w b p k → Ret (some (vI 0)) S) : Cn g yX2_canTake cX2_canTake 2 (some .boolean) 0 0 0 [vR 3 0, vI (k : Int)] S Ret Thr := by
  refine enter (L := [some (vR 3 0), some (vI (k : Int))]) (by decide +kernel) (Nat.le_of_ble_eq_true rfl) rfl (fun K MM => ?_)
  have M := MM.mk
  have hs := hS k hk
  subst e8; subst e9; subst e10
  refine r_aload_n M dX2_canTake_0 rfl ?_
  refine r_getR M dX2_canTake_1 fk_X2_9 (by decide) rfl ?_
  refine r_iload_n M dX2_canTake_4 rfl ?_
  refine r_iald M (_) dX2_canTake_5 ⟨rfl, by decide⟩ (by decide) rfl (show (_ : Nat) < 10 by omega) (Nat.le_of_ble_eq_true rfl) ?_
  refine r_if_le M dX2_canTake_6 (tgt := 28) rfl (by omega) (fun b6 => ?_) (fun b6 => ?_)
  · refine r_iconst M dX2_canTake_28 ?_
    refine r_zret MM dX2_canTake_29 (by omega) ?_
    first | (exact h1 ⟨by omega, by omega⟩) | (exact h0 (fun q => by have := q.1; have := q.2; omega))
  refine r_aload_n M dX2_canTake_9 rfl ?_
  refine r_getR M dX2_canTake_10 fk_X2_18 (by decide) rfl ?_
  refine r_iload_n M dX2_canTake_13 rfl ?_
  refine r_iald M (_) dX2_canTake_14 ⟨rfl, by decide⟩ (by decide) rfl (show (_ : Nat) < 10 by omega) (Nat.le_of_ble_eq_true rfl) ?_
  refine r_aload_n M dX2_canTake_15 rfl ?_
  refine r_getR M dX2_canTake_16 fk_X2_15 (by decide) rfl ?_
  refine r_iload_n M dX2_canTake_19 rfl ?_
  refine r_iald M (_) dX2_canTake_20 ⟨rfl, by decide⟩ (by decide) rfl (show (_ : Nat) < 10 by omega) (Nat.le_of_ble_eq_true rfl) ?_
  refine r_icmp_ge M dX2_canTake_21 (tgt := 28) rfl (by omega) (fun b21 => ?_) (fun b21 => ?_)
  · refine r_iconst M dX2_canTake_28 ?_
    refine r_zret MM dX2_canTake_29 (by omega) ?_
    first | (exact h1 ⟨by omega, by omega⟩) | (exact h0 (fun q => by have := q.1; have := q.2; omega))
  refine r_iconst M dX2_canTake_24 ?_
  refine r_goto M dX2_canTake_25 (tgt := 29) rfl ?_
  refine r_zret MM dX2_canTake_29 (by omega) ?_
  first | (exact h1 ⟨by omega, by omega⟩) | (exact h0 (fun q => by have := q.1; have := q.2; omega))
theorem cn_rounds {w b p : Nat → Int} (e8 : S 8 0 = w) (e9 : S 9 0 = b) (e10 : S 10 0 = p) {left : Int} (hl : 0 < left ∧ left ≤ 1000000000) (hS : smP S) (h : Ret (some (vI (rounds w b p left))) S) : Cn g yX2_roundsAtAStroke cX2_roundsAtAStroke 5 (some .int) 1 21 0 [vR 3 0, vI left] S Ret Thr := by
  refine enter (L := [some (vR 3 0), some (vI left), none, none, none]) (by decide +kernel) (Nat.le_of_ble_eq_true rfl) rfl (fun K MM => ?_)
  have M := MM.mk
  refine r_iconst M dX2_roundsAtAStroke_0 ?_
  refine r_istore_2 M dX2_roundsAtAStroke_1 (by decide) rfl ?_
  refine r_iload_n M dX2_roundsAtAStroke_2 rfl ?_
  refine r_istore_3 M dX2_roundsAtAStroke_3 (by decide) rfl ?_
  refine r_iconst M dX2_roundsAtAStroke_4 ?_
  refine r_istore_4 M dX2_roundsAtAStroke_5 (by decide) rfl ?_
  refine fz (P := fun l => K 0 7 [some (vR 3 0), some (vI left), some (vI (tkN w b p l)), some (vI (rdN w b p left l)), some (vI (l : Int))] [] S) (m := 10) ?_ ?_
  · have ht := tkN_rng w b p 10
    have hr := rdN_le w b p left 10
    have hr2 := rdN_nn w b p (Int.le_of_lt hl.1) 10
    have hd1 : 0 ≤ left / tkN w b p 10 := Int.ediv_nonneg (by omega) ht.1
    have hd2 : left / tkN w b p 10 ≤ left := Int.ediv_le_self _ (by omega)
    refine r_iload M dX2_roundsAtAStroke_7 rfl ?_
    refine r_bipush M dX2_roundsAtAStroke_9 rfl ?_
    refine r_icmp_ge M dX2_roundsAtAStroke_11 (tgt := 52) rfl (by omega) (fun b11 => ?_) (fun b11 => by omega)
    refine r_iload_n M dX2_roundsAtAStroke_52 rfl ?_
    refine r_if_ne M dX2_roundsAtAStroke_53 (tgt := 58) rfl (by omega) (fun b53 => ?_) (fun b53 => ?_)
    · refine r_iconst M dX2_roundsAtAStroke_58 ?_
      refine r_iload_n M dX2_roundsAtAStroke_59 rfl ?_
      refine r_iload_n M dX2_roundsAtAStroke_60 rfl ?_
      refine r_iload_n M dX2_roundsAtAStroke_61 rfl ?_
      refine r_idiv M dX2_roundsAtAStroke_62 (by omega) ?_
      refine r_min M dX2_roundsAtAStroke_63 mm_X2_21 (by omega) ⟨by omega, by omega⟩ (Nat.le_of_ble_eq_true rfl) ?_
      refine r_max M dX2_roundsAtAStroke_66 mm_X2_38 (by omega) ⟨by omega, by omega⟩ (Nat.le_of_ble_eq_true rfl) ?_
      refine r_iret MM dX2_roundsAtAStroke_69 ?_
      exact ret_v h (by unfold rounds; rw [if_neg b53])
    refine r_iconst M dX2_roundsAtAStroke_56 ?_
    refine r_iret MM dX2_roundsAtAStroke_57 ?_
    exact ret_v h (by unfold rounds; rw [if_pos b53])
  · intro l hl9 hP
    have hs := hS l hl9
    rw [e9, e10] at hs
    have ht := tkN_rng w b p l
    have hr := rdN_le w b p left l
    have hr2 := rdN_nn w b p (Int.le_of_lt hl.1) l
    refine r_iload M dX2_roundsAtAStroke_7 rfl ?_
    refine r_bipush M dX2_roundsAtAStroke_9 rfl ?_
    refine r_icmp_ge M dX2_roundsAtAStroke_11 (tgt := 52) rfl (by omega) (fun b11 => by omega) (fun b11 => ?_)
    refine r_aload_n M dX2_roundsAtAStroke_14 rfl ?_
    refine r_iload M dX2_roundsAtAStroke_15 rfl ?_
    refine r_callV1 MM dX2_roundsAtAStroke_17 ck_X2_34 vk_X2_canTake ⟨by omega, by omega, by omega⟩ ⟨by decide, by decide, rfl⟩ (by decide) (Nat.le_of_ble_eq_true rfl) (cn_canTake e8 e9 e10 hl9 hS (fun hq => ?_) (fun hq => ?_))
    · refine r_if_eq M dX2_roundsAtAStroke_20 (tgt := 46) rfl (by omega) (fun b20 => by omega) (fun b20 => ?_)
      refine r_iinc_2 M (_) dX2_roundsAtAStroke_23 rfl (by decide) rfl ?_
      refine r_iload_n M dX2_roundsAtAStroke_26 rfl ?_
      refine r_aload_n M dX2_roundsAtAStroke_27 rfl ?_
      refine r_getR M dX2_roundsAtAStroke_28 fk_X2_15 (by decide) rfl ?_
      refine r_iload M dX2_roundsAtAStroke_31 rfl ?_
      refine r_ialdV M (_) dX2_roundsAtAStroke_33 ⟨rfl, by decide⟩ (by decide) rfl (show (_ : Nat) < 10 by omega) (Nat.le_of_ble_eq_true rfl) (b l) (by rw [e9]) ?_
      refine r_aload_n M dX2_roundsAtAStroke_34 rfl ?_
      refine r_getR M dX2_roundsAtAStroke_35 fk_X2_18 (by decide) rfl ?_
      refine r_iload M dX2_roundsAtAStroke_38 rfl ?_
      refine r_ialdV M (_) dX2_roundsAtAStroke_40 ⟨rfl, by decide⟩ (by decide) rfl (show (_ : Nat) < 10 by omega) (Nat.le_of_ble_eq_true rfl) (p l) (by rw [e10]) ?_
      refine r_isub M dX2_roundsAtAStroke_41 ?_
      refine r_min M dX2_roundsAtAStroke_42 mm_X2_21 (by omega) ⟨by omega, by omega⟩ (Nat.le_of_ble_eq_true rfl) ?_
      refine r_istore_3 M dX2_roundsAtAStroke_45 (by decide) rfl ?_
      refine r_iinc_4 M (_) dX2_roundsAtAStroke_46 rfl (by decide) rfl ?_
      refine r_goto M dX2_roundsAtAStroke_49 (tgt := 7) rfl ?_
      first | (simp only [tkN, rdN, if_pos hq] at hP; exact hP) | (simp only [tkN, rdN, if_neg hq] at hP; exact hP)
    refine r_if_eq M dX2_roundsAtAStroke_20 (tgt := 46) rfl (by omega) (fun b20 => ?_) (fun b20 => by omega)
    refine r_iinc_4 M (_) dX2_roundsAtAStroke_46 rfl (by decide) rfl ?_
    refine r_goto M dX2_roundsAtAStroke_49 (tgt := 7) rfl ?_
    first | (simp only [tkN, rdN, if_pos hq] at hP; exact hP) | (simp only [tkN, rdN, if_neg hq] at hP; exact hP)
/-- the walk of one stroke -/
theorem wp_smP {S : St} {p : Nat → Int} (hS : smP S) {x : (Nat → Int) × Int} (hx : okP (S 9 0) x) : smP (wp S x.1) := fun k hk => by
  have h := hS k hk
  have h2 := hx.1 k hk
  rw [wp_ne S _ (show ¬ 8 = 10 by omega), wp_ne S _ (show ¬ 9 = 10 by omega), wp_10]
  omega
theorem cn_giveCoins {rest : Int} (hS : smP S) (hx : okP (S 9 0) (S 10 0, rest)) (h : Ret (some (vI (strokes (S 8 0) (S 9 0) (S 10 0, rest) 12).2)) (wp S (strokes (S 8 0) (S 9 0) (S 10 0, rest) 12).1)) : Cn g yX2_giveCoins cX2_giveCoins 6 (some .int) 2 45 0 [vR 3 0, vI rest] S Ret Thr := by
  refine enter (L := [some (vR 3 0), some (vI rest), none, none, none, none]) (by decide +kernel) (Nat.le_of_ble_eq_true rfl) rfl (fun K MM => ?_)
  have M := MM.mk
  generalize hw8 : S 8 0 = w at *
  generalize hw9 : S 9 0 = b at *
  have hok := fun n => strokes_ok (w := w) hx n
  have r8 : ∀ p, (wp S p) 8 0 = w := fun p => by rw [wp_ne S p (by omega), hw8]
  have r9 : ∀ p, (wp S p) 9 0 = b := fun p => by rw [wp_ne S p (by omega), hw9]
  have hS2 : ∀ x : (Nat → Int) × Int, okP b x → smP (wp S x.1) := fun x hx => wp_smP (p := x.1) hS (by rw [hw9]; exact hx)
  refine r_iload_n M dX2_giveCoins_0 rfl ?_
  refine r_istore_2 M dX2_giveCoins_1 (by decide) rfl ?_
  refine r_iconst M dX2_giveCoins_2 ?_
  refine r_istore_3 M dX2_giveCoins_3 (by decide) rfl ?_
  refine k_S (S1 := wp S (S 10 0)) ?_ (wp_self S).symm
  -- the outer loop: after j strokes; once nothing is left it goes out
  have hend : ∀ j, j ≤ 12 → ¬ 0 < (strokes w b (S 10 0, rest) j).2 → ∀ r, j + r = 12 → strokes w b (S 10 0, rest) 12 = strokes w b (S 10 0, rest) j := by
    intro j hj hn r hr
    have : ∀ r, strokes w b (S 10 0, rest) (j + r) = strokes w b (S 10 0, rest) j := by
      intro r
      induction r with
      | zero => rfl
      | succ r ih =>
        show strokes w b (S 10 0, rest) (j + r + 1) = _
        rw [strokes_succ, ih, if_neg hn]
    rw [← hr, this]
  have hout : ∀ (j : Nat) (c4 c5 : Option AV), j ≤ 12 → K 0 4 [some (vR 3 0), some (vI rest), some (vI (strokes w b (S 10 0, rest) j).2), some (vI (j : Int)), c4, c5] [] (wp S (strokes w b (S 10 0, rest) j).1) := by
    have hloop := up_loop (P := fun j => ∀ (c4 c5 : Option AV), K 0 4 [some (vR 3 0), some (vI rest), some (vI (strokes w b (S 10 0, rest) j).2), some (vI (j : Int)), c4, c5] [] (wp S (strokes w b (S 10 0, rest) j).1)) (m := 12) ?_ ?_
    · exact fun j c4 c5 hj => hloop j hj c4 c5
    · intro c4 c5
      refine r_iload_n M dX2_giveCoins_4 rfl ?_
      refine r_bipush M dX2_giveCoins_5 rfl ?_
      refine r_icmp_ge M dX2_giveCoins_7 (tgt := 75) rfl (by omega) (fun b7 => ?_) (fun b7 => by omega)
      refine r_iload_n M dX2_giveCoins_75 rfl ?_
      refine r_iret MM dX2_giveCoins_76 ?_
      exact h
    · intro j hj hP c4 c5
      have ho := hok j
      have ho1 := ho.2
      generalize hxj : strokes w b (S 10 0, rest) j = x at *
      refine r_iload_n M dX2_giveCoins_4 rfl ?_
      refine r_bipush M dX2_giveCoins_5 rfl ?_
      refine r_icmp_ge M dX2_giveCoins_7 (tgt := 75) rfl (by omega) (fun b7 => by omega) (fun b7 => ?_)
      refine r_iload_n M dX2_giveCoins_10 rfl ?_
      refine r_if_le M dX2_giveCoins_11 (tgt := 75) rfl (by omega) (fun b11 => ?_) (fun b11 => ?_)
      · refine r_iload_n M dX2_giveCoins_75 rfl ?_
        refine r_iret MM dX2_giveCoins_76 ?_
        exact ret_vS h (by rw [hend j (by omega) (by rw [hxj]; omega) (12 - j) (by omega), hxj]) (by rw [hend j (by omega) (by rw [hxj]; omega) (12 - j) (by omega), hxj])
      refine r_aload_n M dX2_giveCoins_14 rfl ?_
      refine r_iload_n M dX2_giveCoins_15 rfl ?_
      refine r_callV1 MM dX2_giveCoins_16 ck_X2_31 vk_X2_roundsAtAStroke ⟨by omega, by omega, by omega⟩ ⟨by decide, by decide, rfl⟩ (by decide) (Nat.le_of_ble_eq_true rfl) (cn_rounds (r8 _) (r9 _) (wp_10 _ _) (by omega) (hS2 x ho) ?_)
      refine r_istore_4 M dX2_giveCoins_19 (by decide) rfl ?_
      refine r_iconst M dX2_giveCoins_21 ?_
      refine r_istore_5 M dX2_giveCoins_22 (by decide) rfl ?_
      refine fz (P := fun l => K 0 24 [some (vR 3 0), some (vI rest), some (vI (gvN w b (rounds w b x.1 x.2) x.1 x.2 l).2), some (vI (j : Int)), some (vI (rounds w b x.1 x.2)), some (vI (l : Int))] [] (wp S (gvN w b (rounds w b x.1 x.2) x.1 x.2 l).1)) (m := 10) ?_ ?_
      · rw [strokes_succ, hxj, if_pos (by omega)] at hP
        refine r_iload M dX2_giveCoins_24 rfl ?_
        refine r_bipush M dX2_giveCoins_26 rfl ?_
        refine r_icmp_ge M dX2_giveCoins_28 (tgt := 69) rfl (by omega) (fun b28 => ?_) (fun b28 => by omega)
        refine r_iinc_3 M (((j + 1 : Nat) : Int)) dX2_giveCoins_69 (by omega) (by decide) rfl ?_
        refine r_goto M dX2_giveCoins_72 (tgt := 4) rfl ?_
        exact hP _ _
      · intro l hl9 hQ
        have hg := gvN_ok (w := w) ho (by omega : 0 < x.2) l (by omega)
        have hg2 := hg.2
        have hg1 := hg.1 l hl9
        have hc0 : 0 ≤ rounds w b x.1 x.2 ∧ rounds w b x.1 x.2 ≤ 1000000000 := by
          have t1 := tkN_rng w b x.1 10
          have t2 := rdN_le w b x.1 x.2 10
          unfold rounds
          split <;> omega
        rw [gvN_succ] at hQ
        generalize hyl : gvN w b (rounds w b x.1 x.2) x.1 x.2 l = y at *
        refine r_iload M dX2_giveCoins_24 rfl ?_
        refine r_bipush M dX2_giveCoins_26 rfl ?_
        refine r_icmp_ge M dX2_giveCoins_28 (tgt := 69) rfl (by omega) (fun b28 => by omega) (fun b28 => ?_)
        refine r_aload_n M dX2_giveCoins_31 rfl ?_
        refine r_iload M dX2_giveCoins_32 rfl ?_
        refine r_callV1 MM dX2_giveCoins_34 ck_X2_34 vk_X2_canTake ⟨by omega, by omega, by omega⟩ ⟨by decide, by decide, rfl⟩ (by decide) (Nat.le_of_ble_eq_true rfl) (cn_canTake (r8 _) (r9 _) (wp_10 _ _) hl9 (hS2 y hg) (fun hq => ?_) (fun hq => ?_))
        · refine r_if_eq M dX2_giveCoins_37 (tgt := 63) rfl (by omega) (fun b37 => by omega) (fun b37 => ?_)
          refine r_iload M dX2_giveCoins_40 rfl ?_
          refine r_iload_n M dX2_giveCoins_42 rfl ?_
          refine r_icmp_gt M dX2_giveCoins_43 (tgt := 63) rfl (by omega) (fun b43 => ?_) (fun b43 => ?_)
          · refine r_iinc_5 M (((l + 1 : Nat) : Int)) dX2_giveCoins_63 (by omega) (by decide) rfl ?_
            refine r_goto M dX2_giveCoins_66 (tgt := 24) rfl ?_
            first | (rw [if_pos ⟨hq, by omega⟩] at hQ; exact k_S hQ (wp_up _ _ _ _)) | (rw [if_neg (fun q => hq q.1)] at hQ; exact hQ) | (rw [if_neg (fun q => by have := q.2; omega)] at hQ; exact hQ)
          refine r_aload_n M dX2_giveCoins_46 rfl ?_
          refine r_getR M dX2_giveCoins_47 fk_X2_18 (by decide) rfl ?_
          refine r_iload M dX2_giveCoins_50 rfl ?_
          refine r_dup2 M dX2_giveCoins_52 ?_
          refine r_ialdV M (_) dX2_giveCoins_53 ⟨rfl, by decide⟩ (by decide) rfl (show (_ : Nat) < 10 by omega) (Nat.le_of_ble_eq_true rfl) (y.1 l) (by rw [wp_10]) ?_
          refine r_iload M dX2_giveCoins_54 rfl ?_
          refine r_iadd M dX2_giveCoins_56 ?_
          refine r_iast M (_) dX2_giveCoins_57 ⟨rfl, by decide⟩ (by decide) rfl (show (_ : Nat) < 10 by omega) (Nat.le_of_ble_eq_true rfl) ?_
          refine r_iload_n M dX2_giveCoins_58 rfl ?_
          refine r_iload M dX2_giveCoins_59 rfl ?_
          refine r_isub M dX2_giveCoins_61 ?_
          refine r_istore_2 M dX2_giveCoins_62 (by decide) rfl ?_
          refine r_iinc_5 M (((l + 1 : Nat) : Int)) dX2_giveCoins_63 (by omega) (by decide) rfl ?_
          refine r_goto M dX2_giveCoins_66 (tgt := 24) rfl ?_
          first | (rw [if_pos ⟨hq, by omega⟩] at hQ; exact k_S hQ (wp_up _ _ _ _)) | (rw [if_neg (fun q => hq q.1)] at hQ; exact hQ) | (rw [if_neg (fun q => by have := q.2; omega)] at hQ; exact hQ)
        refine r_if_eq M dX2_giveCoins_37 (tgt := 63) rfl (by omega) (fun b37 => ?_) (fun b37 => by omega)
        refine r_iinc_5 M (((l + 1 : Nat) : Int)) dX2_giveCoins_63 (by omega) (by decide) rfl ?_
        refine r_goto M dX2_giveCoins_66 (tgt := 24) rfl ?_
        first | (rw [if_pos ⟨hq, by omega⟩] at hQ; exact k_S hQ (wp_up _ _ _ _)) | (rw [if_neg (fun q => hq q.1)] at hQ; exact hQ) | (rw [if_neg (fun q => by have := q.2; omega)] at hQ; exact hQ)
  refine hout 0 _ _ (by omega)
end XParting
end
section
/-! ===== Parting.part ===== -/
def zf (po : Nat → Int) (l : Nat) : Nat → Int := fun k => if k < l then 0 else po k
def p0f (w b po : Nat → Int) (a : Int) : Nat → Int := fun k => if k < 10 then min (a * w k / smN w 10) (b k) else po k
def qf (w b po : Nat → Int) (a : Int) (l : Nat) : Nat → Int := fun k => if k < l then p0f w b po a k else zf po 10 k
def partR (w b po : Nat → Int) (a : Int) : (Nat → Int) × Int := if smN w 10 ≤ 0 then (zf po 10, a) else strokes w b (p0f w b po a, a - smN (p0f w b po a) 10) 12
theorem zf_0 (po : Nat → Int) : zf po 0 = po := by
  funext k
  unfold zf
  rw [if_neg (by omega)]
theorem zf_s (po : Nat → Int) (l : Nat) : updI (zf po l) l 0 = zf po (l + 1) := by
  funext k
  unfold updI zf
  by_cases h : k = l
  · rw [if_pos h, if_pos (by omega)]
  · rw [if_neg h]
    by_cases h2 : k < l
    · rw [if_pos h2, if_pos (by omega)]
    · rw [if_neg h2, if_neg (by omega)]
theorem qf_0 (w b po : Nat → Int) (a : Int) : qf w b po a 0 = zf po 10 := by
  funext k
  unfold qf
  rw [if_neg (by omega)]
theorem qf_s (w b po : Nat → Int) (a : Int) (l : Nat) : updI (qf w b po a l) l (p0f w b po a l) = qf w b po a (l + 1) := by
  funext k
  unfold updI qf
  by_cases h : k = l
  · rw [if_pos h, if_pos (by omega), h]
  · rw [if_neg h]
    by_cases h2 : k < l
    · rw [if_pos h2, if_pos (by omega)]
    · rw [if_neg h2, if_neg (by omega)]
theorem qf_10 (w b po : Nat → Int) (a : Int) : qf w b po a 10 = p0f w b po a := by
  funext k
  unfold qf
  by_cases h2 : k < 10
  · rw [if_pos h2]
  · rw [if_neg h2]
    unfold zf p0f
    rw [if_neg h2, if_neg h2]
theorem smN_nn {f : Nat → Int} {B : Int} : ∀ {m : Nat}, (∀ k, k < m → 0 ≤ f k ∧ f k ≤ B) → 0 ≤ smN f m ∧ smN f m ≤ m * B
  | 0, _ => ⟨Int.le_refl _, by show (0 : Int) ≤ 0 * B; omega⟩
  | m + 1, h => by
    have h1 := smN_nn (m := m) (fun k hk => h k (by omega))
    have h2 := h m (by omega)
    have e : ((m + 1 : Nat) : Int) * B = m * B + B := by rw [Int.natCast_add, Int.add_mul]; simp
    show 0 ≤ smN f m + f m ∧ smN f m + f m ≤ _
    rw [e]
    omega
theorem smN_le {f h : Nat → Int} : ∀ {m : Nat}, (∀ k, k < m → f k ≤ h k) → smN f m ≤ smN h m
  | 0, _ => Int.le_refl _
  | m + 1, hh => by
    have h1 := smN_le (m := m) (fun k hk => hh k (by omega))
    have h2 := hh m (by omega)
    show smN f m + f m ≤ smN h m + h m
    omega
theorem smN_mem {f : Nat → Int} : ∀ {m k : Nat}, (∀ k, k < m → 0 ≤ f k) → k < m → f k ≤ smN f m
  | m + 1, k, h, hk => by
    have hz : 0 ≤ smN f m := by
      have : ∀ j, j ≤ m → 0 ≤ smN f j := by
        intro j
        induction j with
        | zero => intro _; exact Int.le_refl _
        | succ j ih =>
          intro hj
          have h1 := ih (by omega)
          have h2 := h j (by omega)
          show 0 ≤ smN f j + f j
          omega
      exact this m (Nat.le_refl _)
    have h2 := h m (by omega)
    show f k ≤ smN f m + f m
    by_cases e : k = m
    · subst e; omega
    · have := smN_mem (m := m) (k := k) (fun k hk => h k (by omega)) (by omega)
      omega
theorem smN_div {w : Nat → Int} {a s : Int} (hs : 0 < s) : ∀ m : Nat, smN (fun k => a * w k / s) m * s ≤ a * smN w m
  | 0 => by show (0 : Int) * s ≤ a * 0; simp
  | m + 1 => by
    have h1 := smN_div (w := w) (a := a) hs m
    have h2 : a * w m / s * s ≤ a * w m := Int.ediv_mul_le _ (by omega)
    show (smN (fun k => a * w k / s) m + a * w m / s) * s ≤ a * (smN w m + w m)
    rw [Int.add_mul, Int.mul_add]
    omega
/-- the numbers of a parting: weights, bounds and amount are not below 0 and not large -/
def okW (w b : Nat → Int) (a : Int) : Prop := (∀ k, k < 10 → (0 ≤ w k ∧ w k ≤ 100000000) ∧ 0 ≤ b k ∧ b k ≤ 100000000) ∧ 0 ≤ a ∧ a ≤ 100000000
theorem by_rng {w b : Nat → Int} {a : Int} (h : okW w b a) (hs : 0 < smN w 10) {k : Nat} (hk : k < 10) : (0 ≤ a * w k ∧ a * w k ≤ 10000000000000000) ∧ 0 ≤ a * w k / smN w 10 ∧ a * w k / smN w 10 ≤ a := by
  have h1 := h.1 k hk
  have m1 : 0 ≤ a * w k := Int.mul_nonneg h.2.1 h1.1.1
  have m2 : a * w k ≤ 100000000 * 100000000 := Int.mul_le_mul h.2.2 h1.1.2 h1.1.1 (by omega)
  have m3 : w k ≤ smN w 10 := smN_mem (fun j hj => (h.1 j hj).1.1) hk
  have m4 : a * w k ≤ a * smN w 10 := Int.mul_le_mul_of_nonneg_left m3 h.2.1
  refine ⟨⟨m1, by omega⟩, Int.ediv_nonneg m1 (by omega), ?_⟩
  exact Int.ediv_le_of_le_mul hs m4
theorem p0_ok {w b po : Nat → Int} {a : Int} (h : okW w b a) (hs : 0 < smN w 10) : okP b (p0f w b po a, a - smN (p0f w b po a) 10) := by
  have e : ∀ k, k < 10 → p0f w b po a k = min (a * w k / smN w 10) (b k) := fun k hk => by unfold p0f; rw [if_pos hk]
  have h1 : smN (p0f w b po a) 10 ≤ smN (fun k => a * w k / smN w 10) 10 := smN_le (fun k hk => by rw [e k hk]; exact Int.min_le_left _ _)
  have h2 := smN_div (w := w) (a := a) hs 10
  have h3 : smN (fun k => a * w k / smN w 10) 10 ≤ a := Int.le_of_mul_le_mul_right h2 hs
  have h4 : 0 ≤ smN (p0f w b po a) 10 := by
    refine (smN_nn (B := 100000000) (fun k hk => ?_)).1
    rw [e k hk]
    have := by_rng h hs hk
    have h5 := h.1 k hk
    omega
  have h6 := h.2
  refine ⟨fun k hk => ?_, ?_, ?_⟩
  · show 0 ≤ p0f w b po a k ∧ p0f w b po a k ≤ b k
    rw [e k hk]
    have := by_rng h hs hk
    have h5 := h.1 k hk
    omega
  · show 0 ≤ a - _
    omega
  · show a - _ ≤ _
    omega
theorem k_L {K : KT} {n pc : Nat} {L L2 : List (Option AV)} {st : List AV} {S : St} (h : K n pc L st S) (e : L2 = L) : K n pc L2 st S := e ▸ h
section XPart
variable {g : Gl} {S : St} {Ret : Option AV → St → Prop} {Thr : String → St → Prop}
theorem wp_wp (S : St) (p q : Nat → Int) : wp (wp S p) q = wp S q := by
  funext a b
  unfold wp upT
  by_cases h : a = 10 ∧ b = 0
  · simp only [if_pos h]
  · simp only [if_neg h]
theorem cn_giveCoins2 {w b p : Nat → Int} {rest : Int} (e8 : S 8 0 = w) (e9 : S 9 0 = b) (hw : ∀ k, k < 10 → (0 ≤ w k ∧ w k ≤ 100000000) ∧ 0 ≤ b k ∧ b k ≤ 100000000) (hx : okP b (p, rest)) (h : Ret (some (vI (strokes w b (p, rest) 12).2)) (wp S (strokes w b (p, rest) 12).1)) : Cn g yX2_giveCoins cX2_giveCoins 6 (some .int) 2 45 0 [vR 3 0, vI rest] (wp S p) Ret Thr := by
  have f8 : (wp S p) 8 0 = w := by rw [wp_ne S p (by omega), e8]
  have f9 : (wp S p) 9 0 = b := by rw [wp_ne S p (by omega), e9]
  have f10 : (wp S p) 10 0 = p := wp_10 S p
  refine cn_giveCoins (fun k hk => ?_) (by rw [f9, f10]; exact hx) (by rw [f8, f9, f10, wp_wp]; exact h)
  have h1 := hw k hk
  have h2 := hx.1 k hk
  rw [f8, f9, f10]
  have h3 : (p, rest).1 k = p k := rfl
  omega
theorem cn_part {w b po : Nat → Int} (e8 : S 8 0 = w) (e9 : S 9 0 = b) (e10 : S 10 0 = po) {a : Int} (ha : okW w b a) (h : Ret (some (vI (partR w b po a).2)) (wp S (partR w b po a).1)) : Cn g yX2_part cX2_part 6 (some .int) 3 70 0 [vR 3 0, vI a] S Ret Thr := by
  refine enter (L := [some (vR 3 0), some (vI a), none, none, none, none]) (by decide +kernel) (Nat.le_of_ble_eq_true rfl) rfl (fun K MM => ?_)
  have M := MM.mk
  have r8 : ∀ p, (wp S p) 8 0 = w := fun p => by rw [wp_ne S p (by omega), e8]
  have r9 : ∀ p, (wp S p) 9 0 = b := fun p => by rw [wp_ne S p (by omega), e9]
  have hsm := (smN_nn (f := w) (B := 100000000) (m := 10) (fun k hk => (ha.1 k hk).1))
  have haa := ha.2
  refine r_iconst M dX2_part_0 ?_
  refine r_istore_2 M dX2_part_1 (by decide) rfl ?_
  refine r_iconst M dX2_part_2 ?_
  refine r_istore_3 M dX2_part_3 (by decide) rfl ?_
  refine k_S (S1 := wp S (zf po 0)) ?_ (by rw [zf_0, ← e10, wp_self])
  refine fz (P := fun l => K 0 4 [some (vR 3 0), some (vI a), some (vI (smN w l)), some (vI (l : Int)), none, none] [] (wp S (zf po l))) (m := 10) ?_ ?_
  · refine r_iload_n M dX2_part_4 rfl ?_
    refine r_bipush M dX2_part_5 rfl ?_
    refine r_icmp_ge M dX2_part_7 (tgt := 32) rfl (by omega) (fun b7 => ?_) (fun b7 => by omega)
    refine r_iload_n M dX2_part_32 rfl ?_
    refine r_if_gt M dX2_part_33 (tgt := 38) rfl (by omega) (fun b33 => ?_) (fun b33 => ?_)
    rotate_left
    · refine r_iload_n M dX2_part_36 rfl ?_
      refine r_iret MM dX2_part_37 ?_
      exact ret_vS h (by unfold partR; rw [if_pos b33]) (by unfold partR; rw [if_pos b33])
    refine r_iload_n M dX2_part_38 rfl ?_
    refine r_istore_3 M dX2_part_39 (by decide) rfl ?_
    refine r_iconst M dX2_part_40 ?_
    refine r_istore_4 M dX2_part_41 (by decide) rfl ?_
    refine k_S (S1 := wp S (qf w b po a 0)) ?_ (by rw [qf_0])
    refine k_L (L := [some (vR 3 0), some (vI a), some (vI (smN w 10)), some (vI (a - smN (p0f w b po a) 0)), some (vI 0), none]) ?_ (by simp [smN])
    refine fz (P := fun l => ∀ c5, K 0 43 [some (vR 3 0), some (vI a), some (vI (smN w 10)), some (vI (a - smN (p0f w b po a) l)), some (vI (l : Int)), c5] [] (wp S (qf w b po a l))) (m := 10) ?_ ?_ _
    · intro c5
      have hk0 := p0_ok (po := po) ha b33
      refine r_iload M dX2_part_43 rfl ?_
      refine r_bipush M dX2_part_45 rfl ?_
      refine r_icmp_ge M dX2_part_47 (tgt := 102) rfl (by omega) (fun b47 => ?_) (fun b47 => by omega)
      refine r_aload_n M dX2_part_102 rfl ?_
      refine r_iload_n M dX2_part_103 rfl ?_
      refine r_callV1 MM dX2_part_104 ck_X2_27 vk_X2_giveCoins ⟨by omega, by omega, by omega⟩ ⟨by decide, by decide, rfl⟩ (by decide) (Nat.le_of_ble_eq_true rfl) (cn_giveCoins2 e8 e9 ha.1 (by rw [qf_10]; exact hk0) ?_)
      refine r_iret MM dX2_part_107 ?_
      exact ret_vS h (by unfold partR; rw [if_neg (by omega), qf_10]) (by unfold partR; rw [if_neg (by omega), qf_10])
    · intro l hl9 hP c5
      have hb := by_rng ha b33 hl9
      have hw := ha.1 l hl9
      have ep : p0f w b po a l = min (a * w l / smN w 10) (b l) := by unfold p0f; rw [if_pos hl9]
      have e9' : a - smN (p0f w b po a) l - p0f w b po a l = a - smN (p0f w b po a) (l + 1) := by
        show _ = a - (smN (p0f w b po a) l + p0f w b po a l)
        omega
      refine r_iload M dX2_part_43 rfl ?_
      refine r_bipush M dX2_part_45 rfl ?_
      refine r_icmp_ge M dX2_part_47 (tgt := 102) rfl (by omega) (fun b47 => by omega) (fun b47 => ?_)
      refine r_iload_n M dX2_part_50 rfl ?_
      refine r_i2l M dX2_part_51 (by omega) ?_
      refine r_aload_n M dX2_part_52 rfl ?_
      refine r_getR M dX2_part_53 fk_X2_9 (by decide) rfl ?_
      refine r_iload M dX2_part_56 rfl ?_
      refine r_ialdV M (_) dX2_part_58 ⟨rfl, by decide⟩ (by decide) rfl (show (_ : Nat) < 10 by omega) (Nat.le_of_ble_eq_true rfl) (w l) (by rw [r8]) ?_
      refine r_i2l M dX2_part_59 (by omega) ?_
      refine r_lmul M dX2_part_60 ?_
      refine r_iload_n M dX2_part_61 rfl ?_
      refine r_i2l M dX2_part_62 (by omega) ?_
      refine r_ldiv M dX2_part_63 (by omega) ?_
      refine r_l2i M dX2_part_64 ?_
      refine r_istore_5 M dX2_part_65 (by decide) rfl ?_
      refine r_aload_n M dX2_part_67 rfl ?_
      refine r_getR M dX2_part_68 fk_X2_18 (by decide) rfl ?_
      refine r_iload M dX2_part_71 rfl ?_
      refine r_iload M dX2_part_73 rfl ?_
      refine r_aload_n M dX2_part_75 rfl ?_
      refine r_getR M dX2_part_76 fk_X2_15 (by decide) rfl ?_
      refine r_iload M dX2_part_79 rfl ?_
      refine r_ialdV M (_) dX2_part_81 ⟨rfl, by decide⟩ (by decide) rfl (show (_ : Nat) < 10 by omega) (Nat.le_of_ble_eq_true rfl) (b l) (by rw [r9]) ?_
      refine r_min M dX2_part_82 mm_X2_21 (by omega) ⟨by omega, by omega⟩ (Nat.le_of_ble_eq_true rfl) ?_
      refine r_iast M (_) dX2_part_85 ⟨rfl, by decide⟩ (by decide) rfl (show (_ : Nat) < 10 by omega) (Nat.le_of_ble_eq_true rfl) ?_
      refine r_iload_n M dX2_part_86 rfl ?_
      refine r_aload_n M dX2_part_87 rfl ?_
      refine r_getR M dX2_part_88 fk_X2_18 (by decide) rfl ?_
      refine r_iload M dX2_part_91 rfl ?_
      refine r_ialdV M (_) dX2_part_93 ⟨rfl, by decide⟩ (by decide) rfl (show (_ : Nat) < 10 by omega) (Nat.le_of_ble_eq_true rfl) (p0f w b po a l) (by rw [wp_up, wp_10, ← ep]; unfold updI; rw [if_pos rfl]) ?_
      refine r_isub M dX2_part_94 ?_
      refine r_istore_3 M dX2_part_95 (by decide) rfl ?_
      refine r_iinc_4 M (_) dX2_part_96 rfl (by decide) rfl ?_
      refine r_goto M dX2_part_99 (tgt := 43) rfl ?_
      rw [e9']; exact k_S (hP _) (by rw [wp_up, ← ep, qf_s])
  · intro l hl9 hP
    refine r_iload_n M dX2_part_4 rfl ?_
    refine r_bipush M dX2_part_5 rfl ?_
    refine r_icmp_ge M dX2_part_7 (tgt := 32) rfl (by omega) (fun b7 => by omega) (fun b7 => ?_)
    refine r_iload_n M dX2_part_10 rfl ?_
    refine r_aload_n M dX2_part_11 rfl ?_
    refine r_getR M dX2_part_12 fk_X2_9 (by decide) rfl ?_
    refine r_iload_n M dX2_part_15 rfl ?_
    refine r_ialdV M (_) dX2_part_16 ⟨rfl, by decide⟩ (by decide) rfl (show (_ : Nat) < 10 by omega) (Nat.le_of_ble_eq_true rfl) (w l) (by rw [r8]) ?_
    refine r_iadd M dX2_part_17 ?_
    refine r_istore_2 M dX2_part_18 (by decide) rfl ?_
    refine r_aload_n M dX2_part_19 rfl ?_
    refine r_getR M dX2_part_20 fk_X2_18 (by decide) rfl ?_
    refine r_iload_n M dX2_part_23 rfl ?_
    refine r_iconst M dX2_part_24 ?_
    refine r_iast M (_) dX2_part_25 ⟨rfl, by decide⟩ (by decide) rfl (show (_ : Nat) < 10 by omega) (Nat.le_of_ble_eq_true rfl) ?_
    refine r_iinc_3 M (_) dX2_part_26 rfl (by decide) rfl ?_
    refine r_goto M dX2_part_29 (tgt := 4) rfl ?_
    exact k_S hP (by rw [wp_up, zf_s])
end XPart
end
section
/-! ===== DefaultFund$Auction ===== -/
def wnN (f : Nat → Int) : Nat → Int × Int
  | 0 => (-1, -1001)
  | m + 1 => if (wnN f m).2 < f m then ((m : Int), f m) else wnN f m
theorem wnN_succ (f : Nat → Int) (m : Nat) : wnN f (m + 1) = if (wnN f m).2 < f m then ((m : Int), f m) else wnN f m := rfl
theorem wnN_rng (f : Nat → Int) (hf : ∀ k, k < 10 → -1001 ≤ f k ∧ f k ≤ 1000) : ∀ m, m ≤ 10 → (-1001 ≤ (wnN f m).2 ∧ (wnN f m).2 ≤ 1000) ∧ ((wnN f m).1 = -1 ∨ 0 ≤ (wnN f m).1 ∧ (wnN f m).1 < m)
  | 0, _ => ⟨⟨by show (-1001 : Int) ≤ -1001; omega, by show (-1001 : Int) ≤ 1000; omega⟩, Or.inl rfl⟩
  | m + 1, hm => by
    have h := wnN_rng f hf m (by omega)
    have h2 := hf m (by omega)
    rw [wnN_succ]
    split
    · exact ⟨h2, Or.inr ⟨by show (0 : Int) ≤ m; omega, by show (m : Int) < _; omega⟩⟩
    · exact ⟨h.1, by omega⟩
def winr (S : St) (lot : Nat) : Int := (wnN (fun i => S 7 i lot) 10).1
abbrev isLw (S : St) (m lot : Nat) : Prop := winr S lot ≠ -1 ∧ 100 < S 7 (winr S lot).toNat lot - S 7 m lot
def mdN (S : St) (m : Nat) : Nat → Int
  | 0 => 0
  | l + 1 => if S 7 m l ≠ -1001 then mdN S m l + 1 else mdN S m l
def lwN (S : St) (m : Nat) : Nat → Int
  | 0 => 0
  | l + 1 => if S 7 m l ≠ -1001 then lwN S m l + (if isLw S m l then 1 else 0) else lwN S m l
theorem mdN_rng (S : St) (m : Nat) : ∀ l, 0 ≤ mdN S m l ∧ mdN S m l ≤ l
  | 0 => ⟨Int.le_refl _, Int.le_refl _⟩
  | l + 1 => by
    have h := mdN_rng S m l
    unfold mdN
    split <;> omega
theorem lwN_rng (S : St) (m : Nat) : ∀ l, 0 ≤ lwN S m l ∧ lwN S m l ≤ l
  | 0 => ⟨Int.le_refl _, Int.le_refl _⟩
  | l + 1 => by
    have h := lwN_rng S m l
    unfold lwN
    split
    · split <;> omega
    · omega
abbrev poor (S : St) (m : Nat) : Prop := 2 * mdN S m (S 2 0 1).toNat < S 2 0 1 ∨ mdN S m (S 2 0 1).toNat < 2 * lwN S m (S 2 0 1).toNat
/-- the auction's numbers are small -/
def smA (S : St) : Prop := (0 ≤ S 2 0 1 ∧ S 2 0 1 ≤ 120) ∧ ∀ i, i < 10 → ∀ k, k < 120 → -1001 ≤ S 7 i k ∧ S 7 i k ≤ 1000
def opS (S : St) (Ln m l : Nat) : St := fun t i k => if t = 7 ∧ (i < m ∧ k < Ln ∨ i = m ∧ k < l) then -1001 else up3 S 2 0 1 Ln t i k
theorem opS_0 (S : St) (Ln : Nat) : opS S Ln 0 0 = up3 S 2 0 1 Ln := by
  funext t i k
  unfold opS
  rw [if_neg (by omega)]
theorem opS_r (S : St) (Ln m : Nat) : opS S Ln m Ln = opS S Ln (m + 1) 0 := by
  funext t i k
  unfold opS
  by_cases h : t = 7 ∧ (i < m ∧ k < Ln ∨ i = m ∧ k < Ln)
  · rw [if_pos h, if_pos (by omega)]
  · rw [if_neg h, if_neg (by omega)]
theorem opS_s (S : St) (Ln m l : Nat) : up3 (opS S Ln m l) 7 m l (-1001) = opS S Ln m (l + 1) := by
  funext t i k
  show (if t = 7 ∧ i = m ∧ k = l then (-1001 : Int) else opS S Ln m l t i k) = _
  unfold opS
  by_cases h : t = 7 ∧ i = m ∧ k = l
  · rw [if_pos h, if_pos (by omega)]
  · rw [if_neg h]
    by_cases h2 : t = 7 ∧ (i < m ∧ k < Ln ∨ i = m ∧ k < l)
    · rw [if_pos h2, if_pos (by omega)]
    · rw [if_neg h2, if_neg (by omega)]
theorem opS_l (S : St) (Ln m l : Nat) : opS S Ln m l 2 0 1 = Ln := by simp [opS, up3]
section XAuction
variable {g : Gl} {S : St} {Ret : Option AV → St → Prop} {Thr : String → St → Prop}
theorem cn_opn {a : Int} (ha : 0 ≤ a ∧ a ≤ 1000000) (h : Ret none (opS S (min a 120).toNat 10 0)) : Cn g yX0_open cX0_open 4 none 1 21 0 [vR 2 0, vI a] S Ret Thr := by
  refine enter (L := [some (vR 2 0), some (vI a), none, none]) (by decide +kernel) (Nat.le_of_ble_eq_true rfl) rfl (fun K MM => ?_)
  have M := MM.mk
  have e0 : min a 120 = ((min a 120).toNat : Int) := by omega
  refine r_aload_n M dX0_open_0 rfl ?_
  refine r_iload_n M dX0_open_1 rfl ?_
  refine r_bipush M dX0_open_2 rfl ?_
  refine r_min M dX0_open_4 mm_X0_20 (by omega) ⟨by omega, by omega⟩ (Nat.le_of_ble_eq_true rfl) ?_
  refine r_putI M dX0_open_7 pk_X0_16 (by decide) ?_
  refine r_iconst M dX0_open_10 ?_
  refine r_istore_2 M dX0_open_11 (by decide) rfl ?_
  refine k_S (S1 := opS S (min a 120).toNat 0 0) ?_ (by rw [opS_0, ← e0])
  refine fz (P := fun m => ∀ c3, K 0 12 [some (vR 2 0), some (vI a), some (vI (m : Int)), c3] [] (opS S (min a 120).toNat m 0)) (m := 10) ?_ ?_ _
  · intro c3
    refine r_iload_n M dX0_open_12 rfl ?_
    refine r_bipush M dX0_open_13 rfl ?_
    refine r_icmp_ge M dX0_open_15 (tgt := 51) rfl (by omega) (fun b15 => ?_) (fun b15 => by omega)
    refine r_vret MM dX0_open_51 ?_
    exact h
  · intro m hm hP c3
    refine r_iload_n M dX0_open_12 rfl ?_
    refine r_bipush M dX0_open_13 rfl ?_
    refine r_icmp_ge M dX0_open_15 (tgt := 51) rfl (by omega) (fun b15 => by omega) (fun b15 => ?_)
    refine r_iconst M dX0_open_18 ?_
    refine r_istore_3 M dX0_open_19 (by decide) rfl ?_
    refine fz (P := fun l => K 0 20 [some (vR 2 0), some (vI a), some (vI (m : Int)), some (vI (l : Int))] [] (opS S (min a 120).toNat m l)) (m := (min a 120).toNat) ?_ ?_
    · refine r_iload_n M dX0_open_20 rfl ?_
      refine r_aload_n M dX0_open_21 rfl ?_
      refine r_getV M dX0_open_22 fk_X0_16 (by decide) rfl (((min a 120).toNat : Int)) (by exact opS_l _ _ _ _) ?_
      refine r_icmp_ge M dX0_open_25 (tgt := 45) rfl (by omega) (fun b25 => ?_) (fun b25 => by omega)
      refine r_iinc_2 M (_) dX0_open_45 rfl (by decide) rfl ?_
      refine r_goto M dX0_open_48 (tgt := 12) rfl ?_
      rw [opS_r]; exact hP _
    · intro l hl hQ
      refine r_iload_n M dX0_open_20 rfl ?_
      refine r_aload_n M dX0_open_21 rfl ?_
      refine r_getV M dX0_open_22 fk_X0_16 (by decide) rfl (((min a 120).toNat : Int)) (by exact opS_l _ _ _ _) ?_
      refine r_icmp_ge M dX0_open_25 (tgt := 45) rfl (by omega) (fun b25 => by omega) (fun b25 => ?_)
      refine r_aload_n M dX0_open_28 rfl ?_
      refine r_getR M dX0_open_29 fk_X0_11 (by decide) rfl ?_
      refine r_iload_n M dX0_open_32 rfl ?_
      refine r_aaldB M (_) dX0_open_33 rfl (by omega) ?_
      refine r_iload_n M dX0_open_34 rfl ?_
      refine r_sipush M dX0_open_35 rfl ?_
      refine r_iast M (_) dX0_open_38 ⟨rfl, by decide⟩ (show (_ : Nat) < 10 by omega) rfl (show (_ : Nat) < 120 by omega) (Nat.le_of_ble_eq_true rfl) ?_
      refine r_iinc_3 M (_) dX0_open_39 rfl (by decide) rfl ?_
      refine r_goto M dX0_open_42 (tgt := 20) rfl ?_
      exact k_S hQ (opS_s _ _ _ _)
theorem cn_hasLot {z : Int} (hz : -2147483648 ≤ z ∧ z ≤ 2147483647) (hA : 0 ≤ S 2 0 1 ∧ S 2 0 1 ≤ 120) (h1 : 0 ≤ z ∧ z < S 2 0 1 → Ret (some (vI 1)) S) (h0 : ¬ (0 ≤ z ∧ z < S 2 0 1) → Ret (some (vI 0)) S) : Cn g yX0_hasLot cX0_hasLot 2 (some .boolean) 0 0 0 [vR 2 0, vI z] S Ret Thr := by
  refine enter (L := [some (vR 2 0), some (vI z)]) (by decide +kernel) (Nat.le_of_ble_eq_true rfl) rfl (fun K MM => ?_)
  have M := MM.mk
  refine r_iload_n M dX0_hasLot_0 rfl ?_
  refine r_if_lt M dX0_hasLot_1 (tgt := 16) rfl (by omega) (fun b1 => ?_) (fun b1 => ?_)
  · refine r_iconst M dX0_hasLot_16 ?_
    refine r_zret MM dX0_hasLot_17 (by omega) ?_
    first | (exact h1 (by omega)) | (exact h0 (by omega))
  refine r_iload_n M dX0_hasLot_4 rfl ?_
  refine r_aload_n M dX0_hasLot_5 rfl ?_
  refine r_getI M dX0_hasLot_6 fk_X0_16 (by decide) rfl ?_
  refine r_icmp_ge M dX0_hasLot_9 (tgt := 16) rfl (by omega) (fun b9 => ?_) (fun b9 => ?_)
  · refine r_iconst M dX0_hasLot_16 ?_
    refine r_zret MM dX0_hasLot_17 (by omega) ?_
    first | (exact h1 (by omega)) | (exact h0 (by omega))
  refine r_iconst M dX0_hasLot_12 ?_
  refine r_goto M dX0_hasLot_13 (tgt := 17) rfl ?_
  refine r_zret MM dX0_hasLot_17 (by omega) ?_
  first | (exact h1 (by omega)) | (exact h0 (by omega))
theorem cn_bidOf {m : Nat} {zm zl : Int} (lot : Nat) (em : zm = m) (el : zl = lot) (hm : m < 10) (hl : lot < 120) (h : Ret (some (vI (S 7 m lot))) S) : Cn g yX0_bidOf cX0_bidOf 3 (some .int) 0 0 0 [vR 2 0, vI zm, vI zl] S Ret Thr := by
  subst em; subst el
  refine enter (L := [some (vR 2 0), some (vI (m : Int)), some (vI (lot : Int))]) (by decide +kernel) (Nat.le_of_ble_eq_true rfl) rfl (fun K MM => ?_)
  have M := MM.mk
  refine r_aload_n M dX0_bidOf_0 rfl ?_
  refine r_getR M dX0_bidOf_1 fk_X0_11 (by decide) rfl ?_
  refine r_iload_n M dX0_bidOf_4 rfl ?_
  refine r_aaldB M (_) dX0_bidOf_5 rfl (by omega) ?_
  refine r_iload_n M dX0_bidOf_6 rfl ?_
  refine r_iald M (_) dX0_bidOf_7 ⟨rfl, by decide⟩ (show (_ : Nat) < 10 by omega) rfl (show (_ : Nat) < 120 by omega) (Nat.le_of_ble_eq_true rfl) ?_
  refine r_iret MM dX0_bidOf_8 ?_
  exact h
theorem cn_enterA {m : Nat} {zm zl : Int} (lot : Nat) (em : zm = m) (el : zl = lot) (hm : m < 10) (hl : lot < 120) (x : Int) (h : Ret none (up3 S 7 m lot x)) : Cn g yX0_enter cX0_enter 4 none 0 0 0 [vR 2 0, vI zm, vI zl, vI x] S Ret Thr := by
  subst em; subst el
  refine enter (L := [some (vR 2 0), some (vI (m : Int)), some (vI (lot : Int)), some (vI x)]) (by decide +kernel) (Nat.le_of_ble_eq_true rfl) rfl (fun K MM => ?_)
  have M := MM.mk
  refine r_aload_n M dX0_enter_0 rfl ?_
  refine r_getR M dX0_enter_1 fk_X0_11 (by decide) rfl ?_
  refine r_iload_n M dX0_enter_4 rfl ?_
  refine r_aaldB M (_) dX0_enter_5 rfl (by omega) ?_
  refine r_iload_n M dX0_enter_6 rfl ?_
  refine r_iload_n M dX0_enter_7 rfl ?_
  refine r_iast M (_) dX0_enter_8 ⟨rfl, by decide⟩ (show (_ : Nat) < 10 by omega) rfl (show (_ : Nat) < 120 by omega) (Nat.le_of_ble_eq_true rfl) ?_
  refine r_vret MM dX0_enter_9 ?_
  exact h
theorem cn_winnerOf {lot : Nat} (hl : lot < 120) (hA : smA S) (h : Ret (some (vI (winr S lot))) S) : Cn g yX0_winnerOf cX0_winnerOf 5 (some .int) 0 0 0 [vR 2 0, vI (lot : Int)] S Ret Thr := by
  refine enter (L := [some (vR 2 0), some (vI (lot : Int)), none, none, none]) (by decide +kernel) (Nat.le_of_ble_eq_true rfl) rfl (fun K MM => ?_)
  have M := MM.mk
  refine r_iconst M dX0_winnerOf_0 ?_
  refine r_istore_2 M dX0_winnerOf_1 (by decide) rfl ?_
  refine r_sipush M dX0_winnerOf_2 rfl ?_
  refine r_istore_3 M dX0_winnerOf_5 (by decide) rfl ?_
  refine r_iconst M dX0_winnerOf_6 ?_
  refine r_istore_4 M dX0_winnerOf_7 (by decide) rfl ?_
  refine fz (P := fun m => K 0 9 [some (vR 2 0), some (vI (lot : Int)), some (vI (wnN (fun i => S 7 i lot) m).1), some (vI (wnN (fun i => S 7 i lot) m).2), some (vI (m : Int))] [] S) (m := 10) ?_ ?_
  · refine r_iload M dX0_winnerOf_9 rfl ?_
    refine r_bipush M dX0_winnerOf_11 rfl ?_
    refine r_icmp_ge M dX0_winnerOf_13 (tgt := 48) rfl (by omega) (fun b13 => ?_) (fun b13 => by omega)
    refine r_iload_n M dX0_winnerOf_48 rfl ?_
    refine r_iret MM dX0_winnerOf_49 ?_
    exact h
  · intro m hm hP
    have hr := wnN_rng (fun i => S 7 i lot) (fun k hk => hA.2 k hk lot hl) m (by omega)
    have hb := hA.2 m hm lot hl
    rw [wnN_succ] at hP
    refine r_iload M dX0_winnerOf_9 rfl ?_
    refine r_bipush M dX0_winnerOf_11 rfl ?_
    refine r_icmp_ge M dX0_winnerOf_13 (tgt := 48) rfl (by omega) (fun b13 => by omega) (fun b13 => ?_)
    refine r_aload_n M dX0_winnerOf_16 rfl ?_
    refine r_getR M dX0_winnerOf_17 fk_X0_11 (by decide) rfl ?_
    refine r_iload M dX0_winnerOf_20 rfl ?_
    refine r_aaldB M (_) dX0_winnerOf_22 rfl (by omega) ?_
    refine r_iload_n M dX0_winnerOf_23 rfl ?_
    refine r_iald M (_) dX0_winnerOf_24 ⟨rfl, by decide⟩ (show (_ : Nat) < 10 by omega) rfl (show (_ : Nat) < 120 by omega) (Nat.le_of_ble_eq_true rfl) ?_
    refine r_iload_n M dX0_winnerOf_25 rfl ?_
    refine r_icmp_le M dX0_winnerOf_26 (tgt := 42) rfl (by omega) (fun b26 => ?_) (fun b26 => ?_)
    · refine r_iinc_4 M (_) dX0_winnerOf_42 rfl (by decide) rfl ?_
      refine r_goto M dX0_winnerOf_45 (tgt := 9) rfl ?_
      first | (rw [if_pos (by omega)] at hP; exact hP) | (rw [if_neg (by omega)] at hP; exact hP)
    refine r_aload_n M dX0_winnerOf_29 rfl ?_
    refine r_getR M dX0_winnerOf_30 fk_X0_11 (by decide) rfl ?_
    refine r_iload M dX0_winnerOf_33 rfl ?_
    refine r_aaldB M (_) dX0_winnerOf_35 rfl (by omega) ?_
    refine r_iload_n M dX0_winnerOf_36 rfl ?_
    refine r_iald M (_) dX0_winnerOf_37 ⟨rfl, by decide⟩ (show (_ : Nat) < 10 by omega) rfl (show (_ : Nat) < 120 by omega) (Nat.le_of_ble_eq_true rfl) ?_
    refine r_istore_3 M dX0_winnerOf_38 (by decide) rfl ?_
    refine r_iload M dX0_winnerOf_39 rfl ?_
    refine r_istore_2 M dX0_winnerOf_41 (by decide) rfl ?_
    refine r_iinc_4 M (_) dX0_winnerOf_42 rfl (by decide) rfl ?_
    refine r_goto M dX0_winnerOf_45 (tgt := 9) rfl ?_
    first | (rw [if_pos (by omega)] at hP; exact hP) | (rw [if_neg (by omega)] at hP; exact hP)
theorem cn_winnerV {lot : Nat} {v : Int} (hv : winr S lot = v) (hl : lot < 120) (hA : smA S) (h : Ret (some (vI v)) S) : Cn g yX0_winnerOf cX0_winnerOf 5 (some .int) 0 0 0 [vR 2 0, vI (lot : Int)] S Ret Thr := by
  subst hv
  exact cn_winnerOf hl hA h
theorem cn_bidOfV {zm zl v : Int} (m lot : Nat) (em : zm = m) (el : zl = lot) (hm : m < 10) (hl : lot < 120) (hv : S 7 m lot = v) (h : Ret (some (vI v)) S) : Cn g yX0_bidOf cX0_bidOf 3 (some .int) 0 0 0 [vR 2 0, vI zm, vI zl] S Ret Thr := by
  subst hv
  exact cn_bidOf lot em el hm hl h
theorem cn_isLow {m lot : Nat} (hm : m < 10) (hl : lot < 120) (hA : smA S) (h1 : isLw S m lot → Ret (some (vI 1)) S) (h0 : ¬ isLw S m lot → Ret (some (vI 0)) S) : Cn g yX0_isLow cX0_isLow 4 (some .boolean) 1 24 0 [vR 2 0, vI (m : Int), vI (lot : Int)] S Ret Thr := by
  refine enter (L := [some (vR 2 0), some (vI (m : Int)), some (vI (lot : Int)), none]) (by decide +kernel) (Nat.le_of_ble_eq_true rfl) rfl (fun K MM => ?_)
  have M := MM.mk
  have hr := wnN_rng (fun i => S 7 i lot) (fun k hk => hA.2 k hk lot hl) 10 (by omega)
  have hb := hA.2 m hm lot hl
  have hw : winr S lot = -1 ∨ 0 ≤ winr S lot ∧ winr S lot < 10 := hr.2
  have hb2 : 0 ≤ winr S lot → -1001 ≤ S 7 (winr S lot).toNat lot ∧ S 7 (winr S lot).toNat lot ≤ 1000 := fun q => hA.2 _ (by omega) lot hl
  refine r_aload_n M dX0_isLow_0 rfl ?_
  refine r_iload_n M dX0_isLow_1 rfl ?_
  refine r_callV1 MM dX0_isLow_2 ck_X0_30 vk_X0_winnerOf ⟨by omega, by omega, by omega⟩ ⟨by decide, by decide, rfl⟩ (by decide) (Nat.le_of_ble_eq_true rfl) (cn_winnerOf hl hA ?_)
  refine r_istore_3 M dX0_isLow_5 (by decide) rfl ?_
  refine r_iload_n M dX0_isLow_6 rfl ?_
  refine r_iconst M dX0_isLow_7 ?_
  refine r_icmp_eq M dX0_isLow_8 (tgt := 37) rfl (by omega) (fun b8 => ?_) (fun b8 => ?_)
  · refine r_iconst M dX0_isLow_37 ?_
    refine r_zret MM dX0_isLow_38 (by omega) ?_
    first | (exact h1 ⟨by omega, by omega⟩) | (exact h0 (fun q => by have := q.1; have := q.2; omega))
  refine r_aload_n M dX0_isLow_11 rfl ?_
  refine r_getR M dX0_isLow_12 fk_X0_11 (by decide) rfl ?_
  refine r_iload_n M dX0_isLow_15 rfl ?_
  refine r_aaldB M ((winr S lot).toNat) dX0_isLow_16 (by omega) (by omega) ?_
  refine r_iload_n M dX0_isLow_17 rfl ?_
  refine r_iald M (_) dX0_isLow_18 ⟨rfl, by decide⟩ (show (_ : Nat) < 10 by omega) rfl (show (_ : Nat) < 120 by omega) (Nat.le_of_ble_eq_true rfl) ?_
  refine r_aload_n M dX0_isLow_19 rfl ?_
  refine r_getR M dX0_isLow_20 fk_X0_11 (by decide) rfl ?_
  refine r_iload_n M dX0_isLow_23 rfl ?_
  refine r_aaldB M (_) dX0_isLow_24 rfl (by omega) ?_
  refine r_iload_n M dX0_isLow_25 rfl ?_
  refine r_iald M (_) dX0_isLow_26 ⟨rfl, by decide⟩ (show (_ : Nat) < 10 by omega) rfl (show (_ : Nat) < 120 by omega) (Nat.le_of_ble_eq_true rfl) ?_
  refine r_isub M dX0_isLow_27 ?_
  refine r_bipush M dX0_isLow_28 rfl ?_
  refine r_icmp_le M dX0_isLow_30 (tgt := 37) rfl (by omega) (fun b30 => ?_) (fun b30 => ?_)
  · refine r_iconst M dX0_isLow_37 ?_
    refine r_zret MM dX0_isLow_38 (by omega) ?_
    first | (exact h1 ⟨by omega, by omega⟩) | (exact h0 (fun q => by have := q.1; have := q.2; omega))
  refine r_iconst M dX0_isLow_33 ?_
  refine r_goto M dX0_isLow_34 (tgt := 38) rfl ?_
  refine r_zret MM dX0_isLow_38 (by omega) ?_
  first | (exact h1 ⟨by omega, by omega⟩) | (exact h0 (fun q => by have := q.1; have := q.2; omega))
theorem cn_bidPoorly {m : Nat} (hm : m < 10) (hA : smA S) (h1 : poor S m → Ret (some (vI 1)) S) (h0 : ¬ poor S m → Ret (some (vI 0)) S) : Cn g yX0_bidPoorly cX0_bidPoorly 5 (some .boolean) 2 47 0 [vR 2 0, vI (m : Int)] S Ret Thr := by
  refine enter (L := [some (vR 2 0), some (vI (m : Int)), none, none, none]) (by decide +kernel) (Nat.le_of_ble_eq_true rfl) rfl (fun K MM => ?_)
  have M := MM.mk
  have hl1 := hA.1
  refine r_iconst M dX0_bidPoorly_0 ?_
  refine r_istore_2 M dX0_bidPoorly_1 (by decide) rfl ?_
  refine r_iconst M dX0_bidPoorly_2 ?_
  refine r_istore_3 M dX0_bidPoorly_3 (by decide) rfl ?_
  refine r_iconst M dX0_bidPoorly_4 ?_
  refine r_istore_4 M dX0_bidPoorly_5 (by decide) rfl ?_
  refine fz (P := fun l => K 0 7 [some (vR 2 0), some (vI (m : Int)), some (vI (mdN S m l)), some (vI (lwN S m l)), some (vI (l : Int))] [] S) (m := (S 2 0 1).toNat) ?_ ?_
  · have t1 := mdN_rng S m (S 2 0 1).toNat
    have t2 := lwN_rng S m (S 2 0 1).toNat
    refine r_iload M dX0_bidPoorly_7 rfl ?_
    refine r_aload_n M dX0_bidPoorly_9 rfl ?_
    refine r_getI M dX0_bidPoorly_10 fk_X0_16 (by decide) rfl ?_
    refine r_icmp_ge M dX0_bidPoorly_13 (tgt := 58) rfl (by omega) (fun b13 => ?_) (fun b13 => by omega)
    refine r_iconst M dX0_bidPoorly_58 ?_
    refine r_iload_n M dX0_bidPoorly_59 rfl ?_
    refine r_imul M dX0_bidPoorly_60 ?_
    refine r_aload_n M dX0_bidPoorly_61 rfl ?_
    refine r_getI M dX0_bidPoorly_62 fk_X0_16 (by decide) rfl ?_
    refine r_icmp_lt M dX0_bidPoorly_65 (tgt := 75) rfl (by omega) (fun b65 => ?_) (fun b65 => ?_)
    · refine r_iconst M dX0_bidPoorly_75 ?_
      refine r_goto M dX0_bidPoorly_76 (tgt := 80) rfl ?_
      refine r_zret MM dX0_bidPoorly_80 (by omega) ?_
      first | (exact h1 (by unfold poor; omega)) | (exact h0 (by unfold poor; omega))
    refine r_iconst M dX0_bidPoorly_68 ?_
    refine r_iload_n M dX0_bidPoorly_69 rfl ?_
    refine r_imul M dX0_bidPoorly_70 ?_
    refine r_iload_n M dX0_bidPoorly_71 rfl ?_
    refine r_icmp_le M dX0_bidPoorly_72 (tgt := 79) rfl (by omega) (fun b72 => ?_) (fun b72 => ?_)
    · refine r_iconst M dX0_bidPoorly_79 ?_
      refine r_zret MM dX0_bidPoorly_80 (by omega) ?_
      first | (exact h1 (by unfold poor; omega)) | (exact h0 (by unfold poor; omega))
    refine r_iconst M dX0_bidPoorly_75 ?_
    refine r_goto M dX0_bidPoorly_76 (tgt := 80) rfl ?_
    refine r_zret MM dX0_bidPoorly_80 (by omega) ?_
    first | (exact h1 (by unfold poor; omega)) | (exact h0 (by unfold poor; omega))
  · intro l hl hP
    have t1 := mdN_rng S m l
    have t2 := lwN_rng S m l
    have hb := hA.2 m hm l (by omega)
    refine r_iload M dX0_bidPoorly_7 rfl ?_
    refine r_aload_n M dX0_bidPoorly_9 rfl ?_
    refine r_getI M dX0_bidPoorly_10 fk_X0_16 (by decide) rfl ?_
    refine r_icmp_ge M dX0_bidPoorly_13 (tgt := 58) rfl (by omega) (fun b13 => by omega) (fun b13 => ?_)
    refine r_aload_n M dX0_bidPoorly_16 rfl ?_
    refine r_getR M dX0_bidPoorly_17 fk_X0_11 (by decide) rfl ?_
    refine r_iload_n M dX0_bidPoorly_20 rfl ?_
    refine r_aaldB M (_) dX0_bidPoorly_21 rfl (by omega) ?_
    refine r_iload M dX0_bidPoorly_22 rfl ?_
    refine r_iald M (_) dX0_bidPoorly_24 ⟨rfl, by decide⟩ (show (_ : Nat) < 10 by omega) rfl (show (_ : Nat) < 120 by omega) (Nat.le_of_ble_eq_true rfl) ?_
    refine r_sipush M dX0_bidPoorly_25 rfl ?_
    refine r_icmp_eq M dX0_bidPoorly_28 (tgt := 52) rfl (by omega) (fun b28 => ?_) (fun b28 => ?_)
    · refine r_iinc_4 M (_) dX0_bidPoorly_52 rfl (by decide) rfl ?_
      refine r_goto M dX0_bidPoorly_55 (tgt := 7) rfl ?_
      first | (simp only [mdN, lwN, if_pos b28, if_pos hq] at hP; exact hP) | (simp only [mdN, lwN, if_pos b28, if_neg hq, Int.add_zero] at hP; rw [Int.add_zero]; exact hP) | (simp only [mdN, lwN, if_neg (show ¬ S 7 m l ≠ -1001 from fun q => q b28)] at hP; exact hP)
    refine r_iinc_2 M (_) dX0_bidPoorly_31 rfl (by decide) rfl ?_
    refine r_iload_n M dX0_bidPoorly_34 rfl ?_
    refine r_aload_n M dX0_bidPoorly_35 rfl ?_
    refine r_iload_n M dX0_bidPoorly_36 rfl ?_
    refine r_iload M dX0_bidPoorly_37 rfl ?_
    refine r_callV2 MM dX0_bidPoorly_39 ck_X0_26 vk_X0_isLow ⟨by omega, by omega, by omega⟩ ⟨by decide, by decide, rfl⟩ (by decide) (Nat.le_of_ble_eq_true rfl) (cn_isLow hm (by omega) hA (fun hq => ?_) (fun hq => ?_))
    · refine r_if_eq M dX0_bidPoorly_42 (tgt := 49) rfl (by omega) (fun b42 => by omega) (fun b42 => ?_)
      refine r_iconst M dX0_bidPoorly_45 ?_
      refine r_goto M dX0_bidPoorly_46 (tgt := 50) rfl ?_
      refine r_iadd M dX0_bidPoorly_50 ?_
      refine r_istore_3 M dX0_bidPoorly_51 (by decide) rfl ?_
      refine r_iinc_4 M (_) dX0_bidPoorly_52 rfl (by decide) rfl ?_
      refine r_goto M dX0_bidPoorly_55 (tgt := 7) rfl ?_
      first | (simp only [mdN, lwN, if_pos b28, if_pos hq] at hP; exact hP) | (simp only [mdN, lwN, if_pos b28, if_neg hq, Int.add_zero] at hP; rw [Int.add_zero]; exact hP) | (simp only [mdN, lwN, if_neg (show ¬ S 7 m l ≠ -1001 from fun q => q b28)] at hP; exact hP)
    refine r_if_eq M dX0_bidPoorly_42 (tgt := 49) rfl (by omega) (fun b42 => ?_) (fun b42 => by omega)
    refine r_iconst M dX0_bidPoorly_49 ?_
    refine r_iadd M dX0_bidPoorly_50 ?_
    refine r_istore_3 M dX0_bidPoorly_51 (by decide) rfl ?_
    refine r_iinc_4 M (_) dX0_bidPoorly_52 rfl (by decide) rfl ?_
    refine r_goto M dX0_bidPoorly_55 (tgt := 7) rfl ?_
    first | (simp only [mdN, lwN, if_pos b28, if_pos hq] at hP; exact hP) | (simp only [mdN, lwN, if_pos b28, if_neg hq, Int.add_zero] at hP; rw [Int.add_zero]; exact hP) | (simp only [mdN, lwN, if_neg (show ¬ S 7 m l ≠ -1001 from fun q => q b28)] at hP; exact hP)
end XAuction
end
section
/-! ===== DefaultFund: what the calls require, the plain calls ===== -/
def MI (S : St) (i : Nat) : Prop := (0 ≤ S 4 i 1 ∧ S 4 i 1 ≤ 100) ∧ (0 ≤ S 4 i 2 ∧ S 4 i 2 ≤ 100) ∧ (0 ≤ S 4 i 3 ∧ S 4 i 3 ≤ 3) ∧ (0 ≤ S 4 i 4 ∧ S 4 i 4 ≤ 1000000) ∧ (0 ≤ S 4 i 5 ∧ S 4 i 5 ≤ 2000000) ∧ (0 ≤ S 4 i 6 ∧ S 4 i 6 ≤ 100) ∧ (0 ≤ S 4 i 7 ∧ S 4 i 7 ≤ 1000000) ∧ (0 ≤ S 4 i 8 ∧ S 4 i 8 ≤ 1000000) ∧ (0 ≤ S 4 i 9 ∧ S 4 i 9 ≤ 1) ∧ (0 ≤ S 4 i 12 ∧ S 4 i 12 ≤ 2000000) ∧ ∀ k, k < 100 → 0 ≤ S 5 i k ∧ S 5 i k ≤ 20
/-- the numbers of the class's side are where they belong -/
def CI (S : St) : Prop := (0 ≤ S 0 0 3 ∧ S 0 0 3 ≤ 10) ∧ (0 ≤ S 0 0 4 ∧ S 0 0 4 ≤ 1000000) ∧ (-1 ≤ S 0 0 7 ∧ S 0 0 7 < 10) ∧ (0 ≤ S 0 0 5 ∧ S 0 0 5 ≤ 1000000) ∧ smA S ∧ smP S ∧ ∀ i, i < 10 → MI S i
theorem CI.cnt {S : St} (h : CI S) : 0 ≤ S 0 0 3 ∧ S 0 0 3 ≤ 10 := h.1
theorem CI.mem {S : St} (h : CI S) {i : Nat} (hi : i < 10) : MI S i := h.2.2.2.2.2.2 i hi
section XFund
variable {g : Gl} {S : St} {Ret : Option AV → St → Prop} {Thr : String → St → Prop}
theorem cn_existing {z : Int} (hz : -2147483648 ≤ z ∧ z ≤ 2147483647) (hc : 0 ≤ S 0 0 3 ∧ S 0 0 3 ≤ 10) (hok : ∀ j : Nat, z = j → j < 10 → (j : Int) < S 0 0 3 → Ret (some (vR 4 j)) S) (hbad : ¬ (0 ≤ z ∧ z < S 0 0 3) → Thr E_B S) : Cn g yX3_existing cX3_existing 2 (some (.object "DefaultFund$Member")) 6 90 1 [vR 0 0, vI z] S Ret Thr := by
  refine enter (L := [some (vR 0 0), some (vI z)]) (by decide +kernel) (Nat.le_of_ble_eq_true rfl) rfl (fun K MM => ?_)
  have M := MM.mk
  refine r_iload_n M dX3_existing_0 rfl ?_
  refine r_if_lt M dX3_existing_1 (tgt := 12) rfl (by omega) (fun b1 => ?_) (fun b1 => ?_)
  · refine r_throw MM tk_133_177_137 dX3_existing_12 dX3_existing_15 dX3_existing_16 dX3_existing_18 dX3_existing_21 ⟨by omega, by omega, by omega⟩ (Nat.le_of_ble_eq_true rfl) ?_
    exact hbad (by omega)
  refine r_iload_n M dX3_existing_4 rfl ?_
  refine r_aload_n M dX3_existing_5 rfl ?_
  refine r_getI M dX3_existing_6 fk_X3_29 (by decide) rfl ?_
  refine r_icmp_lt M dX3_existing_9 (tgt := 22) rfl (by omega) (fun b9 => ?_) (fun b9 => ?_)
  · refine r_aload_n M dX3_existing_22 rfl ?_
    refine r_getR M dX3_existing_23 fk_X3_11 (by decide) rfl ?_
    refine r_iload_n M dX3_existing_26 rfl ?_
    refine r_aaldM M (z.toNat) dX3_existing_27 (by omega) (by omega) ?_
    refine r_aret MM dX3_existing_28 ?_
    exact hok z.toNat (by omega) (by omega) (by omega)
  refine r_throw MM tk_133_177_137 dX3_existing_12 dX3_existing_15 dX3_existing_16 dX3_existing_18 dX3_existing_21 ⟨by omega, by omega, by omega⟩ (Nat.le_of_ble_eq_true rfl) ?_
  exact hbad (by omega)
theorem cn_requireBetween {v a b : Int} (hv : -2147483648 ≤ v ∧ v ≤ 2147483647) (ha : -2147483648 ≤ a ∧ a ≤ 2147483647) (hb : -2147483648 ≤ b ∧ b ≤ 2147483647) (hok : a ≤ v ∧ v ≤ b → Ret none S) (hbad : ¬ (a ≤ v ∧ v ≤ b) → Thr E_A S) : Cn g yX3_requireBetween cX3_requireBetween 3 none 6 90 1 [vI v, vI a, vI b] S Ret Thr := by
  refine enter (L := [some (vI v), some (vI a), some (vI b)]) (by decide +kernel) (Nat.le_of_ble_eq_true rfl) rfl (fun K MM => ?_)
  have M := MM.mk
  refine r_iload_n M dX3_requireBetween_0 rfl ?_
  refine r_iload_n M dX3_requireBetween_1 rfl ?_
  refine r_icmp_lt M dX3_requireBetween_2 (tgt := 10) rfl (by omega) (fun b2 => ?_) (fun b2 => ?_)
  · refine r_throw MM tk_179_181_183 dX3_requireBetween_10 dX3_requireBetween_13 dX3_requireBetween_14 dX3_requireBetween_16 dX3_requireBetween_19 ⟨by omega, by omega, by omega⟩ (Nat.le_of_ble_eq_true rfl) ?_
    exact hbad (by omega)
  refine r_iload_n M dX3_requireBetween_5 rfl ?_
  refine r_iload_n M dX3_requireBetween_6 rfl ?_
  refine r_icmp_le M dX3_requireBetween_7 (tgt := 20) rfl (by omega) (fun b7 => ?_) (fun b7 => ?_)
  · refine r_vret MM dX3_requireBetween_20 ?_
    exact hok (by omega)
  refine r_throw MM tk_179_181_183 dX3_requireBetween_10 dX3_requireBetween_13 dX3_requireBetween_14 dX3_requireBetween_16 dX3_requireBetween_19 ⟨by omega, by omega, by omega⟩ (Nat.le_of_ble_eq_true rfl) ?_
  exact hbad (by omega)
theorem cn_requireActive {i : Nat} (hi : i < 10) (hr : -2147483648 ≤ S 4 i 3 ∧ S 4 i 3 ≤ 2147483647) (hok : actv S i → Ret none S) (hbad : ¬ actv S i → Thr E_S S) : Cn g yX3_requireActive cX3_requireActive 1 none 6 90 1 [vR 4 i] S Ret Thr := by
  refine enter (L := [some (vR 4 i)]) (by decide +kernel) (Nat.le_of_ble_eq_true rfl) rfl (fun K MM => ?_)
  have M := MM.mk
  refine r_aload_n M dX3_requireActive_0 rfl ?_
  refine r_callV0 MM dX3_requireActive_1 ck_X3_96 vk_X1_isActive ⟨by omega, by omega, by omega⟩ ⟨by decide, by decide, rfl⟩ (show (_ : Nat) < 10 by omega) (Nat.le_of_ble_eq_true rfl) (cn_isActive hi hr (fun hq => ?_) (fun hq => ?_))
  · refine r_if_ne M dX3_requireActive_4 (tgt := 17) rfl (by omega) (fun b4 => ?_) (fun b4 => by omega)
    refine r_vret MM dX3_requireActive_17 ?_
    exact hok hq
  refine r_if_ne M dX3_requireActive_4 (tgt := 17) rfl (by omega) (fun b4 => by omega) (fun b4 => ?_)
  refine r_throw MM tk_51_184_55 dX3_requireActive_7 dX3_requireActive_10 dX3_requireActive_11 dX3_requireActive_13 dX3_requireActive_16 ⟨by omega, by omega, by omega⟩ (Nat.le_of_ble_eq_true rfl) ?_
  exact hbad hq
theorem cn_requireNoFailure (hr : -2147483648 ≤ S 0 0 7 ∧ S 0 0 7 ≤ 2147483647) (hok : S 0 0 7 = -1 → Ret none S) (hbad : S 0 0 7 ≠ -1 → Thr E_S S) : Cn g yX3_requireNoFailure cX3_requireNoFailure 1 none 6 90 1 [vR 0 0] S Ret Thr := by
  refine enter (L := [some (vR 0 0)]) (by decide +kernel) (Nat.le_of_ble_eq_true rfl) rfl (fun K MM => ?_)
  have M := MM.mk
  refine r_aload_n M dX3_requireNoFailure_0 rfl ?_
  refine r_getI M dX3_requireNoFailure_1 fk_X3_42 (by decide) rfl ?_
  refine r_iconst M dX3_requireNoFailure_4 ?_
  refine r_icmp_eq M dX3_requireNoFailure_5 (tgt := 18) rfl (by omega) (fun b5 => ?_) (fun b5 => ?_)
  · refine r_vret MM dX3_requireNoFailure_18 ?_
    exact hok b5
  refine r_throw MM tk_51_186_55 dX3_requireNoFailure_8 dX3_requireNoFailure_11 dX3_requireNoFailure_12 dX3_requireNoFailure_14 dX3_requireNoFailure_17 ⟨by omega, by omega, by omega⟩ (Nat.le_of_ble_eq_true rfl) ?_
  exact hbad b5
theorem cn_members (h : Ret (some (vI (S 0 0 3))) S) : Cn g yX3_members cX3_members 1 (some .int) 0 0 0 [vR 0 0] S Ret Thr := by
  refine enter (L := [some (vR 0 0)]) (by decide +kernel) (Nat.le_of_ble_eq_true rfl) rfl (fun K MM => ?_)
  have M := MM.mk
  refine r_aload_n M dX3_members_0 rfl ?_
  refine r_getI M dX3_members_1 fk_X3_29 (by decide) rfl ?_
  refine r_iret MM dX3_members_4 ?_
  exact h
theorem cn_capital (h : Ret (some (vI (S 0 0 4))) S) : Cn g yX3_capital cX3_capital 1 (some .int) 0 0 0 [vR 0 0] S Ret Thr := by
  refine enter (L := [some (vR 0 0)]) (by decide +kernel) (Nat.le_of_ble_eq_true rfl) rfl (fun K MM => ?_)
  have M := MM.mk
  refine r_aload_n M dX3_capital_0 rfl ?_
  refine r_getI M dX3_capital_1 fk_X3_33 (by decide) rfl ?_
  refine r_iret MM dX3_capital_4 ?_
  exact h
theorem cn_loss (h : Ret (some (vI (S 0 0 5))) S) : Cn g yX3_loss cX3_loss 1 (some .int) 0 0 0 [vR 0 0] S Ret Thr := by
  refine enter (L := [some (vR 0 0)]) (by decide +kernel) (Nat.le_of_ble_eq_true rfl) rfl (fun K MM => ?_)
  have M := MM.mk
  refine r_aload_n M dX3_loss_0 rfl ?_
  refine r_getI M dX3_loss_1 fk_X3_36 (by decide) rfl ?_
  refine r_iret MM dX3_loss_4 ?_
  exact h
theorem cn_uncovered (h : Ret (some (vI (S 0 0 6))) S) : Cn g yX3_uncovered cX3_uncovered 1 (some .int) 0 0 0 [vR 0 0] S Ret Thr := by
  refine enter (L := [some (vR 0 0)]) (by decide +kernel) (Nat.le_of_ble_eq_true rfl) rfl (fun K MM => ?_)
  have M := MM.mk
  refine r_aload_n M dX3_uncovered_0 rfl ?_
  refine r_getI M dX3_uncovered_1 fk_X3_39 (by decide) rfl ?_
  refine r_iret MM dX3_uncovered_4 ?_
  exact h
theorem cn_failing (h : Ret (some (vI (S 0 0 7))) S) : Cn g yX3_failing cX3_failing 1 (some .int) 0 0 0 [vR 0 0] S Ret Thr := by
  refine enter (L := [some (vR 0 0)]) (by decide +kernel) (Nat.le_of_ble_eq_true rfl) rfl (fun K MM => ?_)
  have M := MM.mk
  refine r_aload_n M dX3_failing_0 rfl ?_
  refine r_getI M dX3_failing_1 fk_X3_42 (by decide) rfl ?_
  refine r_iret MM dX3_failing_4 ?_
  exact h
theorem cn_state {z : Int} (hz : -2147483648 ≤ z ∧ z ≤ 2147483647) (hI : CI S) (hok : ∀ j : Nat, z = j → j < 10 → (j : Int) < S 0 0 3 → Ret (some (vI (S 4 j 3))) S) (hbad : ¬ (0 ≤ z ∧ z < S 0 0 3) → Thr E_B S) : Cn g yX3_state cX3_state 2 (some .int) 7 111 1 [vR 0 0, vI z] S Ret Thr := by
  refine enter (L := [some (vR 0 0), some (vI z)]) (by decide +kernel) (Nat.le_of_ble_eq_true rfl) rfl (fun K MM => ?_)
  have M := MM.mk
  refine r_aload_n M dX3_state_0 rfl ?_
  refine r_iload_n M dX3_state_1 rfl ?_
  refine r_callV1 MM dX3_state_2 ck_X3_61 vk_X3_existing ⟨by omega, by omega, by omega⟩ ⟨by decide, by decide, rfl⟩ (by decide) (Nat.le_of_ble_eq_true rfl) (cn_existing hz hI.cnt (fun j ej hj hjc => ?_) hbad)
  refine r_getI M dX3_state_5 fk_X3_85 (show (_ : Nat) < 10 by omega) rfl ?_
  refine r_iret MM dX3_state_8 ?_
  exact hok j ej hj hjc
theorem cn_margin {z : Int} (hz : -2147483648 ≤ z ∧ z ≤ 2147483647) (hI : CI S) (hok : ∀ j : Nat, z = j → j < 10 → (j : Int) < S 0 0 3 → Ret (some (vI (S 4 j 4))) S) (hbad : ¬ (0 ≤ z ∧ z < S 0 0 3) → Thr E_B S) : Cn g yX3_margin cX3_margin 2 (some .int) 7 111 1 [vR 0 0, vI z] S Ret Thr := by
  refine enter (L := [some (vR 0 0), some (vI z)]) (by decide +kernel) (Nat.le_of_ble_eq_true rfl) rfl (fun K MM => ?_)
  have M := MM.mk
  refine r_aload_n M dX3_margin_0 rfl ?_
  refine r_iload_n M dX3_margin_1 rfl ?_
  refine r_callV1 MM dX3_margin_2 ck_X3_61 vk_X3_existing ⟨by omega, by omega, by omega⟩ ⟨by decide, by decide, rfl⟩ (by decide) (Nat.le_of_ble_eq_true rfl) (cn_existing hz hI.cnt (fun j ej hj hjc => ?_) hbad)
  refine r_getI M dX3_margin_5 fk_X3_100 (show (_ : Nat) < 10 by omega) rfl ?_
  refine r_iret MM dX3_margin_8 ?_
  exact hok j ej hj hjc
theorem cn_share {z : Int} (hz : -2147483648 ≤ z ∧ z ≤ 2147483647) (hI : CI S) (hok : ∀ j : Nat, z = j → j < 10 → (j : Int) < S 0 0 3 → Ret (some (vI (S 4 j 5))) S) (hbad : ¬ (0 ≤ z ∧ z < S 0 0 3) → Thr E_B S) : Cn g yX3_share cX3_share 2 (some .int) 7 111 1 [vR 0 0, vI z] S Ret Thr := by
  refine enter (L := [some (vR 0 0), some (vI z)]) (by decide +kernel) (Nat.le_of_ble_eq_true rfl) rfl (fun K MM => ?_)
  have M := MM.mk
  refine r_aload_n M dX3_share_0 rfl ?_
  refine r_iload_n M dX3_share_1 rfl ?_
  refine r_callV1 MM dX3_share_2 ck_X3_61 vk_X3_existing ⟨by omega, by omega, by omega⟩ ⟨by decide, by decide, rfl⟩ (by decide) (Nat.le_of_ble_eq_true rfl) (cn_existing hz hI.cnt (fun j ej hj hjc => ?_) hbad)
  refine r_getI M dX3_share_5 fk_X3_116 (show (_ : Nat) < 10 by omega) rfl ?_
  refine r_iret MM dX3_share_8 ?_
  exact hok j ej hj hjc
theorem cn_gain {z : Int} (hz : -2147483648 ≤ z ∧ z ≤ 2147483647) (hI : CI S) (hok : ∀ j : Nat, z = j → j < 10 → (j : Int) < S 0 0 3 → Ret (some (vI (S 4 j 7))) S) (hbad : ¬ (0 ≤ z ∧ z < S 0 0 3) → Thr E_B S) : Cn g yX3_gain cX3_gain 2 (some .int) 7 111 1 [vR 0 0, vI z] S Ret Thr := by
  refine enter (L := [some (vR 0 0), some (vI z)]) (by decide +kernel) (Nat.le_of_ble_eq_true rfl) rfl (fun K MM => ?_)
  have M := MM.mk
  refine r_aload_n M dX3_gain_0 rfl ?_
  refine r_iload_n M dX3_gain_1 rfl ?_
  refine r_callV1 MM dX3_gain_2 ck_X3_61 vk_X3_existing ⟨by omega, by omega, by omega⟩ ⟨by decide, by decide, rfl⟩ (by decide) (Nat.le_of_ble_eq_true rfl) (cn_existing hz hI.cnt (fun j ej hj hjc => ?_) hbad)
  refine r_getI M dX3_gain_5 fk_X3_79 (show (_ : Nat) < 10 by omega) rfl ?_
  refine r_iret MM dX3_gain_8 ?_
  exact hok j ej hj hjc
theorem cn_assessed {z : Int} (hz : -2147483648 ≤ z ∧ z ≤ 2147483647) (hI : CI S) (hok : ∀ j : Nat, z = j → j < 10 → (j : Int) < S 0 0 3 → Ret (some (vI (S 4 j 10))) S) (hbad : ¬ (0 ≤ z ∧ z < S 0 0 3) → Thr E_B S) : Cn g yX3_assessed cX3_assessed 2 (some .int) 7 111 1 [vR 0 0, vI z] S Ret Thr := by
  refine enter (L := [some (vR 0 0), some (vI z)]) (by decide +kernel) (Nat.le_of_ble_eq_true rfl) rfl (fun K MM => ?_)
  have M := MM.mk
  refine r_aload_n M dX3_assessed_0 rfl ?_
  refine r_iload_n M dX3_assessed_1 rfl ?_
  refine r_callV1 MM dX3_assessed_2 ck_X3_61 vk_X3_existing ⟨by omega, by omega, by omega⟩ ⟨by decide, by decide, rfl⟩ (by decide) (Nat.le_of_ble_eq_true rfl) (cn_existing hz hI.cnt (fun j ej hj hjc => ?_) hbad)
  refine r_getI M dX3_assessed_5 fk_X3_168 (show (_ : Nat) < 10 by omega) rfl ?_
  refine r_iret MM dX3_assessed_8 ?_
  exact hok j ej hj hjc
theorem cn_clientLots {z : Int} (hz : -2147483648 ≤ z ∧ z ≤ 2147483647) (hI : CI S) (hok : ∀ j : Nat, z = j → j < 10 → (j : Int) < S 0 0 3 → Ret (some (vI (S 4 j 2))) S) (hbad : ¬ (0 ≤ z ∧ z < S 0 0 3) → Thr E_B S) : Cn g yX3_clientLots cX3_clientLots 2 (some .int) 7 111 1 [vR 0 0, vI z] S Ret Thr := by
  refine enter (L := [some (vR 0 0), some (vI z)]) (by decide +kernel) (Nat.le_of_ble_eq_true rfl) rfl (fun K MM => ?_)
  have M := MM.mk
  refine r_aload_n M dX3_clientLots_0 rfl ?_
  refine r_iload_n M dX3_clientLots_1 rfl ?_
  refine r_callV1 MM dX3_clientLots_2 ck_X3_61 vk_X3_existing ⟨by omega, by omega, by omega⟩ ⟨by decide, by decide, rfl⟩ (by decide) (Nat.le_of_ble_eq_true rfl) (cn_existing hz hI.cnt (fun j ej hj hjc => ?_) hbad)
  refine r_getI M dX3_clientLots_5 fk_X3_171 (show (_ : Nat) < 10 by omega) rfl ?_
  refine r_iret MM dX3_clientLots_8 ?_
  exact hok j ej hj hjc
theorem cn_won {z : Int} (hz : -2147483648 ≤ z ∧ z ≤ 2147483647) (hI : CI S) (hok : ∀ j : Nat, z = j → j < 10 → (j : Int) < S 0 0 3 → Ret (some (vI (S 4 j 11))) S) (hbad : ¬ (0 ≤ z ∧ z < S 0 0 3) → Thr E_B S) : Cn g yX3_won cX3_won 2 (some .int) 7 111 1 [vR 0 0, vI z] S Ret Thr := by
  refine enter (L := [some (vR 0 0), some (vI z)]) (by decide +kernel) (Nat.le_of_ble_eq_true rfl) rfl (fun K MM => ?_)
  have M := MM.mk
  refine r_aload_n M dX3_won_0 rfl ?_
  refine r_iload_n M dX3_won_1 rfl ?_
  refine r_callV1 MM dX3_won_2 ck_X3_61 vk_X3_existing ⟨by omega, by omega, by omega⟩ ⟨by decide, by decide, rfl⟩ (by decide) (Nat.le_of_ble_eq_true rfl) (cn_existing hz hI.cnt (fun j ej hj hjc => ?_) hbad)
  refine r_getI M dX3_won_5 fk_X3_174 (show (_ : Nat) < 10 by omega) rfl ?_
  refine r_iret MM dX3_won_8 ?_
  exact hok j ej hj hjc
theorem cn_addMember {a b c : Int} (ha : -2147483648 ≤ a ∧ a ≤ 2147483647) (hb : -2147483648 ≤ b ∧ b ≤ 2147483647) (hc : -2147483648 ≤ c ∧ c ≤ 2147483647) (hI : CI S)
    (hok : ∀ j : Nat, S 0 0 3 = j → j < 10 → (0 ≤ a ∧ a ≤ 1000000) → (0 ≤ b ∧ b ≤ 1000000) → (0 ≤ c ∧ c ≤ 100) → Ret (some (vI (j : Int))) (up3 (joinS S j a b c) 0 0 3 (j + 1 : Int)))
    (hA : ¬ ((0 ≤ a ∧ a ≤ 1000000) ∧ (0 ≤ b ∧ b ≤ 1000000) ∧ 0 ≤ c ∧ c ≤ 100) → Thr E_A S) (hS : (0 ≤ a ∧ a ≤ 1000000) ∧ (0 ≤ b ∧ b ≤ 1000000) ∧ (0 ≤ c ∧ c ≤ 100) → ¬ S 0 0 3 < 10 → Thr E_S S) : Cn g yX3_addMember cX3_addMember 4 (some .int) 7 112 4 [vR 0 0, vI a, vI b, vI c] S Ret Thr := by
  refine enter (L := [some (vR 0 0), some (vI a), some (vI b), some (vI c)]) (by decide +kernel) (Nat.le_of_ble_eq_true rfl) rfl (fun K MM => ?_)
  have M := MM.mk
  have hcn := hI.cnt
  refine r_iload_n M dX3_addMember_0 rfl ?_
  refine r_iconst M dX3_addMember_1 ?_
  refine r_ldc M dX3_addMember_2 kc_X3_46 (z := 1000000) rfl ?_
  refine r_callS3 MM dX3_addMember_4 sl_X3_47 st_X3_requireBetween rfl ck_X3_47 ⟨by omega, by omega, by omega⟩ (Nat.le_of_ble_eq_true rfl) (cn_requireBetween ha (by omega) (by omega) (fun q1 => ?_) (fun q => hA (by omega)))
  refine r_iload_n M dX3_addMember_7 rfl ?_
  refine r_iconst M dX3_addMember_8 ?_
  refine r_ldc M dX3_addMember_9 kc_X3_46 (z := 1000000) rfl ?_
  refine r_callS3 MM dX3_addMember_11 sl_X3_47 st_X3_requireBetween rfl ck_X3_47 ⟨by omega, by omega, by omega⟩ (Nat.le_of_ble_eq_true rfl) (cn_requireBetween hb (by omega) (by omega) (fun q2 => ?_) (fun q => hA (by omega)))
  refine r_iload_n M dX3_addMember_14 rfl ?_
  refine r_iconst M dX3_addMember_15 ?_
  refine r_bipush M dX3_addMember_16 rfl ?_
  refine r_callS3 MM dX3_addMember_18 sl_X3_47 st_X3_requireBetween rfl ck_X3_47 ⟨by omega, by omega, by omega⟩ (Nat.le_of_ble_eq_true rfl) (cn_requireBetween hc (by omega) (by omega) (fun q3 => ?_) (fun q => hA (by omega)))
  refine r_aload_n M dX3_addMember_21 rfl ?_
  refine r_getI M dX3_addMember_22 fk_X3_29 (by decide) rfl ?_
  refine r_bipush M dX3_addMember_25 rfl ?_
  refine r_icmp_lt M dX3_addMember_27 (tgt := 40) rfl (by omega) (fun b27 => ?_) (fun b27 => ?_)
  · refine r_aload_n M dX3_addMember_40 rfl ?_
    refine r_getR M dX3_addMember_41 fk_X3_11 (by decide) rfl ?_
    refine r_aload_n M dX3_addMember_44 rfl ?_
    refine r_getI M dX3_addMember_45 fk_X3_29 (by decide) rfl ?_
    refine r_aaldM M ((S 0 0 3).toNat) dX3_addMember_48 (by omega) (by omega) ?_
    refine r_iload_n M dX3_addMember_49 rfl ?_
    refine r_iload_n M dX3_addMember_50 rfl ?_
    refine r_iload_n M dX3_addMember_51 rfl ?_
    refine r_callV3 MM dX3_addMember_52 ck_X3_58 vk_X1_join ⟨by omega, by omega, by omega⟩ ⟨by decide, by decide, rfl⟩ (show (_ : Nat) < 10 by omega) (Nat.le_of_ble_eq_true rfl) (cn_join (by omega) a b c ?_)
    refine r_aload_n M dX3_addMember_55 rfl ?_
    refine r_dupR M dX3_addMember_56 ?_
    refine r_getV M dX3_addMember_57 fk_X3_29 (by decide) rfl (S 0 0 3) (by simp [joinS, up3]) ?_
    refine r_iconst M dX3_addMember_60 ?_
    refine r_iadd M dX3_addMember_61 ?_
    refine r_putI M dX3_addMember_62 pk_X3_29 (by decide) ?_
    refine r_aload_n M dX3_addMember_65 rfl ?_
    refine r_getV M dX3_addMember_66 fk_X3_29 (by decide) rfl (S 0 0 3 + 1) (by simp [up3]) ?_
    refine r_iconst M dX3_addMember_69 ?_
    refine r_isub M dX3_addMember_70 ?_
    refine r_iret MM dX3_addMember_71 ?_
    have h := hok (S 0 0 3).toNat (by omega) (by omega) q1 q2 q3; rw [show (((S 0 0 3).toNat : Nat) : Int) = S 0 0 3 by omega] at h; exact ret_v h (by congr 2; omega)
  refine r_throw MM tk_51_53_55 dX3_addMember_30 dX3_addMember_33 dX3_addMember_34 dX3_addMember_36 dX3_addMember_39 ⟨by omega, by omega, by omega⟩ (Nat.le_of_ble_eq_true rfl) ?_
  exact hS ⟨q1, q2, q3⟩ (by omega)
theorem cn_addClient {z v : Int} (hz : -2147483648 ≤ z ∧ z ≤ 2147483647) (hv : -2147483648 ≤ v ∧ v ≤ 2147483647) (hI : CI S)
    (hok : ∀ j : Nat, z = j → j < 10 → (j : Int) < S 0 0 3 → (1 ≤ v ∧ v ≤ 20) → actv S j → taken S j v → Ret (some (vI (S 4 j 6 - (S 4 j 2 + v)))) (takeS S j v))
    (hB : ¬ (0 ≤ z ∧ z < S 0 0 3) → Thr E_B S) (hA : (0 ≤ z ∧ z < S 0 0 3) → ¬ (1 ≤ v ∧ v ≤ 20) → Thr E_A S) (hS : ∀ j : Nat, z = j → j < 10 → (j : Int) < S 0 0 3 → (1 ≤ v ∧ v ≤ 20) → ¬ (actv S j ∧ taken S j v) → Thr E_S S) : Cn g yX3_addClient cX3_addClient 4 (some .int) 7 112 4 [vR 0 0, vI z, vI v] S Ret Thr := by
  refine enter (L := [some (vR 0 0), some (vI z), some (vI v), none]) (by decide +kernel) (Nat.le_of_ble_eq_true rfl) rfl (fun K MM => ?_)
  have M := MM.mk
  refine r_aload_n M dX3_addClient_0 rfl ?_
  refine r_iload_n M dX3_addClient_1 rfl ?_
  refine r_callV1 MM dX3_addClient_2 ck_X3_61 vk_X3_existing ⟨by omega, by omega, by omega⟩ ⟨by decide, by decide, rfl⟩ (by decide) (Nat.le_of_ble_eq_true rfl) (cn_existing hz hI.cnt (fun j ej hj hjc => ?_) hB)
  refine r_astore_3 M dX3_addClient_5 (by decide) rfl ?_
  refine r_iload_n M dX3_addClient_6 rfl ?_
  refine r_iconst M dX3_addClient_7 ?_
  refine r_bipush M dX3_addClient_8 rfl ?_
  refine r_callS3 MM dX3_addClient_10 sl_X3_47 st_X3_requireBetween rfl ck_X3_47 ⟨by omega, by omega, by omega⟩ (Nat.le_of_ble_eq_true rfl) (cn_requireBetween hv (by omega) (by omega) (fun q2 => ?_) (fun q => hA (by omega) q))
  refine r_aload_n M dX3_addClient_13 rfl ?_
  refine r_callS1 MM dX3_addClient_14 sl_X3_65 st_X3_requireActive rfl ck_X3_65 ⟨by omega, by omega, by omega⟩ (Nat.le_of_ble_eq_true rfl) (cn_requireActive hj (by have h9 := hI.mem hj; unfold MI at h9; omega) (fun q3 => ?_) (fun q => hS j ej hj hjc q2 (fun w => q w.1)))
  refine r_aload_n M dX3_addClient_17 rfl ?_
  refine r_iload_n M dX3_addClient_18 rfl ?_
  refine r_callV1 MM dX3_addClient_19 ck_X3_69 vk_X1_takesClient ⟨by omega, by omega, by omega⟩ ⟨by decide, by decide, rfl⟩ (show (_ : Nat) < 10 by omega) (Nat.le_of_ble_eq_true rfl) (cn_takesClient hj (by omega) (by have h9 := hI.mem hj; unfold MI at h9; omega) (by have h9 := hI.mem hj; unfold MI at h9; omega) (by have h9 := hI.mem hj; unfold MI at h9; omega) (fun q4 => ?_) (fun q4 => ?_))
  · refine r_if_ne M dX3_addClient_22 (tgt := 35) rfl (by omega) (fun b22 => ?_) (fun b22 => by omega)
    refine r_aload_n M dX3_addClient_35 rfl ?_
    refine r_callV0 MM dX3_addClient_36 ck_X3_75 vk_X1_freeRoom ⟨by omega, by omega, by omega⟩ ⟨by decide, by decide, rfl⟩ (show (_ : Nat) < 10 by omega) (Nat.le_of_ble_eq_true rfl) (cn_freeRoom hj ?_)
    refine r_iret MM dX3_addClient_39 ?_
    exact ret_v (hok j ej hj hjc q2 q3 q4) (by congr 2; simp [takeS, up3])
  refine r_if_ne M dX3_addClient_22 (tgt := 35) rfl (by omega) (fun b22 => by omega) (fun b22 => ?_)
  refine r_throw MM tk_51_73_55 dX3_addClient_25 dX3_addClient_28 dX3_addClient_29 dX3_addClient_31 dX3_addClient_34 ⟨by omega, by omega, by omega⟩ (Nat.le_of_ble_eq_true rfl) ?_
  exact hS j ej hj hjc q2 (fun w => q4 w.2)
theorem cn_setGain {z v : Int} (hz : -2147483648 ≤ z ∧ z ≤ 2147483647) (hv : -2147483648 ≤ v ∧ v ≤ 2147483647) (hI : CI S)
    (hok : ∀ j : Nat, z = j → j < 10 → (j : Int) < S 0 0 3 → (0 ≤ v ∧ v ≤ 1000000) → actv S j → Ret (some (vI (S 4 j 7))) (up3 S 4 j 7 v))
    (hB : ¬ (0 ≤ z ∧ z < S 0 0 3) → Thr E_B S) (hA : (0 ≤ z ∧ z < S 0 0 3) → ¬ (0 ≤ v ∧ v ≤ 1000000) → Thr E_A S) (hS : ∀ j : Nat, z = j → j < 10 → (j : Int) < S 0 0 3 → (0 ≤ v ∧ v ≤ 1000000) → ¬ actv S j → Thr E_S S) : Cn g yX3_setGain cX3_setGain 5 (some .int) 7 112 3 [vR 0 0, vI z, vI v] S Ret Thr := by
  refine enter (L := [some (vR 0 0), some (vI z), some (vI v), none, none]) (by decide +kernel) (Nat.le_of_ble_eq_true rfl) rfl (fun K MM => ?_)
  have M := MM.mk
  refine r_aload_n M dX3_setGain_0 rfl ?_
  refine r_iload_n M dX3_setGain_1 rfl ?_
  refine r_callV1 MM dX3_setGain_2 ck_X3_61 vk_X3_existing ⟨by omega, by omega, by omega⟩ ⟨by decide, by decide, rfl⟩ (by decide) (Nat.le_of_ble_eq_true rfl) (cn_existing hz hI.cnt (fun j ej hj hjc => ?_) hB)
  refine r_astore_3 M dX3_setGain_5 (by decide) rfl ?_
  refine r_iload_n M dX3_setGain_6 rfl ?_
  refine r_iconst M dX3_setGain_7 ?_
  refine r_ldc M dX3_setGain_8 kc_X3_46 (z := 1000000) rfl ?_
  refine r_callS3 MM dX3_setGain_10 sl_X3_47 st_X3_requireBetween rfl ck_X3_47 ⟨by omega, by omega, by omega⟩ (Nat.le_of_ble_eq_true rfl) (cn_requireBetween hv (by omega) (by omega) (fun q2 => ?_) (fun q => hA (by omega) q))
  refine r_aload_n M dX3_setGain_13 rfl ?_
  refine r_callS1 MM dX3_setGain_14 sl_X3_65 st_X3_requireActive rfl ck_X3_65 ⟨by omega, by omega, by omega⟩ (Nat.le_of_ble_eq_true rfl) (cn_requireActive hj (by have h9 := hI.mem hj; unfold MI at h9; omega) (fun q3 => ?_) (fun q => hS j ej hj hjc q2 q))
  refine r_aload_n M dX3_setGain_17 rfl ?_
  refine r_getI M dX3_setGain_18 fk_X3_79 (show (_ : Nat) < 10 by omega) rfl ?_
  refine r_istore_4 M dX3_setGain_21 (by decide) rfl ?_
  refine r_aload_n M dX3_setGain_23 rfl ?_
  refine r_iload_n M dX3_setGain_24 rfl ?_
  refine r_putI M dX3_setGain_25 pk_X3_79 (show (_ : Nat) < 10 by omega) ?_
  refine r_iload M dX3_setGain_28 rfl ?_
  refine r_iret MM dX3_setGain_30 ?_
  exact hok j ej hj hjc q2 q3
theorem cn_setTested {z v : Int} (hz : -2147483648 ≤ z ∧ z ≤ 2147483647) (hv : -2147483648 ≤ v ∧ v ≤ 2147483647) (hI : CI S)
    (hok : ∀ j : Nat, z = j → j < 10 → (j : Int) < S 0 0 3 → (0 ≤ v ∧ v ≤ 1000000) → actv S j → Ret (some (vI (S 4 j 8))) (up3 S 4 j 8 v))
    (hB : ¬ (0 ≤ z ∧ z < S 0 0 3) → Thr E_B S) (hA : (0 ≤ z ∧ z < S 0 0 3) → ¬ (0 ≤ v ∧ v ≤ 1000000) → Thr E_A S) (hS : ∀ j : Nat, z = j → j < 10 → (j : Int) < S 0 0 3 → (0 ≤ v ∧ v ≤ 1000000) → ¬ actv S j → Thr E_S S) : Cn g yX3_setTested cX3_setTested 5 (some .int) 7 112 3 [vR 0 0, vI z, vI v] S Ret Thr := by
  refine enter (L := [some (vR 0 0), some (vI z), some (vI v), none, none]) (by decide +kernel) (Nat.le_of_ble_eq_true rfl) rfl (fun K MM => ?_)
  have M := MM.mk
  refine r_aload_n M dX3_setTested_0 rfl ?_
  refine r_iload_n M dX3_setTested_1 rfl ?_
  refine r_callV1 MM dX3_setTested_2 ck_X3_61 vk_X3_existing ⟨by omega, by omega, by omega⟩ ⟨by decide, by decide, rfl⟩ (by decide) (Nat.le_of_ble_eq_true rfl) (cn_existing hz hI.cnt (fun j ej hj hjc => ?_) hB)
  refine r_astore_3 M dX3_setTested_5 (by decide) rfl ?_
  refine r_iload_n M dX3_setTested_6 rfl ?_
  refine r_iconst M dX3_setTested_7 ?_
  refine r_ldc M dX3_setTested_8 kc_X3_46 (z := 1000000) rfl ?_
  refine r_callS3 MM dX3_setTested_10 sl_X3_47 st_X3_requireBetween rfl ck_X3_47 ⟨by omega, by omega, by omega⟩ (Nat.le_of_ble_eq_true rfl) (cn_requireBetween hv (by omega) (by omega) (fun q2 => ?_) (fun q => hA (by omega) q))
  refine r_aload_n M dX3_setTested_13 rfl ?_
  refine r_callS1 MM dX3_setTested_14 sl_X3_65 st_X3_requireActive rfl ck_X3_65 ⟨by omega, by omega, by omega⟩ (Nat.le_of_ble_eq_true rfl) (cn_requireActive hj (by have h9 := hI.mem hj; unfold MI at h9; omega) (fun q3 => ?_) (fun q => hS j ej hj hjc q2 q))
  refine r_aload_n M dX3_setTested_17 rfl ?_
  refine r_getI M dX3_setTested_18 fk_X3_82 (show (_ : Nat) < 10 by omega) rfl ?_
  refine r_istore_4 M dX3_setTested_21 (by decide) rfl ?_
  refine r_aload_n M dX3_setTested_23 rfl ?_
  refine r_iload_n M dX3_setTested_24 rfl ?_
  refine r_putI M dX3_setTested_25 pk_X3_82 (show (_ : Nat) < 10 by omega) ?_
  refine r_iload M dX3_setTested_28 rfl ?_
  refine r_iret MM dX3_setTested_30 ?_
  exact hok j ej hj hjc q2 q3
theorem cn_setCapital {v : Int} (hv : -2147483648 ≤ v ∧ v ≤ 2147483647) (hok : (0 ≤ v ∧ v ≤ 1000000) → Ret (some (vI (S 0 0 4))) (up3 S 0 0 4 v)) (hA : ¬ (0 ≤ v ∧ v ≤ 1000000) → Thr E_A S) : Cn g yX3_setCapital cX3_setCapital 3 (some .int) 7 112 1 [vR 0 0, vI v] S Ret Thr := by
  refine enter (L := [some (vR 0 0), some (vI v), none]) (by decide +kernel) (Nat.le_of_ble_eq_true rfl) rfl (fun K MM => ?_)
  have M := MM.mk
  refine r_iload_n M dX3_setCapital_0 rfl ?_
  refine r_iconst M dX3_setCapital_1 ?_
  refine r_ldc M dX3_setCapital_2 kc_X3_46 (z := 1000000) rfl ?_
  refine r_callS3 MM dX3_setCapital_4 sl_X3_47 st_X3_requireBetween rfl ck_X3_47 ⟨by omega, by omega, by omega⟩ (Nat.le_of_ble_eq_true rfl) (cn_requireBetween hv (by omega) (by omega) (fun q2 => ?_) hA)
  refine r_aload_n M dX3_setCapital_7 rfl ?_
  refine r_getI M dX3_setCapital_8 fk_X3_33 (by decide) rfl ?_
  refine r_istore_2 M dX3_setCapital_11 (by decide) rfl ?_
  refine r_aload_n M dX3_setCapital_12 rfl ?_
  refine r_iload_n M dX3_setCapital_13 rfl ?_
  refine r_putI M dX3_setCapital_14 pk_X3_33 (by decide) ?_
  refine r_iload_n M dX3_setCapital_17 rfl ?_
  refine r_iret MM dX3_setCapital_18 ?_
  exact hok q2
theorem cn_giveNotice {z : Int} (hz : -2147483648 ≤ z ∧ z ≤ 2147483647) (hI : CI S) (hok : ∀ j : Nat, z = j → j < 10 → (j : Int) < S 0 0 3 → S 4 j 3 = 0 → S 0 0 7 = -1 → Ret none (up3 S 4 j 3 1))
    (hB : ¬ (0 ≤ z ∧ z < S 0 0 3) → Thr E_B S) (hS : ∀ j : Nat, z = j → j < 10 → (j : Int) < S 0 0 3 → ¬ (S 4 j 3 = 0 ∧ S 0 0 7 = -1) → Thr E_S S) : Cn g yX3_giveNotice cX3_giveNotice 3 none 7 111 3 [vR 0 0, vI z] S Ret Thr := by
  refine enter (L := [some (vR 0 0), some (vI z), none]) (by decide +kernel) (Nat.le_of_ble_eq_true rfl) rfl (fun K MM => ?_)
  have M := MM.mk
  have hf := hI.2.2.1
  refine r_aload_n M dX3_giveNotice_0 rfl ?_
  refine r_iload_n M dX3_giveNotice_1 rfl ?_
  refine r_callV1 MM dX3_giveNotice_2 ck_X3_61 vk_X3_existing ⟨by omega, by omega, by omega⟩ ⟨by decide, by decide, rfl⟩ (by decide) (Nat.le_of_ble_eq_true rfl) (cn_existing hz hI.cnt (fun j ej hj hjc => ?_) hB)
  refine r_astore_2 M dX3_giveNotice_5 (by decide) rfl ?_
  refine r_aload_n M dX3_giveNotice_6 rfl ?_
  refine r_getI M dX3_giveNotice_7 fk_X3_85 (show (_ : Nat) < 10 by omega) rfl ?_
  refine r_if_eq M dX3_giveNotice_10 (tgt := 23) rfl (by have h9 := hI.mem hj; unfold MI at h9; omega) (fun b10 => ?_) (fun b10 => ?_)
  · refine r_aload_n M dX3_giveNotice_23 rfl ?_
    refine r_callV0 MM dX3_giveNotice_24 ck_X3_90 vk_X3_requireNoFailure ⟨by omega, by omega, by omega⟩ ⟨by decide, by decide, rfl⟩ (by decide) (Nat.le_of_ble_eq_true rfl) (cn_requireNoFailure (by omega) (fun q => ?_) (fun q => hS j ej hj hjc (fun w => q w.2)))
    refine r_aload_n M dX3_giveNotice_27 rfl ?_
    refine r_iconst M dX3_giveNotice_28 ?_
    refine r_putI M dX3_giveNotice_29 pk_X3_85 (show (_ : Nat) < 10 by omega) ?_
    refine r_vret MM dX3_giveNotice_32 ?_
    exact hok j ej hj hjc b10 q
  refine r_throw MM tk_51_88_55 dX3_giveNotice_13 dX3_giveNotice_16 dX3_giveNotice_17 dX3_giveNotice_19 dX3_giveNotice_22 ⟨by omega, by omega, by omega⟩ (Nat.le_of_ble_eq_true rfl) ?_
  exact hS j ej hj hjc (fun w => b10 w.1)
theorem cn_bid {z zl v : Int} (hz : -2147483648 ≤ z ∧ z ≤ 2147483647) (hl : -2147483648 ≤ zl ∧ zl ≤ 2147483647) (hv : -2147483648 ≤ v ∧ v ≤ 2147483647) (hI : CI S)
    (hok : ∀ j l : Nat, z = j → zl = l → j < 10 → l < 120 → (j : Int) < S 0 0 3 → S 0 0 7 ≠ -1 → (l : Int) < S 2 0 1 → (-1000 ≤ v ∧ v ≤ 1000) → actv S j → S 7 j l = -1001 → Ret none (up3 S 7 j l v))
    (hB : ¬ ((0 ≤ z ∧ z < S 0 0 3) ∧ S 0 0 7 ≠ -1 ∧ 0 ≤ zl ∧ zl < S 2 0 1) → Thr E_B S) (hA : (0 ≤ z ∧ z < S 0 0 3) ∧ S 0 0 7 ≠ -1 ∧ (0 ≤ zl ∧ zl < S 2 0 1) → ¬ (-1000 ≤ v ∧ v ≤ 1000) → Thr E_A S)
    (hS : ∀ j l : Nat, z = j → zl = l → j < 10 → l < 120 → (j : Int) < S 0 0 3 → S 0 0 7 ≠ -1 → (l : Int) < S 2 0 1 → (-1000 ≤ v ∧ v ≤ 1000) → ¬ (actv S j ∧ S 7 j l = -1001) → Thr E_S S) : Cn g yX3_bid cX3_bid 5 none 7 112 5 [vR 0 0, vI z, vI zl, vI v] S Ret Thr := by
  refine enter (L := [some (vR 0 0), some (vI z), some (vI zl), some (vI v), none]) (by decide +kernel) (Nat.le_of_ble_eq_true rfl) rfl (fun K MM => ?_)
  have M := MM.mk
  have hf := hI.2.2.1
  have hA9 : smA S := hI.2.2.2.2.1
  have hA1 := hA9.1
  refine r_aload_n M dX3_bid_0 rfl ?_
  refine r_iload_n M dX3_bid_1 rfl ?_
  refine r_callV1 MM dX3_bid_2 ck_X3_61 vk_X3_existing ⟨by omega, by omega, by omega⟩ ⟨by decide, by decide, rfl⟩ (by decide) (Nat.le_of_ble_eq_true rfl) (cn_existing hz hI.cnt (fun j ej hj hjc => ?_) (fun q => hB (fun w => q w.1)))
  refine r_astore_4 M dX3_bid_5 (by decide) rfl ?_
  refine r_aload_n M dX3_bid_7 rfl ?_
  refine r_getI M dX3_bid_8 fk_X3_42 (by decide) rfl ?_
  refine r_iconst M dX3_bid_11 ?_
  refine r_icmp_eq M dX3_bid_12 (tgt := 26) rfl (by omega) (fun b12 => ?_) (fun b12 => ?_)
  · refine r_throw MM tk_133_135_137 dX3_bid_26 dX3_bid_29 dX3_bid_30 dX3_bid_32 dX3_bid_35 ⟨by omega, by omega, by omega⟩ (Nat.le_of_ble_eq_true rfl) ?_
    exact hB (by omega)
  refine r_aload_n M dX3_bid_15 rfl ?_
  refine r_getR M dX3_bid_16 fk_X3_18 (by decide) rfl ?_
  refine r_iload_n M dX3_bid_19 rfl ?_
  refine r_callV1 MM dX3_bid_20 ck_X3_130 vk_X0_hasLot ⟨by omega, by omega, by omega⟩ ⟨by decide, by decide, rfl⟩ (by decide) (Nat.le_of_ble_eq_true rfl) (cn_hasLot hl hA1 (fun q5 => ?_) (fun q5 => ?_))
  · refine r_if_ne M dX3_bid_23 (tgt := 36) rfl (by omega) (fun b23 => ?_) (fun b23 => by omega)
    refine r_iload_n M dX3_bid_36 rfl ?_
    refine r_sipush M dX3_bid_37 rfl ?_
    refine r_sipush M dX3_bid_40 rfl ?_
    refine r_callS3 MM dX3_bid_43 sl_X3_47 st_X3_requireBetween rfl ck_X3_47 ⟨by omega, by omega, by omega⟩ (Nat.le_of_ble_eq_true rfl) (cn_requireBetween hv (by omega) (by omega) (fun q2 => ?_) (fun q => hA (by omega) q))
    refine r_aload M dX3_bid_46 rfl ?_
    refine r_callS1 MM dX3_bid_48 sl_X3_65 st_X3_requireActive rfl ck_X3_65 ⟨by omega, by omega, by omega⟩ (Nat.le_of_ble_eq_true rfl) (cn_requireActive hj (by have h9 := hI.mem hj; unfold MI at h9; omega) (fun q3 => ?_) (fun q => hS j zl.toNat ej (by omega) hj (by omega) hjc b12 (by omega) q2 (fun w => q w.1)))
    refine r_aload_n M dX3_bid_51 rfl ?_
    refine r_getR M dX3_bid_52 fk_X3_18 (by decide) rfl ?_
    refine r_iload_n M dX3_bid_55 rfl ?_
    refine r_iload_n M dX3_bid_56 rfl ?_
    refine r_callV2 MM dX3_bid_57 ck_X3_138 vk_X0_bidOf ⟨by omega, by omega, by omega⟩ ⟨by decide, by decide, rfl⟩ (by decide) (Nat.le_of_ble_eq_true rfl) (cn_bidOf zl.toNat ej (by omega) hj (by omega) ?_)
    refine r_sipush M dX3_bid_60 rfl ?_
    refine r_icmp_eq M dX3_bid_63 (tgt := 76) rfl (by have h9 := hA9.2 j hj zl.toNat (by omega); omega) (fun b63 => ?_) (fun b63 => ?_)
    · refine r_aload_n M dX3_bid_76 rfl ?_
      refine r_getR M dX3_bid_77 fk_X3_18 (by decide) rfl ?_
      refine r_iload_n M dX3_bid_80 rfl ?_
      refine r_iload_n M dX3_bid_81 rfl ?_
      refine r_iload_n M dX3_bid_82 rfl ?_
      refine r_callV3 MM dX3_bid_83 ck_X3_144 vk_X0_enter ⟨by omega, by omega, by omega⟩ ⟨by decide, by decide, rfl⟩ (by decide) (Nat.le_of_ble_eq_true rfl) (cn_enterA zl.toNat ej (by omega) hj (by omega) v ?_)
      refine r_vret MM dX3_bid_86 ?_
      exact hok j zl.toNat ej (by omega) hj (by omega) hjc b12 (by omega) q2 q3 b63
    refine r_throw MM tk_51_142_55 dX3_bid_66 dX3_bid_69 dX3_bid_70 dX3_bid_72 dX3_bid_75 ⟨by omega, by omega, by omega⟩ (Nat.le_of_ble_eq_true rfl) ?_
    exact hS j zl.toNat ej (by omega) hj (by omega) hjc b12 (by omega) q2 (fun w => b63 w.2)
  refine r_if_ne M dX3_bid_23 (tgt := 36) rfl (by omega) (fun b23 => by omega) (fun b23 => ?_)
  refine r_throw MM tk_133_135_137 dX3_bid_26 dX3_bid_29 dX3_bid_30 dX3_bid_32 dX3_bid_35 ⟨by omega, by omega, by omega⟩ (Nat.le_of_ble_eq_true rfl) ?_
  exact hB (by omega)
end XFund
end
section
/-! ===== DefaultFund: how amounts are parted among members ===== -/
theorem rounds_nn {w b p : Nat → Int} {left : Int} (hl : 0 ≤ left) : 0 ≤ rounds w b p left := by
  unfold rounds
  split
  · omega
  · omega
theorem gvN_dec {w b : Nat → Int} {coins : Int} (hc : 0 ≤ coins) (p : Nat → Int) (left : Int) : ∀ m, (gvN w b coins p left m).2 ≤ left
  | 0 => Int.le_refl _
  | m + 1 => by
    have h := gvN_dec (w := w) (b := b) hc p left m
    rw [gvN_succ]
    split
    · show _ - _ ≤ _
      omega
    · exact h
theorem strokes_dec {w b : Nat → Int} {x : (Nat → Int) × Int} (hx : okP b x) : ∀ n, (strokes w b x n).2 ≤ x.2
  | 0 => Int.le_refl _
  | n + 1 => by
    have h := strokes_dec (w := w) hx n
    rw [strokes_succ]
    split
    · rename_i hl
      have := gvN_dec (w := w) (b := b) (rounds_nn (w := w) (b := b) (p := (strokes w b x n).1) (Int.le_of_lt hl)) (strokes w b x n).1 (strokes w b x n).2 10
      exact Int.le_trans this h
    · exact h
theorem partR_ok {w b po : Nat → Int} {a : Int} (h : okW w b a) : (∀ k, k < 10 → 0 ≤ (partR w b po a).1 k ∧ (partR w b po a).1 k ≤ b k) ∧ 0 ≤ (partR w b po a).2 ∧ (partR w b po a).2 ≤ a := by
  unfold partR
  split
  · refine ⟨fun k hk => ?_, h.2.1, Int.le_refl _⟩
    show 0 ≤ zf po 10 k ∧ zf po 10 k ≤ b k
    unfold zf
    rw [if_pos hk]
    have := h.1 k hk
    omega
  · rename_i hs
    have h0 := p0_ok (po := po) h (by omega)
    have h1 := strokes_ok (w := w) h0 12
    have h2 := strokes_dec (w := w) h0 12
    have e : ∀ k, k < 10 → p0f w b po a k = min (a * w k / smN w 10) (b k) := fun k hk => by unfold p0f; rw [if_pos hk]
    have h4 : 0 ≤ smN (p0f w b po a) 10 := by
      refine (smN_nn (B := 100000000) (fun k hk => ?_)).1
      rw [e k hk]
      have := by_rng h (by omega) hk
      have h5 := h.1 k hk
      omega
    refine ⟨h1.1, h1.2.1, ?_⟩
    have h3 : (p0f w b po a, a - smN (p0f w b po a) 10).2 = a - smN (p0f w b po a) 10 := rfl
    omega
def cN (S : St) : Nat := (S 0 0 3).toNat
def entS (S : St) (w b : Nat → Int) (l : Nat) : St := fun t i k => if t = 8 then (if i = 0 ∧ k < l then w k else S 8 i k) else if t = 9 then (if i = 0 ∧ k < l then b k else S 9 i k) else S t i k
theorem entS_0 (S : St) (w b : Nat → Int) : entS S w b 0 = S := by
  funext t i k
  unfold entS
  by_cases h8 : t = 8
  · rw [if_pos h8, if_neg (by omega), h8]
  · rw [if_neg h8]
    by_cases h9 : t = 9
    · rw [if_pos h9, if_neg (by omega), h9]
    · rw [if_neg h9]
theorem entS_s {S : St} {w b : Nat → Int} {l : Nat} {x y : Int} (hx : x = w l) (hy : y = b l) : enterS (entS S w b l) l x y = entS S w b (l + 1) := by
  subst hx; subst hy
  funext t i k
  by_cases h9 : t = 9
  · subst h9
    show (if 9 = 9 ∧ i = 0 ∧ k = l then b l else if 9 = 8 ∧ i = 0 ∧ k = l then w l else if i = 0 ∧ k < l then b k else S 9 i k) = if i = 0 ∧ k < l + 1 then b k else S 9 i k
    rcases Nat.lt_trichotomy k l with hk | hk | hk
    · simp [show ¬ k = l by omega, hk, show k < l + 1 by omega]
    · subst hk
      by_cases hi : i = 0 <;> simp [hi]
    · simp [show ¬ k = l by omega, show ¬ k < l by omega, show ¬ k < l + 1 by omega]
  · by_cases h8 : t = 8
    · subst h8
      show (if 8 = 9 ∧ i = 0 ∧ k = l then b l else if 8 = 8 ∧ i = 0 ∧ k = l then w l else if i = 0 ∧ k < l then w k else S 8 i k) = if i = 0 ∧ k < l + 1 then w k else S 8 i k
      rcases Nat.lt_trichotomy k l with hk | hk | hk
      · simp [show ¬ k = l by omega, hk, show k < l + 1 by omega]
      · subst hk
        by_cases hi : i = 0 <;> simp [hi]
      · simp [show ¬ k = l by omega, show ¬ k < l by omega, show ¬ k < l + 1 by omega]
    · unfold enterS up3 entS
      simp only [if_neg (fun q : t = 9 ∧ i = 0 ∧ k = l => h9 q.1), if_neg (fun q : t = 8 ∧ i = 0 ∧ k = l => h8 q.1), if_neg h8, if_neg h9]
/-- a field of the first l members is f -/
def fS (S : St) (fld : Nat) (f : Nat → Int) (l : Nat) : St := fun t i k => if t = 4 ∧ k = fld ∧ i < l then f i else S t i k
theorem fS_0 (S : St) (fld : Nat) (f : Nat → Int) : fS S fld f 0 = S := by
  funext t i k
  unfold fS
  rw [if_neg (by omega)]
theorem fS_s {S : St} {fld : Nat} {f : Nat → Int} {l : Nat} {x : Int} (hx : x = f l) : up3 (fS S fld f l) 4 l fld x = fS S fld f (l + 1) := by
  subst hx
  funext t i k
  unfold up3 fS
  by_cases h : t = 4 ∧ i = l ∧ k = fld
  · rw [if_pos h, if_pos (by omega), h.2.1]
  · rw [if_neg h]
    by_cases h2 : t = 4 ∧ k = fld ∧ i < l
    · rw [if_pos h2, if_pos (by omega)]
    · rw [if_neg h2, if_neg (by omega)]
theorem fS_at (S : St) (fld : Nat) (f : Nat → Int) (l : Nat) : fS S fld f l 4 l fld = S 4 l fld := by
  unfold fS
  rw [if_neg (by omega)]
def prS (S : St) (w b : Nat → Int) (a : Int) : (Nat → Int) × Int := partR (entS S w b (cN S) 8 0) (entS S w b (cN S) 9 0) (S 10 0) a
def eatS (S : St) (w b : Nat → Int) (a : Int) (fld : Nat) (f : Nat → Int) : St := fS (wp (entS S w b (cN S)) (prS S w b a).1) fld f (cN S)
theorem okW_ent {S : St} (hP : smP S) {w b : Nat → Int} {a : Int} {l : Nat} (hw : ∀ k, k < 10 → (0 ≤ w k ∧ w k ≤ 100000000) ∧ 0 ≤ b k ∧ b k ≤ 100000000) (ha : 0 ≤ a ∧ a ≤ 100000000) : okW (entS S w b l 8 0) (entS S w b l 9 0) a := by
  refine ⟨fun k hk => ?_, ha⟩
  have h1 := hw k hk
  have h2 := hP k hk
  have e8 : entS S w b l 8 0 k = if 0 = 0 ∧ k < l then w k else S 8 0 k := rfl
  have e9 : entS S w b l 9 0 k = if 0 = 0 ∧ k < l then b k else S 9 0 k := rfl
  rw [e8, e9]
  constructor
  · split <;> omega
  · split <;> omega
theorem CI_set {S S' : St} (hI : CI S) (h0 : S' 0 = S 0) (h2 : S' 2 = S 2) (h7 : S' 7 = S 7) (hP : smP S') (h4 : ∀ i, i < 10 → MI S' i) : CI S' := by
  obtain ⟨a1, a2, a3, a4, a5, a6, a7⟩ := hI
  refine ⟨by rw [h0]; exact a1, by rw [h0]; exact a2, by rw [h0]; exact a3, by rw [h0]; exact a4, ?_, hP, h4⟩
  unfold smA
  rw [h2, h7]
  exact a5
theorem CI_eat {S : St} (hI : CI S) {w b : Nat → Int} {a : Int} (hw : ∀ k, k < 10 → (0 ≤ w k ∧ w k ≤ 100000000) ∧ 0 ≤ b k ∧ b k ≤ 100000000) (ha : 0 ≤ a ∧ a ≤ 100000000) {fld : Nat} {f : Nat → Int}
    (hf : fld = 5 ∧ (∀ i, i < cN S → 0 ≤ f i ∧ f i ≤ 2000000) ∨ fld = 7 ∧ (∀ i, i < cN S → 0 ≤ f i ∧ f i ≤ 1000000) ∨ fld = 10) : CI (eatS S w b a fld f) := by
  have hP := hI.2.2.2.2.2.1
  have hk := okW_ent (l := cN S) hP hw ha
  have hp := partR_ok (po := S 10 0) hk
  refine CI_set hI rfl rfl rfl (fun k h => ?_) (fun i h => ?_)
  · have h1 := hk.1 k h
    have h2 := hp.1 k h
    have e10 : eatS S w b a fld f 10 0 k = (prS S w b a).1 k := rfl
    have e8 : eatS S w b a fld f 8 0 k = entS S w b (cN S) 8 0 k := rfl
    have e9 : eatS S w b a fld f 9 0 k = entS S w b (cN S) 9 0 k := rfl
    rw [e8, e9, e10]
    unfold prS
    omega
  · have hm := hI.mem h
    have e : ∀ k, eatS S w b a fld f 4 i k = if k = fld ∧ i < cN S then f i else S 4 i k := fun k => by
      show (if 4 = 4 ∧ k = fld ∧ i < cN S then f i else S 4 i k) = _
      simp
    have e5 : ∀ k, eatS S w b a fld f 5 i k = S 5 i k := fun k => rfl
    unfold MI at hm ⊢
    simp only [e, e5]
    rcases hf with ⟨rfl, hf⟩ | ⟨rfl, hf⟩ | rfl
    · simp only [show (1 : Nat) = 5 ↔ False by decide, show (2 : Nat) = 5 ↔ False by decide, show (3 : Nat) = 5 ↔ False by decide, show (4 : Nat) = 5 ↔ False by decide, show (6 : Nat) = 5 ↔ False by decide, show (7 : Nat) = 5 ↔ False by decide, show (8 : Nat) = 5 ↔ False by decide, show (9 : Nat) = 5 ↔ False by decide, show (12 : Nat) = 5 ↔ False by decide, false_and, if_false, true_and]
      refine ⟨hm.1, hm.2.1, hm.2.2.1, hm.2.2.2.1, ?_, hm.2.2.2.2.2⟩
      split
      · rename_i q; exact hf i q
      · exact hm.2.2.2.2.1
    · simp only [show (1 : Nat) = 7 ↔ False by decide, show (2 : Nat) = 7 ↔ False by decide, show (3 : Nat) = 7 ↔ False by decide, show (4 : Nat) = 7 ↔ False by decide, show (6 : Nat) = 7 ↔ False by decide, show (5 : Nat) = 7 ↔ False by decide, show (8 : Nat) = 7 ↔ False by decide, show (9 : Nat) = 7 ↔ False by decide, show (12 : Nat) = 7 ↔ False by decide, false_and, if_false, true_and]
      refine ⟨hm.1, hm.2.1, hm.2.2.1, hm.2.2.2.1, hm.2.2.2.2.1, hm.2.2.2.2.2.1, ?_, hm.2.2.2.2.2.2.2⟩
      split
      · rename_i q; exact hf i q
      · exact hm.2.2.2.2.2.2.1
    · simp only [show (1 : Nat) = 10 ↔ False by decide, show (2 : Nat) = 10 ↔ False by decide, show (3 : Nat) = 10 ↔ False by decide, show (4 : Nat) = 10 ↔ False by decide, show (6 : Nat) = 10 ↔ False by decide, show (5 : Nat) = 10 ↔ False by decide, show (8 : Nat) = 10 ↔ False by decide, show (9 : Nat) = 10 ↔ False by decide, show (12 : Nat) = 10 ↔ False by decide, show (7 : Nat) = 10 ↔ False by decide, false_and, if_false]
      exact hm
def shW (S : St) (j : Int) : Nat → Int := fun i => if actv S i ∧ S 4 i 9 = j then S 4 i 5 else 0
def asW (S : St) : Nat → Int := fun i => if actv S i then S 4 i 12 else 0
def asB (S : St) : Nat → Int := fun i => if S 4 i 3 = 1 then asW S i / 2 else asW S i
def gnW (S : St) : Nat → Int := fun i => if actv S i then S 4 i 7 else 0
def eaSh (S : St) (a j : Int) : St × Int := (eatS S (shW S j) (fun i => S 4 i 5) a 5 (fun i => S 4 i 5 - (prS S (shW S j) (fun i => S 4 i 5) a).1 i), (prS S (shW S j) (fun i => S 4 i 5) a).2)
def eaAs (S : St) (a : Int) : St × Int := (eatS S (asW S) (asB S) a 10 (fun i => S 4 i 10 + (prS S (asW S) (asB S) a).1 i), (prS S (asW S) (asB S) a).2)
def eaGn (S : St) (a : Int) : St × Int := (eatS S (gnW S) (fun i => S 4 i 7) a 7 (fun i => S 4 i 7 - (prS S (gnW S) (fun i => S 4 i 7) a).1 i), (prS S (gnW S) (fun i => S 4 i 7) a).2)
theorem shW_ok {S : St} (hI : CI S) (j : Int) : ∀ k, k < 10 → (0 ≤ shW S j k ∧ shW S j k ≤ 100000000) ∧ 0 ≤ S 4 k 5 ∧ S 4 k 5 ≤ 100000000 := fun k hk => by
  have h := (hI.mem hk).2.2.2.2.1
  unfold shW
  split <;> omega
theorem asW_ok {S : St} (hI : CI S) : ∀ k, k < 10 → (0 ≤ asW S k ∧ asW S k ≤ 100000000) ∧ 0 ≤ asB S k ∧ asB S k ≤ 100000000 := fun k hk => by
  have h := (hI.mem hk).2.2.2.2.2.2.2.2.2.1
  have h2 : 0 ≤ asW S k ∧ asW S k ≤ 100000000 := by
    unfold asW
    split <;> omega
  unfold asB
  split <;> omega
theorem gnW_ok {S : St} (hI : CI S) : ∀ k, k < 10 → (0 ≤ gnW S k ∧ gnW S k ≤ 100000000) ∧ 0 ≤ S 4 k 7 ∧ S 4 k 7 ≤ 100000000 := fun k hk => by
  have h := (hI.mem hk).2.2.2.2.2.2.1
  unfold gnW
  split <;> omega
section XEat
variable {g : Gl} {S : St} {Ret : Option AV → St → Prop} {Thr : String → St → Prop}
theorem cn_isActiveV {i : Nat} {v : Int} (hi : i < 10) (hv : S 4 i 3 = v) (hr : -2147483648 ≤ v ∧ v ≤ 2147483647) (h1 : v = 0 ∨ v = 1 → Ret (some (vI 1)) S) (h0 : ¬ (v = 0 ∨ v = 1) → Ret (some (vI 0)) S) : Cn g yX1_isActive cX1_isActive 1 (some .boolean) 0 0 0 [vR 4 i] S Ret Thr := by
  subst hv
  exact cn_isActive hi hr h1 h0
theorem cn_partOfV {k : Nat} {v : Int} (hk : k < 10) (hv : S 10 0 k = v) (h : Ret (some (vI v)) S) : Cn g yX2_partOf cX2_partOf 2 (some .int) 0 0 0 [vR 3 0, vI (k : Int)] S Ret Thr := by
  subst hv
  exact cn_partOf hk h
theorem cN_le (hI : CI S) : cN S ≤ 10 := by
  have := hI.cnt
  unfold cN
  omega
theorem cN_eq (hI : CI S) : ((cN S : Nat) : Int) = S 0 0 3 := by
  have := hI.cnt
  unfold cN
  omega
theorem cn_partE {w b : Nat → Int} {a : Int} (hI : CI S) (hw : ∀ k, k < 10 → (0 ≤ w k ∧ w k ≤ 100000000) ∧ 0 ≤ b k ∧ b k ≤ 100000000) (ha : 0 ≤ a ∧ a ≤ 100000000) (h : Ret (some (vI (prS S w b a).2)) (wp (entS S w b (cN S)) (prS S w b a).1)) : Cn g yX2_part cX2_part 6 (some .int) 3 70 0 [vR 3 0, vI a] (entS S w b (cN S)) Ret Thr :=
  cn_part rfl rfl rfl (okW_ent hI.2.2.2.2.2.1 hw ha) h
theorem cn_eatShares {a j : Int} (hj : 0 ≤ j ∧ j ≤ 1) (hI : CI S) (ha : 0 ≤ a ∧ a ≤ 100000000) (h : Ret (some (vI (eaSh S a j).2)) (eaSh S a j).1) : Cn g yX3_eatShares cX3_eatShares 6 (some .int) 4 95 0 [vR 0 0, vI a, vI j] S Ret Thr := by
  refine enter (L := [some (vR 0 0), some (vI a), some (vI j), none, none, none]) (by decide +kernel) (Nat.le_of_ble_eq_true rfl) rfl (fun K MM => ?_)
  have M := MM.mk
  have hc := hI.cnt
  have hcl := cN_le hI
  have hce := cN_eq hI
  refine r_iconst M dX3_eatShares_0 ?_
  refine r_istore_3 M dX3_eatShares_1 (by decide) rfl ?_
  refine k_S (S1 := entS S (shW S j) (fun i => S 4 i 5) 0) ?_ (entS_0 _ _ _).symm
  refine fz (P := fun l => ∀ c4 c5, K 0 2 [some (vR 0 0), some (vI a), some (vI j), some (vI (l : Int)), c4, c5] [] (entS S (shW S j) (fun i => S 4 i 5) l)) (m := cN S) ?_ ?_ _ _
  · intro c4 c5
    refine r_iload_n M dX3_eatShares_2 rfl ?_
    refine r_aload_n M dX3_eatShares_3 rfl ?_
    refine r_getV M dX3_eatShares_4 fk_X3_29 (by decide) rfl (S 0 0 3) (by rfl) ?_
    refine r_icmp_ge M dX3_eatShares_7 (tgt := 75) rfl (by omega) (fun b7 => ?_) (fun b7 => by omega)
    refine r_aload_n M dX3_eatShares_75 rfl ?_
    refine r_getR M dX3_eatShares_76 fk_X3_25 (by decide) rfl ?_
    refine r_iload_n M dX3_eatShares_79 rfl ?_
    refine r_callV1 MM dX3_eatShares_80 ck_X3_106 vk_X2_part ⟨by omega, by omega, by omega⟩ ⟨by decide, by decide, rfl⟩ (by decide) (Nat.le_of_ble_eq_true rfl) (cn_partE hI (shW_ok hI j) ha ?_)
    refine r_istore_3 M dX3_eatShares_83 (by decide) rfl ?_
    refine r_iconst M dX3_eatShares_84 ?_
    refine r_istore_4 M dX3_eatShares_85 (by decide) rfl ?_
    refine k_S (S1 := fS (wp (entS S (shW S j) (fun i => S 4 i 5) (cN S)) (prS S (shW S j) (fun i => S 4 i 5) a).1) 5 (fun i => S 4 i 5 - (prS S (shW S j) (fun i => S 4 i 5) a).1 i) 0) ?_ (fS_0 _ _ _).symm
    refine fz (P := fun l => K 0 87 [some (vR 0 0), some (vI a), some (vI j), some (vI (prS S (shW S j) (fun i => S 4 i 5) a).2), some (vI (l : Int)), c5] [] (fS (wp (entS S (shW S j) (fun i => S 4 i 5) (cN S)) (prS S (shW S j) (fun i => S 4 i 5) a).1) 5 (fun i => S 4 i 5 - (prS S (shW S j) (fun i => S 4 i 5) a).1 i) l)) (m := cN S) ?_ ?_
    · refine r_iload M dX3_eatShares_87 rfl ?_
      refine r_aload_n M dX3_eatShares_89 rfl ?_
      refine r_getV M dX3_eatShares_90 fk_X3_29 (by decide) rfl (S 0 0 3) (by rfl) ?_
      refine r_icmp_ge M dX3_eatShares_93 (tgt := 126) rfl (by omega) (fun b93 => ?_) (fun b93 => by omega)
      refine r_iload_n M dX3_eatShares_126 rfl ?_
      refine r_iret MM dX3_eatShares_127 ?_
      exact h
    · intro l hl hP
      refine r_iload M dX3_eatShares_87 rfl ?_
      refine r_aload_n M dX3_eatShares_89 rfl ?_
      refine r_getV M dX3_eatShares_90 fk_X3_29 (by decide) rfl (S 0 0 3) (by rfl) ?_
      refine r_icmp_ge M dX3_eatShares_93 (tgt := 126) rfl (by omega) (fun b93 => by omega) (fun b93 => ?_)
      refine r_aload_n M dX3_eatShares_96 rfl ?_
      refine r_getR M dX3_eatShares_97 fk_X3_11 (by decide) rfl ?_
      refine r_iload M dX3_eatShares_100 rfl ?_
      refine r_aaldM M (_) dX3_eatShares_102 rfl (by omega) ?_
      refine r_dupR M dX3_eatShares_103 ?_
      refine r_getV M dX3_eatShares_104 fk_X3_116 (show (_ : Nat) < 10 by omega) rfl (S 4 l 5) (by exact fS_at _ _ _ _) ?_
      refine r_aload_n M dX3_eatShares_107 rfl ?_
      refine r_getR M dX3_eatShares_108 fk_X3_25 (by decide) rfl ?_
      refine r_iload M dX3_eatShares_111 rfl ?_
      refine r_callV1 MM dX3_eatShares_113 ck_X3_110 vk_X2_partOf ⟨by omega, by omega, by omega⟩ ⟨by decide, by decide, rfl⟩ (by decide) (Nat.le_of_ble_eq_true rfl) (cn_partOfV (by omega) rfl ?_)
      refine r_isub M dX3_eatShares_116 ?_
      refine r_putI M dX3_eatShares_117 pk_X3_116 (show (_ : Nat) < 10 by omega) ?_
      refine r_iinc_4 M (_) dX3_eatShares_120 rfl (by decide) rfl ?_
      refine r_goto M dX3_eatShares_123 (tgt := 87) rfl ?_
      exact k_S hP (fS_s rfl)
  · intro l hl hP c4 c5
    have hm := hI.mem (show l < 10 by omega)
    unfold MI at hm
    refine r_iload_n M dX3_eatShares_2 rfl ?_
    refine r_aload_n M dX3_eatShares_3 rfl ?_
    refine r_getV M dX3_eatShares_4 fk_X3_29 (by decide) rfl (S 0 0 3) (by rfl) ?_
    refine r_icmp_ge M dX3_eatShares_7 (tgt := 75) rfl (by omega) (fun b7 => by omega) (fun b7 => ?_)
    refine r_aload_n M dX3_eatShares_10 rfl ?_
    refine r_getR M dX3_eatShares_11 fk_X3_11 (by decide) rfl ?_
    refine r_iload_n M dX3_eatShares_14 rfl ?_
    refine r_aaldM M (_) dX3_eatShares_15 rfl (by omega) ?_
    refine r_astore_4 M dX3_eatShares_16 (by decide) rfl ?_
    refine r_aload M dX3_eatShares_18 rfl ?_
    refine r_callV0 MM dX3_eatShares_20 ck_X3_96 vk_X1_isActive ⟨by omega, by omega, by omega⟩ ⟨by decide, by decide, rfl⟩ (show (_ : Nat) < 10 by omega) (Nat.le_of_ble_eq_true rfl) (cn_isActiveV (by omega) (v := S 4 l 3) rfl (by omega) (fun hq => ?_) (fun hq => ?_))
    · refine r_if_eq M dX3_eatShares_23 (tgt := 39) rfl (by omega) (fun b23 => by omega) (fun b23 => ?_)
      refine r_aload M dX3_eatShares_26 rfl ?_
      refine r_getV M dX3_eatShares_28 fk_X3_164 (show (_ : Nat) < 10 by omega) rfl (S 4 l 9) (by rfl) ?_
      refine r_iload_n M dX3_eatShares_31 rfl ?_
      refine r_icmp_ne M dX3_eatShares_32 (tgt := 39) rfl (by omega) (fun b32 => ?_) (fun b32 => ?_)
      · refine r_iconst M dX3_eatShares_39 ?_
        refine r_istore_5 M dX3_eatShares_40 (by decide) rfl ?_
        refine r_aload_n M dX3_eatShares_42 rfl ?_
        refine r_getR M dX3_eatShares_43 fk_X3_25 (by decide) rfl ?_
        refine r_iload_n M dX3_eatShares_46 rfl ?_
        refine r_iload M dX3_eatShares_47 rfl ?_
        refine r_if_eq M dX3_eatShares_49 (tgt := 60) rfl (by omega) (fun b49 => ?_) (fun b49 => ?_)
        · refine r_iconst M dX3_eatShares_60 ?_
          refine r_aload M dX3_eatShares_61 rfl ?_
          refine r_getV M dX3_eatShares_63 fk_X3_116 (show (_ : Nat) < 10 by omega) rfl (S 4 l 5) (by rfl) ?_
          refine r_callV3 MM dX3_eatShares_66 ck_X3_103 vk_X2_enter ⟨by omega, by omega, by omega⟩ ⟨by decide, by decide, rfl⟩ (by decide) (Nat.le_of_ble_eq_true rfl) (cn_enter (by omega) _ _ ?_)
          refine r_iinc_3 M (_) dX3_eatShares_69 rfl (by decide) rfl ?_
          refine r_goto M dX3_eatShares_72 (tgt := 2) rfl ?_
          first | (exfalso; omega) | exact k_S (hP _ _) (entS_s (by unfold shW; first | (rw [if_pos ⟨hq, by omega⟩]; done) | (rw [if_neg (fun q => hq q.1)]; done) | (rw [if_neg (fun q => by have := q.2; omega)]; done)) rfl)
        refine r_aload M dX3_eatShares_52 rfl ?_
        refine r_getV M dX3_eatShares_54 fk_X3_116 (show (_ : Nat) < 10 by omega) rfl (S 4 l 5) (by rfl) ?_
        refine r_goto M dX3_eatShares_57 (tgt := 61) rfl ?_
        refine r_aload M dX3_eatShares_61 rfl ?_
        refine r_getV M dX3_eatShares_63 fk_X3_116 (show (_ : Nat) < 10 by omega) rfl (S 4 l 5) (by rfl) ?_
        refine r_callV3 MM dX3_eatShares_66 ck_X3_103 vk_X2_enter ⟨by omega, by omega, by omega⟩ ⟨by decide, by decide, rfl⟩ (by decide) (Nat.le_of_ble_eq_true rfl) (cn_enter (by omega) _ _ ?_)
        refine r_iinc_3 M (_) dX3_eatShares_69 rfl (by decide) rfl ?_
        refine r_goto M dX3_eatShares_72 (tgt := 2) rfl ?_
        first | (exfalso; omega) | exact k_S (hP _ _) (entS_s (by unfold shW; first | (rw [if_pos ⟨hq, by omega⟩]; done) | (rw [if_neg (fun q => hq q.1)]; done) | (rw [if_neg (fun q => by have := q.2; omega)]; done)) rfl)
      refine r_iconst M dX3_eatShares_35 ?_
      refine r_goto M dX3_eatShares_36 (tgt := 40) rfl ?_
      refine r_istore_5 M dX3_eatShares_40 (by decide) rfl ?_
      refine r_aload_n M dX3_eatShares_42 rfl ?_
      refine r_getR M dX3_eatShares_43 fk_X3_25 (by decide) rfl ?_
      refine r_iload_n M dX3_eatShares_46 rfl ?_
      refine r_iload M dX3_eatShares_47 rfl ?_
      refine r_if_eq M dX3_eatShares_49 (tgt := 60) rfl (by omega) (fun b49 => ?_) (fun b49 => ?_)
      · refine r_iconst M dX3_eatShares_60 ?_
        refine r_aload M dX3_eatShares_61 rfl ?_
        refine r_getV M dX3_eatShares_63 fk_X3_116 (show (_ : Nat) < 10 by omega) rfl (S 4 l 5) (by rfl) ?_
        refine r_callV3 MM dX3_eatShares_66 ck_X3_103 vk_X2_enter ⟨by omega, by omega, by omega⟩ ⟨by decide, by decide, rfl⟩ (by decide) (Nat.le_of_ble_eq_true rfl) (cn_enter (by omega) _ _ ?_)
        refine r_iinc_3 M (_) dX3_eatShares_69 rfl (by decide) rfl ?_
        refine r_goto M dX3_eatShares_72 (tgt := 2) rfl ?_
        first | (exfalso; omega) | exact k_S (hP _ _) (entS_s (by unfold shW; first | (rw [if_pos ⟨hq, by omega⟩]; done) | (rw [if_neg (fun q => hq q.1)]; done) | (rw [if_neg (fun q => by have := q.2; omega)]; done)) rfl)
      refine r_aload M dX3_eatShares_52 rfl ?_
      refine r_getV M dX3_eatShares_54 fk_X3_116 (show (_ : Nat) < 10 by omega) rfl (S 4 l 5) (by rfl) ?_
      refine r_goto M dX3_eatShares_57 (tgt := 61) rfl ?_
      refine r_aload M dX3_eatShares_61 rfl ?_
      refine r_getV M dX3_eatShares_63 fk_X3_116 (show (_ : Nat) < 10 by omega) rfl (S 4 l 5) (by rfl) ?_
      refine r_callV3 MM dX3_eatShares_66 ck_X3_103 vk_X2_enter ⟨by omega, by omega, by omega⟩ ⟨by decide, by decide, rfl⟩ (by decide) (Nat.le_of_ble_eq_true rfl) (cn_enter (by omega) _ _ ?_)
      refine r_iinc_3 M (_) dX3_eatShares_69 rfl (by decide) rfl ?_
      refine r_goto M dX3_eatShares_72 (tgt := 2) rfl ?_
      first | (exfalso; omega) | exact k_S (hP _ _) (entS_s (by unfold shW; first | (rw [if_pos ⟨hq, by omega⟩]; done) | (rw [if_neg (fun q => hq q.1)]; done) | (rw [if_neg (fun q => by have := q.2; omega)]; done)) rfl)
    refine r_if_eq M dX3_eatShares_23 (tgt := 39) rfl (by omega) (fun b23 => ?_) (fun b23 => by omega)
    refine r_iconst M dX3_eatShares_39 ?_
    refine r_istore_5 M dX3_eatShares_40 (by decide) rfl ?_
    refine r_aload_n M dX3_eatShares_42 rfl ?_
    refine r_getR M dX3_eatShares_43 fk_X3_25 (by decide) rfl ?_
    refine r_iload_n M dX3_eatShares_46 rfl ?_
    refine r_iload M dX3_eatShares_47 rfl ?_
    refine r_if_eq M dX3_eatShares_49 (tgt := 60) rfl (by omega) (fun b49 => ?_) (fun b49 => ?_)
    · refine r_iconst M dX3_eatShares_60 ?_
      refine r_aload M dX3_eatShares_61 rfl ?_
      refine r_getV M dX3_eatShares_63 fk_X3_116 (show (_ : Nat) < 10 by omega) rfl (S 4 l 5) (by rfl) ?_
      refine r_callV3 MM dX3_eatShares_66 ck_X3_103 vk_X2_enter ⟨by omega, by omega, by omega⟩ ⟨by decide, by decide, rfl⟩ (by decide) (Nat.le_of_ble_eq_true rfl) (cn_enter (by omega) _ _ ?_)
      refine r_iinc_3 M (_) dX3_eatShares_69 rfl (by decide) rfl ?_
      refine r_goto M dX3_eatShares_72 (tgt := 2) rfl ?_
      first | (exfalso; omega) | exact k_S (hP _ _) (entS_s (by unfold shW; first | (rw [if_pos ⟨hq, by omega⟩]; done) | (rw [if_neg (fun q => hq q.1)]; done) | (rw [if_neg (fun q => by have := q.2; omega)]; done)) rfl)
    refine r_aload M dX3_eatShares_52 rfl ?_
    refine r_getV M dX3_eatShares_54 fk_X3_116 (show (_ : Nat) < 10 by omega) rfl (S 4 l 5) (by rfl) ?_
    refine r_goto M dX3_eatShares_57 (tgt := 61) rfl ?_
    refine r_aload M dX3_eatShares_61 rfl ?_
    refine r_getV M dX3_eatShares_63 fk_X3_116 (show (_ : Nat) < 10 by omega) rfl (S 4 l 5) (by rfl) ?_
    refine r_callV3 MM dX3_eatShares_66 ck_X3_103 vk_X2_enter ⟨by omega, by omega, by omega⟩ ⟨by decide, by decide, rfl⟩ (by decide) (Nat.le_of_ble_eq_true rfl) (cn_enter (by omega) _ _ ?_)
    refine r_iinc_3 M (_) dX3_eatShares_69 rfl (by decide) rfl ?_
    refine r_goto M dX3_eatShares_72 (tgt := 2) rfl ?_
    first | (exfalso; omega) | exact k_S (hP _ _) (entS_s (by unfold shW; first | (rw [if_pos ⟨hq, by omega⟩]; done) | (rw [if_neg (fun q => hq q.1)]; done) | (rw [if_neg (fun q => by have := q.2; omega)]; done)) rfl)
theorem cn_eatAssessments {a : Int} (hI : CI S) (ha : 0 ≤ a ∧ a ≤ 100000000) (h : Ret (some (vI (eaAs S a).2)) (eaAs S a).1) : Cn g yX3_eatAssessments cX3_eatAssessments 5 (some .int) 4 95 0 [vR 0 0, vI a] S Ret Thr := by
  refine enter (L := [some (vR 0 0), some (vI a), none, none, none]) (by decide +kernel) (Nat.le_of_ble_eq_true rfl) rfl (fun K MM => ?_)
  have M := MM.mk
  have hc := hI.cnt
  have hcl := cN_le hI
  have hce := cN_eq hI
  refine r_iconst M dX3_eatAssessments_0 ?_
  refine r_istore_2 M dX3_eatAssessments_1 (by decide) rfl ?_
  refine k_S (S1 := entS S (asW S) (asB S) 0) ?_ (entS_0 _ _ _).symm
  refine fz (P := fun l => ∀ c3 c4, K 0 2 [some (vR 0 0), some (vI a), some (vI (l : Int)), c3, c4] [] (entS S (asW S) (asB S) l)) (m := cN S) ?_ ?_ _ _
  · intro c3 c4
    refine r_iload_n M dX3_eatAssessments_2 rfl ?_
    refine r_aload_n M dX3_eatAssessments_3 rfl ?_
    refine r_getV M dX3_eatAssessments_4 fk_X3_29 (by decide) rfl (S 0 0 3) (by rfl) ?_
    refine r_icmp_ge M dX3_eatAssessments_7 (tgt := 67) rfl (by omega) (fun b7 => ?_) (fun b7 => by omega)
    refine r_aload_n M dX3_eatAssessments_67 rfl ?_
    refine r_getR M dX3_eatAssessments_68 fk_X3_25 (by decide) rfl ?_
    refine r_iload_n M dX3_eatAssessments_71 rfl ?_
    refine r_callV1 MM dX3_eatAssessments_72 ck_X3_106 vk_X2_part ⟨by omega, by omega, by omega⟩ ⟨by decide, by decide, rfl⟩ (by decide) (Nat.le_of_ble_eq_true rfl) (cn_partE hI (asW_ok hI) ha ?_)
    refine r_istore_2 M dX3_eatAssessments_75 (by decide) rfl ?_
    refine r_iconst M dX3_eatAssessments_76 ?_
    refine r_istore_3 M dX3_eatAssessments_77 (by decide) rfl ?_
    refine k_S (S1 := fS (wp (entS S (asW S) (asB S) (cN S)) (prS S (asW S) (asB S) a).1) 10 (fun i => S 4 i 10 + (prS S (asW S) (asB S) a).1 i) 0) ?_ (fS_0 _ _ _).symm
    refine fz (P := fun l => K 0 78 [some (vR 0 0), some (vI a), some (vI (prS S (asW S) (asB S) a).2), some (vI (l : Int)), c4] [] (fS (wp (entS S (asW S) (asB S) (cN S)) (prS S (asW S) (asB S) a).1) 10 (fun i => S 4 i 10 + (prS S (asW S) (asB S) a).1 i) l)) (m := cN S) ?_ ?_
    · refine r_iload_n M dX3_eatAssessments_78 rfl ?_
      refine r_aload_n M dX3_eatAssessments_79 rfl ?_
      refine r_getV M dX3_eatAssessments_80 fk_X3_29 (by decide) rfl (S 0 0 3) (by rfl) ?_
      refine r_icmp_ge M dX3_eatAssessments_83 (tgt := 114) rfl (by omega) (fun b83 => ?_) (fun b83 => by omega)
      refine r_iload_n M dX3_eatAssessments_114 rfl ?_
      refine r_iret MM dX3_eatAssessments_115 ?_
      exact h
    · intro l hl hP
      refine r_iload_n M dX3_eatAssessments_78 rfl ?_
      refine r_aload_n M dX3_eatAssessments_79 rfl ?_
      refine r_getV M dX3_eatAssessments_80 fk_X3_29 (by decide) rfl (S 0 0 3) (by rfl) ?_
      refine r_icmp_ge M dX3_eatAssessments_83 (tgt := 114) rfl (by omega) (fun b83 => by omega) (fun b83 => ?_)
      refine r_aload_n M dX3_eatAssessments_86 rfl ?_
      refine r_getR M dX3_eatAssessments_87 fk_X3_11 (by decide) rfl ?_
      refine r_iload_n M dX3_eatAssessments_90 rfl ?_
      refine r_aaldM M (_) dX3_eatAssessments_91 rfl (by omega) ?_
      refine r_dupR M dX3_eatAssessments_92 ?_
      refine r_getV M dX3_eatAssessments_93 fk_X3_168 (show (_ : Nat) < 10 by omega) rfl (S 4 l 10) (by exact fS_at _ _ _ _) ?_
      refine r_aload_n M dX3_eatAssessments_96 rfl ?_
      refine r_getR M dX3_eatAssessments_97 fk_X3_25 (by decide) rfl ?_
      refine r_iload_n M dX3_eatAssessments_100 rfl ?_
      refine r_callV1 MM dX3_eatAssessments_101 ck_X3_110 vk_X2_partOf ⟨by omega, by omega, by omega⟩ ⟨by decide, by decide, rfl⟩ (by decide) (Nat.le_of_ble_eq_true rfl) (cn_partOfV (by omega) rfl ?_)
      refine r_iadd M dX3_eatAssessments_104 ?_
      refine r_putI M dX3_eatAssessments_105 pk_X3_168 (show (_ : Nat) < 10 by omega) ?_
      refine r_iinc_3 M (_) dX3_eatAssessments_108 rfl (by decide) rfl ?_
      refine r_goto M dX3_eatAssessments_111 (tgt := 78) rfl ?_
      exact k_S hP (fS_s rfl)
  · intro l hl hP c3 c4
    have hm := hI.mem (show l < 10 by omega)
    unfold MI at hm
    refine r_iload_n M dX3_eatAssessments_2 rfl ?_
    refine r_aload_n M dX3_eatAssessments_3 rfl ?_
    refine r_getV M dX3_eatAssessments_4 fk_X3_29 (by decide) rfl (S 0 0 3) (by rfl) ?_
    refine r_icmp_ge M dX3_eatAssessments_7 (tgt := 67) rfl (by omega) (fun b7 => by omega) (fun b7 => ?_)
    refine r_aload_n M dX3_eatAssessments_10 rfl ?_
    refine r_getR M dX3_eatAssessments_11 fk_X3_11 (by decide) rfl ?_
    refine r_iload_n M dX3_eatAssessments_14 rfl ?_
    refine r_aaldM M (_) dX3_eatAssessments_15 rfl (by omega) ?_
    refine r_astore_3 M dX3_eatAssessments_16 (by decide) rfl ?_
    refine r_aload_n M dX3_eatAssessments_17 rfl ?_
    refine r_callV0 MM dX3_eatAssessments_18 ck_X3_96 vk_X1_isActive ⟨by omega, by omega, by omega⟩ ⟨by decide, by decide, rfl⟩ (show (_ : Nat) < 10 by omega) (Nat.le_of_ble_eq_true rfl) (cn_isActiveV (by omega) (v := S 4 l 3) rfl (by omega) (fun hq => ?_) (fun hq => ?_))
    · refine r_if_eq M dX3_eatAssessments_21 (tgt := 31) rfl (by omega) (fun b21 => by omega) (fun b21 => ?_)
      refine r_aload_n M dX3_eatAssessments_24 rfl ?_
      refine r_getV M dX3_eatAssessments_25 fk_X3_119 (show (_ : Nat) < 10 by omega) rfl (S 4 l 12) (by rfl) ?_
      refine r_goto M dX3_eatAssessments_28 (tgt := 32) rfl ?_
      refine r_istore_4 M dX3_eatAssessments_32 (by decide) rfl ?_
      refine r_aload_n M dX3_eatAssessments_34 rfl ?_
      refine r_getR M dX3_eatAssessments_35 fk_X3_25 (by decide) rfl ?_
      refine r_iload_n M dX3_eatAssessments_38 rfl ?_
      refine r_iload M dX3_eatAssessments_39 rfl ?_
      refine r_aload_n M dX3_eatAssessments_41 rfl ?_
      refine r_getV M dX3_eatAssessments_42 fk_X3_85 (show (_ : Nat) < 10 by omega) rfl (S 4 l 3) (by rfl) ?_
      refine r_iconst M dX3_eatAssessments_45 ?_
      refine r_icmp_ne M dX3_eatAssessments_46 (tgt := 56) rfl (by omega) (fun b46 => ?_) (fun b46 => ?_)
      · refine r_iload M dX3_eatAssessments_56 rfl ?_
        refine r_callV3 MM dX3_eatAssessments_58 ck_X3_103 vk_X2_enter ⟨by omega, by omega, by omega⟩ ⟨by decide, by decide, rfl⟩ (by decide) (Nat.le_of_ble_eq_true rfl) (cn_enter (by omega) _ _ ?_)
        refine r_iinc_2 M (_) dX3_eatAssessments_61 rfl (by decide) rfl ?_
        refine r_goto M dX3_eatAssessments_64 (tgt := 2) rfl ?_
        exact k_S (hP _ _) (entS_s (by unfold asW; first | (rw [if_pos hq]; done) | (rw [if_neg hq]; done)) (by unfold asB asW; first | (rw [if_pos b46, if_pos hq]; done) | (rw [if_neg b46, if_pos hq]; done) | (rw [if_pos b46, if_neg hq]; done) | (rw [if_neg b46, if_neg hq]; done)))
      refine r_iload M dX3_eatAssessments_49 rfl ?_
      refine r_iconst M dX3_eatAssessments_51 ?_
      refine r_idiv M dX3_eatAssessments_52 (by omega) ?_
      refine r_goto M dX3_eatAssessments_53 (tgt := 58) rfl ?_
      refine r_callV3 MM dX3_eatAssessments_58 ck_X3_103 vk_X2_enter ⟨by omega, by omega, by omega⟩ ⟨by decide, by decide, rfl⟩ (by decide) (Nat.le_of_ble_eq_true rfl) (cn_enter (by omega) _ _ ?_)
      refine r_iinc_2 M (_) dX3_eatAssessments_61 rfl (by decide) rfl ?_
      refine r_goto M dX3_eatAssessments_64 (tgt := 2) rfl ?_
      exact k_S (hP _ _) (entS_s (by unfold asW; first | (rw [if_pos hq]; done) | (rw [if_neg hq]; done)) (by unfold asB asW; first | (rw [if_pos b46, if_pos hq]; done) | (rw [if_neg b46, if_pos hq]; done) | (rw [if_pos b46, if_neg hq]; done) | (rw [if_neg b46, if_neg hq]; done)))
    refine r_if_eq M dX3_eatAssessments_21 (tgt := 31) rfl (by omega) (fun b21 => ?_) (fun b21 => by omega)
    refine r_iconst M dX3_eatAssessments_31 ?_
    refine r_istore_4 M dX3_eatAssessments_32 (by decide) rfl ?_
    refine r_aload_n M dX3_eatAssessments_34 rfl ?_
    refine r_getR M dX3_eatAssessments_35 fk_X3_25 (by decide) rfl ?_
    refine r_iload_n M dX3_eatAssessments_38 rfl ?_
    refine r_iload M dX3_eatAssessments_39 rfl ?_
    refine r_aload_n M dX3_eatAssessments_41 rfl ?_
    refine r_getV M dX3_eatAssessments_42 fk_X3_85 (show (_ : Nat) < 10 by omega) rfl (S 4 l 3) (by rfl) ?_
    refine r_iconst M dX3_eatAssessments_45 ?_
    refine r_icmp_ne M dX3_eatAssessments_46 (tgt := 56) rfl (by omega) (fun b46 => ?_) (fun b46 => ?_)
    · refine r_iload M dX3_eatAssessments_56 rfl ?_
      refine r_callV3 MM dX3_eatAssessments_58 ck_X3_103 vk_X2_enter ⟨by omega, by omega, by omega⟩ ⟨by decide, by decide, rfl⟩ (by decide) (Nat.le_of_ble_eq_true rfl) (cn_enter (by omega) _ _ ?_)
      refine r_iinc_2 M (_) dX3_eatAssessments_61 rfl (by decide) rfl ?_
      refine r_goto M dX3_eatAssessments_64 (tgt := 2) rfl ?_
      exact k_S (hP _ _) (entS_s (by unfold asW; first | (rw [if_pos hq]; done) | (rw [if_neg hq]; done)) (by unfold asB asW; first | (rw [if_pos b46, if_pos hq]; done) | (rw [if_neg b46, if_pos hq]; done) | (rw [if_pos b46, if_neg hq]; done) | (rw [if_neg b46, if_neg hq]; done)))
    refine r_iload M dX3_eatAssessments_49 rfl ?_
    refine r_iconst M dX3_eatAssessments_51 ?_
    refine r_idiv M dX3_eatAssessments_52 (by omega) ?_
    refine r_goto M dX3_eatAssessments_53 (tgt := 58) rfl ?_
    refine r_callV3 MM dX3_eatAssessments_58 ck_X3_103 vk_X2_enter ⟨by omega, by omega, by omega⟩ ⟨by decide, by decide, rfl⟩ (by decide) (Nat.le_of_ble_eq_true rfl) (cn_enter (by omega) _ _ ?_)
    refine r_iinc_2 M (_) dX3_eatAssessments_61 rfl (by decide) rfl ?_
    refine r_goto M dX3_eatAssessments_64 (tgt := 2) rfl ?_
    exact k_S (hP _ _) (entS_s (by unfold asW; first | (rw [if_pos hq]; done) | (rw [if_neg hq]; done)) (by unfold asB asW; first | (rw [if_pos b46, if_pos hq]; done) | (rw [if_neg b46, if_pos hq]; done) | (rw [if_pos b46, if_neg hq]; done) | (rw [if_neg b46, if_neg hq]; done)))
theorem cn_eatGains {a : Int} (hI : CI S) (ha : 0 ≤ a ∧ a ≤ 100000000) (h : Ret (some (vI (eaGn S a).2)) (eaGn S a).1) : Cn g yX3_eatGains cX3_eatGains 4 (some .int) 4 95 0 [vR 0 0, vI a] S Ret Thr := by
  refine enter (L := [some (vR 0 0), some (vI a), none, none]) (by decide +kernel) (Nat.le_of_ble_eq_true rfl) rfl (fun K MM => ?_)
  have M := MM.mk
  have hc := hI.cnt
  have hcl := cN_le hI
  have hce := cN_eq hI
  refine r_iconst M dX3_eatGains_0 ?_
  refine r_istore_2 M dX3_eatGains_1 (by decide) rfl ?_
  refine k_S (S1 := entS S (gnW S) (fun i => S 4 i 7) 0) ?_ (entS_0 _ _ _).symm
  refine fz (P := fun l => ∀ c3, K 0 2 [some (vR 0 0), some (vI a), some (vI (l : Int)), c3] [] (entS S (gnW S) (fun i => S 4 i 7) l)) (m := cN S) ?_ ?_ _
  · intro c3
    refine r_iload_n M dX3_eatGains_2 rfl ?_
    refine r_aload_n M dX3_eatGains_3 rfl ?_
    refine r_getV M dX3_eatGains_4 fk_X3_29 (by decide) rfl (S 0 0 3) (by rfl) ?_
    refine r_icmp_ge M dX3_eatGains_7 (tgt := 50) rfl (by omega) (fun b7 => ?_) (fun b7 => by omega)
    refine r_aload_n M dX3_eatGains_50 rfl ?_
    refine r_getR M dX3_eatGains_51 fk_X3_25 (by decide) rfl ?_
    refine r_iload_n M dX3_eatGains_54 rfl ?_
    refine r_callV1 MM dX3_eatGains_55 ck_X3_106 vk_X2_part ⟨by omega, by omega, by omega⟩ ⟨by decide, by decide, rfl⟩ (by decide) (Nat.le_of_ble_eq_true rfl) (cn_partE hI (gnW_ok hI) ha ?_)
    refine r_istore_2 M dX3_eatGains_58 (by decide) rfl ?_
    refine r_iconst M dX3_eatGains_59 ?_
    refine r_istore_3 M dX3_eatGains_60 (by decide) rfl ?_
    refine k_S (S1 := fS (wp (entS S (gnW S) (fun i => S 4 i 7) (cN S)) (prS S (gnW S) (fun i => S 4 i 7) a).1) 7 (fun i => S 4 i 7 - (prS S (gnW S) (fun i => S 4 i 7) a).1 i) 0) ?_ (fS_0 _ _ _).symm
    refine fz (P := fun l => K 0 61 [some (vR 0 0), some (vI a), some (vI (prS S (gnW S) (fun i => S 4 i 7) a).2), some (vI (l : Int))] [] (fS (wp (entS S (gnW S) (fun i => S 4 i 7) (cN S)) (prS S (gnW S) (fun i => S 4 i 7) a).1) 7 (fun i => S 4 i 7 - (prS S (gnW S) (fun i => S 4 i 7) a).1 i) l)) (m := cN S) ?_ ?_
    · refine r_iload_n M dX3_eatGains_61 rfl ?_
      refine r_aload_n M dX3_eatGains_62 rfl ?_
      refine r_getV M dX3_eatGains_63 fk_X3_29 (by decide) rfl (S 0 0 3) (by rfl) ?_
      refine r_icmp_ge M dX3_eatGains_66 (tgt := 97) rfl (by omega) (fun b66 => ?_) (fun b66 => by omega)
      refine r_iload_n M dX3_eatGains_97 rfl ?_
      refine r_iret MM dX3_eatGains_98 ?_
      exact h
    · intro l hl hP
      refine r_iload_n M dX3_eatGains_61 rfl ?_
      refine r_aload_n M dX3_eatGains_62 rfl ?_
      refine r_getV M dX3_eatGains_63 fk_X3_29 (by decide) rfl (S 0 0 3) (by rfl) ?_
      refine r_icmp_ge M dX3_eatGains_66 (tgt := 97) rfl (by omega) (fun b66 => by omega) (fun b66 => ?_)
      refine r_aload_n M dX3_eatGains_69 rfl ?_
      refine r_getR M dX3_eatGains_70 fk_X3_11 (by decide) rfl ?_
      refine r_iload_n M dX3_eatGains_73 rfl ?_
      refine r_aaldM M (_) dX3_eatGains_74 rfl (by omega) ?_
      refine r_dupR M dX3_eatGains_75 ?_
      refine r_getV M dX3_eatGains_76 fk_X3_79 (show (_ : Nat) < 10 by omega) rfl (S 4 l 7) (by exact fS_at _ _ _ _) ?_
      refine r_aload_n M dX3_eatGains_79 rfl ?_
      refine r_getR M dX3_eatGains_80 fk_X3_25 (by decide) rfl ?_
      refine r_iload_n M dX3_eatGains_83 rfl ?_
      refine r_callV1 MM dX3_eatGains_84 ck_X3_110 vk_X2_partOf ⟨by omega, by omega, by omega⟩ ⟨by decide, by decide, rfl⟩ (by decide) (Nat.le_of_ble_eq_true rfl) (cn_partOfV (by omega) rfl ?_)
      refine r_isub M dX3_eatGains_87 ?_
      refine r_putI M dX3_eatGains_88 pk_X3_79 (show (_ : Nat) < 10 by omega) ?_
      refine r_iinc_3 M (_) dX3_eatGains_91 rfl (by decide) rfl ?_
      refine r_goto M dX3_eatGains_94 (tgt := 61) rfl ?_
      exact k_S hP (fS_s rfl)
  · intro l hl hP c3
    have hm := hI.mem (show l < 10 by omega)
    unfold MI at hm
    refine r_iload_n M dX3_eatGains_2 rfl ?_
    refine r_aload_n M dX3_eatGains_3 rfl ?_
    refine r_getV M dX3_eatGains_4 fk_X3_29 (by decide) rfl (S 0 0 3) (by rfl) ?_
    refine r_icmp_ge M dX3_eatGains_7 (tgt := 50) rfl (by omega) (fun b7 => by omega) (fun b7 => ?_)
    refine r_aload_n M dX3_eatGains_10 rfl ?_
    refine r_getR M dX3_eatGains_11 fk_X3_11 (by decide) rfl ?_
    refine r_iload_n M dX3_eatGains_14 rfl ?_
    refine r_aaldM M (_) dX3_eatGains_15 rfl (by omega) ?_
    refine r_astore_3 M dX3_eatGains_16 (by decide) rfl ?_
    refine r_aload_n M dX3_eatGains_17 rfl ?_
    refine r_getR M dX3_eatGains_18 fk_X3_25 (by decide) rfl ?_
    refine r_iload_n M dX3_eatGains_21 rfl ?_
    refine r_aload_n M dX3_eatGains_22 rfl ?_
    refine r_callV0 MM dX3_eatGains_23 ck_X3_96 vk_X1_isActive ⟨by omega, by omega, by omega⟩ ⟨by decide, by decide, rfl⟩ (show (_ : Nat) < 10 by omega) (Nat.le_of_ble_eq_true rfl) (cn_isActiveV (by omega) (v := S 4 l 3) rfl (by omega) (fun hq => ?_) (fun hq => ?_))
    · refine r_if_eq M dX3_eatGains_26 (tgt := 36) rfl (by omega) (fun b26 => by omega) (fun b26 => ?_)
      refine r_aload_n M dX3_eatGains_29 rfl ?_
      refine r_getV M dX3_eatGains_30 fk_X3_79 (show (_ : Nat) < 10 by omega) rfl (S 4 l 7) (by rfl) ?_
      refine r_goto M dX3_eatGains_33 (tgt := 37) rfl ?_
      refine r_aload_n M dX3_eatGains_37 rfl ?_
      refine r_getV M dX3_eatGains_38 fk_X3_79 (show (_ : Nat) < 10 by omega) rfl (S 4 l 7) (by rfl) ?_
      refine r_callV3 MM dX3_eatGains_41 ck_X3_103 vk_X2_enter ⟨by omega, by omega, by omega⟩ ⟨by decide, by decide, rfl⟩ (by decide) (Nat.le_of_ble_eq_true rfl) (cn_enter (by omega) _ _ ?_)
      refine r_iinc_2 M (_) dX3_eatGains_44 rfl (by decide) rfl ?_
      refine r_goto M dX3_eatGains_47 (tgt := 2) rfl ?_
      exact k_S (hP _) (entS_s (by unfold gnW; first | (rw [if_pos hq]; done) | (rw [if_neg hq]; done)) rfl)
    refine r_if_eq M dX3_eatGains_26 (tgt := 36) rfl (by omega) (fun b26 => ?_) (fun b26 => by omega)
    refine r_iconst M dX3_eatGains_36 ?_
    refine r_aload_n M dX3_eatGains_37 rfl ?_
    refine r_getV M dX3_eatGains_38 fk_X3_79 (show (_ : Nat) < 10 by omega) rfl (S 4 l 7) (by rfl) ?_
    refine r_callV3 MM dX3_eatGains_41 ck_X3_103 vk_X2_enter ⟨by omega, by omega, by omega⟩ ⟨by decide, by decide, rfl⟩ (by decide) (Nat.le_of_ble_eq_true rfl) (cn_enter (by omega) _ _ ?_)
    refine r_iinc_2 M (_) dX3_eatGains_44 rfl (by decide) rfl ?_
    refine r_goto M dX3_eatGains_47 (tgt := 2) rfl ?_
    exact k_S (hP _) (entS_s (by unfold gnW; first | (rw [if_pos hq]; done) | (rw [if_neg hq]; done)) rfl)
end XEat
end
section
/-! ===== DefaultFund: size, fail, close ===== -/
def ndN (f : Nat → Int) : Nat → Int × Int
  | 0 => (0, 0)
  | m + 1 => (max (ndN f m).1 (f m), max (ndN f m).2 (min (f m) (ndN f m).1))
theorem ndN_rng {f : Nat → Int} (hf : ∀ k, k < 10 → 0 ≤ f k ∧ f k ≤ 1000000) : ∀ m, m ≤ 10 → (0 ≤ (ndN f m).1 ∧ (ndN f m).1 ≤ 1000000) ∧ 0 ≤ (ndN f m).2 ∧ (ndN f m).2 ≤ 1000000
  | 0, _ => by
    show ((0 : Int) ≤ 0 ∧ (0 : Int) ≤ 1000000) ∧ (0 : Int) ≤ 0 ∧ (0 : Int) ≤ 1000000
    omega
  | m + 1, hm => by
    have h := ndN_rng hf m (by omega)
    have h2 := hf m (by omega)
    show (0 ≤ max (ndN f m).1 (f m) ∧ max (ndN f m).1 (f m) ≤ 1000000) ∧ 0 ≤ max (ndN f m).2 (min (f m) (ndN f m).1) ∧ max (ndN f m).2 (min (f m) (ndN f m).1) ≤ 1000000
    omega
def tsF (S : St) : Nat → Int := fun i => if actv S i then S 4 i 8 else 0
def need (S : St) : Int := (ndN (tsF S) (cN S)).1 + (ndN (tsF S) (cN S)).2
def szW (S : St) : Nat → Int := fun i => if actv S i then S 4 i 4 else 0
/-- by how much a share grows -/
def grw (S : St) : Nat → Int := fun i => max 0 ((prS S (szW S) (fun _ => need S) (need S)).1 i - S 4 i 5)
def szS (S : St) : St := eatS S (szW S) (fun _ => need S) (need S) 5 (fun i => S 4 i 5 + grw S i)
theorem tsF_ok {S : St} (hI : CI S) : ∀ k, k < 10 → 0 ≤ tsF S k ∧ tsF S k ≤ 1000000 := fun k hk => by
  have h := (hI.mem hk).2.2.2.2.2.2.2.1
  unfold tsF
  split <;> omega
theorem need_ok {S : St} (hI : CI S) : 0 ≤ need S ∧ need S ≤ 2000000 := by
  have hc := hI.cnt
  have h := ndN_rng (tsF_ok hI) (cN S) (by unfold cN; omega)
  unfold need
  omega
theorem szW_ok {S : St} (hI : CI S) : ∀ k, k < 10 → (0 ≤ szW S k ∧ szW S k ≤ 100000000) ∧ 0 ≤ need S ∧ need S ≤ 100000000 := fun k hk => by
  have h := (hI.mem hk).2.2.2.1
  have h2 := need_ok hI
  unfold szW
  split <;> omega
/-- the first member below m that takes the client -/
def hostN (S : St) (lots : Int) : Nat → Option Nat
  | 0 => none
  | m + 1 => match hostN S lots m with
    | some j => some j
    | none => if actv S m ∧ taken S m lots then some m else none
theorem hostN_none {S : St} {lots : Int} : ∀ {m : Nat}, hostN S lots m = none → ∀ i, i < m → ¬ (actv S i ∧ taken S i lots)
  | m + 1, h, i, hi => by
    unfold hostN at h
    cases h1 : hostN S lots m with
    | some j => rw [h1] at h; cases h
    | none =>
      rw [h1] at h
      by_cases e : i = m
      · subst e
        intro q
        simp only [if_pos q] at h
        cases h
      · exact hostN_none h1 i (by omega)
theorem hostN_some {S : St} {lots : Int} : ∀ {m j : Nat}, hostN S lots m = some j → j < m ∧ (actv S j ∧ taken S j lots) ∧ ∀ i, i < j → ¬ (actv S i ∧ taken S i lots)
  | m + 1, j, h => by
    unfold hostN at h
    cases h1 : hostN S lots m with
    | some j2 =>
      rw [h1] at h
      cases h
      have := hostN_some h1
      exact ⟨by omega, this.2⟩
    | none =>
      rw [h1] at h
      by_cases q : actv S m ∧ taken S m lots
      · simp only [if_pos q] at h
        cases h
        exact ⟨by omega, q, fun i hi => hostN_none h1 i hi⟩
      · simp only [if_neg q] at h
        cases h
theorem hostN_first {S : St} {lots : Int} {j : Nat} (h1 : actv S j ∧ taken S j lots) (h2 : ∀ i, i < j → ¬ (actv S i ∧ taken S i lots)) : ∀ m, j < m → hostN S lots m = some j
  | m + 1, hm => by
    unfold hostN
    by_cases e : j = m
    · subst e
      cases h3 : hostN S lots j with
      | some k =>
        have := hostN_some h3
        exact absurd this.2.1 (h2 k this.1)
      | none => simp only [if_pos h1]
    · rw [hostN_first h1 h2 m (by omega)]
theorem hostN_no {S : St} {lots : Int} : ∀ m : Nat, (∀ i, i < m → ¬ (actv S i ∧ taken S i lots)) → hostN S lots m = none
  | 0, _ => rfl
  | m + 1, h => by
    unfold hostN
    rw [hostN_no m (fun i hi => h i (by omega))]
    simp only [if_neg (h m (by omega))]
/-- one client finds a host, or is closed -/
def mv1 (S : St) (lots : Int) : St × Int := match hostN S lots (cN S) with
  | some j => (takeS S j lots, 0)
  | none => (S, lots)
def mvN (S : St) (i : Nat) : Nat → St × Int
  | 0 => (S, 0)
  | k + 1 => ((mv1 (mvN S i k).1 (S 5 i k)).1, (mvN S i k).2 + (mv1 (mvN S i k).1 (S 5 i k)).2)
theorem takeS_MI {S : St} {j : Nat} {lots : Int} (ht : taken S j lots) (hl : 0 ≤ lots ∧ lots ≤ 20) (hm : ∀ i, i < 10 → MI S i) : ∀ i, i < 10 → MI (takeS S j lots) i := fun i hi => by
  have h := hm i hi
  have ht1 := ht.1
  have ht2 := ht.2
  unfold MI at h ⊢
  have e4 : ∀ k, takeS S j lots 4 i k = if i = j ∧ k = 2 then S 4 j 2 + lots else if i = j ∧ k = 1 then S 4 j 1 + 1 else S 4 i k := fun k => by
    simp [takeS, up3]
  have e5 : ∀ k, takeS S j lots 5 i k = if i = j ∧ k = (S 4 j 1).toNat then lots else S 5 i k := fun k => by
    simp [takeS, up3]
  simp only [e4, e5]
  by_cases e : i = j
  · subst e
    simp only [true_and, show ((1 : Nat) = 2) = False by decide, show ((3 : Nat) = 2) = False by decide, show ((4 : Nat) = 2) = False by decide, show ((5 : Nat) = 2) = False by decide, show ((6 : Nat) = 2) = False by decide, show ((7 : Nat) = 2) = False by decide, show ((8 : Nat) = 2) = False by decide, show ((9 : Nat) = 2) = False by decide, show ((12 : Nat) = 2) = False by decide, show ((3 : Nat) = 1) = False by decide, show ((4 : Nat) = 1) = False by decide, show ((5 : Nat) = 1) = False by decide, show ((6 : Nat) = 1) = False by decide, show ((7 : Nat) = 1) = False by decide, show ((8 : Nat) = 1) = False by decide, show ((9 : Nat) = 1) = False by decide, show ((12 : Nat) = 1) = False by decide, if_true, if_false]
    refine ⟨by omega, by omega, h.2.2.1, h.2.2.2.1, h.2.2.2.2.1, h.2.2.2.2.2.1, h.2.2.2.2.2.2.1, h.2.2.2.2.2.2.2.1, h.2.2.2.2.2.2.2.2.1, h.2.2.2.2.2.2.2.2.2.1, fun k hk => ?_⟩
    split
    · exact hl
    · exact h.2.2.2.2.2.2.2.2.2.2 k hk
  · simp only [e, false_and, if_false]
    exact h
theorem mv1_MI {S : St} {lots : Int} (hl : 0 ≤ lots ∧ lots ≤ 20) (hm : ∀ i, i < 10 → MI S i) : ∀ i, i < 10 → MI (mv1 S lots).1 i := by
  unfold mv1
  split
  · rename_i j hj
    exact takeS_MI (hostN_some hj).2.1.2 hl hm
  · exact hm
/-- what moving leaves as it was: all but clients, their counts and lots; an inactive member's too -/
theorem mv1_keep {S : St} {lots : Int} : (∀ t, t ≠ 4 → t ≠ 5 → (mv1 S lots).1 t = S t) ∧ (∀ i k, k ≠ 1 → k ≠ 2 → (mv1 S lots).1 4 i k = S 4 i k) ∧ ∀ i, ¬ actv S i → (∀ k, (mv1 S lots).1 4 i k = S 4 i k) ∧ (mv1 S lots).1 5 i = S 5 i := by
  unfold mv1
  split
  · rename_i j hj
    have hs := hostN_some hj
    refine ⟨fun t h4 h5 => ?_, fun i k h1 h2 => ?_, fun i hi => ?_⟩
    · funext a b
      simp [takeS, up3, h4, h5]
    · simp [takeS, up3, h1, h2]
    · have e : ¬ i = j := fun q => hi (by rw [q]; exact hs.2.1.1)
      refine ⟨fun k => by simp [takeS, up3, e], ?_⟩
      funext k
      simp [takeS, up3, e]
  · exact ⟨fun _ _ _ => rfl, fun _ _ _ _ => rfl, fun _ _ => ⟨fun _ => rfl, rfl⟩⟩
theorem mvN_keep {S : St} {i : Nat} (hi : ¬ actv S i) : ∀ k, (∀ t, t ≠ 4 → t ≠ 5 → (mvN S i k).1 t = S t) ∧ (∀ j f, f ≠ 1 → f ≠ 2 → (mvN S i k).1 4 j f = S 4 j f) ∧ (∀ f, (mvN S i k).1 4 i f = S 4 i f) ∧ (mvN S i k).1 5 i = S 5 i
  | 0 => ⟨fun _ _ _ => rfl, fun _ _ _ _ => rfl, fun _ => rfl, rfl⟩
  | k + 1 => by
    have h := mvN_keep hi k
    have h1 := mv1_keep (S := (mvN S i k).1) (lots := S 5 i k)
    have hn : ¬ actv (mvN S i k).1 i := fun q => hi (by
      have e := h.2.2.1 3
      unfold actv at q ⊢
      rw [e] at q
      exact q)
    refine ⟨fun t a b => ?_, fun j f a b => ?_, fun f => ?_, ?_⟩
    · show (mv1 (mvN S i k).1 (S 5 i k)).1 t = _
      rw [h1.1 t a b, h.1 t a b]
    · show (mv1 (mvN S i k).1 (S 5 i k)).1 4 j f = _
      rw [h1.2.1 j f a b, h.2.1 j f a b]
    · show (mv1 (mvN S i k).1 (S 5 i k)).1 4 i f = _
      rw [(h1.2.2 i hn).1 f, h.2.2.1 f]
    · show (mv1 (mvN S i k).1 (S 5 i k)).1 5 i = _
      rw [(h1.2.2 i hn).2, h.2.2.2]
theorem mvN_MI {S : St} {i : Nat} (hi : i < 10) (hm : ∀ i, i < 10 → MI S i) : ∀ k, k ≤ 100 → ∀ j, j < 10 → MI (mvN S i k).1 j
  | 0, _ => hm
  | k + 1, hk => mv1_MI ((hm i hi).2.2.2.2.2.2.2.2.2.2 k (by omega)) (mvN_MI hi hm k (by omega))
def movS (S : St) (i : Nat) : St × Int := (dropS (mvN S i (S 4 i 1).toNat).1 i, (mvN S i (S 4 i 1).toNat).2)
section XBig
variable {g : Gl} {S : St} {Ret : Option AV → St → Prop} {Thr : String → St → Prop}
theorem cn_neededFund (hI : CI S) (h : Ret (some (vI (need S))) S) : Cn g yX3_neededFund cX3_neededFund 5 (some .int) 1 21 0 [vR 0 0] S Ret Thr := by
  refine enter (L := [some (vR 0 0), none, none, none, none]) (by decide +kernel) (Nat.le_of_ble_eq_true rfl) rfl (fun K MM => ?_)
  have M := MM.mk
  have hc := hI.cnt
  have hcl := cN_le hI
  have hce := cN_eq hI
  refine r_iconst M dX3_neededFund_0 ?_
  refine r_istore_1 M dX3_neededFund_1 (by decide) rfl ?_
  refine r_iconst M dX3_neededFund_2 ?_
  refine r_istore_2 M dX3_neededFund_3 (by decide) rfl ?_
  refine r_iconst M dX3_neededFund_4 ?_
  refine r_istore_3 M dX3_neededFund_5 (by decide) rfl ?_
  refine fz (P := fun l => ∀ c4, K 0 6 [some (vR 0 0), some (vI (ndN (tsF S) l).1), some (vI (ndN (tsF S) l).2), some (vI (l : Int)), c4] [] S) (m := cN S) ?_ ?_ _
  · intro c4
    refine r_iload_n M dX3_neededFund_6 rfl ?_
    refine r_aload_n M dX3_neededFund_7 rfl ?_
    refine r_getI M dX3_neededFund_8 fk_X3_29 (by decide) rfl ?_
    refine r_icmp_ge M dX3_neededFund_11 (tgt := 65) rfl (by omega) (fun b11 => ?_) (fun b11 => by omega)
    refine r_iload_n M dX3_neededFund_65 rfl ?_
    refine r_iload_n M dX3_neededFund_66 rfl ?_
    refine r_iadd M dX3_neededFund_67 ?_
    refine r_iret MM dX3_neededFund_68 ?_
    exact h
  · intro l hl hP c4
    have hm := hI.mem (show l < 10 by omega)
    unfold MI at hm
    have hr := ndN_rng (tsF_ok hI) l (by omega)
    refine r_iload_n M dX3_neededFund_6 rfl ?_
    refine r_aload_n M dX3_neededFund_7 rfl ?_
    refine r_getI M dX3_neededFund_8 fk_X3_29 (by decide) rfl ?_
    refine r_icmp_ge M dX3_neededFund_11 (tgt := 65) rfl (by omega) (fun b11 => by omega) (fun b11 => ?_)
    refine r_aload_n M dX3_neededFund_14 rfl ?_
    refine r_getR M dX3_neededFund_15 fk_X3_11 (by decide) rfl ?_
    refine r_iload_n M dX3_neededFund_18 rfl ?_
    refine r_aaldM M (_) dX3_neededFund_19 rfl (by omega) ?_
    refine r_callV0 MM dX3_neededFund_20 ck_X3_96 vk_X1_isActive ⟨by omega, by omega, by omega⟩ ⟨by decide, by decide, rfl⟩ (show (_ : Nat) < 10 by omega) (Nat.le_of_ble_eq_true rfl) (cn_isActive (by omega) (by omega) (fun hq => ?_) (fun hq => ?_))
    · refine r_if_eq M dX3_neededFund_23 (tgt := 38) rfl (by omega) (fun b23 => by omega) (fun b23 => ?_)
      refine r_aload_n M dX3_neededFund_26 rfl ?_
      refine r_getR M dX3_neededFund_27 fk_X3_11 (by decide) rfl ?_
      refine r_iload_n M dX3_neededFund_30 rfl ?_
      refine r_aaldM M (_) dX3_neededFund_31 rfl (by omega) ?_
      refine r_getI M dX3_neededFund_32 fk_X3_82 (show (_ : Nat) < 10 by omega) rfl ?_
      refine r_goto M dX3_neededFund_35 (tgt := 39) rfl ?_
      refine r_istore_4 M dX3_neededFund_39 (by decide) rfl ?_
      refine r_iload_n M dX3_neededFund_41 rfl ?_
      refine r_iload M dX3_neededFund_42 rfl ?_
      refine r_iload_n M dX3_neededFund_44 rfl ?_
      refine r_min M dX3_neededFund_45 mm_X3_188 (by omega) ⟨by omega, by omega⟩ (Nat.le_of_ble_eq_true rfl) ?_
      refine r_max M dX3_neededFund_48 mm_X3_150 (by omega) ⟨by omega, by omega⟩ (Nat.le_of_ble_eq_true rfl) ?_
      refine r_istore_2 M dX3_neededFund_51 (by decide) rfl ?_
      refine r_iload_n M dX3_neededFund_52 rfl ?_
      refine r_iload M dX3_neededFund_53 rfl ?_
      refine r_max M dX3_neededFund_55 mm_X3_150 (by omega) ⟨by omega, by omega⟩ (Nat.le_of_ble_eq_true rfl) ?_
      refine r_istore_1 M dX3_neededFund_58 (by decide) rfl ?_
      refine r_iinc_3 M (_) dX3_neededFund_59 rfl (by decide) rfl ?_
      refine r_goto M dX3_neededFund_62 (tgt := 6) rfl ?_
      have e : ndN (tsF S) (l + 1) = (max (ndN (tsF S) l).1 (tsF S l), max (ndN (tsF S) l).2 (min (tsF S l) (ndN (tsF S) l).1)) := rfl; rw [e] at hP; unfold tsF at hP ⊢; first | (simp only [if_pos hq] at hP; exact hP _) | (simp only [if_neg hq] at hP; exact hP _)
    refine r_if_eq M dX3_neededFund_23 (tgt := 38) rfl (by omega) (fun b23 => ?_) (fun b23 => by omega)
    refine r_iconst M dX3_neededFund_38 ?_
    refine r_istore_4 M dX3_neededFund_39 (by decide) rfl ?_
    refine r_iload_n M dX3_neededFund_41 rfl ?_
    refine r_iload M dX3_neededFund_42 rfl ?_
    refine r_iload_n M dX3_neededFund_44 rfl ?_
    refine r_min M dX3_neededFund_45 mm_X3_188 (by omega) ⟨by omega, by omega⟩ (Nat.le_of_ble_eq_true rfl) ?_
    refine r_max M dX3_neededFund_48 mm_X3_150 (by omega) ⟨by omega, by omega⟩ (Nat.le_of_ble_eq_true rfl) ?_
    refine r_istore_2 M dX3_neededFund_51 (by decide) rfl ?_
    refine r_iload_n M dX3_neededFund_52 rfl ?_
    refine r_iload M dX3_neededFund_53 rfl ?_
    refine r_max M dX3_neededFund_55 mm_X3_150 (by omega) ⟨by omega, by omega⟩ (Nat.le_of_ble_eq_true rfl) ?_
    refine r_istore_1 M dX3_neededFund_58 (by decide) rfl ?_
    refine r_iinc_3 M (_) dX3_neededFund_59 rfl (by decide) rfl ?_
    refine r_goto M dX3_neededFund_62 (tgt := 6) rfl ?_
    have e : ndN (tsF S) (l + 1) = (max (ndN (tsF S) l).1 (tsF S l), max (ndN (tsF S) l).2 (min (tsF S l) (ndN (tsF S) l).1)) := rfl; rw [e] at hP; unfold tsF at hP ⊢; first | (simp only [if_pos hq] at hP; exact hP _) | (simp only [if_neg hq] at hP; exact hP _)
theorem cn_size (hI : CI S) (hok : S 0 0 7 = -1 → Ret (some (vI (smN (grw S) (cN S)))) (szS S)) (hS : S 0 0 7 ≠ -1 → Thr E_S S) : Cn g yX3_size cX3_size 4 (some .int) 7 110 1 [vR 0 0] S Ret Thr := by
  refine enter (L := [some (vR 0 0), none, none, none]) (by decide +kernel) (Nat.le_of_ble_eq_true rfl) rfl (fun K MM => ?_)
  have M := MM.mk
  have hc := hI.cnt
  have hcl := cN_le hI
  have hce := cN_eq hI
  have hf := hI.2.2.1
  have hn := need_ok hI
  have hwo := szW_ok hI
  have hpo := partR_ok (po := S 10 0) (okW_ent (l := cN S) hI.2.2.2.2.2.1 hwo (by omega : 0 ≤ need S ∧ need S ≤ 100000000))
  refine r_aload_n M dX3_size_0 rfl ?_
  refine r_callV0 MM dX3_size_1 ck_X3_90 vk_X3_requireNoFailure ⟨by omega, by omega, by omega⟩ ⟨by decide, by decide, rfl⟩ (by decide) (Nat.le_of_ble_eq_true rfl) (cn_requireNoFailure (by omega) (fun q7 => ?_) hS)
  refine r_aload_n M dX3_size_4 rfl ?_
  refine r_callV0 MM dX3_size_5 ck_X3_93 vk_X3_neededFund ⟨by omega, by omega, by omega⟩ ⟨by decide, by decide, rfl⟩ (by decide) (Nat.le_of_ble_eq_true rfl) (cn_neededFund hI ?_)
  refine r_istore_1 M dX3_size_8 (by decide) rfl ?_
  refine r_iconst M dX3_size_9 ?_
  refine r_istore_2 M dX3_size_10 (by decide) rfl ?_
  refine k_S (S1 := entS S (szW S) (fun _ => need S) 0) ?_ (entS_0 _ _ _).symm
  refine fz (P := fun l => ∀ c3, K 1 11 [some (vR 0 0), some (vI (need S)), some (vI (l : Int)), c3] [] (entS S (szW S) (fun _ => need S) l)) (m := cN S) ?_ ?_ _
  · intro c3
    refine r_iload_n M dX3_size_11 rfl ?_
    refine r_aload_n M dX3_size_12 rfl ?_
    refine r_getV M dX3_size_13 fk_X3_29 (by decide) rfl (S 0 0 3) (by rfl) ?_
    refine r_icmp_ge M dX3_size_16 (tgt := 56) rfl (by omega) (fun b16 => ?_) (fun b16 => by omega)
    refine r_aload_n M dX3_size_56 rfl ?_
    refine r_getR M dX3_size_57 fk_X3_25 (by decide) rfl ?_
    refine r_iload_n M dX3_size_60 rfl ?_
    refine r_callV1 MM dX3_size_61 ck_X3_106 vk_X2_part ⟨by omega, by omega, by omega⟩ ⟨by decide, by decide, rfl⟩ (by decide) (Nat.le_of_ble_eq_true rfl) (cn_partE hI hwo (by omega) ?_)
    refine r_pop M dX3_size_64 ?_
    refine r_iconst M dX3_size_65 ?_
    refine r_istore_2 M dX3_size_66 (by decide) rfl ?_
    refine r_iconst M dX3_size_67 ?_
    refine r_istore_3 M dX3_size_68 (by decide) rfl ?_
    refine k_S (S1 := fS (wp (entS S (szW S) (fun _ => need S) (cN S)) (prS S (szW S) (fun _ => need S) (need S)).1) 5 (fun i => S 4 i 5 + grw S i) 0) ?_ (fS_0 _ _ _).symm
    refine fz (P := fun l => K 1 69 [some (vR 0 0), some (vI (need S)), some (vI (smN (grw S) l)), some (vI (l : Int))] [] (fS (wp (entS S (szW S) (fun _ => need S) (cN S)) (prS S (szW S) (fun _ => need S) (need S)).1) 5 (fun i => S 4 i 5 + grw S i) l)) (m := cN S) ?_ ?_
    · refine r_iload_n M dX3_size_69 rfl ?_
      refine r_aload_n M dX3_size_70 rfl ?_
      refine r_getV M dX3_size_71 fk_X3_29 (by decide) rfl (S 0 0 3) (by rfl) ?_
      refine r_icmp_ge M dX3_size_74 (tgt := 103) rfl (by omega) (fun b74 => ?_) (fun b74 => by omega)
      refine r_iload_n M dX3_size_103 rfl ?_
      refine r_iret MM dX3_size_104 ?_
      exact hok q7
    · intro l hl hP
      have hm := hI.mem (show l < 10 by omega)
      unfold MI at hm
      have hp1 := hpo.1 l (by omega)
      have hb9 : entS S (szW S) (fun _ => need S) (cN S) 9 0 l = need S := by
        show (if 0 = 0 ∧ l < cN S then need S else S 9 0 l) = _
        rw [if_pos ⟨rfl, hl⟩]
      have hp2 : 0 ≤ (prS S (szW S) (fun _ => need S) (need S)).1 l ∧ (prS S (szW S) (fun _ => need S) (need S)).1 l ≤ 2000000 := by
        unfold prS
        rw [hb9] at hp1
        omega
      refine r_iload_n M dX3_size_69 rfl ?_
      refine r_aload_n M dX3_size_70 rfl ?_
      refine r_getV M dX3_size_71 fk_X3_29 (by decide) rfl (S 0 0 3) (by rfl) ?_
      refine r_icmp_ge M dX3_size_74 (tgt := 103) rfl (by omega) (fun b74 => by omega) (fun b74 => ?_)
      refine r_iload_n M dX3_size_77 rfl ?_
      refine r_aload_n M dX3_size_78 rfl ?_
      refine r_getR M dX3_size_79 fk_X3_11 (by decide) rfl ?_
      refine r_iload_n M dX3_size_82 rfl ?_
      refine r_aaldM M (_) dX3_size_83 rfl (by omega) ?_
      refine r_aload_n M dX3_size_84 rfl ?_
      refine r_getR M dX3_size_85 fk_X3_25 (by decide) rfl ?_
      refine r_iload_n M dX3_size_88 rfl ?_
      refine r_callV1 MM dX3_size_89 ck_X3_110 vk_X2_partOf ⟨by omega, by omega, by omega⟩ ⟨by decide, by decide, rfl⟩ (by decide) (Nat.le_of_ble_eq_true rfl) (cn_partOfV (v := (prS S (szW S) (fun _ => need S) (need S)).1 l) (by omega) rfl ?_)
      refine r_callV1 MM dX3_size_92 ck_X3_113 vk_X1_raiseShare ⟨by omega, by omega, by omega⟩ ⟨by decide, by decide, rfl⟩ (show (_ : Nat) < 10 by omega) (Nat.le_of_ble_eq_true rfl) (cn_raiseV (by omega) (by omega) (v := S 4 l 5) (fS_at _ _ _ _) (by omega) ?_)
      refine r_iadd M dX3_size_95 ?_
      refine r_istore_2 M dX3_size_96 (by decide) rfl ?_
      refine r_iinc_3 M (_) dX3_size_97 rfl (by decide) rfl ?_
      refine r_goto M dX3_size_100 (tgt := 69) rfl ?_
      exact k_S hP (fS_s rfl)
  · intro l hl hP c3
    have hm := hI.mem (show l < 10 by omega)
    unfold MI at hm
    refine r_iload_n M dX3_size_11 rfl ?_
    refine r_aload_n M dX3_size_12 rfl ?_
    refine r_getV M dX3_size_13 fk_X3_29 (by decide) rfl (S 0 0 3) (by rfl) ?_
    refine r_icmp_ge M dX3_size_16 (tgt := 56) rfl (by omega) (fun b16 => by omega) (fun b16 => ?_)
    refine r_aload_n M dX3_size_19 rfl ?_
    refine r_getR M dX3_size_20 fk_X3_11 (by decide) rfl ?_
    refine r_iload_n M dX3_size_23 rfl ?_
    refine r_aaldM M (_) dX3_size_24 rfl (by omega) ?_
    refine r_astore_3 M dX3_size_25 (by decide) rfl ?_
    refine r_aload_n M dX3_size_26 rfl ?_
    refine r_getR M dX3_size_27 fk_X3_25 (by decide) rfl ?_
    refine r_iload_n M dX3_size_30 rfl ?_
    refine r_aload_n M dX3_size_31 rfl ?_
    refine r_callV0 MM dX3_size_32 ck_X3_96 vk_X1_isActive ⟨by omega, by omega, by omega⟩ ⟨by decide, by decide, rfl⟩ (show (_ : Nat) < 10 by omega) (Nat.le_of_ble_eq_true rfl) (cn_isActiveV (by omega) (v := S 4 l 3) rfl (by omega) (fun hq => ?_) (fun hq => ?_))
    · refine r_if_eq M dX3_size_35 (tgt := 45) rfl (by omega) (fun b35 => by omega) (fun b35 => ?_)
      refine r_aload_n M dX3_size_38 rfl ?_
      refine r_getV M dX3_size_39 fk_X3_100 (show (_ : Nat) < 10 by omega) rfl (S 4 l 4) (by rfl) ?_
      refine r_goto M dX3_size_42 (tgt := 46) rfl ?_
      refine r_iload_n M dX3_size_46 rfl ?_
      refine r_callV3 MM dX3_size_47 ck_X3_103 vk_X2_enter ⟨by omega, by omega, by omega⟩ ⟨by decide, by decide, rfl⟩ (by decide) (Nat.le_of_ble_eq_true rfl) (cn_enter (by omega) _ _ ?_)
      refine r_iinc_2 M (_) dX3_size_50 rfl (by decide) rfl ?_
      refine r_goto M dX3_size_53 (tgt := 11) rfl ?_
      exact k_S (hP _) (entS_s (by unfold szW; first | (rw [if_pos hq]; done) | (rw [if_neg hq]; done)) rfl)
    refine r_if_eq M dX3_size_35 (tgt := 45) rfl (by omega) (fun b35 => ?_) (fun b35 => by omega)
    refine r_iconst M dX3_size_45 ?_
    refine r_iload_n M dX3_size_46 rfl ?_
    refine r_callV3 MM dX3_size_47 ck_X3_103 vk_X2_enter ⟨by omega, by omega, by omega⟩ ⟨by decide, by decide, rfl⟩ (by decide) (Nat.le_of_ble_eq_true rfl) (cn_enter (by omega) _ _ ?_)
    refine r_iinc_2 M (_) dX3_size_50 rfl (by decide) rfl ?_
    refine r_goto M dX3_size_53 (tgt := 11) rfl ?_
    exact k_S (hP _) (entS_s (by unfold szW; first | (rw [if_pos hq]; done) | (rw [if_neg hq]; done)) rfl)
theorem cn_findsHost {lots : Int} (hl : 0 ≤ lots ∧ lots ≤ 20) (hc : 0 ≤ S 0 0 3 ∧ S 0 0 3 ≤ 10) (hM : ∀ i, i < 10 → MI S i) (h1 : ∀ j, hostN S lots (cN S) = some j → Ret (some (vI 1)) (takeS S j lots)) (h0 : hostN S lots (cN S) = none → Ret (some (vI 0)) S) : Cn g yX3_findsHost cX3_findsHost 3 (some .boolean) 2 41 0 [vR 0 0, vI lots] S Ret Thr := by
  refine enter (L := [some (vR 0 0), some (vI lots), none]) (by decide +kernel) (Nat.le_of_ble_eq_true rfl) rfl (fun K MM => ?_)
  have M := MM.mk
  have hcl : cN S ≤ 10 := by unfold cN; omega
  have hce : ((cN S : Nat) : Int) = S 0 0 3 := by unfold cN; omega
  refine r_iconst M dX3_findsHost_0 ?_
  refine r_istore_2 M dX3_findsHost_1 (by decide) rfl ?_
  refine fz (P := fun l => (∀ i, i < l → ¬ (actv S i ∧ taken S i lots)) → K 0 2 [some (vR 0 0), some (vI lots), some (vI (l : Int))] [] S) (m := cN S) ?_ ?_ (fun i hi => by omega)
  · intro hno
    refine r_iload_n M dX3_findsHost_2 rfl ?_
    refine r_aload_n M dX3_findsHost_3 rfl ?_
    refine r_getI M dX3_findsHost_4 fk_X3_29 (by decide) rfl ?_
    refine r_icmp_ge M dX3_findsHost_7 (tgt := 43) rfl (by omega) (fun b7 => ?_) (fun b7 => by omega)
    refine r_iconst M dX3_findsHost_43 ?_
    refine r_zret MM dX3_findsHost_44 (by omega) ?_
    exact h0 (hostN_no _ hno)
  · intro l hl9 hP hno
    have hm := hM l (by omega)
    unfold MI at hm
    have hnext : ¬ (actv S l ∧ taken S l lots) → ∀ i, i < l + 1 → ¬ (actv S i ∧ taken S i lots) := fun q i hi => by
      by_cases e : i = l
      · subst e; exact q
      · exact hno i (by omega)
    refine r_iload_n M dX3_findsHost_2 rfl ?_
    refine r_aload_n M dX3_findsHost_3 rfl ?_
    refine r_getI M dX3_findsHost_4 fk_X3_29 (by decide) rfl ?_
    refine r_icmp_ge M dX3_findsHost_7 (tgt := 43) rfl (by omega) (fun b7 => by omega) (fun b7 => ?_)
    refine r_aload_n M dX3_findsHost_10 rfl ?_
    refine r_getR M dX3_findsHost_11 fk_X3_11 (by decide) rfl ?_
    refine r_iload_n M dX3_findsHost_14 rfl ?_
    refine r_aaldM M (_) dX3_findsHost_15 rfl (by omega) ?_
    refine r_callV0 MM dX3_findsHost_16 ck_X3_96 vk_X1_isActive ⟨by omega, by omega, by omega⟩ ⟨by decide, by decide, rfl⟩ (show (_ : Nat) < 10 by omega) (Nat.le_of_ble_eq_true rfl) (cn_isActive (by omega) (by omega) (fun hq => ?_) (fun hq => ?_))
    · refine r_if_eq M dX3_findsHost_19 (tgt := 37) rfl (by omega) (fun b19 => by omega) (fun b19 => ?_)
      refine r_aload_n M dX3_findsHost_22 rfl ?_
      refine r_getR M dX3_findsHost_23 fk_X3_11 (by decide) rfl ?_
      refine r_iload_n M dX3_findsHost_26 rfl ?_
      refine r_aaldM M (_) dX3_findsHost_27 rfl (by omega) ?_
      refine r_iload_n M dX3_findsHost_28 rfl ?_
      refine r_callV1 MM dX3_findsHost_29 ck_X3_69 vk_X1_takesClient ⟨by omega, by omega, by omega⟩ ⟨by decide, by decide, rfl⟩ (show (_ : Nat) < 10 by omega) (Nat.le_of_ble_eq_true rfl) (cn_takesClient (by omega) (by omega) (by omega) (by omega) (by omega) (fun hq2 => ?_) (fun hq2 => ?_))
      · refine r_if_eq M dX3_findsHost_32 (tgt := 37) rfl (by omega) (fun b32 => by omega) (fun b32 => ?_)
        refine r_iconst M dX3_findsHost_35 ?_
        refine r_zret MM dX3_findsHost_36 (by omega) ?_
        exact h1 l (hostN_first ⟨hq, hq2⟩ hno _ hl9)
      refine r_if_eq M dX3_findsHost_32 (tgt := 37) rfl (by omega) (fun b32 => ?_) (fun b32 => by omega)
      refine r_iinc_2 M (_) dX3_findsHost_37 rfl (by decide) rfl ?_
      refine r_goto M dX3_findsHost_40 (tgt := 2) rfl ?_
      first | exact hP (hnext (fun q => hq q.1)) | exact hP (hnext (fun q => hq2 q.2))
    refine r_if_eq M dX3_findsHost_19 (tgt := 37) rfl (by omega) (fun b19 => ?_) (fun b19 => by omega)
    refine r_iinc_2 M (_) dX3_findsHost_37 rfl (by decide) rfl ?_
    refine r_goto M dX3_findsHost_40 (tgt := 2) rfl ?_
    first | exact hP (hnext (fun q => hq q.1)) | exact hP (hnext (fun q => hq2 q.2))
theorem cn_moveClients {i : Nat} (hi : i < 10) (hna : ¬ actv S i) (hc : 0 ≤ S 0 0 3 ∧ S 0 0 3 ≤ 10) (hM : ∀ i, i < 10 → MI S i) (h : Ret (some (vI (movS S i).2)) (movS S i).1) : Cn g yX3_moveClients cX3_moveClients 5 (some .int) 3 63 0 [vR 0 0, vR 4 i] S Ret Thr := by
  refine enter (L := [some (vR 0 0), some (vR 4 i), none, none, none]) (by decide +kernel) (Nat.le_of_ble_eq_true rfl) rfl (fun K MM => ?_)
  have M := MM.mk
  have hmi := hM i hi
  unfold MI at hmi
  have hcnt : (((S 4 i 1).toNat : Nat) : Int) = S 4 i 1 := by omega
  refine r_iconst M dX3_moveClients_0 ?_
  refine r_istore_2 M dX3_moveClients_1 (by decide) rfl ?_
  refine r_iconst M dX3_moveClients_2 ?_
  refine r_istore_3 M dX3_moveClients_3 (by decide) rfl ?_
  refine fz (P := fun l => ∀ c4, K 0 4 [some (vR 0 0), some (vR 4 i), some (vI (mvN S i l).2), some (vI (l : Int)), c4] [] (mvN S i l).1) (m := (S 4 i 1).toNat) ?_ ?_ _
  · intro c4
    have hk := mvN_keep hna (S 4 i 1).toNat
    refine r_iload_n M dX3_moveClients_4 rfl ?_
    refine r_aload_n M dX3_moveClients_5 rfl ?_
    refine r_getV M dX3_moveClients_6 fk_X3_191 (show (_ : Nat) < 10 by omega) rfl (S 4 i 1) (by exact hk.2.2.1 1) ?_
    refine r_icmp_ge M dX3_moveClients_9 (tgt := 40) rfl (by omega) (fun b9 => ?_) (fun b9 => by omega)
    refine r_aload_n M dX3_moveClients_40 rfl ?_
    refine r_callV0 MM dX3_moveClients_41 ck_X3_201 vk_X1_dropClients ⟨by omega, by omega, by omega⟩ ⟨by decide, by decide, rfl⟩ (show (_ : Nat) < 10 by omega) (Nat.le_of_ble_eq_true rfl) (cn_dropClients hi ?_)
    refine r_iload_n M dX3_moveClients_44 rfl ?_
    refine r_iret MM dX3_moveClients_45 ?_
    exact h
  · intro l hl hP c4
    have hk := mvN_keep hna l
    have hMl := mvN_MI hi hM l (by omega)
    have hlr := hmi.2.2.2.2.2.2.2.2.2.2 l (by omega)
    have h0 : (mvN S i l).1 0 = S 0 := hk.1 0 (by omega) (by omega)
    have hcl : 0 ≤ (mvN S i l).1 0 0 3 ∧ (mvN S i l).1 0 0 3 ≤ 10 := by rw [h0]; exact hc
    refine r_iload_n M dX3_moveClients_4 rfl ?_
    refine r_aload_n M dX3_moveClients_5 rfl ?_
    refine r_getV M dX3_moveClients_6 fk_X3_191 (show (_ : Nat) < 10 by omega) rfl (S 4 i 1) (by exact hk.2.2.1 1) ?_
    refine r_icmp_ge M dX3_moveClients_9 (tgt := 40) rfl (by omega) (fun b9 => by omega) (fun b9 => ?_)
    refine r_aload_n M dX3_moveClients_12 rfl ?_
    refine r_getR M dX3_moveClients_13 fk_X3_194 (show (_ : Nat) < 10 by omega) rfl ?_
    refine r_iload_n M dX3_moveClients_16 rfl ?_
    refine r_ialdV M (_) dX3_moveClients_17 ⟨rfl, by decide⟩ (show (_ : Nat) < 10 by omega) rfl (show (_ : Nat) < 100 by omega) (Nat.le_of_ble_eq_true rfl) (S 5 i l) (by rw [hk.2.2.2]) ?_
    refine r_istore_4 M dX3_moveClients_18 (by decide) rfl ?_
    refine r_aload_n M dX3_moveClients_20 rfl ?_
    refine r_iload M dX3_moveClients_21 rfl ?_
    refine r_callV1 MM dX3_moveClients_23 ck_X3_198 vk_X3_findsHost ⟨by omega, by omega, by omega⟩ ⟨by decide, by decide, rfl⟩ (by decide) (Nat.le_of_ble_eq_true rfl) (cn_findsHost hlr hcl hMl (fun j hj => ?_) (fun hj => ?_))
    · refine r_if_ne M dX3_moveClients_26 (tgt := 34) rfl (by omega) (fun b26 => ?_) (fun b26 => by omega)
      refine r_iinc_3 M (_) dX3_moveClients_34 rfl (by decide) rfl ?_
      refine r_goto M dX3_moveClients_37 (tgt := 4) rfl ?_
      have e : mvN S i (l + 1) = ((mv1 (mvN S i l).1 (S 5 i l)).1, (mvN S i l).2 + (mv1 (mvN S i l).1 (S 5 i l)).2) := rfl; unfold mv1 at e; rw [hj] at e; rw [e] at hP; first | exact hP _ | (have h9 := hP (some (vI (S 5 i l))); simp only [Int.add_zero] at h9; exact h9)
    refine r_if_ne M dX3_moveClients_26 (tgt := 34) rfl (by omega) (fun b26 => by omega) (fun b26 => ?_)
    refine r_iload_n M dX3_moveClients_29 rfl ?_
    refine r_iload M dX3_moveClients_30 rfl ?_
    refine r_iadd M dX3_moveClients_32 ?_
    refine r_istore_2 M dX3_moveClients_33 (by decide) rfl ?_
    refine r_iinc_3 M (_) dX3_moveClients_34 rfl (by decide) rfl ?_
    refine r_goto M dX3_moveClients_37 (tgt := 4) rfl ?_
    have e : mvN S i (l + 1) = ((mv1 (mvN S i l).1 (S 5 i l)).1, (mvN S i l).2 + (mv1 (mvN S i l).1 (S 5 i l)).2) := rfl; unfold mv1 at e; rw [hj] at e; rw [e] at hP; first | exact hP _ | (have h9 := hP (some (vI (S 5 i l))); simp only [Int.add_zero] at h9; exact h9)
end XBig
end
section
/-! ===== DefaultFund: fail and close ===== -/
theorem r_iincW_1 {g : Gl} {own : String} {cc : ByteArray} {nL fr lo N : Nat} {K : KT} {n pc : Nat} {st : List AV} {S : St} (M : Mk g own cc nL fr lo N K) {a0 : Option AV} {T : List (Option AV)} {x z : Int} (y : Int) (d : decode cc pc = .ok (.iinc 1 z, 6)) (hy : x + z = y) (hj : 1 < nL) (hs : stOK (a0 :: some (vI x) :: T) 1 = true) (kk : K n (pc + 6) (a0 :: some (vI y) :: T) st S) : K n pc (a0 :: some (vI x) :: T) st S :=
  M.go (fun p e R s m args below meth c A c0 s0 Q C H locs ls hW hS hL hn k => by
    obtain ⟨q, hq⟩ := List.getElem?_of_mem (lvl_mem.mpr ⟨_, rfl, rfl⟩ : (1, cv g (vI x)) ∈ lvl g (a0 :: some (vI x) :: T))
    exact lv_iincW (v := Int32.ofInt y) C.1 C.2.1 d hL.lv hq (by rw [← hy, Int32.ofInt_add]) hj rfl (fun ls' h => k ls' (lvs.of1 (v := vI y) hs h))) kk
theorem mvN_rng {S : St} {i : Nat} (hi : i < 10) (hm : ∀ i, i < 10 → MI S i) : ∀ k, k ≤ 100 → 0 ≤ (mvN S i k).2 ∧ (mvN S i k).2 ≤ 20 * k
  | 0, _ => by show (0 : Int) ≤ 0 ∧ (0 : Int) ≤ 20 * 0; omega
  | k + 1, hk => by
    have h := mvN_rng hi hm k (by omega)
    have h2 := (hm i hi).2.2.2.2.2.2.2.2.2.2 k (by omega)
    show 0 ≤ (mvN S i k).2 + (mv1 (mvN S i k).1 (S 5 i k)).2 ∧ (mvN S i k).2 + (mv1 (mvN S i k).1 (S 5 i k)).2 ≤ _
    have h3 : 0 ≤ (mv1 (mvN S i k).1 (S 5 i k)).2 ∧ (mv1 (mvN S i k).1 (S 5 i k)).2 ≤ 20 := by
      unfold mv1
      split
      · show (0 : Int) ≤ 0 ∧ (0 : Int) ≤ 20; omega
      · exact h2
    omega
def flS (S : St) (j : Nat) : St := up3 (up3 (fS S 12 (fun i => S 4 i 5) (cN S)) 0 0 7 j) 4 j 3 2
def bookN (S : St) (j : Nat) (lots : Int) : Int := lots + (movS (flS S j) j).2
def failS (S : St) (j : Nat) (lots : Int) : St := opS (movS (flS S j) j).1 (min (bookN S j lots) 120).toNat 10 0
theorem flS_MI {S : St} (hI : CI S) (j : Nat) : ∀ i, i < 10 → MI (flS S j) i := fun i hi => by
  have h := hI.mem hi
  have e : ∀ k, flS S j 4 i k = if i = j ∧ k = 3 then 2 else if k = 12 ∧ i < cN S then S 4 i 5 else S 4 i k := fun k => by
    simp [flS, up3, fS]
  have e5 : ∀ k, flS S j 5 i k = S 5 i k := fun k => rfl
  unfold MI at h ⊢
  simp only [e, e5, show ((1 : Nat) = 3) = False by decide, show ((2 : Nat) = 3) = False by decide, show ((4 : Nat) = 3) = False by decide, show ((5 : Nat) = 3) = False by decide, show ((6 : Nat) = 3) = False by decide, show ((7 : Nat) = 3) = False by decide, show ((8 : Nat) = 3) = False by decide, show ((9 : Nat) = 3) = False by decide, show ((12 : Nat) = 3) = False by decide, show ((1 : Nat) = 12) = False by decide, show ((2 : Nat) = 12) = False by decide, show ((3 : Nat) = 12) = False by decide, show ((4 : Nat) = 12) = False by decide, show ((5 : Nat) = 12) = False by decide, show ((6 : Nat) = 12) = False by decide, show ((7 : Nat) = 12) = False by decide, show ((8 : Nat) = 12) = False by decide, show ((9 : Nat) = 12) = False by decide, and_false, false_and, if_false, and_true, true_and]
  refine ⟨h.1, h.2.1, ?_, h.2.2.2.1, h.2.2.2.2.1, h.2.2.2.2.2.1, h.2.2.2.2.2.2.1, h.2.2.2.2.2.2.2.1, h.2.2.2.2.2.2.2.2.1, ?_, h.2.2.2.2.2.2.2.2.2.2⟩
  · split
    · omega
    · exact h.2.2.1
  · split
    · exact h.2.2.2.2.1
    · exact h.2.2.2.2.2.2.2.2.2.1
/-- lots are awarded -/
def awN (S : St) : Nat → St × Int
  | 0 => (S, 0)
  | l + 1 => if winr S l = -1 then ((awN S l).1, (awN S l).2 + 1000) else (up3 (awN S l).1 4 (winr S l).toNat 11 ((awN S l).1 4 (winr S l).toNat 11 + 1), (awN S l).2 - S 7 (winr S l).toNat l)
theorem awN_succ (S : St) (l : Nat) : awN S (l + 1) = if winr S l = -1 then ((awN S l).1, (awN S l).2 + 1000) else (up3 (awN S l).1 4 (winr S l).toNat 11 ((awN S l).1 4 (winr S l).toNat 11 + 1), (awN S l).2 - S 7 (winr S l).toNat l) := rfl
theorem awN_keep (S : St) : ∀ l, (∀ t, t ≠ 4 → (awN S l).1 t = S t) ∧ ∀ i k, k ≠ 11 → (awN S l).1 4 i k = S 4 i k
  | 0 => ⟨fun _ _ => rfl, fun _ _ _ => rfl⟩
  | l + 1 => by
    have h := awN_keep S l
    rw [awN_succ]
    split
    · exact h
    · refine ⟨fun t ht => ?_, fun i k hk => ?_⟩
      · rw [← h.1 t ht]
        funext a b
        simp [up3, ht]
      · rw [← h.2 i k hk]
        simp [up3, hk]
theorem winr_c {S S' : St} (h : S' 7 = S 7) (l : Nat) : winr S' l = winr S l := by
  unfold winr
  rw [h]
theorem smA_c {S S' : St} (h2 : S' 2 = S 2) (h7 : S' 7 = S 7) (h : smA S) : smA S' := by
  unfold smA
  rw [h2, h7]
  exact h
theorem winr_rng {S : St} (hA : smA S) {l : Nat} (hl : l < 120) : winr S l = -1 ∨ 0 ≤ winr S l ∧ winr S l < 10 := (wnN_rng (fun i => S 7 i l) (fun k hk => hA.2 k hk l hl) 10 (by omega)).2
theorem awN_rng {S : St} (hA : smA S) : ∀ l : Nat, l ≤ 120 → -(1001 * (l : Int)) ≤ (awN S l).2 ∧ (awN S l).2 ≤ 1001 * l
  | 0, _ => by show -(1001 * (0 : Int)) ≤ 0 ∧ (0 : Int) ≤ 1001 * 0; omega
  | l + 1, hl => by
    have h := awN_rng hA l (by omega)
    rw [awN_succ]
    split
    · show _ ≤ (awN S l).2 + 1000 ∧ (awN S l).2 + 1000 ≤ _
      omega
    · have hw := winr_rng hA (show l < 120 by omega)
      have hb := hA.2 (winr S l).toNat (by omega) l (by omega)
      show _ ≤ (awN S l).2 - S 7 (winr S l).toNat l ∧ (awN S l).2 - S 7 (winr S l).toNat l ≤ _
      omega
theorem mdN_c {S S' : St} (h7 : S' 7 = S 7) (m : Nat) : ∀ l, mdN S' m l = mdN S m l
  | 0 => rfl
  | l + 1 => by
    unfold mdN
    rw [h7, mdN_c h7 m l]
theorem lwN_c {S S' : St} (h7 : S' 7 = S 7) (m : Nat) : ∀ l, lwN S' m l = lwN S m l
  | 0 => rfl
  | l + 1 => by
    unfold lwN isLw
    rw [winr_c h7, h7, lwN_c h7 m l]
theorem poor_c {S S' : St} (h2 : S' 2 = S 2) (h7 : S' 7 = S 7) (m : Nat) : poor S' m ↔ poor S m := by
  unfold poor
  rw [h2, mdN_c h7, lwN_c h7]
def rkV (S : St) (i : Nat) : Int := if poor S i then 1 else 0
def rkS (S : St) (l : Nat) : St := fun t i k => if t = 4 ∧ k = 9 ∧ i < l ∧ actv S i then rkV S i else S t i k
theorem rkS_0 (S : St) : rkS S 0 = S := by
  funext t i k
  unfold rkS
  rw [if_neg (by omega)]
theorem rkS_y {S : St} {l : Nat} {x : Int} (ha : actv S l) (hx : x = rkV S l) : up3 (rkS S l) 4 l 9 x = rkS S (l + 1) := by
  subst hx
  funext t i k
  unfold up3 rkS
  by_cases h : t = 4 ∧ i = l ∧ k = 9
  · obtain ⟨rfl, rfl, rfl⟩ := h
    rw [if_pos ⟨rfl, rfl, rfl⟩, if_pos ⟨rfl, rfl, by omega, ha⟩]
  · rw [if_neg h]
    by_cases h2 : t = 4 ∧ k = 9 ∧ i < l ∧ actv S i
    · rw [if_pos h2, if_pos ⟨h2.1, h2.2.1, by omega, h2.2.2.2⟩]
    · rw [if_neg h2, if_neg (fun q => h2 ⟨q.1, q.2.1, by omega, q.2.2.2⟩)]
theorem rkS_n {S : St} {l : Nat} (ha : ¬ actv S l) : rkS S l = rkS S (l + 1) := by
  funext t i k
  unfold rkS
  by_cases h2 : t = 4 ∧ k = 9 ∧ i < l ∧ actv S i
  · rw [if_pos h2, if_pos ⟨h2.1, h2.2.1, by omega, h2.2.2.2⟩]
  · rw [if_neg h2, if_neg (fun q => h2 ⟨q.1, q.2.1, by
      by_cases e : i = l
      · subst e; exact absurd q.2.2.2 ha
      · omega, q.2.2.2⟩)]
theorem CI_rk {S : St} (hI : CI S) (l : Nat) : CI (rkS S l) := by
  refine CI_set hI rfl rfl rfl hI.2.2.2.2.2.1 (fun i hi => ?_)
  have h := hI.mem hi
  have e : ∀ k, rkS S l 4 i k = if k = 9 ∧ i < l ∧ actv S i then rkV S i else S 4 i k := fun k => by simp [rkS]
  have e5 : ∀ k, rkS S l 5 i k = S 5 i k := fun k => rfl
  unfold MI at h ⊢
  simp only [e, e5, show ((1 : Nat) = 9) = False by decide, show ((2 : Nat) = 9) = False by decide, show ((3 : Nat) = 9) = False by decide, show ((4 : Nat) = 9) = False by decide, show ((5 : Nat) = 9) = False by decide, show ((6 : Nat) = 9) = False by decide, show ((7 : Nat) = 9) = False by decide, show ((8 : Nat) = 9) = False by decide, show ((12 : Nat) = 9) = False by decide, false_and, if_false, true_and]
  refine ⟨h.1, h.2.1, h.2.2.1, h.2.2.2.1, h.2.2.2.2.1, h.2.2.2.2.2.1, h.2.2.2.2.2.2.1, h.2.2.2.2.2.2.2.1, ?_, h.2.2.2.2.2.2.2.2.2⟩
  split
  · unfold rkV
    split <;> omega
  · exact h.2.2.2.2.2.2.2.2.1
/-- those under notice leave -/
def enN (S : St) : Nat → St
  | 0 => S
  | l + 1 => if S 4 l 3 = 1 then loseS (up3 (enN S l) 4 l 3 3) l else enN S l
theorem enN_succ (S : St) (l : Nat) : enN S (l + 1) = if S 4 l 3 = 1 then loseS (up3 (enN S l) 4 l 3 3) l else enN S l := rfl
theorem enN_keep (S : St) : ∀ l, (∀ t, t ≠ 4 → enN S l t = S t) ∧ ∀ i, l ≤ i → ∀ k, enN S l 4 i k = S 4 i k
  | 0 => ⟨fun _ _ => rfl, fun _ _ _ => rfl⟩
  | l + 1 => by
    have h := enN_keep S l
    rw [enN_succ]
    split
    · refine ⟨fun t ht => ?_, fun i hi k => ?_⟩
      · rw [← h.1 t ht]
        funext a b
        simp [loseS, dropS, up3, ht]
      · rw [← h.2 i (by omega) k]
        simp [loseS, dropS, up3, show ¬ i = l by omega]
    · exact ⟨h.1, fun i hi k => h.2 i (by omega) k⟩
def endS (S : St) (i : Nat) : St := up3 (enN (loseS S i) (cN S)) 0 0 7 (-1)
/-- the loss is eaten -/
def lf3 (S : St) (i : Nat) : Int := S 0 0 5 - min (S 0 0 5) (S 4 i 4) - min (S 0 0 5 - min (S 0 0 5) (S 4 i 4)) (S 4 i 5)
def pd3 (S : St) (i : Nat) : Int := min (lf3 S i) (S 0 0 4)
def ea0 (S : St) (i : Nat) : St × Int := (up3 S 0 0 4 (S 0 0 4 - pd3 S i), lf3 S i - pd3 S i)
def ea1 (S : St) (i : Nat) : St × Int := eaSh (ea0 S i).1 (ea0 S i).2 1
def ea2 (S : St) (i : Nat) : St × Int := eaSh (ea1 S i).1 (ea1 S i).2 0
def ea3 (S : St) (i : Nat) : St × Int := eaAs (ea2 S i).1 (ea2 S i).2
def ea4 (S : St) (i : Nat) : St × Int := eaGn (ea3 S i).1 (ea3 S i).2
theorem CI_eaSh {S : St} (hI : CI S) {a : Int} (ha : 0 ≤ a ∧ a ≤ 100000000) (j : Int) : CI (eaSh S a j).1 ∧ 0 ≤ (eaSh S a j).2 ∧ (eaSh S a j).2 ≤ a := by
  have hw := shW_ok hI j
  have hp := partR_ok (po := S 10 0) (okW_ent (l := cN S) hI.2.2.2.2.2.1 hw ha)
  refine ⟨CI_eat hI hw ha (Or.inl ⟨rfl, fun i hi => ?_⟩), hp.2⟩
  have hc := hI.cnt
  have h10 : i < 10 := by unfold cN at hi; omega
  have h1 := hp.1 i h10
  have e : entS S (shW S j) (fun i => S 4 i 5) (cN S) 9 0 i = S 4 i 5 := by
    show (if 0 = 0 ∧ i < cN S then S 4 i 5 else S 9 0 i) = _
    rw [if_pos ⟨rfl, hi⟩]
  rw [e] at h1
  have h2 := (hI.mem h10).2.2.2.2.1
  show 0 ≤ S 4 i 5 - (prS S (shW S j) (fun i => S 4 i 5) a).1 i ∧ S 4 i 5 - (prS S (shW S j) (fun i => S 4 i 5) a).1 i ≤ 2000000
  unfold prS
  omega
theorem CI_eaAs {S : St} (hI : CI S) {a : Int} (ha : 0 ≤ a ∧ a ≤ 100000000) : CI (eaAs S a).1 ∧ 0 ≤ (eaAs S a).2 ∧ (eaAs S a).2 ≤ a := by
  have hw := asW_ok hI
  have hp := partR_ok (po := S 10 0) (okW_ent (l := cN S) hI.2.2.2.2.2.1 hw ha)
  exact ⟨CI_eat hI hw ha (Or.inr (Or.inr rfl)), hp.2⟩
theorem CI_eaGn {S : St} (hI : CI S) {a : Int} (ha : 0 ≤ a ∧ a ≤ 100000000) : CI (eaGn S a).1 ∧ 0 ≤ (eaGn S a).2 ∧ (eaGn S a).2 ≤ a := by
  have hw := gnW_ok hI
  have hp := partR_ok (po := S 10 0) (okW_ent (l := cN S) hI.2.2.2.2.2.1 hw ha)
  refine ⟨CI_eat hI hw ha (Or.inr (Or.inl ⟨rfl, fun i hi => ?_⟩)), hp.2⟩
  have hc := hI.cnt
  have h10 : i < 10 := by unfold cN at hi; omega
  have h1 := hp.1 i h10
  have e : entS S (gnW S) (fun i => S 4 i 7) (cN S) 9 0 i = S 4 i 7 := by
    show (if 0 = 0 ∧ i < cN S then S 4 i 7 else S 9 0 i) = _
    rw [if_pos ⟨rfl, hi⟩]
  rw [e] at h1
  have h2 := (hI.mem h10).2.2.2.2.2.2.1
  show 0 ≤ S 4 i 7 - (prS S (gnW S) (fun i => S 4 i 7) a).1 i ∧ S 4 i 7 - (prS S (gnW S) (fun i => S 4 i 7) a).1 i ≤ 1000000
  unfold prS
  omega
theorem CI_00 {S : St} (hI : CI S) {k : Nat} {x : Int} (hk : k = 4 ∧ 0 ≤ x ∧ x ≤ 1000000 ∨ k = 5 ∧ 0 ≤ x ∧ x ≤ 1000000 ∨ k = 6) : CI (up3 S 0 0 k x) := by
  obtain ⟨a1, a2, a3, a4, a5, a6, a7⟩ := hI
  rcases hk with ⟨rfl, hx⟩ | ⟨rfl, hx⟩ | rfl
  · exact ⟨a1, by show 0 ≤ x ∧ x ≤ _; omega, a3, a4, a5, a6, a7⟩
  · exact ⟨a1, a2, a3, by show 0 ≤ x ∧ x ≤ _; omega, a5, a6, a7⟩
  · exact ⟨a1, a2, a3, a4, a5, a6, a7⟩
theorem ea0_ok {S : St} (hI : CI S) {i : Nat} (hi : i < 10) : CI (ea0 S i).1 ∧ 0 ≤ (ea0 S i).2 ∧ (ea0 S i).2 ≤ 1000000 := by
  have h5 := hI.2.2.2.1
  have h4 := hI.2.1
  have hm := hI.mem hi
  have hm1 := hm.2.2.2.1
  have hm2 := hm.2.2.2.2.1
  have h1 : 0 ≤ lf3 S i ∧ lf3 S i ≤ 1000000 := by unfold lf3; omega
  have h2 : 0 ≤ pd3 S i ∧ pd3 S i ≤ S 0 0 4 ∧ pd3 S i ≤ lf3 S i := by unfold pd3; omega
  refine ⟨CI_00 hI (Or.inl ⟨rfl, by omega⟩), ?_⟩
  show 0 ≤ lf3 S i - pd3 S i ∧ lf3 S i - pd3 S i ≤ _
  omega
theorem ea_ok {S : St} (hI : CI S) {i : Nat} (hi : i < 10) : (CI (ea1 S i).1 ∧ 0 ≤ (ea1 S i).2 ∧ (ea1 S i).2 ≤ 1000000) ∧ (CI (ea2 S i).1 ∧ 0 ≤ (ea2 S i).2 ∧ (ea2 S i).2 ≤ 1000000) ∧ (CI (ea3 S i).1 ∧ 0 ≤ (ea3 S i).2 ∧ (ea3 S i).2 ≤ 1000000) ∧ CI (ea4 S i).1 ∧ 0 ≤ (ea4 S i).2 ∧ (ea4 S i).2 ≤ 1000000 := by
  have h0 := ea0_ok hI hi
  have h1 := CI_eaSh h0.1 (a := (ea0 S i).2) (by omega) 1
  have h1' : CI (ea1 S i).1 ∧ 0 ≤ (ea1 S i).2 ∧ (ea1 S i).2 ≤ 1000000 := ⟨h1.1, by unfold ea1; omega⟩
  have h2 := CI_eaSh h1'.1 (a := (ea1 S i).2) (by omega) 0
  have h2' : CI (ea2 S i).1 ∧ 0 ≤ (ea2 S i).2 ∧ (ea2 S i).2 ≤ 1000000 := ⟨h2.1, by unfold ea2; omega⟩
  have h3 := CI_eaAs h2'.1 (a := (ea2 S i).2) (by omega)
  have h3' : CI (ea3 S i).1 ∧ 0 ≤ (ea3 S i).2 ∧ (ea3 S i).2 ≤ 1000000 := ⟨h3.1, by unfold ea3; omega⟩
  have h4 := CI_eaGn h3'.1 (a := (ea3 S i).2) (by omega)
  exact ⟨h1', h2', h3', h4.1, by unfold ea4; omega⟩
def cl1 (S : St) : St := rkS (up3 (awN S (S 2 0 1).toNat).1 0 0 5 (max 0 (awN S (S 2 0 1).toNat).2)) (cN S)
def cl2 (S : St) (i : Nat) : St := up3 (ea4 (cl1 S) i).1 0 0 6 ((ea4 (cl1 S) i).1 0 0 6 + (ea4 (cl1 S) i).2)
def clS (S : St) (i : Nat) : St := endS (cl2 S i) i
theorem CI_aw {S : St} (hI : CI S) (l : Nat) : CI (awN S l).1 := by
  have hk := awN_keep S l
  refine CI_set hI (hk.1 0 (by omega)) (hk.1 2 (by omega)) (hk.1 7 (by omega)) (by unfold smP; rw [hk.1 8 (by omega), hk.1 9 (by omega), hk.1 10 (by omega)]; exact hI.2.2.2.2.2.1) (fun i hi => ?_)
  have h := hI.mem hi
  unfold MI at h ⊢
  rw [hk.2 i 1 (by omega), hk.2 i 2 (by omega), hk.2 i 3 (by omega), hk.2 i 4 (by omega), hk.2 i 5 (by omega), hk.2 i 6 (by omega), hk.2 i 7 (by omega), hk.2 i 8 (by omega), hk.2 i 9 (by omega), hk.2 i 12 (by omega), hk.1 5 (by omega)]
  exact h
theorem CI_cl1 {S : St} (hI : CI S) : CI (cl1 S) := by
  have hA := hI.2.2.2.2.1
  have hr := awN_rng hA (S 2 0 1).toNat (by have := hA.1; omega)
  have hA1 := hA.1
  exact CI_rk (CI_00 (CI_aw hI _) (Or.inr (Or.inl ⟨rfl, by omega⟩))) _
section XClose
variable {g : Gl} {S : St} {Ret : Option AV → St → Prop} {Thr : String → St → Prop}
theorem cn_fail {z v : Int} (hz : -2147483648 ≤ z ∧ z ≤ 2147483647) (hv : -2147483648 ≤ v ∧ v ≤ 2147483647) (hI : CI S)
    (hok : ∀ j : Nat, z = j → j < 10 → (j : Int) < S 0 0 3 → (1 ≤ v ∧ v ≤ 20) → actv S j → S 0 0 7 = -1 → Ret (some (vI (bookN S j v))) (failS S j v))
    (hB : ¬ (0 ≤ z ∧ z < S 0 0 3) → Thr E_B S) (hA : (0 ≤ z ∧ z < S 0 0 3) → ¬ (1 ≤ v ∧ v ≤ 20) → Thr E_A S) (hS : ∀ j : Nat, z = j → j < 10 → (j : Int) < S 0 0 3 → (1 ≤ v ∧ v ≤ 20) → ¬ (actv S j ∧ S 0 0 7 = -1) → Thr E_S S) : Cn g yX3_fail cX3_fail 5 (some .int) 7 112 4 [vR 0 0, vI z, vI v] S Ret Thr := by
  refine enter (L := [some (vR 0 0), some (vI z), some (vI v), none, none]) (by decide +kernel) (Nat.le_of_ble_eq_true rfl) rfl (fun K MM => ?_)
  have M := MM.mk
  have hc := hI.cnt
  have hcl := cN_le hI
  have hce := cN_eq hI
  have hf := hI.2.2.1
  refine r_aload_n M dX3_fail_0 rfl ?_
  refine r_iload_n M dX3_fail_1 rfl ?_
  refine r_callV1 MM dX3_fail_2 ck_X3_61 vk_X3_existing ⟨by omega, by omega, by omega⟩ ⟨by decide, by decide, rfl⟩ (by decide) (Nat.le_of_ble_eq_true rfl) (cn_existing hz hI.cnt (fun j ej hj hjc => ?_) hB)
  refine r_astore_3 M dX3_fail_5 (by decide) rfl ?_
  refine r_iload_n M dX3_fail_6 rfl ?_
  refine r_iconst M dX3_fail_7 ?_
  refine r_bipush M dX3_fail_8 rfl ?_
  refine r_callS3 MM dX3_fail_10 sl_X3_47 st_X3_requireBetween rfl ck_X3_47 ⟨by omega, by omega, by omega⟩ (Nat.le_of_ble_eq_true rfl) (cn_requireBetween hv (by omega) (by omega) (fun q2 => ?_) (fun q => hA (by omega) q))
  refine r_aload_n M dX3_fail_13 rfl ?_
  refine r_callS1 MM dX3_fail_14 sl_X3_65 st_X3_requireActive rfl ck_X3_65 ⟨by omega, by omega, by omega⟩ (Nat.le_of_ble_eq_true rfl) (cn_requireActive hj (by have h9 := hI.mem hj; unfold MI at h9; omega) (fun q3 => ?_) (fun q => hS j ej hj hjc q2 (fun w => q w.1)))
  refine r_aload_n M dX3_fail_17 rfl ?_
  refine r_callV0 MM dX3_fail_18 ck_X3_90 vk_X3_requireNoFailure ⟨by omega, by omega, by omega⟩ ⟨by decide, by decide, rfl⟩ (by decide) (Nat.le_of_ble_eq_true rfl) (cn_requireNoFailure (by omega) (fun q7 => ?_) (fun q => hS j ej hj hjc q2 (fun w => q w.2)))
  refine r_iconst M dX3_fail_21 ?_
  refine r_istore_4 M dX3_fail_22 (by decide) rfl ?_
  refine k_S (S1 := fS S 12 (fun i => S 4 i 5) 0) ?_ (fS_0 _ _ _).symm
  refine fz (P := fun l => K 4 24 [some (vR 0 0), some (vI z), some (vI v), some (vR 4 j), some (vI (l : Int))] [] (fS S 12 (fun i => S 4 i 5) l)) (m := cN S) ?_ ?_
  · have hMI := flS_MI hI j
    have hna : ¬ actv (flS S j) j := fun q => by
      have e : flS S j 4 j 3 = 2 := by simp [flS, up3]
      unfold actv at q
      omega
    have hmr := mvN_rng hj hMI (flS S j 4 j 1).toNat (by have := (hMI j hj).1; omega)
    have hmi1 := (hMI j hj).1
    have ez : up3 (up3 (fS S 12 (fun i => S 4 i 5) (cN S)) 0 0 7 z) 4 j 3 2 = flS S j := by rw [ej]; rfl
    have hbr : 0 ≤ bookN S j v ∧ bookN S j v ≤ 1000000 := by unfold bookN movS; omega
    refine r_iload M dX3_fail_24 rfl ?_
    refine r_aload_n M dX3_fail_26 rfl ?_
    refine r_getV M dX3_fail_27 fk_X3_29 (by decide) rfl (S 0 0 3) (by rfl) ?_
    refine r_icmp_ge M dX3_fail_30 (tgt := 59) rfl (by omega) (fun b30 => ?_) (fun b30 => by omega)
    refine r_aload_n M dX3_fail_59 rfl ?_
    refine r_iload_n M dX3_fail_60 rfl ?_
    refine r_putI M dX3_fail_61 pk_X3_42 (by decide) ?_
    refine r_aload_n M dX3_fail_64 rfl ?_
    refine r_iconst M dX3_fail_65 ?_
    refine r_putI M dX3_fail_66 pk_X3_85 (show (_ : Nat) < 10 by omega) ?_
    refine k_S ?_ ez
    refine r_iload_n M dX3_fail_69 rfl ?_
    refine r_aload_n M dX3_fail_70 rfl ?_
    refine r_aload_n M dX3_fail_71 rfl ?_
    refine r_callV1 MM dX3_fail_72 ck_X3_122 vk_X3_moveClients ⟨by omega, by omega, by omega⟩ ⟨by decide, by decide, rfl⟩ (by decide) (Nat.le_of_ble_eq_true rfl) (cn_moveClients hj hna hc hMI ?_)
    refine r_iadd M dX3_fail_75 ?_
    refine r_istore_4 M dX3_fail_76 (by decide) rfl ?_
    refine r_aload_n M dX3_fail_78 rfl ?_
    refine r_getR M dX3_fail_79 fk_X3_18 (by decide) rfl ?_
    refine r_iload M dX3_fail_82 rfl ?_
    refine r_callV1 MM dX3_fail_84 ck_X3_126 vk_X0_open ⟨by omega, by omega, by omega⟩ ⟨by decide, by decide, rfl⟩ (by decide) (Nat.le_of_ble_eq_true rfl) (cn_opn hbr ?_)
    refine r_iload M dX3_fail_87 rfl ?_
    refine r_iret MM dX3_fail_89 ?_
    exact hok j ej hj hjc q2 q3 q7
  · intro l hl hP
    refine r_iload M dX3_fail_24 rfl ?_
    refine r_aload_n M dX3_fail_26 rfl ?_
    refine r_getV M dX3_fail_27 fk_X3_29 (by decide) rfl (S 0 0 3) (by rfl) ?_
    refine r_icmp_ge M dX3_fail_30 (tgt := 59) rfl (by omega) (fun b30 => by omega) (fun b30 => ?_)
    refine r_aload_n M dX3_fail_33 rfl ?_
    refine r_getR M dX3_fail_34 fk_X3_11 (by decide) rfl ?_
    refine r_iload M dX3_fail_37 rfl ?_
    refine r_aaldM M (_) dX3_fail_39 rfl (by omega) ?_
    refine r_aload_n M dX3_fail_40 rfl ?_
    refine r_getR M dX3_fail_41 fk_X3_11 (by decide) rfl ?_
    refine r_iload M dX3_fail_44 rfl ?_
    refine r_aaldM M (_) dX3_fail_46 rfl (by omega) ?_
    refine r_getV M dX3_fail_47 fk_X3_116 (show (_ : Nat) < 10 by omega) rfl (S 4 l 5) (by rfl) ?_
    refine r_putI M dX3_fail_50 pk_X3_119 (show (_ : Nat) < 10 by omega) ?_
    refine r_iinc_4 M (_) dX3_fail_53 rfl (by decide) rfl ?_
    refine r_goto M dX3_fail_56 (tgt := 24) rfl ?_
    exact k_S hP (fS_s rfl)
theorem cn_awardLots (hI : CI S) (h : Ret (some (vI (awN S (S 2 0 1).toNat).2)) (awN S (S 2 0 1).toNat).1) : Cn g yX3_awardLots cX3_awardLots 4 (some .int) 1 24 0 [vR 0 0] S Ret Thr := by
  refine enter (L := [some (vR 0 0), none, none, none]) (by decide +kernel) (Nat.le_of_ble_eq_true rfl) rfl (fun K MM => ?_)
  have M := MM.mk
  have hA := hI.2.2.2.2.1
  have hA1 := hA.1
  refine r_iconst M dX3_awardLots_0 ?_
  refine r_istore_1 M dX3_awardLots_1 (by decide) rfl ?_
  refine r_iconst M dX3_awardLots_2 ?_
  refine r_istore_2 M dX3_awardLots_3 (by decide) rfl ?_
  refine fz (P := fun l => ∀ c3, K 0 4 [some (vR 0 0), some (vI (awN S l).2), some (vI (l : Int)), c3] [] (awN S l).1) (m := (S 2 0 1).toNat) ?_ ?_ _
  · intro c3
    have hk := awN_keep S (S 2 0 1).toNat
    refine r_iload_n M dX3_awardLots_4 rfl ?_
    refine r_aload_n M dX3_awardLots_5 rfl ?_
    refine r_getR M dX3_awardLots_6 fk_X3_18 (by decide) rfl ?_
    refine r_getV M dX3_awardLots_9 fk_X3_204 (by decide) rfl (S 2 0 1) (by rw [hk.1 2 (by omega)]) ?_
    refine r_icmp_ge M dX3_awardLots_12 (tgt := 71) rfl (by omega) (fun b12 => ?_) (fun b12 => by omega)
    refine r_iload_n M dX3_awardLots_71 rfl ?_
    refine r_iret MM dX3_awardLots_72 ?_
    exact h
  · intro l hl hP c3
    have hk := awN_keep S l
    have h7 : (awN S l).1 7 = S 7 := hk.1 7 (by omega)
    have hA2 : smA (awN S l).1 := smA_c (hk.1 2 (by omega)) h7 hA
    have hw := winr_rng hA (show l < 120 by omega)
    rw [awN_succ] at hP
    refine r_iload_n M dX3_awardLots_4 rfl ?_
    refine r_aload_n M dX3_awardLots_5 rfl ?_
    refine r_getR M dX3_awardLots_6 fk_X3_18 (by decide) rfl ?_
    refine r_getV M dX3_awardLots_9 fk_X3_204 (by decide) rfl (S 2 0 1) (by rw [hk.1 2 (by omega)]) ?_
    refine r_icmp_ge M dX3_awardLots_12 (tgt := 71) rfl (by omega) (fun b12 => by omega) (fun b12 => ?_)
    refine r_aload_n M dX3_awardLots_15 rfl ?_
    refine r_getR M dX3_awardLots_16 fk_X3_18 (by decide) rfl ?_
    refine r_iload_n M dX3_awardLots_19 rfl ?_
    refine r_callV1 MM dX3_awardLots_20 ck_X3_207 vk_X0_winnerOf ⟨by omega, by omega, by omega⟩ ⟨by decide, by decide, rfl⟩ (by decide) (Nat.le_of_ble_eq_true rfl) (cn_winnerV (winr_c h7 l) (by omega) hA2 ?_)
    refine r_istore_3 M dX3_awardLots_23 (by decide) rfl ?_
    refine r_iload_n M dX3_awardLots_24 rfl ?_
    refine r_iconst M dX3_awardLots_25 ?_
    refine r_icmp_ne M dX3_awardLots_26 (tgt := 38) rfl (by omega) (fun b26 => ?_) (fun b26 => ?_)
    · refine r_iload_n M dX3_awardLots_38 rfl ?_
      refine r_aload_n M dX3_awardLots_39 rfl ?_
      refine r_getR M dX3_awardLots_40 fk_X3_18 (by decide) rfl ?_
      refine r_iload_n M dX3_awardLots_43 rfl ?_
      refine r_iload_n M dX3_awardLots_44 rfl ?_
      refine r_callV2 MM dX3_awardLots_45 ck_X3_138 vk_X0_bidOf ⟨by omega, by omega, by omega⟩ ⟨by decide, by decide, rfl⟩ (by decide) (Nat.le_of_ble_eq_true rfl) (cn_bidOfV (winr S l).toNat l (by omega) rfl (by omega) (by omega) (v := S 7 (winr S l).toNat l) (by rw [h7]) ?_)
      refine r_isub M dX3_awardLots_48 ?_
      refine r_istore_1 M dX3_awardLots_49 (by decide) rfl ?_
      refine r_aload_n M dX3_awardLots_50 rfl ?_
      refine r_getR M dX3_awardLots_51 fk_X3_11 (by decide) rfl ?_
      refine r_iload_n M dX3_awardLots_54 rfl ?_
      refine r_aaldM M ((winr S l).toNat) dX3_awardLots_55 (by omega) (by omega) ?_
      refine r_dupR M dX3_awardLots_56 ?_
      refine r_getI M dX3_awardLots_57 fk_X3_174 (show (_ : Nat) < 10 by omega) rfl ?_
      refine r_iconst M dX3_awardLots_60 ?_
      refine r_iadd M dX3_awardLots_61 ?_
      refine r_putI M dX3_awardLots_62 pk_X3_174 (show (_ : Nat) < 10 by omega) ?_
      refine r_iinc_2 M (_) dX3_awardLots_65 rfl (by decide) rfl ?_
      refine r_goto M dX3_awardLots_68 (tgt := 4) rfl ?_
      first | (rw [if_pos b26] at hP; exact hP _) | (rw [if_neg b26] at hP; exact hP _)
    refine r_iincW_1 M (_) dX3_awardLots_29 rfl (by decide) rfl ?_
    refine r_goto M dX3_awardLots_35 (tgt := 65) rfl ?_
    refine r_iinc_2 M (_) dX3_awardLots_65 rfl (by decide) rfl ?_
    refine r_goto M dX3_awardLots_68 (tgt := 4) rfl ?_
    first | (rw [if_pos b26] at hP; exact hP _) | (rw [if_neg b26] at hP; exact hP _)
theorem cn_rankBidders (hI : CI S) (h : Ret none (rkS S (cN S))) : Cn g yX3_rankBidders cX3_rankBidders 2 none 3 71 0 [vR 0 0] S Ret Thr := by
  refine enter (L := [some (vR 0 0), none]) (by decide +kernel) (Nat.le_of_ble_eq_true rfl) rfl (fun K MM => ?_)
  have M := MM.mk
  have hcl := cN_le hI
  have hce := cN_eq hI
  have hA := hI.2.2.2.2.1
  refine r_iconst M dX3_rankBidders_0 ?_
  refine r_istore_1 M dX3_rankBidders_1 (by decide) rfl ?_
  refine k_S (S1 := rkS S 0) ?_ (rkS_0 S).symm
  refine fz (P := fun l => K 0 2 [some (vR 0 0), some (vI (l : Int))] [] (rkS S l)) (m := cN S) ?_ ?_
  · refine r_iload_n M dX3_rankBidders_2 rfl ?_
    refine r_aload_n M dX3_rankBidders_3 rfl ?_
    refine r_getV M dX3_rankBidders_4 fk_X3_29 (by decide) rfl (S 0 0 3) (by rfl) ?_
    refine r_icmp_ge M dX3_rankBidders_7 (tgt := 45) rfl (by omega) (fun b7 => ?_) (fun b7 => by omega)
    refine r_vret MM dX3_rankBidders_45 ?_
    exact h
  · intro l hl hP
    have hm := hI.mem (show l < 10 by omega)
    unfold MI at hm
    have hA2 : smA (rkS S l) := smA_c rfl rfl hA
    have hpc := poor_c (S := S) (S' := rkS S l) rfl rfl l
    refine r_iload_n M dX3_rankBidders_2 rfl ?_
    refine r_aload_n M dX3_rankBidders_3 rfl ?_
    refine r_getV M dX3_rankBidders_4 fk_X3_29 (by decide) rfl (S 0 0 3) (by rfl) ?_
    refine r_icmp_ge M dX3_rankBidders_7 (tgt := 45) rfl (by omega) (fun b7 => by omega) (fun b7 => ?_)
    refine r_aload_n M dX3_rankBidders_10 rfl ?_
    refine r_getR M dX3_rankBidders_11 fk_X3_11 (by decide) rfl ?_
    refine r_iload_n M dX3_rankBidders_14 rfl ?_
    refine r_aaldM M (_) dX3_rankBidders_15 rfl (by omega) ?_
    refine r_callV0 MM dX3_rankBidders_16 ck_X3_96 vk_X1_isActive ⟨by omega, by omega, by omega⟩ ⟨by decide, by decide, rfl⟩ (show (_ : Nat) < 10 by omega) (Nat.le_of_ble_eq_true rfl) (cn_isActiveV (by omega) (v := S 4 l 3) rfl (by omega) (fun hq => ?_) (fun hq => ?_))
    · refine r_if_eq M dX3_rankBidders_19 (tgt := 39) rfl (by omega) (fun b19 => by omega) (fun b19 => ?_)
      refine r_aload_n M dX3_rankBidders_22 rfl ?_
      refine r_getR M dX3_rankBidders_23 fk_X3_11 (by decide) rfl ?_
      refine r_iload_n M dX3_rankBidders_26 rfl ?_
      refine r_aaldM M (_) dX3_rankBidders_27 rfl (by omega) ?_
      refine r_aload_n M dX3_rankBidders_28 rfl ?_
      refine r_getR M dX3_rankBidders_29 fk_X3_18 (by decide) rfl ?_
      refine r_iload_n M dX3_rankBidders_32 rfl ?_
      refine r_callV1 MM dX3_rankBidders_33 ck_X3_210 vk_X0_bidPoorly ⟨by omega, by omega, by omega⟩ ⟨by decide, by decide, rfl⟩ (by decide) (Nat.le_of_ble_eq_true rfl) (cn_bidPoorly (by omega) hA2 (fun hq2 => ?_) (fun hq2 => ?_))
      · refine r_putZ M dX3_rankBidders_36 pk_X3_164 (show (_ : Nat) < 10 by omega) (by omega) ?_
        refine r_iinc_1 M (_) dX3_rankBidders_39 rfl (by decide) rfl ?_
        refine r_goto M dX3_rankBidders_42 (tgt := 2) rfl ?_
        first | (exact k_S hP (rkS_n hq)) | (exact k_S hP (rkS_y hq (by unfold rkV; rw [if_pos (hpc.mp hq2)]))) | (exact k_S hP (rkS_y hq (by unfold rkV; rw [if_neg (fun w => hq2 (hpc.mpr w))])))
      refine r_putZ M dX3_rankBidders_36 pk_X3_164 (show (_ : Nat) < 10 by omega) (by omega) ?_
      refine r_iinc_1 M (_) dX3_rankBidders_39 rfl (by decide) rfl ?_
      refine r_goto M dX3_rankBidders_42 (tgt := 2) rfl ?_
      first | (exact k_S hP (rkS_n hq)) | (exact k_S hP (rkS_y hq (by unfold rkV; rw [if_pos (hpc.mp hq2)]))) | (exact k_S hP (rkS_y hq (by unfold rkV; rw [if_neg (fun w => hq2 (hpc.mpr w))])))
    refine r_if_eq M dX3_rankBidders_19 (tgt := 39) rfl (by omega) (fun b19 => ?_) (fun b19 => by omega)
    refine r_iinc_1 M (_) dX3_rankBidders_39 rfl (by decide) rfl ?_
    refine r_goto M dX3_rankBidders_42 (tgt := 2) rfl ?_
    first | (exact k_S hP (rkS_n hq)) | (exact k_S hP (rkS_y hq (by unfold rkV; rw [if_pos (hpc.mp hq2)]))) | (exact k_S hP (rkS_y hq (by unfold rkV; rw [if_neg (fun w => hq2 (hpc.mpr w))])))
theorem cn_endFailure {i : Nat} (hi : i < 10) (hI : CI S) (h : Ret none (endS S i)) : Cn g yX3_endFailure cX3_endFailure 3 none 2 40 0 [vR 0 0, vR 4 i] S Ret Thr := by
  refine enter (L := [some (vR 0 0), some (vR 4 i), none]) (by decide +kernel) (Nat.le_of_ble_eq_true rfl) rfl (fun K MM => ?_)
  have M := MM.mk
  have hcl := cN_le hI
  have hce := cN_eq hI
  refine r_aload_n M dX3_endFailure_0 rfl ?_
  refine r_callV0 MM dX3_endFailure_1 ck_X3_213 vk_X1_loseAll ⟨by omega, by omega, by omega⟩ ⟨by decide, by decide, rfl⟩ (show (_ : Nat) < 10 by omega) (Nat.le_of_ble_eq_true rfl) (cn_loseAll hi ?_)
  refine r_iconst M dX3_endFailure_4 ?_
  refine r_istore_2 M dX3_endFailure_5 (by decide) rfl ?_
  refine fz (P := fun l => K 0 6 [some (vR 0 0), some (vR 4 i), some (vI (l : Int))] [] (enN (loseS S i) l)) (m := cN S) ?_ ?_
  · have hk := enN_keep (loseS S i) (cN S)
    refine r_iload_n M dX3_endFailure_6 rfl ?_
    refine r_aload_n M dX3_endFailure_7 rfl ?_
    refine r_getV M dX3_endFailure_8 fk_X3_29 (by decide) rfl (S 0 0 3) (by rw [hk.1 0 (by omega)]; rfl) ?_
    refine r_icmp_ge M dX3_endFailure_11 (tgt := 52) rfl (by omega) (fun b11 => ?_) (fun b11 => by omega)
    refine r_aload_n M dX3_endFailure_52 rfl ?_
    refine r_iconst M dX3_endFailure_53 ?_
    refine r_putI M dX3_endFailure_54 pk_X3_42 (by decide) ?_
    refine r_vret MM dX3_endFailure_57 ?_
    exact h
  · intro l hl hP
    have hk := enN_keep (loseS S i) l
    have hm := hI.mem (show l < 10 by omega)
    unfold MI at hm
    have e3 : loseS S i 4 l 3 = S 4 l 3 := by simp [loseS, dropS, up3]
    rw [enN_succ, e3] at hP
    refine r_iload_n M dX3_endFailure_6 rfl ?_
    refine r_aload_n M dX3_endFailure_7 rfl ?_
    refine r_getV M dX3_endFailure_8 fk_X3_29 (by decide) rfl (S 0 0 3) (by rw [hk.1 0 (by omega)]; rfl) ?_
    refine r_icmp_ge M dX3_endFailure_11 (tgt := 52) rfl (by omega) (fun b11 => by omega) (fun b11 => ?_)
    refine r_aload_n M dX3_endFailure_14 rfl ?_
    refine r_getR M dX3_endFailure_15 fk_X3_11 (by decide) rfl ?_
    refine r_iload_n M dX3_endFailure_18 rfl ?_
    refine r_aaldM M (_) dX3_endFailure_19 rfl (by omega) ?_
    refine r_getV M dX3_endFailure_20 fk_X3_85 (show (_ : Nat) < 10 by omega) rfl (S 4 l 3) (by rw [hk.2 l (Nat.le_refl _)]; exact e3) ?_
    refine r_iconst M dX3_endFailure_23 ?_
    refine r_icmp_ne M dX3_endFailure_24 (tgt := 46) rfl (by omega) (fun b24 => ?_) (fun b24 => ?_)
    · refine r_iinc_2 M (_) dX3_endFailure_46 rfl (by decide) rfl ?_
      refine r_goto M dX3_endFailure_49 (tgt := 6) rfl ?_
      first | (rw [if_pos b24] at hP; exact hP) | (rw [if_neg b24] at hP; exact hP)
    refine r_aload_n M dX3_endFailure_27 rfl ?_
    refine r_getR M dX3_endFailure_28 fk_X3_11 (by decide) rfl ?_
    refine r_iload_n M dX3_endFailure_31 rfl ?_
    refine r_aaldM M (_) dX3_endFailure_32 rfl (by omega) ?_
    refine r_iconst M dX3_endFailure_33 ?_
    refine r_putI M dX3_endFailure_34 pk_X3_85 (show (_ : Nat) < 10 by omega) ?_
    refine r_aload_n M dX3_endFailure_37 rfl ?_
    refine r_getR M dX3_endFailure_38 fk_X3_11 (by decide) rfl ?_
    refine r_iload_n M dX3_endFailure_41 rfl ?_
    refine r_aaldM M (_) dX3_endFailure_42 rfl (by omega) ?_
    refine r_callV0 MM dX3_endFailure_43 ck_X3_213 vk_X1_loseAll ⟨by omega, by omega, by omega⟩ ⟨by decide, by decide, rfl⟩ (show (_ : Nat) < 10 by omega) (Nat.le_of_ble_eq_true rfl) (cn_loseAll (by omega) ?_)
    refine r_iinc_2 M (_) dX3_endFailure_46 rfl (by decide) rfl ?_
    refine r_goto M dX3_endFailure_49 (tgt := 6) rfl ?_
    first | (rw [if_pos b24] at hP; exact hP) | (rw [if_neg b24] at hP; exact hP)
theorem cn_eatLoss {i : Nat} (hi : i < 10) (hI : CI S) (h : Ret (some (vI (ea4 S i).2)) (ea4 S i).1) : Cn g yX3_eatLoss cX3_eatLoss 4 (some .int) 5 120 0 [vR 0 0, vR 4 i] S Ret Thr := by
  refine enter (L := [some (vR 0 0), some (vR 4 i), none, none]) (by decide +kernel) (Nat.le_of_ble_eq_true rfl) rfl (fun K MM => ?_)
  have M := MM.mk
  have h5 := hI.2.2.2.1
  have h4 := hI.2.1
  have hm := hI.mem hi
  unfold MI at hm
  have h0 := ea0_ok hI hi
  have hh := ea_ok hI hi
  have hl3 : lf3 S i = S 0 0 5 - min (S 0 0 5) (S 4 i 4) - min (S 0 0 5 - min (S 0 0 5) (S 4 i 4)) (S 4 i 5) := rfl
  refine r_aload_n M dX3_eatLoss_0 rfl ?_
  refine r_getI M dX3_eatLoss_1 fk_X3_36 (by decide) rfl ?_
  refine r_istore_2 M dX3_eatLoss_4 (by decide) rfl ?_
  refine r_iload_n M dX3_eatLoss_5 rfl ?_
  refine r_iload_n M dX3_eatLoss_6 rfl ?_
  refine r_aload_n M dX3_eatLoss_7 rfl ?_
  refine r_getI M dX3_eatLoss_8 fk_X3_100 (show (_ : Nat) < 10 by omega) rfl ?_
  refine r_min M dX3_eatLoss_11 mm_X3_188 (by omega) ⟨by omega, by omega⟩ (Nat.le_of_ble_eq_true rfl) ?_
  refine r_isub M dX3_eatLoss_14 ?_
  refine r_istore_2 M dX3_eatLoss_15 (by decide) rfl ?_
  refine r_iload_n M dX3_eatLoss_16 rfl ?_
  refine r_iload_n M dX3_eatLoss_17 rfl ?_
  refine r_aload_n M dX3_eatLoss_18 rfl ?_
  refine r_getI M dX3_eatLoss_19 fk_X3_116 (show (_ : Nat) < 10 by omega) rfl ?_
  refine r_min M dX3_eatLoss_22 mm_X3_188 (by omega) ⟨by omega, by omega⟩ (Nat.le_of_ble_eq_true rfl) ?_
  refine r_isub M dX3_eatLoss_25 ?_
  refine r_istore_2 M dX3_eatLoss_26 (by decide) rfl ?_
  refine r_iload_n M dX3_eatLoss_27 rfl ?_
  refine r_aload_n M dX3_eatLoss_28 rfl ?_
  refine r_getI M dX3_eatLoss_29 fk_X3_33 (by decide) rfl ?_
  refine r_min M dX3_eatLoss_32 mm_X3_188 (by omega) ⟨by omega, by omega⟩ (Nat.le_of_ble_eq_true rfl) ?_
  refine r_istore_3 M dX3_eatLoss_35 (by decide) rfl ?_
  refine r_aload_n M dX3_eatLoss_36 rfl ?_
  refine r_dupR M dX3_eatLoss_37 ?_
  refine r_getI M dX3_eatLoss_38 fk_X3_33 (by decide) rfl ?_
  refine r_iload_n M dX3_eatLoss_41 rfl ?_
  refine r_isub M dX3_eatLoss_42 ?_
  refine r_putI M dX3_eatLoss_43 pk_X3_33 (by decide) ?_
  refine r_iload_n M dX3_eatLoss_46 rfl ?_
  refine r_iload_n M dX3_eatLoss_47 rfl ?_
  refine r_isub M dX3_eatLoss_48 ?_
  refine r_istore_2 M dX3_eatLoss_49 (by decide) rfl ?_
  refine r_aload_n M dX3_eatLoss_50 rfl ?_
  refine r_iload_n M dX3_eatLoss_51 rfl ?_
  refine r_iconst M dX3_eatLoss_52 ?_
  refine r_callV2 MM dX3_eatLoss_53 ck_X3_216 vk_X3_eatShares ⟨by omega, by omega, by omega⟩ ⟨by decide, by decide, rfl⟩ (by decide) (Nat.le_of_ble_eq_true rfl) (cn_eatShares (a := (ea0 S i).2) (by omega) h0.1 (by omega) ?_)
  refine r_istore_2 M dX3_eatLoss_56 (by decide) rfl ?_
  refine r_aload_n M dX3_eatLoss_57 rfl ?_
  refine r_iload_n M dX3_eatLoss_58 rfl ?_
  refine r_iconst M dX3_eatLoss_59 ?_
  refine r_callV2 MM dX3_eatLoss_60 ck_X3_216 vk_X3_eatShares ⟨by omega, by omega, by omega⟩ ⟨by decide, by decide, rfl⟩ (by decide) (Nat.le_of_ble_eq_true rfl) (cn_eatShares (a := (ea1 S i).2) (by omega) hh.1.1 (by omega) ?_)
  refine r_istore_2 M dX3_eatLoss_63 (by decide) rfl ?_
  refine r_aload_n M dX3_eatLoss_64 rfl ?_
  refine r_iload_n M dX3_eatLoss_65 rfl ?_
  refine r_callV1 MM dX3_eatLoss_66 ck_X3_220 vk_X3_eatAssessments ⟨by omega, by omega, by omega⟩ ⟨by decide, by decide, rfl⟩ (by decide) (Nat.le_of_ble_eq_true rfl) (cn_eatAssessments (a := (ea2 S i).2) hh.2.1.1 (by omega) ?_)
  refine r_istore_2 M dX3_eatLoss_69 (by decide) rfl ?_
  refine r_aload_n M dX3_eatLoss_70 rfl ?_
  refine r_iload_n M dX3_eatLoss_71 rfl ?_
  refine r_callV1 MM dX3_eatLoss_72 ck_X3_223 vk_X3_eatGains ⟨by omega, by omega, by omega⟩ ⟨by decide, by decide, rfl⟩ (by decide) (Nat.le_of_ble_eq_true rfl) (cn_eatGains (a := (ea3 S i).2) hh.2.2.1.1 (by omega) ?_)
  refine r_iret MM dX3_eatLoss_75 ?_
  exact h
theorem cn_close (hI : CI S) (hok : ∀ i : Nat, S 0 0 7 = i → i < 10 → Ret (some (vI (ea4 (cl1 S) i).2)) (clS S i)) (hS : S 0 0 7 = -1 → Thr E_S S) : Cn g yX3_close cX3_close 2 (some .int) 6 143 1 [vR 0 0] S Ret Thr := by
  refine enter (L := [some (vR 0 0), none]) (by decide +kernel) (Nat.le_of_ble_eq_true rfl) rfl (fun K MM => ?_)
  have M := MM.mk
  have hf := hI.2.2.1
  have hA := hI.2.2.2.2.1
  have hA1 := hA.1
  have hr := awN_rng hA (S 2 0 1).toNat (by omega)
  have hk := awN_keep S (S 2 0 1).toNat
  have hIa : CI (up3 (awN S (S 2 0 1).toNat).1 0 0 5 (max 0 (awN S (S 2 0 1).toNat).2)) := CI_00 (CI_aw hI _) (Or.inr (Or.inl ⟨rfl, by omega⟩))
  have h1 := CI_cl1 hI
  have e1 : rkS (up3 (awN S (S 2 0 1).toNat).1 0 0 5 (max 0 (awN S (S 2 0 1).toNat).2)) (cN (up3 (awN S (S 2 0 1).toNat).1 0 0 5 (max 0 (awN S (S 2 0 1).toNat).2))) = cl1 S := by
    have : cN (up3 (awN S (S 2 0 1).toNat).1 0 0 5 (max 0 (awN S (S 2 0 1).toNat).2)) = cN S := by
      unfold cN
      show ((awN S (S 2 0 1).toNat).1 0 0 3).toNat = _
      rw [hk.1 0 (by omega)]
    rw [this]
    rfl
  have e7 : cl1 S 0 0 7 = S 0 0 7 := by
    show (awN S (S 2 0 1).toNat).1 0 0 7 = _
    rw [hk.1 0 (by omega)]
  refine r_aload_n M dX3_close_0 rfl ?_
  refine r_getI M dX3_close_1 fk_X3_42 (by decide) rfl ?_
  refine r_iconst M dX3_close_4 ?_
  refine r_icmp_ne M dX3_close_5 (tgt := 18) rfl (by omega) (fun b5 => ?_) (fun b5 => ?_)
  rotate_left
  · refine r_throw MM tk_51_145_55 dX3_close_8 dX3_close_11 dX3_close_12 dX3_close_14 dX3_close_17 ⟨by omega, by omega, by omega⟩ (Nat.le_of_ble_eq_true rfl) ?_
    exact hS b5
  refine r_aload_n M dX3_close_18 rfl ?_
  refine r_iconst M dX3_close_19 ?_
  refine r_aload_n M dX3_close_20 rfl ?_
  refine r_callV0 MM dX3_close_21 ck_X3_147 vk_X3_awardLots ⟨by omega, by omega, by omega⟩ ⟨by decide, by decide, rfl⟩ (by decide) (Nat.le_of_ble_eq_true rfl) (cn_awardLots hI ?_)
  refine r_max M dX3_close_24 mm_X3_150 (by omega) ⟨by omega, by omega⟩ (Nat.le_of_ble_eq_true rfl) ?_
  refine r_putI M dX3_close_27 pk_X3_36 (by decide) ?_
  refine r_aload_n M dX3_close_30 rfl ?_
  refine r_callV0 MM dX3_close_31 ck_X3_155 vk_X3_rankBidders ⟨by omega, by omega, by omega⟩ ⟨by decide, by decide, rfl⟩ (by decide) (Nat.le_of_ble_eq_true rfl) (cn_rankBidders hIa ?_)
  have hi9 : (S 0 0 7).toNat < 10 := by omega
  have hh := ea_ok h1 hi9
  have e7b : cl2 S (S 0 0 7).toNat 0 0 7 = S 0 0 7 := by
    show (ea4 (cl1 S) (S 0 0 7).toNat).1 0 0 7 = _
    exact e7
  have h2 : CI (cl2 S (S 0 0 7).toNat) := CI_00 hh.2.2.2.1 (Or.inr (Or.inr rfl))
  refine k_S (S1 := cl1 S) ?_ e1
  refine r_aload_n M dX3_close_34 rfl ?_
  refine r_aload_n M dX3_close_35 rfl ?_
  refine r_getR M dX3_close_36 fk_X3_11 (by decide) rfl ?_
  refine r_aload_n M dX3_close_39 rfl ?_
  refine r_getV M dX3_close_40 fk_X3_42 (by decide) rfl (S 0 0 7) (by exact e7) ?_
  refine r_aaldM M ((S 0 0 7).toNat) dX3_close_43 (by omega) (by omega) ?_
  refine r_callV1 MM dX3_close_44 ck_X3_158 vk_X3_eatLoss ⟨by omega, by omega, by omega⟩ ⟨by decide, by decide, rfl⟩ (by decide) (Nat.le_of_ble_eq_true rfl) (cn_eatLoss hi9 h1 ?_)
  refine r_istore_1 M dX3_close_47 (by decide) rfl ?_
  refine r_aload_n M dX3_close_48 rfl ?_
  refine r_dupR M dX3_close_49 ?_
  refine r_getI M dX3_close_50 fk_X3_39 (by decide) rfl ?_
  refine r_iload_n M dX3_close_53 rfl ?_
  refine r_iadd M dX3_close_54 ?_
  refine r_putI M dX3_close_55 pk_X3_39 (by decide) ?_
  refine r_aload_n M dX3_close_58 rfl ?_
  refine r_aload_n M dX3_close_59 rfl ?_
  refine r_getR M dX3_close_60 fk_X3_11 (by decide) rfl ?_
  refine r_aload_n M dX3_close_63 rfl ?_
  refine r_getV M dX3_close_64 fk_X3_42 (by decide) rfl (S 0 0 7) (by exact e7b) ?_
  refine r_aaldM M ((S 0 0 7).toNat) dX3_close_67 (by omega) (by omega) ?_
  refine r_callV1 MM dX3_close_68 ck_X3_161 vk_X3_endFailure ⟨by omega, by omega, by omega⟩ ⟨by decide, by decide, rfl⟩ (by decide) (Nat.le_of_ble_eq_true rfl) (cn_endFailure hi9 h2 ?_)
  refine r_iload_n M dX3_close_71 rfl ?_
  refine r_iret MM dX3_close_72 ?_
  exact hok (S 0 0 7).toNat (by omega) hi9
end XClose
end
section
/-! ===== more instructions; calls that throw nothing; counts that are rounded up ===== -/
theorem i32_rng (v : Int32) : -2147483648 ≤ v.toInt ∧ v.toInt ≤ 2147483647 := by
  have h1 := Int32.le_toInt v
  have h2 := Int32.toInt_lt v
  omega
theorem and31 (a : Int32) : 0 ≤ (a &&& Int32.ofInt 2147483647).toInt := by
  have h : (a &&& Int32.ofInt 2147483647).toBitVec = a.toBitVec &&& 2147483647#32 := by rw [Int32.toBitVec_and]; rfl
  show 0 ≤ (a &&& Int32.ofInt 2147483647).toBitVec.toInt
  rw [h]
  have h2 : (a.toBitVec &&& 2147483647#32).toNat ≤ 2147483647 := by rw [BitVec.toNat_and]; exact Nat.and_le_right
  rw [BitVec.toInt_eq_toNat_of_lt (by omega)]
  omega
theorem ushr1 (a : Int32) : 0 ≤ ((a.toUInt32 >>> ((Int32.ofInt 1).toUInt32 &&& Int32.toUInt32 31)).toInt32).toInt := by
  rw [show ((Int32.ofInt 1).toUInt32 &&& Int32.toUInt32 31) = 1 from by decide]
  have hn : (a.toUInt32 >>> 1).toNat = a.toUInt32.toNat / 2 := by rw [UInt32.toNat_shiftRight]; exact Nat.shiftRight_eq_div_pow _ 1
  have h3 := a.toUInt32.toNat_lt
  show 0 ≤ (a.toUInt32 >>> 1).toBitVec.toInt
  have h4 : (a.toUInt32 >>> 1).toBitVec.toNat = a.toUInt32.toNat / 2 := hn
  rw [BitVec.toInt_eq_toNat_of_lt (by omega)]
  omega
theorem iv_cv (g : Gl) (v : Int32) : cv g (vI v.toInt) = .int v := congrArg Value.int (Int32.ofInt_toInt v)
section KX
variable {g : Gl} {own : String} {cc : ByteArray} {nL fr lo N : Nat} {ret : Option FieldType} {Ret : Option AV → St → Prop} {Thr : String → St → Prop} {K : KT} {n pc : Nat} {L : List (Option AV)} {st : List AV} {S : St}
theorem r_ishr (M : Mk g own cc nL fr lo N K) {a b : Int} (d : decode cc pc = .ok (.ishr, 1)) (kk : ∀ z : Int, (-2147483648 ≤ z ∧ z ≤ 2147483647) → K n (pc + 1) L (vI z :: st) S) : K n pc L (vI b :: vI a :: st) S :=
  M.go (fun p e R s m args below meth c A c0 s0 Q C H locs ls hW hS hL hn k => lv_ishr C.1 C.2.1 d (by
    have h := k ls hL
    rw [List.map_cons, iv_cv] at h
    exact h)) (kk (Int32.ofInt a >>> (Int32.ofInt b &&& 31)).toInt (i32_rng _))
theorem r_iushr (M : Mk g own cc nL fr lo N K) {a : Int} (d : decode cc pc = .ok (.iushr, 1)) (kk : ∀ z : Int, (0 ≤ z ∧ z ≤ 2147483647) → K n (pc + 1) L (vI z :: st) S) : K n pc L (vI 1 :: vI a :: st) S :=
  M.go (fun p e R s m args below meth c A c0 s0 Q C H locs ls hW hS hL hn k => lv_iushr C.1 C.2.1 d rfl (by
    have h := k ls hL
    rw [List.map_cons, iv_cv] at h
    exact h)) (kk (((Int32.ofInt a).toUInt32 >>> ((Int32.ofInt 1).toUInt32 &&& Int32.toUInt32 31)).toInt32).toInt ⟨ushr1 _, (i32_rng _).2⟩)
theorem r_iand (M : Mk g own cc nL fr lo N K) {a : Int} (d : decode cc pc = .ok (.iand, 1)) (kk : ∀ z : Int, (0 ≤ z ∧ z ≤ 2147483647) → K n (pc + 1) L (vI z :: st) S) : K n pc L (vI 2147483647 :: vI a :: st) S :=
  M.go (fun p e R s m args below meth c A c0 s0 Q C H locs ls hW hS hL hn k => lv_iand C.1 C.2.1 d (by
    have h := k ls hL
    rw [List.map_cons, iv_cv] at h
    exact h)) (kk (Int32.ofInt a &&& Int32.ofInt 2147483647).toInt ⟨and31 _, (i32_rng _).2⟩)
theorem remI {a b : Int} (h : (0 ≤ a ∧ a ≤ 2147483647) ∧ 0 < b ∧ b ≤ 2147483647) : Int32.ofInt a - Int32.ofInt a / Int32.ofInt b * Int32.ofInt b = Int32.ofInt (a % b) := by
  rw [divI h, ← Int32.ofInt_mul, ← Int32.ofInt_sub]
  congr 1
  have e := Int.mul_ediv_add_emod a b
  rw [Int.mul_comm] at e
  omega
theorem r_irem (M : Mk g own cc nL fr lo N K) {a b : Int} (d : decode cc pc = .ok (.irem, 1)) (h : (0 ≤ a ∧ a ≤ 2147483647) ∧ 0 < b ∧ b ≤ 2147483647) (kk : ∀ z : Int, (0 ≤ z ∧ z < b) → K n (pc + 1) L (vI z :: st) S) : K n pc L (vI b :: vI a :: st) S :=
  M.go (fun p e R s m args below meth c A c0 s0 Q C H locs ls hW hS hL hn k => lv_irem C.1 C.2.1 d (divI_ne h) (by rw [remI h]; exact k ls hL)) (kk (a % b) ⟨Int.emod_nonneg _ (by omega), Int.emod_lt_of_pos _ h.2.1⟩)
theorem r_xload_n (M : Mk g own cc nL fr lo N K) {j : Fin 4} {q : Nat} (d : decode cc pc = .ok (.aload_n j, 1)) (hl : L[(j : Nat)]? = some (some (vX q))) (kk : K n (pc + 1) L (vX q :: st) S) : K n pc L (st) S :=
  M.go (fun p e R s m args below meth c A c0 s0 Q C H locs ls hW hS hL hn k => lv_aload_n C.1 C.2.1 d rfl (hL.2.2 _ _ hl) (k ls hL)) kk
theorem r_lret (M : Mach g own cc nL (some .long) fr lo N Ret Thr K) {x : Int} (d : decode cc pc = .ok (.lreturn, 1)) (hv : Ret (some (vL x)) S) : K n pc L [vL x] S :=
  M.ends hv (fun p e R s m args below meth c A hx hb hr hlo H locs ls Qc hq hf => W.lret hx hb hr hq hf d hlo)
/-- two numbers that are the same -/
theorem r_icmp_ne_no (M : Mk g own cc nL fr lo N K) {a b off : Int} (d : decode cc pc = .ok (.if_icmp .ne off, 3)) {tgt : Nat} (ht : (pc : Int) + off = (tgt : Int)) (h : a = b) (k2 : K n (pc + 3) L st S) : K n pc L (vI b :: vI a :: st) S := by
  subst h
  exact M.go (fun p e R s m args below meth c A c0 s0 Q C H locs ls hW hS hL hn k => lv_icmp_ne C.1 C.2.1 d ht (fun q => absurd rfl q) (fun _ => k ls hL)) k2
theorem k_w (M : Mk g own cc nL fr lo N K) {n1 n2 : Nat} (h : n1 ≤ n2) (h2 : n2 ≤ N) (k : K n2 pc L st S) : K n1 pc L st S := by
  obtain ⟨p, e, R, s, m, args, below, meth, c, A, c0, s0, Q, C, hK⟩ := M
  rw [hK] at k ⊢
  intro hn H locs ls hW hS hL
  exact W.widen (by omega) (by omega) (k h2 H locs ls hW hS hL)
/-- a call that throws nothing, from any method -/
theorem rk_callV (M : Mk g own cc nL fr lo N K) {y : MethodName} {ccy : ByteArray} {nLy fry loy Ny ix na t i : Nat} {rety : Option FieldType} {As rst : List AV} (d : decode cc pc = .ok (.invokevirtual ix, 3)) (hc : Ck own ix y ccy nLy rety na) (hv : Vk y) (hna : As.length = na) (hR : fry + 1 ≤ fr ∧ 8 + (nLy + 11) + loy ≤ lo ∧ n + Ny ≤ N)
    (ht : kd t < 5 ∧ t < 13 ∧ (vwCl[kd t]?).map (fun q => q.1) = some y.cls) (hi : i < ctn t) (hcat : (rst.map fun v => (cv g v).category).sum ≤ 8) (hC : Cn g y ccy nLy rety fry loy Ny (vR t i :: As) S (fun v S' => K (n + Ny) (pc + 3) L (pv v rst) S') (fun _ _ => False)) : K n pc L (As.reverse ++ vR t i :: rst) S := by
  obtain ⟨p, e, R, s, m, args, below, meth, c, A, c0, s0, Q, C, hK⟩ := M
  rw [hK]
  intro hn H locs ls hW hS hL
  refine run_core C hS (runV_of C hW hS hL d hc hv hna hR ht hi hcat hC) (fun E ce q9 S' H1 locs1 hE => hE.elim) (fun v S' H1 locs1 hk hW1 hS1 => ?_)
  rw [pv_map]
  exact (hK _ _ _ _ _).mp hk hR.2.2 H1 locs1 ls hW1 hS1 hL
theorem rk_callS (M : Mk g own cc nL fr lo N K) {y : MethodName} {ccy : ByteArray} {nLy fry loy Ny ix na : Nat} {rety : Option FieldType} {As rst : List AV} (d : decode cc pc = .ok (.invokestatic ix, 3)) (hl : Cond.methodLink own ix y ∈ WT) (hst9 : Cond.static y ∈ WT) (how : y.cls = own) (hc : Ck own ix y ccy nLy rety na) (hna : As.length = na) (hR : fry + 1 ≤ fr ∧ 8 + (nLy + 11) + loy ≤ lo ∧ n + Ny ≤ N)
    (hcat : (rst.map fun v => (cv g v).category).sum ≤ 8) (hC : Cn g y ccy nLy rety fry loy Ny As S (fun v S' => K (n + Ny) (pc + 3) L (pv v rst) S') (fun _ _ => False)) : K n pc L (As.reverse ++ rst) S := by
  obtain ⟨p, e, R, s, m, args, below, meth, c, A, c0, s0, Q, C, hK⟩ := M
  rw [hK]
  intro hn H locs ls hW hS hL
  refine run_core C hS (runS_of C hW hS hL d hl hst9 how hc hna hR hcat hC) (fun E ce q9 S' H1 locs1 hE => hE.elim) (fun v S' H1 locs1 hk hW1 hS1 => ?_)
  rw [pv_map]
  exact (hK _ _ _ _ _).mp hk hR.2.2 H1 locs1 ls hW1 hS1 hL
theorem rk_callV0 (M : Mk g own cc nL fr lo N K) {y : MethodName} {ccy : ByteArray} {nLy fry loy Ny ix t i : Nat} {rety : Option FieldType} {rst : List AV} (d : decode cc pc = .ok (.invokevirtual ix, 3)) (hc : Ck own ix y ccy nLy rety 0) (hv : Vk y) (hR : fry + 1 ≤ fr ∧ 8 + (nLy + 11) + loy ≤ lo ∧ n + Ny ≤ N)
    (ht : kd t < 5 ∧ t < 13 ∧ (vwCl[kd t]?).map (fun q => q.1) = some y.cls) (hi : i < ctn t) (hcat : (rst.map fun v => (cv g v).category).sum ≤ 8) (hC : Cn g y ccy nLy rety fry loy Ny [vR t i] S (fun v S' => K (n + Ny) (pc + 3) L (pv v rst) S') (fun _ _ => False)) : K n pc L (vR t i :: rst) S := rk_callV M (As := []) d hc hv rfl hR ht hi hcat hC
theorem rk_callV1 (M : Mk g own cc nL fr lo N K) {y : MethodName} {ccy : ByteArray} {nLy fry loy Ny ix t i : Nat} {rety : Option FieldType} {a1 : AV} {rst : List AV} (d : decode cc pc = .ok (.invokevirtual ix, 3)) (hc : Ck own ix y ccy nLy rety 1) (hv : Vk y) (hR : fry + 1 ≤ fr ∧ 8 + (nLy + 11) + loy ≤ lo ∧ n + Ny ≤ N)
    (ht : kd t < 5 ∧ t < 13 ∧ (vwCl[kd t]?).map (fun q => q.1) = some y.cls) (hi : i < ctn t) (hcat : (rst.map fun v => (cv g v).category).sum ≤ 8) (hC : Cn g y ccy nLy rety fry loy Ny [vR t i, a1] S (fun v S' => K (n + Ny) (pc + 3) L (pv v rst) S') (fun _ _ => False)) : K n pc L (a1 :: vR t i :: rst) S := rk_callV M (As := [a1]) d hc hv rfl hR ht hi hcat hC
theorem rk_callV2 (M : Mk g own cc nL fr lo N K) {y : MethodName} {ccy : ByteArray} {nLy fry loy Ny ix t i : Nat} {rety : Option FieldType} {a1 a2 : AV} {rst : List AV} (d : decode cc pc = .ok (.invokevirtual ix, 3)) (hc : Ck own ix y ccy nLy rety 2) (hv : Vk y) (hR : fry + 1 ≤ fr ∧ 8 + (nLy + 11) + loy ≤ lo ∧ n + Ny ≤ N)
    (ht : kd t < 5 ∧ t < 13 ∧ (vwCl[kd t]?).map (fun q => q.1) = some y.cls) (hi : i < ctn t) (hcat : (rst.map fun v => (cv g v).category).sum ≤ 8) (hC : Cn g y ccy nLy rety fry loy Ny [vR t i, a1, a2] S (fun v S' => K (n + Ny) (pc + 3) L (pv v rst) S') (fun _ _ => False)) : K n pc L (a2 :: a1 :: vR t i :: rst) S := rk_callV M (As := [a1, a2]) d hc hv rfl hR ht hi hcat hC
theorem rk_callV3 (M : Mk g own cc nL fr lo N K) {y : MethodName} {ccy : ByteArray} {nLy fry loy Ny ix t i : Nat} {rety : Option FieldType} {a1 a2 a3 : AV} {rst : List AV} (d : decode cc pc = .ok (.invokevirtual ix, 3)) (hc : Ck own ix y ccy nLy rety 3) (hv : Vk y) (hR : fry + 1 ≤ fr ∧ 8 + (nLy + 11) + loy ≤ lo ∧ n + Ny ≤ N)
    (ht : kd t < 5 ∧ t < 13 ∧ (vwCl[kd t]?).map (fun q => q.1) = some y.cls) (hi : i < ctn t) (hcat : (rst.map fun v => (cv g v).category).sum ≤ 8) (hC : Cn g y ccy nLy rety fry loy Ny [vR t i, a1, a2, a3] S (fun v S' => K (n + Ny) (pc + 3) L (pv v rst) S') (fun _ _ => False)) : K n pc L (a3 :: a2 :: a1 :: vR t i :: rst) S := rk_callV M (As := [a1, a2, a3]) d hc hv rfl hR ht hi hcat hC
theorem rk_callS1 (M : Mk g own cc nL fr lo N K) {y : MethodName} {ccy : ByteArray} {nLy fry loy Ny ix : Nat} {rety : Option FieldType} {a1 : AV} {rst : List AV} (d : decode cc pc = .ok (.invokestatic ix, 3)) (hl : Cond.methodLink own ix y ∈ WT) (hst9 : Cond.static y ∈ WT) (how : y.cls = own) (hc : Ck own ix y ccy nLy rety 1) (hR : fry + 1 ≤ fr ∧ 8 + (nLy + 11) + loy ≤ lo ∧ n + Ny ≤ N)
    (hcat : (rst.map fun v => (cv g v).category).sum ≤ 8) (hC : Cn g y ccy nLy rety fry loy Ny [a1] S (fun v S' => K (n + Ny) (pc + 3) L (pv v rst) S') (fun _ _ => False)) : K n pc L (a1 :: rst) S := rk_callS M (As := [a1]) d hl hst9 how hc rfl hR hcat hC
theorem rk_callS2 (M : Mk g own cc nL fr lo N K) {y : MethodName} {ccy : ByteArray} {nLy fry loy Ny ix : Nat} {rety : Option FieldType} {a1 a2 : AV} {rst : List AV} (d : decode cc pc = .ok (.invokestatic ix, 3)) (hl : Cond.methodLink own ix y ∈ WT) (hst9 : Cond.static y ∈ WT) (how : y.cls = own) (hc : Ck own ix y ccy nLy rety 2) (hR : fry + 1 ≤ fr ∧ 8 + (nLy + 11) + loy ≤ lo ∧ n + Ny ≤ N)
    (hcat : (rst.map fun v => (cv g v).category).sum ≤ 8) (hC : Cn g y ccy nLy rety fry loy Ny [a1, a2] S (fun v S' => K (n + Ny) (pc + 3) L (pv v rst) S') (fun _ _ => False)) : K n pc L (a2 :: a1 :: rst) S := rk_callS M (As := [a1, a2]) d hl hst9 how hc rfl hR hcat hC
theorem rk_callS3 (M : Mk g own cc nL fr lo N K) {y : MethodName} {ccy : ByteArray} {nLy fry loy Ny ix : Nat} {rety : Option FieldType} {a1 a2 a3 : AV} {rst : List AV} (d : decode cc pc = .ok (.invokestatic ix, 3)) (hl : Cond.methodLink own ix y ∈ WT) (hst9 : Cond.static y ∈ WT) (how : y.cls = own) (hc : Ck own ix y ccy nLy rety 3) (hR : fry + 1 ≤ fr ∧ 8 + (nLy + 11) + loy ≤ lo ∧ n + Ny ≤ N)
    (hcat : (rst.map fun v => (cv g v).category).sum ≤ 8) (hC : Cn g y ccy nLy rety fry loy Ny [a1, a2, a3] S (fun v S' => K (n + Ny) (pc + 3) L (pv v rst) S') (fun _ _ => False)) : K n pc L (a3 :: a2 :: a1 :: rst) S := rk_callS M (As := [a1, a2, a3]) d hl hst9 how hc rfl hR hcat hC
theorem rk_callS4 (M : Mk g own cc nL fr lo N K) {y : MethodName} {ccy : ByteArray} {nLy fry loy Ny ix : Nat} {rety : Option FieldType} {a1 a2 a3 a4 : AV} {rst : List AV} (d : decode cc pc = .ok (.invokestatic ix, 3)) (hl : Cond.methodLink own ix y ∈ WT) (hst9 : Cond.static y ∈ WT) (how : y.cls = own) (hc : Ck own ix y ccy nLy rety 4) (hR : fry + 1 ≤ fr ∧ 8 + (nLy + 11) + loy ≤ lo ∧ n + Ny ≤ N)
    (hcat : (rst.map fun v => (cv g v).category).sum ≤ 8) (hC : Cn g y ccy nLy rety fry loy Ny [a1, a2, a3, a4] S (fun v S' => K (n + Ny) (pc + 3) L (pv v rst) S') (fun _ _ => False)) : K n pc L (a4 :: a3 :: a2 :: a1 :: rst) S := rk_callS M (As := [a1, a2, a3, a4]) d hl hst9 how hc rfl hR hcat hC
end KX
/-! ===== a method that reads the script ===== -/
section KCELL
def PrX (g : Gl) (av : List AV) (S : St) (sz b Ln : Nat) (xs : Nat → Int32) : Array Value → State → Prop := va_Pc (av.map (cv g)) (fun U => U.heap.size = sz ∧ GV g U ∧ Wd g S U.heap ∧ Zs (Ag g sz) U U.heap ∧ va_X b Ln xs U U.heap ∧ b < sz ∧ ∀ p, p ∈ prs → g.2.2.1 p.1 p.2 ≠ b)
theorem PrX_blind (g : Gl) (av : List AV) (S : St) (sz b Ln : Nat) (xs : Nat → Int32) : FrameBlind (PrX g av S sz b Ln xs) := fun a U f mk h => by
  obtain ⟨h1, h2, h3, h4, h5, h6⟩ := h
  have hal : U.vm.Alike (U.calling f mk a).vm := Vm.Alike.refl U.vm
  exact ⟨h1, h2, GV.same (u := U) rfl h3, h4, ⟨vx_Zq.moved hal h5.1, vx_Zq.moved hal h5.2⟩, va_X.moved hal h6.1, h6.2⟩
def MachX (g : Gl) (own : String) (cc : ByteArray) (nL : Nat) (ret : Option FieldType) (fr lo N : Nat) (Ret : Option AV → St → Prop) (Thr : String → St → Prop) (b Ln : Nat) (xs : Nat → Int32) (K : KT) : Prop :=
  ∃ (p : Program) (e : Env) (R : Room) (s : State) (m : MethodId) (args : Array Value) (below : List Frame) (meth : Method) (c : Code) (A : Nat → Prop), Ctx g own cc nL fr lo N p R s m args meth c A 0 0 ∧ (∀ x ∈ c.exceptionTable.toList, False) ∧ meth.sig.returnType = ret ∧ va_X b Ln xs s s.heap ∧ b < s.heap.size ∧ ¬ A b ∧ Ln < 2147483648 ∧
    ∀ n pc L st S, K n pc L st S ↔ Wk g nL N p e R s m args below meth c A 0 0 (vx_MQ below (Qr g Ret A) (XCr g Thr A) args s N (6 * N) A) n pc L st S
variable {g : Gl} {own : String} {cc : ByteArray} {nL fr lo N : Nat} {ret : Option FieldType} {Ret : Option AV → St → Prop} {Thr : String → St → Prop} {K : KT} {n pc : Nat} {L : List (Option AV)} {st : List AV} {S : St} {b Ln : Nat} {xs : Nat → Int32}
theorem MachX.mach (M : MachX g own cc nL ret fr lo N Ret Thr b Ln xs K) : Mach g own cc nL ret fr lo N Ret Thr K := by
  obtain ⟨p, e, R, s, m, args, below, meth, c, A, C, h1, h2, _, _, _, _, hK⟩ := M
  exact ⟨p, e, R, s, m, args, below, meth, c, A, C, h1, h2, hK⟩
theorem rx_len (M : MachX g own cc nL ret fr lo N Ret Thr b Ln xs K) (d : decode cc pc = .ok (.arraylength, 1)) (kk : K n (pc + 1) L (vI (Ln : Int) :: st) S) : K n pc L (vX b :: st) S := by
  obtain ⟨p, e, R, s, m, args, below, meth, c, A, C, h1, h2, hX, hbl, hbA, hLn, hK⟩ := M
  rw [hK] at kk ⊢
  intro hn H locs ls hW hS hL
  refine va_slen C.1 C.2.1 hX hbl hbA hS d ?_
  have e1 : Int32.ofNat Ln = Int32.ofInt (Ln : Int) := by
    rw [← Int32.toInt_inj, toI (by omega)]
    exact Int32.toInt_ofNat_of_lt hLn
  rw [e1]
  exact kk hn H locs ls hW hS hL
theorem rx_sld (M : MachX g own cc nL ret fr lo N Ret Thr b Ln xs K) {z : Int} (j : Nat) (d : decode cc pc = .ok (.iaload, 1)) (hz : z = (j : Int)) (hj : j < Ln) (kk : K n (pc + 1) L (vI (xs j).toInt :: st) S) : K n pc L (vI z :: vX b :: st) S := by
  obtain ⟨p, e, R, s, m, args, below, meth, c, A, C, h1, h2, hX, hbl, hbA, hLn, hK⟩ := M
  rw [hK] at kk ⊢
  intro hn H locs ls hW hS hL
  obtain ⟨e1, e2⟩ := ofI_clamp (j := z) (n := Ln) (by omega) (by omega)
  have e3 : z.toNat = j := by omega
  refine va_sld C.1 C.2.1 hX hbl hbA hS e2 d ?_
  rw [e1, e3]
  have k := kk hn H locs ls hW hS hL
  rw [List.map_cons, iv_cv] at k
  exact k
theorem enterX {y : MethodName} {av : List AV} (hy : plainName y.cls = true) (hlen : (lg_sl (av.map (cv g))).length ≤ nL) (hLL : lvl g L = lv_args 0 (av.map (cv g))) (hLn : Ln < 2147483648)
    (h : ∀ K : KT, MachX g y.cls cc nL ret fr lo N Ret Thr b Ln xs K → K 0 0 L [] S) (sz : Nat) : vx_Met g.1 y (Cond.code y cc nL ret :: WT) ({ frames := fr, cells := N, slots := 6 * N, locals := lo }) (PrX g av S sz b Ln xs) (Qr g Ret (Ag g sz)) (XCr g Thr (Ag g sz)) N (6 * N) (Ag g sz) := by
  refine vx_ofW (cc := cc) (maxL := nL) (ret := ret) hy rfl ?_
  intro p e s m args below meth c s₁ B hml hex hv
  obtain ⟨rfl, hsz, hG, hW, hZ, hX, hbz, hap⟩ := hv
  subst hsz
  have hts0 := atoms_spec (ws := Cond.code y cc nL ret :: WT) B.pre
  have C : Ctx g y.cls cc nL fr lo N p (headSpec (Cond.code y cc nL ret :: WT) ({ frames := fr, cells := N, slots := 6 * N, locals := lo })).room s m (av.map (cv g)).toArray meth c (Ag g s.heap.size) 0 0 :=
    ⟨B.exec, B.bytes, hml, findClass_of_methodNamed B.named, fun w hw => hts0 w (List.mem_cons_of_mem _ hw), hG, fun q hq => Or.inl ⟨q, hq, rfl⟩, fun q hq => Or.inr hq, hZ, B.notSynchronized, Nat.le_refl _, Nat.le_refl _, by show 0 + N ≤ N; omega, by show 0 + 6 * N ≤ 6 * N; omega⟩
  have hbA : ¬ Ag g s.heap.size b := fun q => by
    rcases q with ⟨p, hp, e⟩ | q
    · exact hap p hp e.symm
    · omega
  have k := h (Wk g nL N p e (headSpec (Cond.code y cc nL ret :: WT) ({ frames := fr, cells := N, slots := 6 * N, locals := lo })).room s m (av.map (cv g)).toArray below meth c (Ag g s.heap.size) 0 0 (vx_MQ below (Qr g Ret (Ag g s.heap.size)) (XCr g Thr (Ag g s.heap.size)) (av.map (cv g)).toArray s N (6 * N) (Ag g s.heap.size)))
    ⟨p, e, _, s, m, _, below, meth, c, _, C, fun x hx => (hex x hx).elim, B.returns, hX, hbz, hbA, hLn, fun _ _ _ _ _ => Iff.rfl⟩
  have hl := lv_entry (av.map (cv g)) (n := nL) hlen
  rw [lg_entry_eq]
  refine k (Nat.zero_le _) s.heap [] _ hW va_S.rf ⟨hl.1, hl.2.1, fun j v hj => ?_⟩
  exact hl.2.2 (j, cv g v) (by rw [← hLL]; exact lvl_mem.mpr ⟨v, hj, rfl⟩)
theorem cn_cell {z : Int} (hz : 0 ≤ z ∧ z ≤ 100000) (hLn : Ln < 2147483648) (sz : Nat) : vx_Met g.1 yL_cell (Cond.code yL_cell cL_cell 2 (some .int) :: WT) ({ frames := 0, cells := 0, slots := 6 * 0, locals := 0 }) (PrX g [vX b, vI z] S sz b Ln xs) (Qr g (fun v S' => S' = S ∧ ∃ w, v = some (vI w)) (Ag g sz)) (XCr g (fun _ _ => False) (Ag g sz)) 0 (6 * 0) (Ag g sz) := by
  refine enterX (L := [some (vX b), some (vI z)]) (by decide +kernel) (Nat.le_of_ble_eq_true rfl) rfl hLn (fun K MX => ?_) sz
  have MM := MX.mach
  have M := MM.mk
  refine r_iload_n M dL_cell_0 rfl ?_
  refine r_xload_n M dL_cell_1 rfl ?_
  refine rx_len MX dL_cell_2 ?_
  refine r_icmp_ge M dL_cell_3 (tgt := 12) rfl (by omega) (fun b3 => ?_) (fun b3 => ?_)
  · refine r_ldc M dL_cell_12 kc_L_7 (z := 836225459) rfl ?_
    refine r_iload_n M dL_cell_14 rfl ?_
    refine r_iconst M dL_cell_15 ?_
    refine r_iadd M dL_cell_16 ?_
    refine r_imul M dL_cell_17 ?_
    refine r_iret MM dL_cell_18 ⟨rfl, _, rfl⟩
  · refine r_xload_n M dL_cell_6 rfl ?_
    refine r_iload_n M dL_cell_7 rfl ?_
    refine rx_sld MX z.toNat dL_cell_8 (by omega) (by omega) ?_
    refine r_goto M dL_cell_9 (tgt := 18) rfl ?_
    refine r_iret MM dL_cell_18 ⟨rfl, _, rfl⟩
end KCELL
/-! ===== the law's own machine ===== -/
def R_law : String := "DefaultFundLaw"
def lw_P (b : Addr) (xs : List Int32) (args : Array Value) (s : State) : Prop := args = #[.ref b] ∧ s.IntsAt b xs ∧ xs.length ≤ 260 ∧ (Jvm.Cond.and given_1 narrow_1).before args s = true
def lw_Q (_ : Array Value) (s : State) (o : Outcome) (t : State) : Prop := o = .returned (some (.int 1)) ∧ Framed s o t [] 600130 7301080
def lw_Z (below : List Frame) (a : Array Value) (s : State) : State → Prop := fun t => ∃ o, t.status = .running ∧ Ended t below o ∧ lw_Q a s o t
/-- the law's own end, with 1 on the stack, nothing written that was there before, its room as the claim has it -/
theorem lw_ret {p : Program} {l : Launch} {e : Env} {s : State} {m : MethodId} {below : List Frame} {meth : Method} {c : Code} {b : Nat} (hx : p.tables.exec = Jvm.exec) (hb : c.code = code) (hr : meth.sig.returnType = ret) (hlocks : meth.locks = false) {pc : Nat} {H : Heap} {ls : Array Slot} (hdg : decode code pc = .ok (.ireturn, 1)) : W p l e room_1 s m #[Value.ref b] below meth c H [] 600130 7301080 (lw_Z below #[Value.ref b] s) (F0 m pc ls [.int 1]) := by
  intro T hT X
  obtain ⟨fs, hret, hrun, hended, hW, hframe⟩ := X.leave (v := some (.int 1)) (hlocks := hlocks) (fun h => by rw [hr] at h; cases h)
  have hmeth' : T.vm.method? m = some meth := X.method'
  refine ⟨T.setFrames fs, ?_, .returned (some (.int 1)), hrun, hended, rfl, ⟨_, rfl⟩, hW, hframe⟩
  jvm_step X.here [X.here.top, hx, hb, hdg, hmeth', hr, ret, narrow_b1]
  (try refine ⟨rfl, ?_⟩); (try refine ⟨rfl, ?_⟩)
  first | (intro acts; rw [hret _ acts rfl rfl rfl]) | rw [hret _ _ rfl rfl rfl]
  exact Steps.refl _
/-- what holds at the law's entry: the machine, the code, the tables' words (any of lw_tbl by 'hts w (by decide +kernel)'), the script of L ints xs at the cell b, what the Statement gives of the start (any of its parts by flat_of_before) -/
def lw_At (p : Program) (s : State) (m : MethodId) (meth : Method) (c : Code) (b L : Nat) (xs : Nat → Int32) : Prop :=
  p.tables.exec = Jvm.exec ∧ c.code = code ∧ meth.sig.returnType = ret ∧ c.maxLocals = 9 ∧ s.vm.findClass R_law = some m.cls ∧ (∀ w ∈ lw_tbl, w.before #[Value.ref b] s = true) ∧ va_X b L xs s s.heap ∧ b < s.heap.size ∧ meth.locks = false ∧ (Jvm.Cond.and given_1 narrow_1).before #[Value.ref b] s = true
section KLW
def MkW (g : Gl) (b Ln : Nat) (xs : Nat → Int32) (N : Nat) (K : KT) : Prop :=
  ∃ (p : Program) (e : Env) (s : State) (m : MethodId) (below : List Frame) (meth : Method) (c : Code) (c0 s0 : Nat), Ctx g RL cL_law 9 12 426 N p room_1 s m #[Value.ref b] meth c (fun q => s.heap.size ≤ q) c0 s0 ∧ meth.sig.returnType = ret ∧ va_X b Ln xs s s.heap ∧ b < s.heap.size ∧ Ln < 2147483648 ∧
    ∀ n pc L st S, K n pc L st S ↔ Wk g 9 N p e room_1 s m #[Value.ref b] below meth c (fun q => s.heap.size ≤ q) c0 s0 (lw_Z below #[Value.ref b] s) n pc L st S
variable {g : Gl} {b Ln : Nat} {xs : Nat → Int32} {N : Nat} {K : KT} {n pc : Nat} {L : List (Option AV)} {st : List AV} {S : St}
theorem MkW.mk (M : MkW g b Ln xs N K) : Mk g RL cL_law 9 12 426 N K := by
  obtain ⟨p, e, s, m, below, meth, c, c0, s0, C, _, _, _, _, hK⟩ := M
  exact ⟨p, e, room_1, s, m, _, below, meth, c, _, c0, s0, _, C, hK⟩
/-- the law's end, with true -/
theorem rw_ret (M : MkW g b Ln xs N K) (d : decode cL_law pc = .ok (.ireturn, 1)) : K n pc L [vI 1] S := by
  obtain ⟨p, e, s, m, below, meth, c, c0, s0, C, hr, hX, hbl, hLn, hK⟩ := M
  rw [hK]
  intro hn H locs ls hW hS hL
  have hR := C.2.2.2.2.2.2.2.2.2.2
  have h1 : room_1.cells = 600130 := rfl
  have h2 : room_1.slots = 7301080 := rfl
  refine va_forget (fun q hq => hS.2.2 q hq) ?_
  refine W.widen (k := 600130) (n := 7301080) (by omega) (by omega) ?_
  exact lw_ret C.1 C.2.1 hr C.2.2.2.2.2.2.2.2.2.1 d
/-- an int of the script, or of its own where there is none -/
theorem rw_cell (M : MkW g b Ln xs N K) {z : Int} (hz : 0 ≤ z ∧ z ≤ 100000) (hn1 : n ≤ N) (d : decode cL_law pc = .ok (.invokestatic 75, 3)) (hcat : (st.map fun v => (cv g v).category).sum ≤ 8) (kk : ∀ w : Int, K n (pc + 3) L (vI w :: st) S) : K n pc L (vI z :: vX b :: st) S := by
  obtain ⟨p, e, s, m, below, meth, c, c0, s0, C, hr, hX, hbl, hLn, hK⟩ := M
  rw [hK]
  intro hn H locs ls hW hS hL
  have hR1 := C.2.2.2.2.2.2.2.2.2.2
  have hcat2 : ((st.map (cv g)).map fun v => v.category).sum ≤ 8 := by rw [List.map_map]; exact hcat
  obtain ⟨hk1, hk2, hk3, hk4, hk5⟩ := ck_L_75
  have hfix : CallFix p m c cL_law 9 s #[Value.ref b] WT RL := ⟨C.1, C.2.1, C.2.2.1, C.2.2.2.1, C.2.2.2.2.1⟩
  have hpre := pre_of C hW hS [vX b, vI z]
  have hrun : vx_Run p g.1 e room_1 s m #[Value.ref b] below meth c H locs (c0 + n) (s0 + 6 * n) 0 (6 * 0) (F0 m pc ls ((vI z :: vX b :: st).map (cv g))) (st.map (cv g)) (Qr g (fun v S' => S' = S ∧ ∃ w, v = some (vI w)) (Ag g H.size) (([vX b, vI z] : List AV).map (cv g)).toArray) (XCr g (fun _ _ => False) (Ag g H.size)) (Ag g H.size) :=
    vx_runS (As := ([vX b, vI z] : List AV).map (cv g)) hfix (cn_cell (g := g) (S := S) (b := b) (Ln := Ln) (xs := xs) hz hLn H.size) (cwS 2 C.2.2.2.2.1 (wt_good (fun w hw => by
        rcases List.mem_append.mp hw with hw | hw
        · simp only [List.mem_cons, List.not_mem_nil, or_false] at hw
          rcases hw with rfl | rfl | rfl
          · exact sl_L_75
          · exact st_L_cell
          · exact hk2
        · exact (wt_code hk3 w hw).1)) rfl rfl rfl ⟨rfl, hk4.1, hk4.2, hk5⟩ ⟨by show 0 + 1 ≤ _; omega, by show 8 + (2 + 11) + 0 ≤ _; omega⟩)
      ⟨PrX_blind g _ S _ b Ln xs, fun U hU hWU => by
        obtain ⟨q1, q2, q3, q4, q5⟩ := hpre U hU hWU
        refine ⟨q1, q2, q3, q4, q5, ?_, Nat.lt_of_lt_of_le hbl hS.1, fun p hp => ?_⟩
        · rw [hU]
          exact va_X.moved hWU.alike (va_X.kept hX (hS.2.1 b hbl (Nat.not_le.mpr hbl)))
        · have := C.2.2.2.2.2.2.1 p hp
          intro q
          rw [q] at this
          exact absurd this (Nat.not_le.mpr hbl)⟩ rfl rfl (hL.1) rfl (lv_room hcat2) d ⟨by omega, by omega⟩
  refine run_core (Ny := 0) C hS hrun (fun E ce q9 S' H1 locs1 hE => hE.elim) (fun v S' H1 locs1 hk hW1 hS1 => ?_)
  obtain ⟨rfl, w, rfl⟩ := hk
  rw [pv_map]
  exact (hK _ _ _ _ _).mp (kk w) hn1 H1 locs1 ls hW1 hS1 hL
end KLW
end
section
/-! ===== facts of the states, from the proof of whole ===== -/
theorem up3_t {S : St} {t i k t' : Nat} {v : Int} (h : t' ≠ t) : up3 S t i k v t' = S t' := by
  funext a c
  exact if_neg (fun z => h z.1)
theorem up3_k {S : St} {t i k t' i' k' : Nat} {v : Int} (h : k' ≠ k) : up3 S t i k v t' i' k' = S t' i' k' := if_neg (fun z => h z.2.2)
theorem up3_at {S : St} {t i k : Nat} {v : Int} : up3 S t i k v t i k = v := if_pos ⟨rfl, rfl, rfl⟩
theorem eat_4 (C : St) (w b : Nat → Int) (a : Int) (fld : Nat) (f : Nat → Int) (i k : Nat) : eatS C w b a fld f 4 i k = if k = fld ∧ i < cN C then f i else C 4 i k := by
  show (if 4 = 4 ∧ k = fld ∧ i < cN C then f i else C 4 i k) = _
  by_cases q : k = fld ∧ i < cN C
  · rw [if_pos ⟨rfl, q⟩, if_pos q]
  · rw [if_neg (fun z => q z.2), if_neg q]
theorem smN_cong {f h : Nat → Int} : ∀ {m : Nat}, (∀ k, k < m → f k = h k) → smN f m = smN h m
  | 0, _ => rfl
  | m + 1, e => by
    show smN f m + f m = smN h m + h m
    rw [smN_cong (fun k hk => e k (by omega)), e m (by omega)]
theorem smN_upd {f h : Nat → Int} {j : Nat} {d : Int} : ∀ {m : Nat}, j < m → (∀ k, k ≠ j → f k = h k) → f j = h j + d → smN f m = smN h m + d
  | m + 1, hj, e, ej => by
    show smN f m + f m = smN h m + h m + d
    by_cases q : j = m
    · subst q
      rw [smN_cong (fun k hk => e k (by omega)), ej]
      omega
    · rw [smN_upd (show j < m by omega) e ej, e m (Ne.symm q)]
      omega
theorem CI_cong {S M : St} (hT : ∀ t, t < 11 → M t = S t) (h : CI S) : CI M := by
  unfold CI smA smP MI at h ⊢
  rw [hT 0 (by omega), hT 2 (by omega), hT 4 (by omega), hT 5 (by omega), hT 7 (by omega), hT 8 (by omega), hT 9 (by omega), hT 10 (by omega)]
  exact h
theorem CI_sz {S : St} (hI : CI S) : CI (szS S) ∧ (∀ i, i < cN S → 0 ≤ grw S i ∧ grw S i ≤ 2000000) := by
  have hw := szW_ok hI
  have hno := need_ok hI
  have hp := partR_ok (po := S 10 0) (okW_ent (l := cN S) hI.2.2.2.2.2.1 hw (by omega : 0 ≤ need S ∧ need S ≤ 100000000))
  have hc3 := hI.1
  have hcn : cN S ≤ 10 := by unfold cN; omega
  have hb : ∀ i, i < cN S → (prS S (szW S) (fun _ => need S) (need S)).1 i ≤ need S := fun i hi => by
    have h1 := (hp.1 i (by omega)).2
    have e9 : entS S (szW S) (fun _ => need S) (cN S) 9 0 i = need S := by
      show (if (0 : Nat) = 0 ∧ i < cN S then need S else S 9 0 i) = _
      rw [if_pos ⟨rfl, hi⟩]
    rw [e9] at h1
    exact h1
  have hg : ∀ i, i < cN S → (0 ≤ grw S i ∧ grw S i ≤ 2000000) ∧ S 4 i 5 + grw S i ≤ 2000000 := fun i hi => by
    have h1 := hb i hi
    have hm := hI.mem (show i < 10 by omega)
    unfold MI at hm
    unfold grw
    omega
  refine ⟨CI_eat hI hw (by omega) (Or.inl ⟨rfl, fun i hi => ?_⟩), fun i hi => (hg i hi).1⟩
  have h1 := hg i hi
  have hm := hI.mem (show i < 10 by omega)
  unfold MI at hm
  omega
theorem lose_4 (X : St) (i j k : Nat) : loseS X i 4 j k = if j = i ∧ (k = 1 ∨ k = 2 ∨ k = 4 ∨ k = 5 ∨ k = 7) then 0 else X 4 j k := by
  unfold loseS dropS up3
  by_cases q : j = i
  · subst q
    by_cases h1 : k = 1
    · simp [h1]
    · by_cases h2 : k = 2
      · simp [h2]
      · by_cases h4 : k = 4
        · simp [h4]
        · by_cases h5 : k = 5
          · simp [h5]
          · by_cases h7 : k = 7
            · simp [h7]
            · simp [h1, h2, h4, h5, h7]
  · simp [q]
theorem enN_4 (X : St) : ∀ l j k, enN X l 4 j k = if j < l ∧ X 4 j 3 = 1 then (if k = 3 then 3 else if k = 1 ∨ k = 2 ∨ k = 4 ∨ k = 5 ∨ k = 7 then 0 else X 4 j k) else X 4 j k
  | 0, j, k => by
    show X 4 j k = _
    rw [if_neg (by omega)]
  | l + 1, j, k => by
    have ih := enN_4 X l
    rw [enN_succ]
    by_cases q : X 4 l 3 = 1
    · rw [if_pos q, lose_4]
      by_cases e : j = l
      · subst e
        rw [if_pos (show j < j + 1 ∧ X 4 j 3 = 1 from ⟨by omega, q⟩)]
        have e3 : up3 (enN X j) 4 j 3 3 4 j k = if k = 3 then 3 else enN X j 4 j k := by simp [up3]
        rw [e3, ih j k, if_neg (show ¬ (j < j ∧ X 4 j 3 = 1) by omega)]
        by_cases h3 : k = 3
        · rw [if_pos h3, if_pos h3, if_neg (by omega)]
        · rw [if_neg h3, if_neg h3]
          by_cases h9 : k = 1 ∨ k = 2 ∨ k = 4 ∨ k = 5 ∨ k = 7
          · rw [if_pos ⟨rfl, h9⟩, if_pos h9]
          · rw [if_neg (fun z => h9 z.2), if_neg h9]
      · rw [if_neg (fun z => e z.1)]
        have e3 : up3 (enN X l) 4 l 3 3 4 j k = enN X l 4 j k := by simp [up3, e]
        rw [e3, ih j k]
        by_cases h9 : j < l ∧ X 4 j 3 = 1
        · rw [if_pos h9, if_pos (show j < l + 1 ∧ X 4 j 3 = 1 from ⟨by omega, h9.2⟩)]
        · rw [if_neg h9, if_neg (fun z => h9 ⟨by omega, z.2⟩)]
    · rw [if_neg q, ih j k]
      by_cases h9 : j < l ∧ X 4 j 3 = 1
      · rw [if_pos h9, if_pos (show j < l + 1 ∧ X 4 j 3 = 1 from ⟨by omega, h9.2⟩)]
      · rw [if_neg h9, if_neg (fun z => h9 ⟨by
          by_cases e : j = l
          · subst e; exact absurd z.2 q
          · omega, z.2⟩)]
/-- what the chain leaves alone -/
def KP (C C' : St) : Prop := (∀ i k, k ≠ 5 → k ≠ 7 → k ≠ 9 → k ≠ 10 → k ≠ 11 → C' 4 i k = C 4 i k) ∧ (∀ t, t ≠ 0 → t ≠ 4 → t ≠ 8 → t ≠ 9 → t ≠ 10 → C' t = C t) ∧ (∀ k, k ≠ 4 → k ≠ 5 → k ≠ 6 → C' 0 0 k = C 0 0 k)
theorem KP.trans {A B C : St} (h1 : KP A B) (h2 : KP B C) : KP A C := ⟨fun i k a b c d e => (h2.1 i k a b c d e).trans (h1.1 i k a b c d e), fun t a b c d e => (h2.2.1 t a b c d e).trans (h1.2.1 t a b c d e), fun k a b c => (h2.2.2 k a b c).trans (h1.2.2 k a b c)⟩
theorem KP_eat (C : St) {w b f : Nat → Int} {a : Int} {fld : Nat} (hf : fld = 5 ∨ fld = 7 ∨ fld = 10) : KP C (eatS C w b a fld f) := by
  refine ⟨fun i k h1 h2 h3 h4 h5 => by rw [eat_4, if_neg (by omega)], fun t h1 h2 h3 h4 h5 => ?_, fun k h1 h2 h3 => ?_⟩
  · funext u v
    unfold eatS fS wp upT entS
    rw [if_neg (fun z => h2 z.1), if_neg (fun z => h5 z.1), if_neg h3, if_neg h4]
  · rfl
theorem KP_up (C : St) {k : Nat} {x : Int} (hk : k = 4 ∨ k = 5 ∨ k = 6) : KP C (up3 C 0 0 k x) := by
  refine ⟨fun i k h1 h2 h3 h4 h5 => rfl, fun t h1 h2 h3 h4 h5 => ?_, fun k2 h1 h2 h3 => ?_⟩
  · funext u v
    simp [up3, h1]
  · unfold up3
    rw [if_neg (by omega)]
theorem KP_cl2 (C : St) (i : Nat) : KP C (cl2 C i) ∧ KP C (ea4 (cl1 C) i).1 := by
  have h1 : KP C (awN C (C 2 0 1).toNat).1 := by
    have hk := awN_keep C (C 2 0 1).toNat
    exact ⟨fun i k a b c d e => hk.2 i k e, fun t a b c d e => hk.1 t b, fun k a b c => by rw [hk.1 0 (by omega)]⟩
  have h2 : KP C (cl1 C) := (h1.trans (KP_up _ (Or.inr (Or.inl rfl)))).trans (by
    refine ⟨fun i k a b c d e => ?_, fun t a b c d e => ?_, fun k a b c => rfl⟩
    · show (if 4 = 4 ∧ k = 9 ∧ _ then _ else _) = _
      exact if_neg (fun z => c z.2.1)
    · funext u v
      exact if_neg (fun z => b z.1))
  have h3 : KP C (ea0 (cl1 C) i).1 := h2.trans (KP_up _ (Or.inl rfl))
  have h4 : KP C (ea1 (cl1 C) i).1 := h3.trans (KP_eat _ (Or.inl rfl))
  have h5 : KP C (ea2 (cl1 C) i).1 := h4.trans (KP_eat _ (Or.inl rfl))
  have h6 : KP C (ea3 (cl1 C) i).1 := h5.trans (KP_eat _ (Or.inr (Or.inr rfl)))
  have h7 : KP C (ea4 (cl1 C) i).1 := h6.trans (KP_eat _ (Or.inr (Or.inl rfl)))
  exact ⟨h7.trans (KP_up _ (Or.inr (Or.inr rfl))), h7⟩
theorem as_10 {C : St} (hc : CI C) {a : Int} (ha : 0 ≤ a ∧ a ≤ 100000000) {j : Nat} (hj : j < 10) : C 4 j 10 ≤ (eaAs C a).1 4 j 10 ∧ (eaAs C a).1 4 j 10 ≤ C 4 j 10 + 2000000 := by
  have hw := asW_ok hc
  have hp := partR_ok (po := C 10 0) (okW_ent (l := cN C) hc.2.2.2.2.2.1 hw ha)
  have e : (eaAs C a).1 4 j 10 = if 10 = 10 ∧ j < cN C then C 4 j 10 + (prS C (asW C) (asB C) a).1 j else C 4 j 10 := eat_4 C (asW C) (asB C) a 10 (fun i => C 4 i 10 + (prS C (asW C) (asB C) a).1 i) j 10
  rw [e]
  by_cases q : j < cN C
  · rw [if_pos ⟨rfl, q⟩]
    have h1 := hp.1 j hj
    have e9 : entS C (asW C) (asB C) (cN C) 9 0 j = asB C j := by
      show (if (0 : Nat) = 0 ∧ j < cN C then asB C j else C 9 0 j) = _
      rw [if_pos ⟨rfl, q⟩]
    rw [e9] at h1
    have hm := hc.mem hj
    have hm12 := hm.2.2.2.2.2.2.2.2.2.1
    have hb : asB C j ≤ 2000000 := by
      unfold asB asW
      split <;> split <;> omega
    have h2 : 0 ≤ (prS C (asW C) (asB C) a).1 j ∧ (prS C (asW C) (asB C) a).1 j ≤ asB C j := h1
    omega
  · rw [if_neg (fun z => q z.2)]
    omega
theorem eaSh_k {C : St} {a j : Int} {i k : Nat} (hk : k ≠ 5) : (eaSh C a j).1 4 i k = C 4 i k := (eat_4 C (shW C j) (fun i => C 4 i 5) a 5 (fun i => C 4 i 5 - (prS C (shW C j) (fun i => C 4 i 5) a).1 i) i k).trans (if_neg (fun z => hk z.1))
theorem eaAs_k {C : St} {a : Int} {i k : Nat} (hk : k ≠ 10) : (eaAs C a).1 4 i k = C 4 i k := (eat_4 C (asW C) (asB C) a 10 (fun i => C 4 i 10 + (prS C (asW C) (asB C) a).1 i) i k).trans (if_neg (fun z => hk z.1))
theorem eaGn_k {C : St} {a : Int} {i k : Nat} (hk : k ≠ 7) : (eaGn C a).1 4 i k = C 4 i k := (eat_4 C (gnW C) (fun i => C 4 i 7) a 7 (fun i => C 4 i 7 - (prS C (gnW C) (fun i => C 4 i 7) a).1 i) i k).trans (if_neg (fun z => hk z.1))
theorem ea0_k {C : St} {i j k : Nat} : (ea0 C i).1 4 j k = C 4 j k := by
  show up3 C 0 0 4 (C 0 0 4 - pd3 C i) 4 j k = _
  unfold up3
  rw [if_neg (fun z => absurd z.1 (by omega))]
theorem cl2_k {C : St} {i j k : Nat} : cl2 C i 4 j k = (ea4 (cl1 C) i).1 4 j k := by
  show up3 (ea4 (cl1 C) i).1 0 0 6 ((ea4 (cl1 C) i).1 0 0 6 + (ea4 (cl1 C) i).2) 4 j k = _
  unfold up3
  rw [if_neg (fun z => absurd z.1 (by omega))]
theorem cl1_k {C : St} {j k : Nat} (hk : k ≠ 9) : cl1 C 4 j k = (awN C (C 2 0 1).toNat).1 4 j k := by
  have e : cl1 C 4 j k = up3 (awN C (C 2 0 1).toNat).1 0 0 5 (max 0 (awN C (C 2 0 1).toNat).2) 4 j k := if_neg (fun z => hk z.2.1)
  rw [e]
  unfold up3
  rw [if_neg (fun z => absurd z.1 (by omega))]
theorem cl2_10 {C : St} (hc : CI C) {i : Nat} (hi : i < 10) {j : Nat} (hj : j < 10) : C 4 j 10 ≤ cl2 C i 4 j 10 ∧ cl2 C i 4 j 10 ≤ C 4 j 10 + 2000000 := by
  have h1 := CI_cl1 hc
  have co := ea_ok h1 hi
  have ha := as_10 (C := (ea2 (cl1 C) i).1) co.2.1.1 (a := (ea2 (cl1 C) i).2) (by omega) hj
  have g2 : (ea2 (cl1 C) i).1 4 j 10 = (ea1 (cl1 C) i).1 4 j 10 := eaSh_k (by omega)
  have g1 : (ea1 (cl1 C) i).1 4 j 10 = (ea0 (cl1 C) i).1 4 j 10 := eaSh_k (by omega)
  have g4 : (ea4 (cl1 C) i).1 4 j 10 = (ea3 (cl1 C) i).1 4 j 10 := eaGn_k (by omega)
  have g3 : (ea3 (cl1 C) i).1 = (eaAs (ea2 (cl1 C) i).1 (ea2 (cl1 C) i).2).1 := by unfold ea3; rfl
  rw [cl2_k, g4, g3]
  rw [g2, g1, ea0_k, cl1_k (by omega), (awN_keep C (C 2 0 1).toNat).2 j 10 (by omega)] at ha
  exact ha
theorem cl2_11 {C : St} {i j : Nat} : cl2 C i 4 j 11 = cl1 C 4 j 11 := by
  have g4 : (ea4 (cl1 C) i).1 4 j 11 = (ea3 (cl1 C) i).1 4 j 11 := eaGn_k (by omega)
  have g3 : (ea3 (cl1 C) i).1 4 j 11 = (ea2 (cl1 C) i).1 4 j 11 := eaAs_k (by omega)
  have g2 : (ea2 (cl1 C) i).1 4 j 11 = (ea1 (cl1 C) i).1 4 j 11 := eaSh_k (by omega)
  have g1 : (ea1 (cl1 C) i).1 4 j 11 = (ea0 (cl1 C) i).1 4 j 11 := eaSh_k (by omega)
  rw [cl2_k, g4, g3, g2, g1, ea0_k]
abbrev zf5 (k : Nat) : Prop := k = 1 ∨ k = 2 ∨ k = 4 ∨ k = 5 ∨ k = 7
theorem cls_4 {S : St} {i : Nat} (h2 : S 4 i 3 = 2) (j k : Nat) : clS S i 4 j k = if j < cN S ∧ S 4 j 3 = 1 then (if k = 3 then 3 else if zf5 k then 0 else cl2 S i 4 j k) else if j = i ∧ zf5 k then 0 else cl2 S i 4 j k := by
  have hk := (KP_cl2 S i).1
  have hn : cN (cl2 S i) = cN S := by unfold cN; rw [hk.2.2 3 (by omega) (by omega) (by omega)]
  have e3 : loseS (cl2 S i) i 4 j 3 = S 4 j 3 := by rw [lose_4, if_neg (by omega), hk.1 j 3 (by omega) (by omega) (by omega) (by omega) (by omega)]
  have e : clS S i 4 j k = enN (loseS (cl2 S i) i) (cN (cl2 S i)) 4 j k := rfl
  rw [e, enN_4, hn, e3, lose_4]
  by_cases q : j < cN S ∧ S 4 j 3 = 1
  · rw [if_pos q, if_pos q]
    have hji : j ≠ i := fun z => by rw [z, h2] at q; omega
    by_cases k3 : k = 3
    · rw [if_pos k3, if_pos k3]
    · rw [if_neg k3, if_neg k3]
      by_cases z5 : zf5 k
      · rw [if_pos z5, if_pos z5]
      · rw [if_neg z5, if_neg z5, if_neg (fun z => hji z.1)]
  · rw [if_neg q, if_neg q]
theorem cls_t {S : St} {i t : Nat} (h0 : t ≠ 0) (h4 : t ≠ 4) (h8 : t ≠ 8) (h9 : t ≠ 9) (h10 : t ≠ 10) : clS S i t = S t := by
  have hk := (KP_cl2 S i).1
  rw [← hk.2.1 t h0 h4 h8 h9 h10]
  have e : clS S i t = enN (loseS (cl2 S i) i) (cN (cl2 S i)) t := by
    funext u v
    show up3 _ 0 0 7 (-1) t u v = _
    unfold up3
    rw [if_neg (fun z => h0 z.1)]
  rw [e, (enN_keep _ _).1 t h4]
  funext u v
  simp [loseS, dropS, up3, h4]
theorem cls_89 {S : St} {i t : Nat} (h0 : t ≠ 0) (h4 : t ≠ 4) : clS S i t = cl2 S i t := by
  have e : clS S i t = enN (loseS (cl2 S i) i) (cN (cl2 S i)) t := by
    funext u v
    show up3 _ 0 0 7 (-1) t u v = _
    unfold up3
    rw [if_neg (fun z => h0 z.1)]
  rw [e, (enN_keep _ _).1 t h4]
  funext u v
  simp [loseS, dropS, up3, h4]
theorem cls_0 {S : St} {i k : Nat} : clS S i 0 0 k = if k = 7 then -1 else cl2 S i 0 0 k := by
  show up3 _ 0 0 7 (-1) 0 0 k = _
  unfold up3
  by_cases q : k = 7
  · rw [if_pos ⟨rfl, rfl, q⟩, if_pos q]
  · rw [if_neg (fun z => q z.2.2), if_neg q, (enN_keep _ _).1 0 (by omega)]
    rfl
theorem CI_cls {S : St} (hc : CI S) {i : Nat} (hi : i < 10) (h2 : S 4 i 3 = 2) : CI (clS S i) := by
  have h1 := CI_cl1 hc
  have co := (ea_ok h1 hi).2.2.2
  have hX : CI (cl2 S i) := CI_00 co.1 (Or.inr (Or.inr rfl))
  obtain ⟨a1, a2, a3, a4, a5, a6, a7⟩ := hX
  refine ⟨by rw [cls_0, if_neg (by omega)]; exact a1, by rw [cls_0, if_neg (by omega)]; exact a2, by rw [cls_0, if_pos rfl]; omega, by rw [cls_0, if_neg (by omega)]; exact a4, ?_, ?_, fun j hj => ?_⟩
  · unfold smA
    rw [cls_89 (t := 2) (by omega) (by omega), cls_89 (t := 7) (by omega) (by omega)]
    exact a5
  · unfold smP
    rw [cls_89 (t := 8) (by omega) (by omega), cls_89 (t := 9) (by omega) (by omega), cls_89 (t := 10) (by omega) (by omega)]
    exact a6
  · have hm := a7 j hj
    unfold MI at hm ⊢
    obtain ⟨b1, b2, b3, b4, b5, b6, b7, b8, b9, b10, b11⟩ := hm
    rw [cls_89 (t := 5) (by omega) (by omega)]
    refine ⟨?_, ?_, ?_, ?_, ?_, ?_, ?_, ?_, ?_, ?_, b11⟩
    all_goals rw [cls_4 h2]; by_cases q : j < cN S ∧ S 4 j 3 = 1
    all_goals first | (rw [if_pos q]; simp [zf5]; done) | (rw [if_pos q]; simp only [zf5, Nat.reduceEqDiff, or_self, or_false, or_true, if_true, if_false, false_or]; first | assumption | omega) | (rw [if_neg q]; simp only [zf5, Nat.reduceEqDiff, or_self, or_false, or_true, and_true, and_false, if_true, if_false, false_or]; first | assumption | (split <;> omega))
end
section
/-! ===== coins given by strokes, and coin by coin ===== -/
section COIN
variable {w b : Nat → Int}
def psN (w b : Nat → Int) (n : Nat) (x : (Nat → Int) × Int) : (Nat → Int) × Int := gvN w b 1 x.1 x.2 n
def itN (w b : Nat → Int) (n : Nat) : Nat → (Nat → Int) × Int → (Nat → Int) × Int
  | 0, x => x
  | f + 1, x => psN w b n (itN w b n f x)
def flF (w b p : Nat → Int) (c : Int) (m : Nat) : Nat → Int := fun k => if k < m ∧ ct w b p k then p k + c else p k
theorem tkN_s (w b p : Nat → Int) (m : Nat) : tkN w b p (m + 1) = if ct w b p m then tkN w b p m + 1 else tkN w b p m := rfl
theorem gvN_all {p : Nat → Int} {c left : Int} (hc : 0 ≤ c) : ∀ m, tkN w b p m * c ≤ left → gvN w b c p left m = (flF w b p c m, left - tkN w b p m * c)
  | 0, _ => by
    have e : flF w b p c 0 = p := by funext k; unfold flF; rw [if_neg (by omega)]
    show (p, left) = (flF w b p c 0, left - 0 * c)
    rw [e, Int.zero_mul, Int.sub_zero]
  | m + 1, h => by
    by_cases q : ct w b p m
    · rw [tkN_s, if_pos q, Int.add_mul, Int.one_mul] at h
      have ih := gvN_all (p := p) (c := c) (left := left) hc m (by omega)
      have e0 : flF w b p c m m = p m := by unfold flF; rw [if_neg (by omega)]
      rw [gvN_succ, ih]
      dsimp only
      rw [if_pos ⟨⟨q.1, by rw [e0]; exact q.2⟩, by omega⟩, tkN_s, if_pos q, Int.add_mul, Int.one_mul]
      congr 1
      · funext k
        unfold updI
        by_cases hk : k = m
        · subst hk
          rw [if_pos rfl, e0]
          unfold flF
          rw [if_pos ⟨by omega, q⟩]
        · rw [if_neg hk]
          unfold flF
          by_cases hk2 : k < m
          · by_cases hq : ct w b p k
            · rw [if_pos ⟨hk2, hq⟩, if_pos ⟨by omega, hq⟩]
            · rw [if_neg (fun z => hq z.2), if_neg (fun z => hq z.2)]
          · rw [if_neg (fun z => hk2 z.1), if_neg (fun z => hk2 (by omega))]
      · omega
    · rw [tkN_s, if_neg q] at h
      have ih := gvN_all (p := p) (c := c) (left := left) hc m h
      have e0 : flF w b p c m m = p m := by unfold flF; rw [if_neg (by omega)]
      rw [gvN_succ, ih]
      dsimp only
      rw [if_neg (fun z => q ⟨z.1.1, by rw [← e0]; exact z.1.2⟩), tkN_s, if_neg q]
      congr 1
      funext k
      unfold flF
      by_cases hq : ct w b p k
      · by_cases hk2 : k < m
        · rw [if_pos ⟨hk2, hq⟩, if_pos ⟨by omega, hq⟩]
        · rw [if_neg (fun z => hk2 z.1), if_neg (fun z => by have : k = m := by omega
                                                             subst this; exact q hq)]
      · rw [if_neg (fun z => hq z.2), if_neg (fun z => hq z.2)]
theorem gv1_nl {p : Nat → Int} {left : Int} (h : left ≤ 0) : ∀ m, gvN w b 1 p left m = (p, left)
  | 0 => rfl
  | m + 1 => by
    rw [gvN_succ, gv1_nl h m, if_neg (fun z => by have := z.2; dsimp only at this; omega)]
theorem gv1_left {p : Nat → Int} {left : Int} (hl : 0 ≤ left) : ∀ m, (gvN w b 1 p left m).2 = max 0 (left - tkN w b p m)
  | 0 => by show left = max 0 (left - 0); omega
  | m + 1 => by
    have ih := gv1_left (p := p) hl m
    have hh := gvN_hi w b 1 p left m m (Nat.le_refl _)
    have ht := tkN_rng w b p m
    rw [gvN_succ, tkN_s]
    by_cases q : ct w b p m
    · rw [if_pos q]
      by_cases q2 : 1 ≤ (gvN w b 1 p left m).2
      · rw [if_pos ⟨⟨q.1, by rw [hh]; exact q.2⟩, q2⟩]
        dsimp only
        omega
      · rw [if_neg (fun z => q2 z.2)]
        omega
    · rw [if_neg q, if_neg (fun z => q ⟨z.1.1, by rw [← hh]; exact z.1.2⟩)]
      exact ih
theorem rdN_cases {p : Nat → Int} {left : Int} : ∀ m, rdN w b p left m = left ∨ ∃ k, k < m ∧ ct w b p k ∧ rdN w b p left m = b k - p k
  | 0 => Or.inl rfl
  | m + 1 => by
    have ih := rdN_cases (p := p) (left := left) m
    show (if ct w b p m then min (rdN w b p left m) (b m - p m) else rdN w b p left m) = left ∨ ∃ k, k < m + 1 ∧ ct w b p k ∧ (if ct w b p m then min (rdN w b p left m) (b m - p m) else rdN w b p left m) = b k - p k
    by_cases q : ct w b p m
    · rw [if_pos q]
      by_cases q2 : rdN w b p left m ≤ b m - p m
      · rw [Int.min_eq_left q2]
        rcases ih with ih | ⟨k, hk, hc, e⟩
        · exact Or.inl ih
        · exact Or.inr ⟨k, by omega, hc, e⟩
      · rw [Int.min_eq_right (by omega)]
        exact Or.inr ⟨m, by omega, q, rfl⟩
    · rw [if_neg q]
      rcases ih with ih | ⟨k, hk, hc, e⟩
      · exact Or.inl ih
      · exact Or.inr ⟨k, by omega, hc, e⟩
theorem tkN_mono {p p' : Nat → Int} (h : ∀ k, p k ≤ p' k) : ∀ m, tkN w b p' m ≤ tkN w b p m
  | 0 => Int.le_refl _
  | m + 1 => by
    have ih := tkN_mono h m
    rw [tkN_s, tkN_s]
    by_cases q : ct w b p' m
    · have h9 := h m
      rw [if_pos q, if_pos (⟨q.1, by have := q.2; omega⟩ : ct w b p m)]
      omega
    · rw [if_neg q]
      split <;> omega
theorem tkN_strict {p p' : Nat → Int} (h : ∀ k, p k ≤ p' k) {j : Nat} (h1 : ct w b p j) (h2 : ¬ ct w b p' j) : ∀ m, j < m → tkN w b p' m + 1 ≤ tkN w b p m
  | m + 1, hj => by
    rw [tkN_s, tkN_s]
    by_cases e : j = m
    · subst e
      have ih := tkN_mono (w := w) (b := b) h j
      rw [if_neg h2, if_pos h1]
      omega
    · have ih := tkN_strict h h1 h2 m (by omega)
      by_cases q : ct w b p' m
      · have h9 := h m
        rw [if_pos q, if_pos (⟨q.1, by have := q.2; omega⟩ : ct w b p m)]
        omega
      · rw [if_neg q]
        split <;> omega
theorem fl_le {p : Nat → Int} {c : Int} (hc : 0 ≤ c) (m : Nat) : ∀ k, p k ≤ flF w b p c m k := fun k => by
  unfold flF
  split <;> omega
theorem fl_ct {p : Nat → Int} {c : Int} (hs : ∀ k, k < 10 → ct w b p k → c < b k - p k) {k : Nat} (hk : k < 10) : ct w b (flF w b p c 10) k ↔ ct w b p k := by
  by_cases q : ct w b p k
  · have e : flF w b p c 10 k = p k + c := by unfold flF; rw [if_pos ⟨hk, q⟩]
    have := hs k hk q
    exact ⟨fun _ => q, fun _ => ⟨q.1, by rw [e]; omega⟩⟩
  · have e : flF w b p c 10 k = p k := by unfold flF; rw [if_neg (fun z => q z.2)]
    unfold ct
    rw [e]
theorem fl_tk {p : Nat → Int} {c : Int} (hs : ∀ k, k < 10 → ct w b p k → c < b k - p k) : ∀ m, m ≤ 10 → tkN w b (flF w b p c 10) m = tkN w b p m
  | 0, _ => rfl
  | m + 1, hm => by
    have ih := fl_tk hs m (by omega)
    have h := fl_ct hs (k := m) (by omega)
    rw [tkN_s, tkN_s, ih]
    by_cases q : ct w b p m
    · rw [if_pos (h.mpr q), if_pos q]
    · rw [if_neg (fun z => q (h.mp z)), if_neg q]
theorem itN_fl {p : Nat → Int} {left : Int} : ∀ c : Nat, (∀ k, k < 10 → ct w b p k → (c : Int) ≤ b k - p k) → tkN w b p 10 * c ≤ left → itN w b 10 c (p, left) = (flF w b p c 10, left - tkN w b p 10 * c)
  | 0, _, _ => by
    have e : flF w b p ((0 : Nat) : Int) 10 = p := by funext k; unfold flF; split <;> simp
    show (p, left) = _
    rw [e]
    simp
  | c + 1, hs, hl => by
    have hT := tkN_rng w b p 10
    have e1 : tkN w b p 10 * ((c + 1 : Nat) : Int) = tkN w b p 10 * c + tkN w b p 10 := by rw [Int.natCast_add, Int.mul_add]; simp
    rw [e1] at hl
    have hs' : ∀ k, k < 10 → ct w b p k → (c : Int) < b k - p k := fun k hk q => by
      have := hs k hk q
      omega
    have ih := itN_fl (p := p) (left := left) c (fun k hk q => by have := hs' k hk q; omega) (by omega)
    show psN w b 10 (itN w b 10 c (p, left)) = _
    rw [ih]
    show gvN w b 1 (flF w b p c 10) (left - tkN w b p 10 * c) 10 = _
    have htk := fl_tk hs' 10 (Nat.le_refl _)
    rw [gvN_all (by omega) 10 (by rw [htk, Int.mul_one]; omega), htk, Int.mul_one, e1]
    congr 1
    · funext k
      by_cases hk : k < 10
      · have hc := fl_ct hs' hk
        by_cases q : ct w b p k
        · have e2 : flF w b p c 10 k = p k + c := by unfold flF; rw [if_pos ⟨hk, q⟩]
          have e3 : flF w b p ((c + 1 : Nat) : Int) 10 k = p k + ((c + 1 : Nat) : Int) := by unfold flF; rw [if_pos ⟨hk, q⟩]
          rw [e3]
          show (if k < 10 ∧ ct w b (flF w b p c 10) k then flF w b p c 10 k + 1 else flF w b p c 10 k) = _
          rw [if_pos ⟨hk, hc.mpr q⟩, e2]
          omega
        · have e3 : ∀ c, flF w b p c 10 k = p k := fun c => by unfold flF; rw [if_neg (fun z => q z.2)]
          show (if k < 10 ∧ ct w b (flF w b p c 10) k then flF w b p c 10 k + 1 else flF w b p c 10 k) = _
          rw [if_neg (fun z => q (hc.mp z.2)), e3, e3]
      · have e3 : ∀ (p : Nat → Int) (c : Int), flF w b p c 10 k = p k := fun p c => by unfold flF; rw [if_neg (fun z => hk z.1)]
        rw [e3, e3, e3]
    · omega
def muN (w b : Nat → Int) (x : (Nat → Int) × Int) : Int := if x.2 ≤ 0 ∨ tkN w b x.1 10 = 0 then 0 else if x.2 < tkN w b x.1 10 then tkN w b x.1 10 + 1 else tkN w b x.1 10 + 2
theorem mu_rng (x : (Nat → Int) × Int) : 0 ≤ muN w b x ∧ muN w b x ≤ 12 ∧ muN w b x ≤ tkN w b x.1 10 + 2 ∧ (x.2 < tkN w b x.1 10 → muN w b x ≤ tkN w b x.1 10 + 1) := by
  have h := tkN_rng w b x.1 10
  unfold muN
  split
  · omega
  · split <;> omega
theorem mu_fix {x : (Nat → Int) × Int} (h : muN w b x = 0) : psN w b 10 x = x := by
  have hr := tkN_rng w b x.1 10
  have hd : x.2 ≤ 0 ∨ tkN w b x.1 10 = 0 := by
    unfold muN at h
    split at h
    · assumption
    · split at h <;> omega
  by_cases q : x.2 ≤ 0
  · exact gv1_nl q 10
  · have hT : tkN w b x.1 10 = 0 := by omega
    unfold psN
    rw [gvN_all (by omega) 10 (by rw [hT]; omega), hT]
    have e : flF w b x.1 1 10 = x.1 := by
      funext k
      unfold flF
      by_cases hk : k < 10
      · rw [if_neg (fun z => tkN_z hT hk z.2)]
      · rw [if_neg (fun z => hk z.1)]
    rw [e]
    simp
theorem itN_fix {n : Nat} {x : (Nat → Int) × Int} (h : psN w b n x = x) : ∀ f, itN w b n f x = x
  | 0 => rfl
  | f + 1 => by
    show psN w b n (itN w b n f x) = x
    rw [itN_fix h f, h]
theorem itN_add {n : Nat} {x : (Nat → Int) × Int} (a : Nat) : ∀ c, itN w b n c (itN w b n a x) = itN w b n (a + c) x
  | 0 => rfl
  | c + 1 => by
    show psN w b n (itN w b n c (itN w b n a x)) = psN w b n (itN w b n (a + c) x)
    rw [itN_add a c]
theorem itN_uniq {n : Nat} {x : (Nat → Int) × Int} {a c : Nat} (ha : psN w b n (itN w b n a x) = itN w b n a x) (hc : psN w b n (itN w b n c x) = itN w b n c x) : itN w b n a x = itN w b n c x := by
  rcases Nat.le_total a c with h | h
  · have e := itN_add (w := w) (b := b) (n := n) (x := x) a (c - a)
    rw [itN_fix ha, show a + (c - a) = c by omega] at e
    exact e
  · have e := itN_add (w := w) (b := b) (n := n) (x := x) c (a - c)
    rw [itN_fix hc, show c + (a - c) = a by omega] at e
    exact e.symm
theorem stk_it {x : (Nat → Int) × Int} (hl : 0 < x.2) : (∃ N, stk1 w b x = itN w b 10 N x) ∧ (muN w b (stk1 w b x) = 0 ∨ muN w b (stk1 w b x) + 1 ≤ muN w b x) := by
  obtain ⟨p, left⟩ := x
  have hl : 0 < left := hl
  have hT := tkN_rng w b p 10
  have hmu : muN w b (p, left) = if left ≤ 0 ∨ tkN w b p 10 = 0 then 0 else if left < tkN w b p 10 then tkN w b p 10 + 1 else tkN w b p 10 + 2 := rfl
  by_cases h0 : tkN w b p 10 = 0
  · have e : stk1 w b (p, left) = (p, left) := by
      show gvN w b (rounds w b p left) p left 10 = _
      have er : rounds w b p left = 0 := by unfold rounds; rw [if_pos h0]
      rw [er, gvN_all (by omega) 10 (by rw [h0]; omega), h0]
      have e : flF w b p 0 10 = p := by funext k; unfold flF; split <;> simp
      rw [e]
      simp
    rw [e]
    exact ⟨⟨0, rfl⟩, Or.inl (by rw [hmu, if_pos (Or.inr h0)])⟩
  · rw [if_neg (by omega)] at hmu
    have er : rounds w b p left = max 1 (min (rdN w b p left 10) (left / tkN w b p 10)) := by unfold rounds; rw [if_neg h0]
    have hrd0 := rdN_nn w b p (left := left) (by omega) 10
    by_cases hlt : left < tkN w b p 10
    · have hq : left / tkN w b p 10 = 0 := Int.ediv_eq_zero_of_lt (by omega) hlt
      have e1 : rounds w b p left = 1 := by rw [er, hq]; omega
      have e : stk1 w b (p, left) = psN w b 10 (p, left) := by
        show gvN w b (rounds w b p left) p left 10 = _
        rw [e1]
        rfl
      refine ⟨⟨1, e⟩, Or.inl ?_⟩
      rw [e]
      have h2 := gv1_left (w := w) (b := b) (p := p) (left := left) (by omega) 10
      unfold muN
      rw [if_pos (Or.inl (by show (gvN w b 1 p left 10).2 ≤ 0; rw [h2]; omega))]
    · rw [if_neg hlt] at hmu
      have hq1 : 1 ≤ left / tkN w b p 10 := by
        have := Int.le_ediv_of_mul_le (a := 1) (b := left) (c := tkN w b p 10) (by omega) (by omega)
        exact this
      have hq2 : tkN w b p 10 * (left / tkN w b p 10) ≤ left := Int.mul_ediv_self_le (by omega)
      have hq3 : left < tkN w b p 10 * (left / tkN w b p 10) + tkN w b p 10 := Int.lt_mul_ediv_self_add (by omega)
      have hrc : ∀ k, k < 10 → ct w b p k → 1 ≤ rounds w b p left ∧ rounds w b p left ≤ b k - p k := fun k hk hc => rounds_ct hl hk hc
      have hc1 : 1 ≤ rounds w b p left := by rw [er]; omega
      have hcq : rounds w b p left ≤ left / tkN w b p 10 := by rw [er]; omega
      have hTc : tkN w b p 10 * rounds w b p left ≤ left := Int.le_trans (Int.mul_le_mul_of_nonneg_left hcq hT.1) hq2
      have e : stk1 w b (p, left) = (flF w b p (rounds w b p left) 10, left - tkN w b p 10 * rounds w b p left) := gvN_all (Int.le_trans (by omega : (0 : Int) ≤ 1) hc1) 10 hTc
      have hn : ((rounds w b p left).toNat : Int) = rounds w b p left := by omega
      refine ⟨⟨(rounds w b p left).toNat, ?_⟩, Or.inr ?_⟩
      · rw [e, itN_fl _ (fun k hk hc => by rw [hn]; exact (hrc k hk hc).2) (by rw [hn]; exact hTc), hn]
      · rw [e, hmu]
        have hle := fl_le (w := w) (b := b) (p := p) (c := rounds w b p left) (by omega) 10
        have hm := tkN_mono (w := w) (b := b) hle 10
        have hr := mu_rng (w := w) (b := b) (flF w b p (rounds w b p left) 10, left - tkN w b p 10 * rounds w b p left)
        dsimp only at hr
        by_cases qc : rounds w b p left = left / tkN w b p 10
        · have h3 : left - tkN w b p 10 * rounds w b p left < tkN w b p 10 := by rw [qc]; omega
          by_cases q9 : tkN w b (flF w b p (rounds w b p left) 10) 10 = tkN w b p 10
          · have := hr.2.2.2 (by omega)
            omega
          · omega
        · have hrd1 : 1 ≤ rdN w b p left 10 := by
            rcases rdN_cases (w := w) (b := b) (p := p) (left := left) 10 with h | ⟨k, hk, hc, h⟩
            · omega
            · have := hc.2
              omega
          have e5 : rounds w b p left = rdN w b p left 10 := by omega
          rcases rdN_cases (w := w) (b := b) (p := p) (left := left) 10 with h | ⟨k, hk, hc, h⟩
          · exfalso
            have h6 : left / tkN w b p 10 ≤ left := Int.ediv_le_self _ (by omega)
            omega
          · have e6 : flF w b p (rounds w b p left) 10 k = b k := by
              unfold flF
              rw [if_pos ⟨hk, hc⟩]
              omega
            have h7 := tkN_strict (w := w) (b := b) hle hc (fun z => by have := z.2; omega) 10 hk
            omega
theorem strokes_it (x : (Nat → Int) × Int) : ∀ n : Nat, (∃ N, strokes w b x n = itN w b 10 N x) ∧ (muN w b (strokes w b x n) = 0 ∨ muN w b (strokes w b x n) + n ≤ muN w b x)
  | 0 => ⟨⟨0, rfl⟩, Or.inr (by show muN w b x + 0 ≤ muN w b x; omega)⟩
  | n + 1 => by
    obtain ⟨⟨N, hN⟩, hm⟩ := strokes_it x n
    rw [strokes_succ]
    by_cases q : 0 < (strokes w b x n).2
    · rw [if_pos q]
      obtain ⟨⟨M, hM⟩, hm2⟩ := stk_it (w := w) (b := b) q
      have hr := mu_rng (w := w) (b := b) (stk1 w b (strokes w b x n))
      refine ⟨⟨N + M, by rw [hM, hN, itN_add]⟩, ?_⟩
      omega
    · rw [if_neg q]
      refine ⟨⟨N, hN⟩, Or.inl ?_⟩
      unfold muN
      rw [if_pos (Or.inl (by omega))]
/-- twelve strokes come to rest, at a state that passes of single coins reach too -/
theorem strokes12 (x : (Nat → Int) × Int) : ∃ N, strokes w b x 12 = itN w b 10 N x ∧ muN w b (strokes w b x 12) = 0 := by
  obtain ⟨⟨N, hN⟩, hm⟩ := strokes_it (w := w) (b := b) x 12
  have h1 := mu_rng (w := w) (b := b) x
  have h2 := mu_rng (w := w) (b := b) (strokes w b x 12)
  exact ⟨N, hN, by omega⟩
end COIN
end
section
/-! ===== what a parting gives: all of it, nothing to those without weight, and full bounds where something is left ===== -/
theorem gvN_sum (w b : Nat → Int) (coins : Int) (p : Nat → Int) (left : Int) : ∀ m, m ≤ 10 → smN (gvN w b coins p left m).1 10 + (gvN w b coins p left m).2 = smN p 10 + left
  | 0, _ => rfl
  | m + 1, hm => by
    have h := gvN_sum w b coins p left m (by omega)
    rw [gvN_succ]
    split
    · have e : smN (updI (gvN w b coins p left m).1 m ((gvN w b coins p left m).1 m + coins)) 10 = smN (gvN w b coins p left m).1 10 + coins := smN_upd (j := m) (by omega) (fun k hk => by unfold updI; rw [if_neg hk]) (by unfold updI; rw [if_pos rfl])
      show smN (updI (gvN w b coins p left m).1 m ((gvN w b coins p left m).1 m + coins)) 10 + ((gvN w b coins p left m).2 - coins) = _
      rw [e]
      omega
    · exact h
theorem strokes_sum (w b : Nat → Int) (x : (Nat → Int) × Int) : ∀ n, smN (strokes w b x n).1 10 + (strokes w b x n).2 = smN x.1 10 + x.2
  | 0 => rfl
  | n + 1 => by
    have h := strokes_sum w b x n
    rw [strokes_succ]
    split
    · have h2 := gvN_sum w b (rounds w b (strokes w b x n).1 (strokes w b x n).2) (strokes w b x n).1 (strokes w b x n).2 10 (Nat.le_refl _)
      exact h2.trans h
    · exact h
theorem strokes_hi (w b : Nat → Int) (x : (Nat → Int) × Int) {k : Nat} (hk : 10 ≤ k) : ∀ n, (strokes w b x n).1 k = x.1 k
  | 0 => rfl
  | n + 1 => by
    have h := strokes_hi w b x hk n
    rw [strokes_succ]
    split
    · exact (gvN_hi w b _ _ _ 10 k hk).trans h
    · exact h
theorem gvN_zero {w b : Nat → Int} {coins : Int} {p : Nat → Int} {left : Int} {k : Nat} (hk : ¬ 0 < w k) : ∀ m, (gvN w b coins p left m).1 k = p k
  | 0 => rfl
  | m + 1 => by
    have h := gvN_zero (b := b) (coins := coins) (p := p) (left := left) hk m
    rw [gvN_succ]
    split
    · rename_i hc
      have e : ¬ k = m := fun q => hk (by rw [q]; exact hc.1.1)
      show updI _ m _ k = _
      unfold updI
      rw [if_neg e]
      exact h
    · exact h
theorem strokes_zero {w b : Nat → Int} {x : (Nat → Int) × Int} {k : Nat} (hk : ¬ 0 < w k) : ∀ n, (strokes w b x n).1 k = x.1 k
  | 0 => rfl
  | n + 1 => by
    have h := strokes_zero (b := b) (x := x) hk n
    rw [strokes_succ]
    split
    · exact (gvN_zero hk 10).trans h
    · exact h
theorem zf_0k (po : Nat → Int) {k : Nat} (hk : k < 10) : zf po 10 k = 0 := by
  unfold zf
  rw [if_pos hk]
theorem smN_z {f : Nat → Int} : ∀ {m : Nat}, (∀ k, k < m → f k = 0) → smN f m = 0
  | 0, _ => rfl
  | m + 1, h => by
    have h1 := smN_z (m := m) (fun k hk => h k (by omega))
    have h2 := h m (by omega)
    show smN f m + f m = 0
    omega
theorem smN_cut {f : Nat → Int} {n : Nat} : ∀ {m : Nat}, n ≤ m → (∀ k, n ≤ k → k < m → f k = 0) → smN f m = smN f n
  | 0, h, _ => by rw [show n = 0 by omega]
  | m + 1, h, hz => by
    by_cases e : n = m + 1
    · rw [e]
    · have h1 := smN_cut (m := m) (by omega) (fun k a c => hz k a (by omega))
      have h2 := hz m (by omega) (by omega)
      show smN f m + f m = _
      omega
theorem smN_add (f h : Nat → Int) : ∀ m, smN (fun k => f k + h k) m = smN f m + smN h m
  | 0 => rfl
  | m + 1 => by
    have h1 := smN_add f h m
    show smN (fun k => f k + h k) m + (f m + h m) = smN f m + f m + (smN h m + h m)
    omega
theorem partR_sum (w b po : Nat → Int) (a : Int) : smN (partR w b po a).1 10 + (partR w b po a).2 = a := by
  unfold partR
  split
  · have e := smN_z (f := zf po 10) (m := 10) (fun k hk => zf_0k po hk)
    show smN (zf po 10) 10 + a = a
    omega
  · rw [strokes_sum]
    show smN (p0f w b po a) 10 + (a - smN (p0f w b po a) 10) = a
    omega
theorem p0f_hi (w b po : Nat → Int) (a : Int) {k : Nat} (hk : 10 ≤ k) : p0f w b po a k = po k := by
  unfold p0f
  rw [if_neg (by omega)]
theorem partR_hi (w b po : Nat → Int) (a : Int) {k : Nat} (hk : 10 ≤ k) : (partR w b po a).1 k = po k := by
  unfold partR
  split
  · show zf po 10 k = _
    unfold zf
    rw [if_neg (by omega)]
  · rw [strokes_hi w b _ hk]
    exact p0f_hi w b po a hk
theorem partR_po {w b po po' : Nat → Int} {a : Int} (h : ∀ k, 10 ≤ k → po k = po' k) : partR w b po a = partR w b po' a := by
  have e1 : zf po 10 = zf po' 10 := by
    funext k
    unfold zf
    split
    · rfl
    · exact h k (by omega)
  have e2 : p0f w b po a = p0f w b po' a := by
    funext k
    unfold p0f
    split
    · rfl
    · exact h k (by omega)
  unfold partR
  rw [e1, e2]
theorem partR_zero {w b po : Nat → Int} {a : Int} (h : okW w b a) {k : Nat} (hk : k < 10) (hz : w k = 0) : (partR w b po a).1 k = 0 := by
  unfold partR
  split
  · exact zf_0k po hk
  · rw [strokes_zero (by omega)]
    show p0f w b po a k = 0
    unfold p0f
    have hb := (h.1 k hk).2
    rw [if_pos hk, hz, Int.mul_zero, Int.zero_ediv]
    omega
theorem partR_full {w b po : Nat → Int} {a : Int} (h : okW w b a) (hl : 0 < (partR w b po a).2) {k : Nat} (hk : k < 10) (hw : 0 < w k) : (partR w b po a).1 k = b k := by
  have hok := (partR_ok (po := po) h).1 k hk
  have hs := smN_mem (f := w) (m := 10) (k := k) (fun j hj => (h.1 j hj).1.1) hk
  unfold partR at hl hok ⊢
  rw [if_neg (by omega)] at hl hok ⊢
  obtain ⟨N, -, hm⟩ := strokes12 (w := w) (b := b) (p0f w b po a, a - smN (p0f w b po a) 10)
  unfold muN at hm
  have hr := tkN_rng w b (strokes w b (p0f w b po a, a - smN (p0f w b po a) 10) 12).1 10
  have hT : tkN w b (strokes w b (p0f w b po a, a - smN (p0f w b po a) 10) 12).1 10 = 0 := by
    split at hm
    · omega
    · split at hm <;> omega
  have hn := tkN_z hT hk
  have : ¬ (strokes w b (p0f w b po a, a - smN (p0f w b po a) 10) 12).1 k < b k := fun q => hn ⟨hw, q⟩
  omega
/-! ===== the same among members ===== -/
def Z8 (S : St) : Prop := ∀ k : Nat, k < 10 → S 0 0 3 ≤ k → S 8 0 k = 0
theorem ent8 {S : St} {w b : Nat → Int} {k : Nat} (hk : k < cN S) : entS S w b (cN S) 8 0 k = w k := by
  show (if (0 : Nat) = 0 ∧ k < cN S then w k else S 8 0 k) = _
  rw [if_pos ⟨rfl, hk⟩]
theorem ent9 {S : St} {w b : Nat → Int} {k : Nat} (hk : k < cN S) : entS S w b (cN S) 9 0 k = b k := by
  show (if (0 : Nat) = 0 ∧ k < cN S then b k else S 9 0 k) = _
  rw [if_pos ⟨rfl, hk⟩]
theorem ent8n {S : St} {w b : Nat → Int} {k : Nat} (hk : ¬ k < cN S) : entS S w b (cN S) 8 0 k = S 8 0 k := by
  show (if (0 : Nat) = 0 ∧ k < cN S then w k else S 8 0 k) = _
  rw [if_neg (fun q => hk q.2)]
section PRS
variable {S : St} {w b : Nat → Int} {a : Int}
theorem prS_ok (hI : CI S) (hw : ∀ k, k < 10 → (0 ≤ w k ∧ w k ≤ 100000000) ∧ 0 ≤ b k ∧ b k ≤ 100000000) (ha : 0 ≤ a ∧ a ≤ 100000000) : okW (entS S w b (cN S) 8 0) (entS S w b (cN S) 9 0) a := okW_ent hI.2.2.2.2.2.1 hw ha
theorem prS_rng (hI : CI S) (hw : ∀ k, k < 10 → (0 ≤ w k ∧ w k ≤ 100000000) ∧ 0 ≤ b k ∧ b k ≤ 100000000) (ha : 0 ≤ a ∧ a ≤ 100000000) : (∀ k, k < cN S → 0 ≤ (prS S w b a).1 k ∧ (prS S w b a).1 k ≤ b k) ∧ 0 ≤ (prS S w b a).2 ∧ (prS S w b a).2 ≤ a := by
  have hp := partR_ok (po := S 10 0) (prS_ok hI hw ha)
  have hc := cN_le hI
  refine ⟨fun k hk => ?_, hp.2⟩
  have h := hp.1 k (by omega)
  rw [ent9 hk] at h
  exact h
theorem prS_sum (hI : CI S) (hZ : Z8 S) (hw : ∀ k, k < 10 → (0 ≤ w k ∧ w k ≤ 100000000) ∧ 0 ≤ b k ∧ b k ≤ 100000000) (ha : 0 ≤ a ∧ a ≤ 100000000) : smN (prS S w b a).1 (cN S) + (prS S w b a).2 = a := by
  have hc := cN_le hI
  have he := cN_eq hI
  have e : smN (prS S w b a).1 10 = smN (prS S w b a).1 (cN S) := smN_cut hc (fun k h1 h2 => partR_zero (prS_ok hI hw ha) h2 (by rw [ent8n (by omega)]; exact hZ k h2 (by omega)))
  rw [← e]
  exact partR_sum _ _ _ _
theorem prS_zero (hI : CI S) (hw : ∀ k, k < 10 → (0 ≤ w k ∧ w k ≤ 100000000) ∧ 0 ≤ b k ∧ b k ≤ 100000000) (ha : 0 ≤ a ∧ a ≤ 100000000) {k : Nat} (hk : k < cN S) (hz : w k = 0) : (prS S w b a).1 k = 0 := by
  have hc := cN_le hI
  exact partR_zero (prS_ok hI hw ha) (by omega) (by rw [ent8 hk]; exact hz)
theorem prS_full (hI : CI S) (hw : ∀ k, k < 10 → (0 ≤ w k ∧ w k ≤ 100000000) ∧ 0 ≤ b k ∧ b k ≤ 100000000) (ha : 0 ≤ a ∧ a ≤ 100000000) (hl : 0 < (prS S w b a).2) {k : Nat} (hk : k < cN S) (hz : 0 < w k) : (prS S w b a).1 k = b k := by
  have hc := cN_le hI
  have h := partR_full (po := S 10 0) (prS_ok hI hw ha) hl (show k < 10 by omega) (by rw [ent8 hk]; exact hz)
  rw [ent9 hk] at h
  exact h
end PRS
theorem eat_8 (S : St) (w b : Nat → Int) (a : Int) (fld : Nat) (f : Nat → Int) (k : Nat) : eatS S w b a fld f 8 0 k = entS S w b (cN S) 8 0 k := rfl
theorem eat_0 (S : St) (w b : Nat → Int) (a : Int) (fld : Nat) (f : Nat → Int) (k : Nat) : eatS S w b a fld f 0 0 k = S 0 0 k := rfl
theorem Z8_eat {S : St} (hZ : Z8 S) (w b : Nat → Int) (a : Int) (fld : Nat) (f : Nat → Int) : Z8 (eatS S w b a fld f) := fun k hk hc => by
  rw [eat_0] at hc
  have hn : ¬ k < cN S := by unfold cN; omega
  rw [eat_8, ent8n hn]
  exact hZ k hk hc
/-! ===== size, twice ===== -/
theorem sz_4 (S : St) (i k : Nat) : szS S 4 i k = if k = 5 ∧ i < cN S then S 4 i 5 + grw S i else S 4 i k := eat_4 _ _ _ _ _ _ _ _
theorem sz_n (S : St) : cN (szS S) = cN S := rfl
theorem sz_act (S : St) (i : Nat) : actv (szS S) i = actv S i := by
  unfold actv
  rw [sz_4, if_neg (by omega)]
theorem sz_need (S : St) : need (szS S) = need S := by
  have e : tsF (szS S) = tsF S := by
    funext i
    have h3 : szS S 4 i 3 = S 4 i 3 := by rw [sz_4, if_neg (by omega)]
    have h8 : szS S 4 i 8 = S 4 i 8 := by rw [sz_4, if_neg (by omega)]
    show (if (szS S 4 i 3 = 0 ∨ szS S 4 i 3 = 1) then szS S 4 i 8 else 0) = (if (S 4 i 3 = 0 ∨ S 4 i 3 = 1) then S 4 i 8 else 0)
    rw [h3, h8]
  unfold need
  rw [e, sz_n]
theorem sz_szW (S : St) : szW (szS S) = szW S := by
  funext i
  have h3 : szS S 4 i 3 = S 4 i 3 := by rw [sz_4, if_neg (by omega)]
  have h8 : szS S 4 i 4 = S 4 i 4 := by rw [sz_4, if_neg (by omega)]
  show (if (szS S 4 i 3 = 0 ∨ szS S 4 i 3 = 1) then szS S 4 i 4 else 0) = (if (S 4 i 3 = 0 ∨ S 4 i 3 = 1) then S 4 i 4 else 0)
  rw [h3, h8]
theorem sz_pr (S : St) : prS (szS S) (szW (szS S)) (fun _ => need (szS S)) (need (szS S)) = prS S (szW S) (fun _ => need S) (need S) := by
  rw [sz_need, sz_szW]
  have e8 : entS (szS S) (szW S) (fun _ => need S) (cN (szS S)) 8 0 = entS S (szW S) (fun _ => need S) (cN S) 8 0 := by
    funext k
    show (if (0 : Nat) = 0 ∧ k < cN S then szW S k else entS S (szW S) (fun _ => need S) (cN S) 8 0 k) = _
    by_cases q : k < cN S
    · rw [if_pos ⟨rfl, q⟩, ent8 q]
    · rw [if_neg (fun z => q z.2)]
  have e9 : entS (szS S) (szW S) (fun _ => need S) (cN (szS S)) 9 0 = entS S (szW S) (fun _ => need S) (cN S) 9 0 := by
    funext k
    show (if (0 : Nat) = 0 ∧ k < cN S then need S else entS S (szW S) (fun _ => need S) (cN S) 9 0 k) = _
    by_cases q : k < cN S
    · rw [if_pos ⟨rfl, q⟩, ent9 q]
    · rw [if_neg (fun z => q z.2)]
  unfold prS
  rw [e8, e9]
  exact partR_po (fun k hk => partR_hi _ _ _ _ hk)
theorem sz_grw (S : St) {i : Nat} (hi : i < cN S) : grw (szS S) i = 0 := by
  have e : grw (szS S) i = max 0 ((prS (szS S) (szW (szS S)) (fun _ => need (szS S)) (need (szS S))).1 i - szS S 4 i 5) := rfl
  rw [e, sz_pr, sz_4, if_pos ⟨rfl, hi⟩]
  unfold grw
  omega
theorem sz_sm2 (S : St) : smN (grw (szS S)) (cN (szS S)) = 0 := smN_z (fun k hk => sz_grw S hk)
def fuN (S : St) : Nat → Int
  | 0 => S 0 0 4
  | l + 1 => fuN S l + (S 4 l 5 + S 4 l 7 - S 4 l 10)
theorem sz_fuN (S : St) : ∀ l, l ≤ cN S → fuN (szS S) l = fuN S l + smN (grw S) l
  | 0, _ => by
    show S 0 0 4 = S 0 0 4 + 0
    omega
  | l + 1, h => by
    have ih := sz_fuN S l (by omega)
    show fuN (szS S) l + (szS S 4 l 5 + szS S 4 l 7 - szS S 4 l 10) = fuN S l + (S 4 l 5 + S 4 l 7 - S 4 l 10) + (smN (grw S) l + grw S l)
    rw [ih, sz_4, sz_4, sz_4, if_pos ⟨rfl, by omega⟩, if_neg (by omega), if_neg (by omega)]
    omega
end
section
/-! ===== the class's answers about one member; at, funds, sizes ===== -/
section XSmall
variable {g : Gl} {S : St} {Ret : Option AV → St → Prop} {Thr : String → St → Prop}
theorem cs_state {l : Nat} {v : Int} (hI : CI S) (hl : (l : Int) < S 0 0 3) (hv : S 4 l 3 = v) (h : Ret (some (vI v)) S) : Cn g yX3_state cX3_state 2 (some .int) 7 111 1 [vR 0 0, vI (l : Int)] S Ret Thr := by
  have hc := hI.cnt
  refine cn_state (by omega) hI (fun j ej hj hjc => ?_) (fun q => absurd ⟨by omega, hl⟩ q)
  have e : j = l := by omega
  subst e
  subst hv
  exact h
theorem cs_margin {l : Nat} {v : Int} (hI : CI S) (hl : (l : Int) < S 0 0 3) (hv : S 4 l 4 = v) (h : Ret (some (vI v)) S) : Cn g yX3_margin cX3_margin 2 (some .int) 7 111 1 [vR 0 0, vI (l : Int)] S Ret Thr := by
  have hc := hI.cnt
  refine cn_margin (by omega) hI (fun j ej hj hjc => ?_) (fun q => absurd ⟨by omega, hl⟩ q)
  have e : j = l := by omega
  subst e
  subst hv
  exact h
theorem cs_share {l : Nat} {v : Int} (hI : CI S) (hl : (l : Int) < S 0 0 3) (hv : S 4 l 5 = v) (h : Ret (some (vI v)) S) : Cn g yX3_share cX3_share 2 (some .int) 7 111 1 [vR 0 0, vI (l : Int)] S Ret Thr := by
  have hc := hI.cnt
  refine cn_share (by omega) hI (fun j ej hj hjc => ?_) (fun q => absurd ⟨by omega, hl⟩ q)
  have e : j = l := by omega
  subst e
  subst hv
  exact h
theorem cs_gain {l : Nat} {v : Int} (hI : CI S) (hl : (l : Int) < S 0 0 3) (hv : S 4 l 7 = v) (h : Ret (some (vI v)) S) : Cn g yX3_gain cX3_gain 2 (some .int) 7 111 1 [vR 0 0, vI (l : Int)] S Ret Thr := by
  have hc := hI.cnt
  refine cn_gain (by omega) hI (fun j ej hj hjc => ?_) (fun q => absurd ⟨by omega, hl⟩ q)
  have e : j = l := by omega
  subst e
  subst hv
  exact h
theorem cs_assessed {l : Nat} {v : Int} (hI : CI S) (hl : (l : Int) < S 0 0 3) (hv : S 4 l 10 = v) (h : Ret (some (vI v)) S) : Cn g yX3_assessed cX3_assessed 2 (some .int) 7 111 1 [vR 0 0, vI (l : Int)] S Ret Thr := by
  have hc := hI.cnt
  refine cn_assessed (by omega) hI (fun j ej hj hjc => ?_) (fun q => absurd ⟨by omega, hl⟩ q)
  have e : j = l := by omega
  subst e
  subst hv
  exact h
theorem cs_clientLots {l : Nat} {v : Int} (hI : CI S) (hl : (l : Int) < S 0 0 3) (hv : S 4 l 2 = v) (h : Ret (some (vI v)) S) : Cn g yX3_clientLots cX3_clientLots 2 (some .int) 7 111 1 [vR 0 0, vI (l : Int)] S Ret Thr := by
  have hc := hI.cnt
  refine cn_clientLots (by omega) hI (fun j ej hj hjc => ?_) (fun q => absurd ⟨by omega, hl⟩ q)
  have e : j = l := by omega
  subst e
  subst hv
  exact h
theorem cs_won {l : Nat} {v : Int} (hI : CI S) (hl : (l : Int) < S 0 0 3) (hv : S 4 l 11 = v) (h : Ret (some (vI v)) S) : Cn g yX3_won cX3_won 2 (some .int) 7 111 1 [vR 0 0, vI (l : Int)] S Ret Thr := by
  have hc := hI.cnt
  refine cn_won (by omega) hI (fun j ej hj hjc => ?_) (fun q => absurd ⟨by omega, hl⟩ q)
  have e : j = l := by omega
  subst e
  subst hv
  exact h
theorem cs_members {v : Int} (hv : S 0 0 3 = v) (h : Ret (some (vI v)) S) : Cn g yX3_members cX3_members 1 (some .int) 0 0 0 [vR 0 0] S Ret Thr := by
  subst hv
  exact cn_members h
theorem cs_capital {v : Int} (hv : S 0 0 4 = v) (h : Ret (some (vI v)) S) : Cn g yX3_capital cX3_capital 1 (some .int) 0 0 0 [vR 0 0] S Ret Thr := by
  subst hv
  exact cn_capital h
theorem cs_loss {v : Int} (hv : S 0 0 5 = v) (h : Ret (some (vI v)) S) : Cn g yX3_loss cX3_loss 1 (some .int) 0 0 0 [vR 0 0] S Ret Thr := by
  subst hv
  exact cn_loss h
theorem cs_uncovered {v : Int} (hv : S 0 0 6 = v) (h : Ret (some (vI v)) S) : Cn g yX3_uncovered cX3_uncovered 1 (some .int) 0 0 0 [vR 0 0] S Ret Thr := by
  subst hv
  exact cn_uncovered h
theorem cs_failing {v : Int} (hv : S 0 0 7 = v) (h : Ret (some (vI v)) S) : Cn g yX3_failing cX3_failing 1 (some .int) 0 0 0 [vR 0 0] S Ret Thr := by
  subst hv
  exact cn_failing h
theorem cn_at {a b : Int} (hb : 0 < b ∧ b ≤ 2147483647) (h : ∀ z : Int, (0 ≤ z ∧ z < b) → Ret (some (vI z)) S) : Cn g yL_at cL_at 2 (some .int) 0 0 0 [vI a, vI b] S Ret Thr := by
  refine enter (L := [some (vI a), some (vI b)]) (by decide +kernel) (Nat.le_of_ble_eq_true rfl) rfl (fun K MM => ?_)
  have M := MM.mk
  refine r_iload_n M dL_at_0 rfl ?_
  refine r_iconst M dL_at_1 ?_
  refine r_iushr M dL_at_2 (fun x2 hx2 => ?_)
  refine r_iload_n M dL_at_3 rfl ?_
  refine r_irem M dL_at_4 (by omega) (fun x4 hx4 => ?_)
  refine r_iret MM dL_at_5 ?_
  exact h _ hx4
def AR (S : St) : Prop := ∀ i, i < 10 → 0 ≤ S 4 i 10 ∧ S 4 i 10 ≤ 100000000
theorem fuN_rng (hI : CI S) (hA : AR S) : ∀ l : Nat, l ≤ 10 → -(200000000 * (l : Int)) ≤ fuN S l ∧ fuN S l ≤ 1000000 + 200000000 * l
  | 0, _ => by
    have h := hI.2.1
    show -(200000000 * (0 : Int)) ≤ S 0 0 4 ∧ S 0 0 4 ≤ 1000000 + 200000000 * 0
    omega
  | l + 1, hl => by
    have ih := fuN_rng hI hA l (by omega)
    have hm := hI.mem (show l < 10 by omega)
    unfold MI at hm
    have ha := hA l (by omega)
    show _ ≤ fuN S l + (S 4 l 5 + S 4 l 7 - S 4 l 10) ∧ fuN S l + (S 4 l 5 + S 4 l 7 - S 4 l 10) ≤ _
    omega
theorem cn_funds {v : Int} (hI : CI S) (hA : AR S) (hv : fuN S (cN S) = v) (h : Ret (some (vL v)) S) : Cn g yL_funds cL_funds 4 (some .long) 8 132 30 [vR 0 0] S Ret Thr := by
  subst hv
  refine enter (L := [some (vR 0 0), none, none, none]) (by decide +kernel) (Nat.le_of_ble_eq_true rfl) rfl (fun K MM => ?_)
  have M := MM.mk
  have hc := hI.cnt
  have hcl := cN_le hI
  have hce := cN_eq hI
  have h4 := hI.2.1
  refine r_aload_n M dL_funds_0 rfl ?_
  refine r_callV0 MM dL_funds_1 ck_L_8 vk_X3_capital ⟨by omega, by omega, by omega⟩ ⟨by decide, by decide, rfl⟩ (by decide) (Nat.le_of_ble_eq_true rfl) (cn_capital ?_)
  refine r_i2l M dL_funds_4 (by omega) ?_
  refine r_lstore_1 M dL_funds_5 (by decide) rfl ?_
  refine r_iconst M dL_funds_6 ?_
  refine r_istore_3 M dL_funds_7 (by decide) rfl ?_
  refine fz (P := fun l => K (3 * l) 8 [some (vR 0 0), some (vL (fuN S l)), none, some (vI (l : Int))] [] S) (m := cN S) ?_ ?_
  · refine r_iload_n M dL_funds_8 rfl ?_
    refine r_aload_n M dL_funds_9 rfl ?_
    refine r_callV0 MM dL_funds_10 ck_L_14 vk_X3_members ⟨by omega, by omega, by omega⟩ ⟨by decide, by decide, rfl⟩ (by decide) (Nat.le_of_ble_eq_true rfl) (cn_members ?_)
    refine r_icmp_ge M dL_funds_13 (tgt := 45) rfl (by omega) (fun b13 => ?_) (fun b13 => by omega)
    refine r_lload_n M dL_funds_45 rfl ?_
    refine r_lret MM dL_funds_46 ?_
    exact h
  · intro l hl hP
    have hm := hI.mem (show l < 10 by omega)
    unfold MI at hm
    have ha := hA l (by omega)
    refine r_iload_n M dL_funds_8 rfl ?_
    refine r_aload_n M dL_funds_9 rfl ?_
    refine r_callV0 MM dL_funds_10 ck_L_14 vk_X3_members ⟨by omega, by omega, by omega⟩ ⟨by decide, by decide, rfl⟩ (by decide) (Nat.le_of_ble_eq_true rfl) (cn_members ?_)
    refine r_icmp_ge M dL_funds_13 (tgt := 45) rfl (by omega) (fun b13 => by omega) (fun b13 => ?_)
    refine r_lload_n M dL_funds_16 rfl ?_
    refine r_aload_n M dL_funds_17 rfl ?_
    refine r_iload_n M dL_funds_18 rfl ?_
    refine r_callV1 MM dL_funds_19 ck_L_17 vk_X3_share ⟨by omega, by omega, by omega⟩ ⟨by decide, by decide, rfl⟩ (by decide) (Nat.le_of_ble_eq_true rfl) (cs_share hI (by omega) rfl ?_)
    refine r_i2l M dL_funds_22 (by omega) ?_
    refine r_aload_n M dL_funds_23 rfl ?_
    refine r_iload_n M dL_funds_24 rfl ?_
    refine r_callV1 MM dL_funds_25 ck_L_21 vk_X3_gain ⟨by omega, by omega, by omega⟩ ⟨by decide, by decide, rfl⟩ (by decide) (Nat.le_of_ble_eq_true rfl) (cs_gain hI (by omega) rfl ?_)
    refine r_i2l M dL_funds_28 (by omega) ?_
    refine r_ladd M dL_funds_29 ?_
    refine r_aload_n M dL_funds_30 rfl ?_
    refine r_iload_n M dL_funds_31 rfl ?_
    refine r_callV1 MM dL_funds_32 ck_L_24 vk_X3_assessed ⟨by omega, by omega, by omega⟩ ⟨by decide, by decide, rfl⟩ (by decide) (Nat.le_of_ble_eq_true rfl) (cs_assessed hI (by omega) rfl ?_)
    refine r_i2l M dL_funds_35 (by omega) ?_
    refine r_lsub M dL_funds_36 ?_
    refine r_ladd M dL_funds_37 ?_
    refine r_lstore_1 M dL_funds_38 (by decide) rfl ?_
    refine r_iinc_3 M (_) dL_funds_39 rfl (by decide) rfl ?_
    refine r_goto M dL_funds_42 (tgt := 8) rfl ?_
    exact k_w M (by omega) (by omega) hP
theorem AR_sz (hA : AR S) : AR (szS S) := fun i hi => by
  rw [sz_4, if_neg (by omega)]
  exact hA i hi
theorem cn_sizes (hI : CI S) (hA : AR S) (h7 : S 0 0 7 = -1) (h : Ret (some (vI 1)) (szS (szS S))) : Cn g yL_sizes cL_sizes 4 (some .boolean) 9 163 62 [vR 0 0] S Ret Thr := by
  refine enter (L := [some (vR 0 0), none, none, none]) (by decide +kernel) (Nat.le_of_ble_eq_true rfl) rfl (fun K MM => ?_)
  have M := MM.mk
  have hcl := cN_le hI
  have hS := CI_sz hI
  have hg := smN_nn (f := grw S) (B := 2000000) (m := cN S) hS.2
  have hf := fuN_rng hI hA (cN S) hcl
  have e1 : fuN (szS S) (cN (szS S)) = fuN S (cN S) + smN (grw S) (cN S) := sz_fuN S (cN S) (Nat.le_refl _)
  have e2 := sz_sm2 S
  refine r_aload_n M dL_sizes_0 rfl ?_
  refine r_callS1 MM dL_sizes_1 sl_L_63 st_L_funds rfl ck_L_63 ⟨by omega, by omega, by omega⟩ (Nat.le_of_ble_eq_true rfl) (cn_funds hI hA rfl ?_)
  refine r_lstore_1 M dL_sizes_4 (by decide) rfl ?_
  refine r_aload_n M dL_sizes_5 rfl ?_
  refine r_callV0 MM dL_sizes_6 ck_L_67 vk_X3_size ⟨by omega, by omega, by omega⟩ ⟨by decide, by decide, rfl⟩ (by decide) (Nat.le_of_ble_eq_true rfl) (cn_size hI (fun q => ?_) (fun q => absurd h7 q))
  refine r_istore_3 M dL_sizes_9 (by decide) rfl ?_
  refine r_iload_n M dL_sizes_10 rfl ?_
  refine r_if_lt M dL_sizes_11 (tgt := 37) rfl (by omega) (fun b11 => by omega) (fun b11 => ?_)
  refine r_aload_n M dL_sizes_14 rfl ?_
  refine r_callS1 MM dL_sizes_15 sl_L_63 st_L_funds rfl ck_L_63 ⟨by omega, by omega, by omega⟩ (Nat.le_of_ble_eq_true rfl) (cn_funds hS.1 (AR_sz hA) e1 ?_)
  refine r_lload_n M dL_sizes_18 rfl ?_
  refine r_iload_n M dL_sizes_19 rfl ?_
  refine r_i2l M dL_sizes_20 (by omega) ?_
  refine r_ladd M dL_sizes_21 ?_
  refine r_lcmp M dL_sizes_22 (by omega) ?_
  refine k_St (st := [vI 0]) ?_ (by rw [if_neg (by omega), if_pos (by omega)])
  refine r_if_ne M dL_sizes_23 (tgt := 37) rfl (by omega) (fun b23 => by omega) (fun b23 => ?_)
  refine r_aload_n M dL_sizes_26 rfl ?_
  refine r_callV0 MM dL_sizes_27 ck_L_67 vk_X3_size ⟨by omega, by omega, by omega⟩ ⟨by decide, by decide, rfl⟩ (by decide) (Nat.le_of_ble_eq_true rfl) (cn_size hS.1 (fun q => ?_) (fun q => absurd h7 q))
  refine k_St (st := [vI 0]) ?_ (by rw [e2]; rfl)
  refine r_if_ne M dL_sizes_30 (tgt := 37) rfl (by omega) (fun b30 => by omega) (fun b30 => ?_)
  refine r_iconst M dL_sizes_33 ?_
  refine r_goto M dL_sizes_34 (tgt := 38) rfl ?_
  refine r_zret MM dL_sizes_38 (by omega) ?_
  exact h
end XSmall
end
section
/-! ===== what holds between the law's calls; clients ===== -/
def CL (S : St) : Prop := ∀ i, i < 10 → S 4 i 1 ≤ S 4 i 2 ∧ smN (S 5 i) (S 4 i 1).toNat = S 4 i 2 ∧ ∀ k : Nat, (k : Int) < S 4 i 1 → 1 ≤ S 5 i k
def RM (S : St) : Prop := ∀ k : Nat, k < 10 → (k : Int) < S 0 0 3 → S 12 0 k = S 4 k 6
def BD (t : Nat) (S : St) : Prop := (∀ i, i < 10 → 0 ≤ S 4 i 10 ∧ S 4 i 10 ≤ 2000000 * t) ∧ 0 ≤ S 0 0 6 ∧ S 0 0 6 ≤ 1000000 * t
def LB (t : Nat) (S : St) : Prop := CI S ∧ CL S ∧ Z8 S ∧ RM S ∧ BD t S
def LI (t : Nat) (S : St) : Prop := LB t S ∧ S 0 0 7 = -1
section CLI
variable {t : Nat} {S S' : St}
theorem LB.ci (h : LB t S) : CI S := h.1
theorem LB.cl (h : LB t S) : CL S := h.2.1
theorem LB.z8 (h : LB t S) : Z8 S := h.2.2.1
theorem LB.rm (h : LB t S) : RM S := h.2.2.2.1
theorem LB.bd (h : LB t S) : BD t S := h.2.2.2.2
theorem LB.ar (h : LB t S) (ht : t ≤ 20) : AR S := fun i hi => by
  have := h.bd.1 i hi
  omega
/-- the rest is as it was -/
theorem LB.gen (h : LB t S) (hci : CI S') (h3 : S' 0 0 3 = S 0 0 3) (h5 : S' 5 = S 5) (h4 : ∀ i, S' 4 i 1 = S 4 i 1 ∧ S' 4 i 2 = S 4 i 2 ∧ S' 4 i 6 = S 4 i 6 ∧ S' 4 i 10 = S 4 i 10) (h8 : Z8 S') (h12 : S' 12 = S 12) (h6 : S' 0 0 6 = S 0 0 6) : LB t S' := by
  refine ⟨hci, fun i hi => ?_, h8, fun k hk hc => ?_, fun i hi => ?_, ?_⟩
  · rw [h5, (h4 i).1, (h4 i).2.1]
    exact h.cl i hi
  · rw [h3] at hc
    rw [h12, (h4 k).2.2.1]
    exact h.rm k hk hc
  · rw [(h4 i).2.2.2]
    exact h.bd.1 i hi
  · rw [h6]
    exact h.bd.2
theorem Z8_cong (hZ : Z8 S) (h8 : S' 8 = S 8) (h3 : S' 0 0 3 = S 0 0 3) : Z8 S' := fun k hk hc => by
  rw [h3] at hc
  rw [h8]
  exact hZ k hk hc
theorem take_4 (S : St) (j : Nat) (v : Int) (i k : Nat) : takeS S j v 4 i k = if i = j ∧ k = 2 then S 4 j 2 + v else if i = j ∧ k = 1 then S 4 j 1 + 1 else S 4 i k := by
  simp [takeS, up3]
theorem take_5 (S : St) (j : Nat) (v : Int) (i k : Nat) : takeS S j v 5 i k = if i = j ∧ k = (S 4 j 1).toNat then v else S 5 i k := by
  simp [takeS, up3]
theorem take_t (S : St) (j : Nat) (v : Int) {t : Nat} (h4 : t ≠ 4) (h5 : t ≠ 5) : takeS S j v t = S t := by
  funext a b
  simp [takeS, up3, h4, h5]
theorem CI_take (hI : CI S) {j : Nat} {v : Int} (hv : 0 ≤ v ∧ v ≤ 20) (ht : taken S j v) : CI (takeS S j v) :=
  CI_set hI (take_t S j v (by omega) (by omega)) (take_t S j v (by omega) (by omega)) (take_t S j v (by omega) (by omega)) (by
    unfold smP
    rw [take_t S j v (t := 8) (by omega) (by omega), take_t S j v (t := 9) (by omega) (by omega), take_t S j v (t := 10) (by omega) (by omega)]
    exact hI.2.2.2.2.2.1) (takeS_MI ht hv hI.2.2.2.2.2.2)
theorem CL_take1 {i j : Nat} {v : Int} (h0 : 0 ≤ S 4 i 1) (h : S 4 i 1 ≤ S 4 i 2 ∧ smN (S 5 i) (S 4 i 1).toNat = S 4 i 2 ∧ ∀ k : Nat, (k : Int) < S 4 i 1 → 1 ≤ S 5 i k) (hv : 1 ≤ v) : takeS S j v 4 i 1 ≤ takeS S j v 4 i 2 ∧ smN (takeS S j v 5 i) (takeS S j v 4 i 1).toNat = takeS S j v 4 i 2 ∧ ∀ k : Nat, (k : Int) < takeS S j v 4 i 1 → 1 ≤ takeS S j v 5 i k := by
  by_cases e : i = j
  · subst e
    have e1 : takeS S i v 4 i 1 = S 4 i 1 + 1 := by rw [take_4, if_neg (by omega), if_pos ⟨rfl, rfl⟩]
    have e2 : takeS S i v 4 i 2 = S 4 i 2 + v := by rw [take_4, if_pos ⟨rfl, rfl⟩]
    rw [e1, e2]
    have et : (S 4 i 1 + 1).toNat = (S 4 i 1).toNat + 1 := by omega
    refine ⟨by omega, ?_, fun k hk => ?_⟩
    · rw [et]
      show smN (takeS S i v 5 i) (S 4 i 1).toNat + takeS S i v 5 i (S 4 i 1).toNat = _
      rw [take_5, if_pos ⟨rfl, rfl⟩, smN_cong (f := takeS S i v 5 i) (h := S 5 i) (fun k hk => by rw [take_5, if_neg (by omega)]), h.2.1]
    · rw [take_5]
      by_cases q : k = (S 4 i 1).toNat
      · rw [if_pos ⟨rfl, q⟩]
        exact hv
      · rw [if_neg (fun z => q z.2)]
        exact h.2.2 k (by omega)
  · have e4 : ∀ k, takeS S j v 4 i k = S 4 i k := fun k => by rw [take_4, if_neg (fun z => e z.1), if_neg (fun z => e z.1)]
    have e5 : takeS S j v 5 i = S 5 i := by
      funext k
      rw [take_5, if_neg (fun z => e z.1)]
    rw [e4, e4, e5]
    exact h
theorem LB.take (h : LB t S) {j : Nat} {v : Int} (hv : 1 ≤ v ∧ v ≤ 20) (ht : taken S j v) : LB t (takeS S j v) := by
  have e0 : takeS S j v 0 = S 0 := take_t S j v (by omega) (by omega)
  refine ⟨CI_take h.ci (by omega) ht, fun i hi => CL_take1 (by have := h.ci.mem hi; unfold MI at this; omega) (h.cl i hi) hv.1, Z8_cong h.z8 (take_t S j v (by omega) (by omega)) (by rw [e0]), fun k hk hc => ?_, fun i hi => ?_, ?_⟩
  · rw [e0] at hc
    rw [take_t S j v (t := 12) (by omega) (by omega), take_4, if_neg (by omega), if_neg (by omega)]
    exact h.rm k hk hc
  · rw [take_4, if_neg (by omega), if_neg (by omega)]
    exact h.bd.1 i hi
  · rw [e0]
    exact h.bd.2
end CLI
section XClients
variable {g : Gl} {S : St} {Ret : Option AV → St → Prop} {Thr : String → St → Prop} {t : Nat}
theorem cs_addClient {l : Nat} {v w : Int} (hI : CI S) (hl : (l : Int) < S 0 0 3) (hv : 1 ≤ v ∧ v ≤ 20) (ha : actv S l) (ht : taken S l v) (hw : S 4 l 6 - (S 4 l 2 + v) = w) (h : Ret (some (vI w)) (takeS S l v)) : Cn g yX3_addClient cX3_addClient 4 (some .int) 7 112 4 [vR 0 0, vI (l : Int), vI v] S Ret Thr := by
  have hc := hI.cnt
  refine cn_addClient (by omega) (by omega) hI (fun j ej hj hjc q2 qa qt => ?_) (fun q => absurd ⟨by omega, hl⟩ q) (fun _ q => absurd hv q) (fun j ej hj hjc q2 q => ?_)
  · have e : j = l := by omega
    subst e
    subst hw
    exact h
  · have e : j = l := by omega
    subst e
    exact absurd ⟨ha, ht⟩ q
theorem cn_clients {x y : Int} (hL : LI t S) (h : ∀ S', LI t S' → S' 0 0 3 = S 0 0 3 → Ret (some (vI 1)) S') : Cn g yL_clients cL_clients 7 (some .boolean) 8 135 60 [vR 0 0, vI x, vI y, vR 12 0] S Ret Thr := by
  refine enter (L := [some (vR 0 0), some (vI x), some (vI y), some (vR 12 0), none, none, none]) (by decide +kernel) (Nat.le_of_ble_eq_true rfl) rfl (fun K MM => ?_)
  have M := MM.mk
  have hcl := cN_le hL.1.ci
  have hce := cN_eq hL.1.ci
  refine r_iconst M dL_clients_0 ?_
  refine r_istore_4 M dL_clients_1 (by decide) rfl ?_
  refine fz (P := fun l => ∀ S', LI t S' → S' 0 0 3 = S 0 0 3 → ∀ c5 c6, K (6 * l) 3 [some (vR 0 0), some (vI x), some (vI y), some (vR 12 0), some (vI (l : Int)), c5, c6] [] S') (m := cN S) ?_ ?_ S hL rfl _ _
  · intro S' hL' h3 c5 c6
    refine r_iload M dL_clients_3 rfl ?_
    refine r_aload_n M dL_clients_5 rfl ?_
    refine r_callV0 MM dL_clients_6 ck_L_14 vk_X3_members ⟨by omega, by omega, by omega⟩ ⟨by decide, by decide, rfl⟩ (by decide) (Nat.le_of_ble_eq_true rfl) (cs_members h3 ?_)
    refine r_icmp_ge M dL_clients_9 (tgt := 93) rfl (by omega) (fun b9 => ?_) (fun b9 => by omega)
    refine r_iconst M dL_clients_93 ?_
    refine r_zret MM dL_clients_94 (by omega) ?_
    exact h S' hL' h3
  · intro l hl hP S' hL' h3 c5 c6
    have hI := hL'.1.ci
    have hm := hI.mem (show l < 10 by omega)
    unfold MI at hm
    have hlc : (l : Int) < S' 0 0 3 := by omega
    have hkl := hL'.1.cl l (by omega)
    refine r_iload M dL_clients_3 rfl ?_
    refine r_aload_n M dL_clients_5 rfl ?_
    refine r_callV0 MM dL_clients_6 ck_L_14 vk_X3_members ⟨by omega, by omega, by omega⟩ ⟨by decide, by decide, rfl⟩ (by decide) (Nat.le_of_ble_eq_true rfl) (cs_members h3 ?_)
    refine r_icmp_ge M dL_clients_9 (tgt := 93) rfl (by omega) (fun b9 => by omega) (fun b9 => ?_)
    refine r_iconst M dL_clients_12 ?_
    refine r_iload_n M dL_clients_13 rfl ?_
    refine r_bipush M dL_clients_14 rfl ?_
    refine r_iload M dL_clients_16 rfl ?_
    refine r_imul M dL_clients_18 ?_
    refine r_iadd M dL_clients_19 ?_
    refine r_iconst M dL_clients_20 ?_
    refine r_ishr M dL_clients_21 (fun x21 hx21 => ?_)
    refine r_bipush M dL_clients_22 rfl ?_
    refine r_callS2 MM dL_clients_24 sl_L_55 st_L_at rfl ck_L_55 ⟨by omega, by omega, by omega⟩ (Nat.le_of_ble_eq_true rfl) (cn_at (by omega) (fun z hz => ?_))
    refine r_iadd M dL_clients_27 ?_
    refine r_istore_5 M dL_clients_28 (by decide) rfl ?_
    refine r_aload_n M dL_clients_30 rfl ?_
    refine r_iload M dL_clients_31 rfl ?_
    refine r_ialdV M (_) dL_clients_33 ⟨rfl, by decide⟩ (by decide) rfl (show (_ : Nat) < 10 by omega) (Nat.le_of_ble_eq_true rfl) (S' 4 l 6) (by exact hL'.1.rm l (by omega) hlc) ?_
    refine r_aload_n M dL_clients_34 rfl ?_
    refine r_iload M dL_clients_35 rfl ?_
    refine r_callV1 MM dL_clients_37 ck_L_48 vk_X3_clientLots ⟨by omega, by omega, by omega⟩ ⟨by decide, by decide, rfl⟩ (by decide) (Nat.le_of_ble_eq_true rfl) (cs_clientLots hI hlc rfl ?_)
    refine r_isub M dL_clients_40 ?_
    refine r_iload M dL_clients_41 rfl ?_
    refine r_isub M dL_clients_43 ?_
    refine r_istore_6 M dL_clients_44 (by decide) rfl ?_
    refine r_aload_n M dL_clients_46 rfl ?_
    refine r_iload M dL_clients_47 rfl ?_
    refine r_callV1 MM dL_clients_49 ck_L_33 vk_X3_state ⟨by omega, by omega, by omega⟩ ⟨by decide, by decide, rfl⟩ (by decide) (Nat.le_of_ble_eq_true rfl) (cs_state hI hlc rfl ?_)
    refine r_iconst M dL_clients_52 ?_
    refine r_icmp_ge M dL_clients_53 (tgt := 87) rfl (by omega) (fun b53 => ?_) (fun b53 => ?_)
    · refine r_iinc_4 M (_) dL_clients_87 rfl (by decide) rfl ?_
      refine r_goto M dL_clients_90 (tgt := 3) rfl ?_
      first | exact k_w M (by omega) (by omega) (hP S' hL' h3 _ _) | exact k_w M (by omega) (by omega) (hP _ ⟨hL'.1.take (by omega) ⟨by omega, by omega⟩, by rw [take_t _ _ _ (by omega) (by omega)]; exact hL'.2⟩ (by rw [take_t _ _ _ (by omega) (by omega)]; exact h3) _ _)
    refine r_iload M dL_clients_56 rfl ?_
    refine r_if_lt M dL_clients_58 (tgt := 87) rfl (by omega) (fun b58 => ?_) (fun b58 => ?_)
    · refine r_iinc_4 M (_) dL_clients_87 rfl (by decide) rfl ?_
      refine r_goto M dL_clients_90 (tgt := 3) rfl ?_
      first | exact k_w M (by omega) (by omega) (hP S' hL' h3 _ _) | exact k_w M (by omega) (by omega) (hP _ ⟨hL'.1.take (by omega) ⟨by omega, by omega⟩, by rw [take_t _ _ _ (by omega) (by omega)]; exact hL'.2⟩ (by rw [take_t _ _ _ (by omega) (by omega)]; exact h3) _ _)
    refine r_iload_n M dL_clients_61 rfl ?_
    refine r_iload M dL_clients_62 rfl ?_
    refine r_ishr M dL_clients_64 (fun x64 hx64 => ?_)
    refine r_iconst M dL_clients_65 ?_
    refine r_callS2 MM dL_clients_66 sl_L_55 st_L_at rfl ck_L_55 ⟨by omega, by omega, by omega⟩ (Nat.le_of_ble_eq_true rfl) (cn_at (by omega) (fun z2 hz2 => ?_))
    refine r_if_ne M dL_clients_69 (tgt := 87) rfl (by omega) (fun b69 => ?_) (fun b69 => ?_)
    · refine r_iinc_4 M (_) dL_clients_87 rfl (by decide) rfl ?_
      refine r_goto M dL_clients_90 (tgt := 3) rfl ?_
      first | exact k_w M (by omega) (by omega) (hP S' hL' h3 _ _) | exact k_w M (by omega) (by omega) (hP _ ⟨hL'.1.take (by omega) ⟨by omega, by omega⟩, by rw [take_t _ _ _ (by omega) (by omega)]; exact hL'.2⟩ (by rw [take_t _ _ _ (by omega) (by omega)]; exact h3) _ _)
    refine r_aload_n M dL_clients_72 rfl ?_
    refine r_iload M dL_clients_73 rfl ?_
    refine r_iload M dL_clients_75 rfl ?_
    refine r_callV2 MM dL_clients_77 ck_L_60 vk_X3_addClient ⟨by omega, by omega, by omega⟩ ⟨by decide, by decide, rfl⟩ (by decide) (Nat.le_of_ble_eq_true rfl) (cs_addClient hI hlc (by omega) (by unfold actv; omega) ⟨by omega, by omega⟩ (w := S' 4 l 6 - S' 4 l 2 - (1 + z)) (by omega) ?_)
    refine r_iload M dL_clients_80 rfl ?_
    refine r_icmp_eq M dL_clients_82 (tgt := 87) rfl (by omega) (fun b82 => ?_) (fun b82 => by omega)
    refine r_iinc_4 M (_) dL_clients_87 rfl (by decide) rfl ?_
    refine r_goto M dL_clients_90 (tgt := 3) rfl ?_
    first | exact k_w M (by omega) (by omega) (hP S' hL' h3 _ _) | exact k_w M (by omega) (by omega) (hP _ ⟨hL'.1.take (by omega) ⟨by omega, by omega⟩, by rw [take_t _ _ _ (by omega) (by omega)]; exact hL'.2⟩ (by rw [take_t _ _ _ (by omega) (by omega)]; exact h3) _ _)
end XClients
end
section
/-! ===== fail: the component's cells ===== -/
section FAILC
theorem fl_4 (S : St) (j i k : Nat) : flS S j 4 i k = if i = j ∧ k = 3 then 2 else if k = 12 ∧ i < cN S then S 4 i 5 else S 4 i k := by
  by_cases q : i = j ∧ k = 3
  · rw [if_pos q]
    exact if_pos ⟨rfl, q⟩
  · rw [if_neg q]
    have e : flS S j 4 i k = fS S 12 (fun i => S 4 i 5) (cN S) 4 i k := (if_neg (fun z => q z.2)).trans (if_neg (fun z => absurd z.1 (by omega)))
    rw [e]
    by_cases q2 : k = 12 ∧ i < cN S
    · rw [if_pos q2]
      exact if_pos ⟨rfl, q2⟩
    · rw [if_neg q2]
      exact if_neg (fun z => q2 z.2)
theorem fl_t {S : St} {j t : Nat} (h0 : t ≠ 0) (h4 : t ≠ 4) : flS S j t = S t := by
  unfold flS
  rw [up3_t h4, up3_t h0]
  funext a c
  exact if_neg (fun z => h4 z.1)
theorem fl_0 {S : St} {j k : Nat} : flS S j 0 0 k = if k = 7 then (j : Int) else S 0 0 k := by
  unfold flS
  rw [up3_t (by omega)]
  by_cases q : k = 7
  · rw [if_pos q, q]
    exact up3_at
  · rw [if_neg q, up3_k q]
    exact if_neg (fun z => absurd z.1 (by omega))
theorem drop_4 (S : St) (i j k : Nat) : dropS S i 4 j k = if j = i ∧ (k = 1 ∨ k = 2) then 0 else S 4 j k := by
  unfold dropS up3
  by_cases q : j = i
  · subst q
    by_cases h1 : k = 1
    · simp [h1]
    · by_cases h2 : k = 2
      · simp [h2]
      · simp [h1, h2]
  · simp [q]
theorem op_t {S : St} {Ln t : Nat} (h2 : t ≠ 2) (h7 : t ≠ 7) : opS S Ln 10 0 t = S t := by
  funext a c
  exact (if_neg (fun z => h7 z.1)).trans (by rw [up3_t h2])
theorem op_7v {S : St} {Ln i k : Nat} (hi : i < 10) : opS S Ln 10 0 7 i k = if k < Ln then -1001 else S 7 i k := by
  by_cases q : k < Ln
  · rw [if_pos q]
    exact if_pos ⟨rfl, Or.inl ⟨hi, q⟩⟩
  · rw [if_neg q]
    have e : opS S Ln 10 0 7 i k = up3 S 2 0 1 Ln 7 i k := if_neg (fun z => by omega)
    rw [e, up3_t (by omega)]
theorem fail_t {S : St} {j t : Nat} {v : Int} (hj : ¬ actv (flS S j) j) (h0 : t ≠ 0) (h2 : t ≠ 2) (h4 : t ≠ 4) (h5 : t ≠ 5) (h7 : t ≠ 7) : failS S j v t = S t := by
  unfold failS movS
  rw [op_t h2 h7]
  dsimp only
  unfold dropS
  rw [up3_t h4, up3_t h4, (mvN_keep hj _).1 t h4 h5, fl_t h0 h4]
theorem fail_0 {S : St} {j k : Nat} {v : Int} (hj : ¬ actv (flS S j) j) : failS S j v 0 0 k = if k = 7 then (j : Int) else S 0 0 k := by
  unfold failS movS
  rw [op_t (by omega) (by omega)]
  dsimp only
  unfold dropS
  rw [up3_t (by omega), up3_t (by omega), (mvN_keep hj _).1 0 (by omega) (by omega), fl_0]
theorem fail_4 {S : St} {j i k : Nat} {v : Int} : failS S j v 4 i k = if i = j ∧ (k = 1 ∨ k = 2) then 0 else (mvN (flS S j) j (flS S j 4 j 1).toNat).1 4 i k := by
  unfold failS movS
  rw [op_t (by omega) (by omega)]
  dsimp only
  rw [drop_4]
theorem fail_5 {S : St} {j : Nat} {v : Int} : failS S j v 5 = (mvN (flS S j) j (flS S j 4 j 1).toNat).1 5 := by
  unfold failS movS
  rw [op_t (by omega) (by omega)]
  dsimp only
  unfold dropS
  rw [up3_t (by omega), up3_t (by omega)]
theorem fail_2 {S : St} {j : Nat} {v : Int} : failS S j v 2 0 1 = ((min (bookN S j v) 120).toNat : Int) := opS_l _ _ _ _
theorem CI_fail {S : St} (hI : CI S) {j : Nat} (hj10 : j < 10) {v : Int} (hv : 1 ≤ v) (hj : ¬ actv (flS S j) j) : CI (failS S j v) := by
  have hM := flS_MI hI j
  have hMj := (hM j hj10).1
  have hmv := mvN_MI hj10 hM (flS S j 4 j 1).toNat (by omega)
  have hA := hI.2.2.2.2.1
  have hP := hI.2.2.2.2.2.1
  refine ⟨by rw [fail_0 hj, if_neg (by omega)]; exact hI.1, by rw [fail_0 hj, if_neg (by omega)]; exact hI.2.1, by rw [fail_0 hj, if_pos rfl]; omega, by rw [fail_0 hj, if_neg (by omega)]; exact hI.2.2.2.1, ⟨by rw [fail_2]; omega, fun i hi k hk => ?_⟩, ?_, fun i hi => ?_⟩
  · have e : failS S j v 7 i k = if k < (min (bookN S j v) 120).toNat then -1001 else (movS (flS S j) j).1 7 i k := op_7v hi
    have e2 : (movS (flS S j) j).1 7 i k = S 7 i k := by
      unfold movS
      dsimp only
      unfold dropS
      rw [up3_t (by omega), up3_t (by omega), (mvN_keep hj _).1 7 (by omega) (by omega), fl_t (by omega) (by omega)]
    rw [e, e2]
    have := hA.2 i hi k hk
    split <;> omega
  · unfold smP
    rw [fail_t hj (by omega) (by omega) (by omega) (by omega) (by omega), fail_t hj (by omega) (by omega) (by omega) (by omega) (by omega), fail_t hj (by omega) (by omega) (by omega) (by omega) (by omega)]
    exact hP
  · have h9 := hmv i hi
    unfold MI at h9 ⊢
    obtain ⟨b1, b2, b3, b4, b5, b6, b7, b8, b9, b10, b11⟩ := h9
    rw [fail_5]
    refine ⟨?_, ?_, ?_, ?_, ?_, ?_, ?_, ?_, ?_, ?_, b11⟩
    all_goals rw [fail_4]
    all_goals split
    all_goals first | assumption | omega
end FAILC
end
section
/-! ===== fail: clients are with others, or in the book ===== -/
def LF (t f : Nat) (b : Int) (S : St) : Prop := LB t S ∧ S 0 0 7 = (f : Int) ∧ (f : Int) < S 0 0 3 ∧ S 4 f 3 = 2 ∧ (∀ i, i < cN S → S 4 i 12 = S 4 i 5) ∧ S 2 0 1 = min b 120 ∧ 1 ≤ b ∧ b ≤ 1000000
section FAILS
variable {X S : St}
theorem mv1_sum (X : St) (lots : Int) : smN (fun q => (mv1 X lots).1 4 q 2) (cN X) + (mv1 X lots).2 = smN (fun q => X 4 q 2) (cN X) + lots := by
  unfold mv1
  split
  · rename_i j hj
    have hs := hostN_some hj
    have e : smN (fun q => takeS X j lots 4 q 2) (cN X) = smN (fun q => X 4 q 2) (cN X) + lots := smN_upd (j := j) hs.1 (fun k hk => by
      show takeS X j lots 4 k 2 = X 4 k 2
      rw [take_4, if_neg (fun z => hk z.1), if_neg (by omega)]) (by
      show takeS X j lots 4 j 2 = X 4 j 2 + lots
      rw [take_4, if_pos ⟨rfl, rfl⟩])
    show smN (fun q => takeS X j lots 4 q 2) (cN X) + 0 = _
    omega
  · rfl
theorem mvN_sum {i : Nat} (hi : ¬ actv X i) : ∀ k, smN (fun q => (mvN X i k).1 4 q 2) (cN X) + (mvN X i k).2 = smN (fun q => X 4 q 2) (cN X) + smN (X 5 i) k
  | 0 => rfl
  | k + 1 => by
    have ih := mvN_sum hi k
    have hk := mvN_keep hi k
    have hn : cN (mvN X i k).1 = cN X := by
      unfold cN
      rw [hk.1 0 (by omega) (by omega)]
    have h1 := mv1_sum (mvN X i k).1 (X 5 i k)
    rw [hn] at h1
    show smN (fun q => (mv1 (mvN X i k).1 (X 5 i k)).1 4 q 2) (cN X) + ((mvN X i k).2 + (mv1 (mvN X i k).1 (X 5 i k)).2) = _ + (smN (X 5 i) k + X 5 i k)
    omega
theorem mvN_CL {i : Nat} (hi : ¬ actv X i) (hi10 : i < 10) (hM : ∀ i, i < 10 → MI X i) (hc : CL X) : ∀ k : Nat, (k : Int) ≤ X 4 i 1 → CL (mvN X i k).1
  | 0, _ => hc
  | k + 1, hk => by
    have ih := mvN_CL hi hi10 hM hc k (by omega)
    have hl := (hc i hi10).2.2 k (by omega)
    have hmi := hM i hi10
    unfold MI at hmi
    have hMk := mvN_MI hi10 hM k (by omega)
    show CL (mv1 (mvN X i k).1 (X 5 i k)).1
    unfold mv1
    split
    · exact fun q hq => CL_take1 (by have := hMk q hq; unfold MI at this; omega) (ih q hq) hl
    · exact ih
theorem fl_na (S : St) (j : Nat) : ¬ actv (flS S j) j := fun q => by
  have e : flS S j 4 j 3 = 2 := by rw [fl_4, if_pos ⟨rfl, rfl⟩]
  unfold actv at q
  omega
theorem fl_CL (hc : CL S) (j : Nat) : CL (flS S j) := fun i hi => by
  have e : ∀ k, k ≠ 3 → k ≠ 12 → flS S j 4 i k = S 4 i k := fun k a b => by rw [fl_4, if_neg (fun z => a z.2), if_neg (fun z => b z.1)]
  rw [e 1 (by omega) (by omega), e 2 (by omega) (by omega), fl_t (by omega) (by omega)]
  exact hc i hi
theorem fail_k {j : Nat} {v : Int} {i k : Nat} (h1 : k ≠ 1) (h2 : k ≠ 2) : failS S j v 4 i k = flS S j 4 i k := by
  rw [fail_4, if_neg (by omega)]
  exact (mvN_keep (fl_na S j) _).2.1 i k h1 h2
theorem fail_LF {t : Nat} (h : LB t S) {j : Nat} (hj : j < 10) (hjc : (j : Int) < S 0 0 3) {v : Int} (hv : 1 ≤ v ∧ v ≤ 20) : LF t j (bookN S j v) (failS S j v) ∧ v ≤ bookN S j v ∧ smN (fun i => failS S j v 4 i 2) (cN S) + (bookN S j v - v) = smN (fun i => S 4 i 2) (cN S) ∧ failS S j v 4 j 2 = 0 := by
  have hna := fl_na S j
  have hI := h.ci
  have hM := flS_MI hI j
  have hMj := hM j hj
  unfold MI at hMj
  have hcl := fl_CL h.cl j
  have e1 : (((flS S j 4 j 1).toNat : Nat) : Int) = flS S j 4 j 1 := by omega
  have hmc := mvN_CL hna hj hM hcl (flS S j 4 j 1).toNat (by omega)
  have hms := mvN_sum hna (flS S j 4 j 1).toNat
  have hmr := mvN_rng hj hM (flS S j 4 j 1).toNat (by omega)
  have hmk := mvN_keep hna (flS S j 4 j 1).toNat
  have hn : cN (flS S j) = cN S := by
    unfold cN
    rw [fl_0, if_neg (by omega)]
  have hc9 := hI.cnt
  have hjn : j < cN S := by unfold cN; omega
  have eb : bookN S j v = v + (mvN (flS S j) j (flS S j 4 j 1).toNat).2 := rfl
  have e2 : ∀ i k, k ≠ 3 → k ≠ 12 → flS S j 4 i k = S 4 i k := fun i k a b => by rw [fl_4, if_neg (fun z => a z.2), if_neg (fun z => b z.1)]
  have hs1 : smN (flS S j 5 j) (flS S j 4 j 1).toNat = S 4 j 2 := by rw [(hcl j hj).2.1, e2 j 2 (by omega) (by omega)]
  have hs2 : smN (fun q => flS S j 4 q 2) (cN S) = smN (fun q => S 4 q 2) (cN S) := smN_cong (fun q _ => e2 q 2 (by omega) (by omega))
  have hs3 : smN (fun q => (mvN (flS S j) j (flS S j 4 j 1).toNat).1 4 q 2) (cN S) = smN (fun i => failS S j v 4 i 2) (cN S) + S 4 j 2 := smN_upd (j := j) hjn (fun k hk => by
    show (mvN (flS S j) j (flS S j 4 j 1).toNat).1 4 k 2 = failS S j v 4 k 2
    rw [fail_4, if_neg (fun z => hk z.1)]) (by
    show (mvN (flS S j) j (flS S j 4 j 1).toNat).1 4 j 2 = failS S j v 4 j 2 + S 4 j 2
    rw [fail_4, if_pos ⟨rfl, Or.inr rfl⟩, hmk.2.2.1 2, e2 j 2 (by omega) (by omega)]
    omega)
  rw [hn, hs1, hs2, hs3] at hms
  have hc0 : (∀ k, k ≠ 7 → failS S j v 0 0 k = S 0 0 k) := fun k hk => by rw [fail_0 hna, if_neg hk]
  have hcn : cN (failS S j v) = cN S := by
    unfold cN
    rw [hc0 3 (by omega)]
  refine ⟨⟨⟨CI_fail hI hj hv.1 hna, fun i hi => ?_, Z8_cong h.z8 (fail_t hna (by omega) (by omega) (by omega) (by omega) (by omega)) (hc0 3 (by omega)), fun k hk hc => ?_, fun i hi => ?_, ?_⟩, ?_, ?_, ?_, fun i hi => ?_, ?_, by omega, by omega⟩, by omega, by omega, ?_⟩
  · by_cases q : i = j
    · subst q
      rw [fail_4, if_pos ⟨rfl, Or.inl rfl⟩, fail_4, if_pos ⟨rfl, Or.inr rfl⟩]
      exact ⟨Int.le_refl _, rfl, fun k hk => by omega⟩
    · rw [fail_4, if_neg (fun z => q z.1), fail_4, if_neg (fun z => q z.1), fail_5]
      exact hmc i hi
  · rw [hc0 3 (by omega)] at hc
    rw [fail_t hna (by omega) (by omega) (by omega) (by omega) (by omega), fail_k (by omega) (by omega), e2 k 6 (by omega) (by omega)]
    exact h.rm k hk hc
  · rw [fail_k (by omega) (by omega), e2 i 10 (by omega) (by omega)]
    exact h.bd.1 i hi
  · rw [hc0 6 (by omega)]
    exact h.bd.2
  · rw [fail_0 hna, if_pos rfl]
  · rw [hc0 3 (by omega)]
    exact hjc
  · rw [fail_k (by omega) (by omega), fl_4, if_pos ⟨rfl, rfl⟩]
  · rw [hcn] at hi
    rw [fail_k (by omega) (by omega), fail_k (by omega) (by omega), e2 i 5 (by omega) (by omega), fl_4, if_neg (by omega), if_pos ⟨rfl, hi⟩]
  · rw [fail_2]
    omega
  · rw [fail_4, if_pos ⟨rfl, Or.inr rfl⟩]
end FAILS
section XFails
variable {g : Gl} {S : St} {Ret : Option AV → St → Prop} {Thr : String → St → Prop} {t : Nat}
theorem cs_fail {l : Nat} {v : Int} (hI : CI S) (hl : (l : Int) < S 0 0 3) (hv : 1 ≤ v ∧ v ≤ 20) (ha : actv S l) (h7 : S 0 0 7 = -1) (h : Ret (some (vI (bookN S l v))) (failS S l v)) : Cn g yX3_fail cX3_fail 5 (some .int) 7 112 4 [vR 0 0, vI (l : Int), vI v] S Ret Thr := by
  have hc := hI.cnt
  refine cn_fail (by omega) (by omega) hI (fun j ej hj hjc q2 qa q7 => ?_) (fun q => absurd ⟨by omega, hl⟩ q) (fun _ q => absurd hv q) (fun j ej hj hjc q2 q => ?_)
  · have e : j = l := by omega
    subst e
    exact h
  · have e : j = l := by omega
    subst e
    exact absurd ⟨ha, h7⟩ q
theorem cn_fails {j : Nat} {v : Int} (hL : LI t S) (hjc : (j : Int) < S 0 0 3) (hv : 1 ≤ v ∧ v ≤ 20) (ha : actv S j) (h : ∀ b S', LF t j b S' → (∀ i, i < 10 → ∀ l : Nat, (l : Int) < S' 2 0 1 → S' 7 i l = -1001) → S' 0 0 3 = S 0 0 3 → Ret (some (vI b)) S') : Cn g yL_fails cL_fails 7 (some .int) 8 136 30 [vR 0 0, vI (j : Int), vI v] S Ret Thr := by
  refine enter (L := [some (vR 0 0), some (vI (j : Int)), some (vI v), none, none, none, none]) (by decide +kernel) (Nat.le_of_ble_eq_true rfl) rfl (fun K MM => ?_)
  have M := MM.mk
  have hI := hL.1.ci
  have hcl := cN_le hI
  have hce := cN_eq hI
  have hf := fail_LF hL.1 (show j < 10 by omega) hjc hv
  have hF := hf.1
  have hIf := hF.1.ci
  have hbr := hF.2.2.2.2.2.2
  have hs2 := smN_nn (f := fun i => S 4 i 2) (B := 100) (m := cN S) (fun k hk => (hI.mem (show k < 10 by omega)).2.1)
  have hs3 := smN_nn (f := fun i => failS S j v 4 i 2) (B := 100) (m := cN S) (fun k hk => (hIf.mem (show k < 10 by omega)).2.1)
  have h3 : failS S j v 0 0 3 = S 0 0 3 := by rw [fail_0 (fl_na S j), if_neg (by omega)]
  have hB7 : ∀ i, i < 10 → ∀ l : Nat, (l : Int) < failS S j v 2 0 1 → failS S j v 7 i l = -1001 := fun i hi l hl => by
    rw [fail_2] at hl
    have e : failS S j v 7 i l = if l < (min (bookN S j v) 120).toNat then -1001 else (movS (flS S j) j).1 7 i l := op_7v hi
    rw [e, if_pos (by omega)]
  have hgo : Ret (some (vI (bookN S j v))) (failS S j v) := h _ _ hF hB7 h3
  refine r_iconst M dL_fails_0 ?_
  refine r_istore_3 M dL_fails_1 (by decide) rfl ?_
  refine r_iconst M dL_fails_2 ?_
  refine r_istore_4 M dL_fails_3 (by decide) rfl ?_
  refine fz (P := fun l => K l 5 [some (vR 0 0), some (vI (j : Int)), some (vI v), some (vI (smN (fun i => S 4 i 2) l)), some (vI (l : Int)), none, none] [] S) (m := cN S) ?_ ?_
  · refine r_iload M dL_fails_5 rfl ?_
    refine r_aload_n M dL_fails_7 rfl ?_
    refine r_callV0 MM dL_fails_8 ck_L_14 vk_X3_members ⟨by omega, by omega, by omega⟩ ⟨by decide, by decide, rfl⟩ (by decide) (Nat.le_of_ble_eq_true rfl) (cn_members ?_)
    refine r_icmp_ge M dL_fails_11 (tgt := 29) rfl (by omega) (fun b11 => ?_) (fun b11 => by omega)
    refine r_aload_n M dL_fails_29 rfl ?_
    refine r_iload_n M dL_fails_30 rfl ?_
    refine r_iload_n M dL_fails_31 rfl ?_
    refine r_callV2 MM dL_fails_32 ck_L_51 vk_X3_fail ⟨by omega, by omega, by omega⟩ ⟨by decide, by decide, rfl⟩ (by decide) (Nat.le_of_ble_eq_true rfl) (cs_fail hI hjc hv ha hL.2 ?_)
    refine r_istore_4 M dL_fails_35 (by decide) rfl ?_
    refine r_iconst M dL_fails_37 ?_
    refine r_istore_5 M dL_fails_38 (by decide) rfl ?_
    refine r_iconst M dL_fails_40 ?_
    refine r_istore_6 M dL_fails_41 (by decide) rfl ?_
    refine k_w M (n2 := 14 + 0) (by omega) (by omega) ?_
    refine fz (P := fun l => K (14 + l) 43 [some (vR 0 0), some (vI (j : Int)), some (vI v), some (vI (smN (fun i => S 4 i 2) (cN S))), some (vI (bookN S j v)), some (vI (smN (fun i => failS S j v 4 i 2) l)), some (vI (l : Int))] [] (failS S j v)) (m := cN S) ?_ ?_
    · refine r_iload M dL_fails_43 rfl ?_
      refine r_aload_n M dL_fails_45 rfl ?_
      refine r_callV0 MM dL_fails_46 ck_L_14 vk_X3_members ⟨by omega, by omega, by omega⟩ ⟨by decide, by decide, rfl⟩ (by decide) (Nat.le_of_ble_eq_true rfl) (cs_members h3 ?_)
      refine r_icmp_ge M dL_fails_49 (tgt := 69) rfl (by omega) (fun b49 => ?_) (fun b49 => by omega)
      refine r_iload M dL_fails_69 rfl ?_
      refine r_iload_n M dL_fails_71 rfl ?_
      refine r_icmp_lt M dL_fails_72 (tgt := 111) rfl (by omega) (fun b72 => by omega) (fun b72 => ?_)
      refine r_iload_n M dL_fails_75 rfl ?_
      refine r_iload M dL_fails_76 rfl ?_
      refine r_isub M dL_fails_78 ?_
      refine r_iload M dL_fails_79 rfl ?_
      refine r_iload_n M dL_fails_81 rfl ?_
      refine r_isub M dL_fails_82 ?_
      refine r_icmp_ne M dL_fails_83 (tgt := 111) rfl (by omega) (fun b83 => by omega) (fun b83 => ?_)
      refine r_aload_n M dL_fails_86 rfl ?_
      refine r_iload_n M dL_fails_87 rfl ?_
      refine r_callV1 MM dL_fails_88 ck_L_48 vk_X3_clientLots ⟨by omega, by omega, by omega⟩ ⟨by decide, by decide, rfl⟩ (by decide) (Nat.le_of_ble_eq_true rfl) (cs_clientLots hIf (by omega) hf.2.2.2 ?_)
      refine r_if_ne M dL_fails_91 (tgt := 111) rfl (by omega) (fun b91 => by omega) (fun b91 => ?_)
      refine r_aload_n M dL_fails_94 rfl ?_
      refine r_callV0 MM dL_fails_95 ck_L_27 vk_X3_failing ⟨by omega, by omega, by omega⟩ ⟨by decide, by decide, rfl⟩ (by decide) (Nat.le_of_ble_eq_true rfl) (cs_failing hF.2.1 ?_)
      refine r_iload_n M dL_fails_98 rfl ?_
      refine r_icmp_ne M dL_fails_99 (tgt := 111) rfl (by omega) (fun b99 => by omega) (fun b99 => ?_)
      refine r_aload_n M dL_fails_102 rfl ?_
      refine r_iload_n M dL_fails_103 rfl ?_
      refine r_callV1 MM dL_fails_104 ck_L_33 vk_X3_state ⟨by omega, by omega, by omega⟩ ⟨by decide, by decide, rfl⟩ (by decide) (Nat.le_of_ble_eq_true rfl) (cs_state hIf (by omega) hF.2.2.2.1 ?_)
      refine r_iconst M dL_fails_107 ?_
      refine r_icmp_eq M dL_fails_108 (tgt := 113) rfl (by omega) (fun b108 => ?_) (fun b108 => by omega)
      refine r_iload M dL_fails_113 rfl ?_
      refine r_iret MM dL_fails_115 ?_
      exact hgo
    · intro l hl hP
      refine r_iload M dL_fails_43 rfl ?_
      refine r_aload_n M dL_fails_45 rfl ?_
      refine r_callV0 MM dL_fails_46 ck_L_14 vk_X3_members ⟨by omega, by omega, by omega⟩ ⟨by decide, by decide, rfl⟩ (by decide) (Nat.le_of_ble_eq_true rfl) (cs_members h3 ?_)
      refine r_icmp_ge M dL_fails_49 (tgt := 69) rfl (by omega) (fun b49 => by omega) (fun b49 => ?_)
      refine r_iload M dL_fails_52 rfl ?_
      refine r_aload_n M dL_fails_54 rfl ?_
      refine r_iload M dL_fails_55 rfl ?_
      refine r_callV1 MM dL_fails_57 ck_L_48 vk_X3_clientLots ⟨by omega, by omega, by omega⟩ ⟨by decide, by decide, rfl⟩ (by decide) (Nat.le_of_ble_eq_true rfl) (cs_clientLots hIf (by omega) rfl ?_)
      refine r_iadd M dL_fails_60 ?_
      refine r_istore_5 M dL_fails_61 (by decide) rfl ?_
      refine r_iinc_6 M (_) dL_fails_63 rfl (by decide) rfl ?_
      refine r_goto M dL_fails_66 (tgt := 43) rfl ?_
      exact k_w M (by omega) (by omega) hP
  · intro l hl hP
    refine r_iload M dL_fails_5 rfl ?_
    refine r_aload_n M dL_fails_7 rfl ?_
    refine r_callV0 MM dL_fails_8 ck_L_14 vk_X3_members ⟨by omega, by omega, by omega⟩ ⟨by decide, by decide, rfl⟩ (by decide) (Nat.le_of_ble_eq_true rfl) (cn_members ?_)
    refine r_icmp_ge M dL_fails_11 (tgt := 29) rfl (by omega) (fun b11 => by omega) (fun b11 => ?_)
    refine r_iload_n M dL_fails_14 rfl ?_
    refine r_aload_n M dL_fails_15 rfl ?_
    refine r_iload M dL_fails_16 rfl ?_
    refine r_callV1 MM dL_fails_18 ck_L_48 vk_X3_clientLots ⟨by omega, by omega, by omega⟩ ⟨by decide, by decide, rfl⟩ (by decide) (Nat.le_of_ble_eq_true rfl) (cs_clientLots hI (by omega) rfl ?_)
    refine r_iadd M dL_fails_21 ?_
    refine r_istore_3 M dL_fails_22 (by decide) rfl ?_
    refine r_iinc_4 M (_) dL_fails_23 rfl (by decide) rfl ?_
    refine r_goto M dL_fails_26 (tgt := 5) rfl ?_
    exact k_w M (by omega) (by omega) hP
end XFails
end
section
/-! ===== bids ===== -/
section BIDS
variable {t f : Nat} {b : Int} {S : St}
theorem CI_bid (hI : CI S) (i l : Nat) {v : Int} (hv : -1000 ≤ v ∧ v ≤ 1000) : CI (up3 S 7 i l v) := by
  obtain ⟨a1, a2, a3, a4, a5, a6, a7⟩ := hI
  refine ⟨a1, a2, a3, a4, ⟨a5.1, fun i' hi k hk => ?_⟩, a6, a7⟩
  have h := a5.2 i' hi k hk
  show -1001 ≤ (if 7 = 7 ∧ i' = i ∧ k = l then v else S 7 i' k) ∧ (if 7 = 7 ∧ i' = i ∧ k = l then v else S 7 i' k) ≤ 1000
  split <;> omega
theorem LF.bid (h : LF t f b S) (i l : Nat) {v : Int} (hv : -1000 ≤ v ∧ v ≤ 1000) : LF t f b (up3 S 7 i l v) := by
  obtain ⟨hB, h1, h2, h3, h4, h5, h6⟩ := h
  have e : ∀ t', t' ≠ 7 → up3 S 7 i l v t' = S t' := fun t' q => up3_t q
  refine ⟨hB.gen (CI_bid hB.ci i l hv) (by rw [e 0 (by omega)]) (e 5 (by omega)) (fun i => by rw [e 4 (by omega)]; exact ⟨rfl, rfl, rfl, rfl⟩) (Z8_cong hB.z8 (e 8 (by omega)) (by rw [e 0 (by omega)])) (e 12 (by omega)) (by rw [e 0 (by omega)]), by rw [e 0 (by omega)]; exact h1, by rw [e 0 (by omega)]; exact h2, by rw [e 4 (by omega)]; exact h3, fun i' hi => ?_, by rw [e 2 (by omega)]; exact h5, h6⟩
  have hn : cN (up3 S 7 i l v) = cN S := by
    unfold cN
    rw [e 0 (by omega)]
  rw [hn] at hi
  rw [e 4 (by omega)]
  exact h4 i' hi
end BIDS
section XBids
variable {g : Gl} {S : St} {Ret : Option AV → St → Prop} {Thr : String → St → Prop} {t f : Nat} {b : Int}
theorem cs_bid {m lot : Nat} {v : Int} (hI : CI S) (hm : (m : Int) < S 0 0 3) (hlot : (lot : Int) < S 2 0 1) (h7 : S 0 0 7 ≠ -1) (hv : -1000 ≤ v ∧ v ≤ 1000) (ha : actv S m) (hb : S 7 m lot = -1001) (h : Ret none (up3 S 7 m lot v)) : Cn g yX3_bid cX3_bid 5 none 7 112 5 [vR 0 0, vI (m : Int), vI (lot : Int), vI v] S Ret Thr := by
  have hc := hI.cnt
  have hA := hI.2.2.2.2.1.1
  refine cn_bid (by omega) (by omega) (by omega) hI (fun j l ej el hj hl hjc q7 hlc q2 qa qb => ?_) (fun q => absurd ⟨⟨by omega, hm⟩, h7, by omega, hlot⟩ q) (fun _ q => absurd hv q) (fun j l ej el hj hl hjc q7 hlc q2 q => ?_)
  · have e : j = m := by omega
    have e2 : l = lot := by omega
    subst e; subst e2
    exact h
  · have e : j = m := by omega
    have e2 : l = lot := by omega
    subst e; subst e2
    exact absurd ⟨ha, hb⟩ q
theorem cn_bids {x y : Int} (hL : LF t f b S) (hB : ∀ i, i < 10 → ∀ l : Nat, (l : Int) < S 2 0 1 → S 7 i l = -1001) (h : ∀ S', LF t f b S' → S' 0 0 3 = S 0 0 3 → Ret none S') : Cn g yL_bids cL_bids 6 none 8 136 610 [vR 0 0, vI b, vI x, vI y] S Ret Thr := by
  refine enter (L := [some (vR 0 0), some (vI b), some (vI x), some (vI y), none, none]) (by decide +kernel) (Nat.le_of_ble_eq_true rfl) rfl (fun K MM => ?_)
  have M := MM.mk
  have hcl := cN_le hL.1.ci
  have hce := cN_eq hL.1.ci
  have hbr := hL.2.2.2.2.2.2
  refine r_iconst M dL_bids_0 ?_
  refine r_istore_4 M dL_bids_1 (by decide) rfl ?_
  refine fz (P := fun k => ∀ S', LF t f b S' → S' 0 0 3 = S 0 0 3 → (∀ i, i < 10 → k ≤ i → ∀ l : Nat, (l : Int) < S' 2 0 1 → S' 7 i l = -1001) → ∀ c5, K (61 * k) 3 [some (vR 0 0), some (vI b), some (vI x), some (vI y), some (vI (k : Int)), c5] [] S') (m := cN S) ?_ ?_ S hL rfl (fun i hi _ => hB i hi) _
  · intro S' hL' h3 _ c5
    refine r_iload M dL_bids_3 rfl ?_
    refine r_aload_n M dL_bids_5 rfl ?_
    refine r_callV0 MM dL_bids_6 ck_L_14 vk_X3_members ⟨by omega, by omega, by omega⟩ ⟨by decide, by decide, rfl⟩ (by decide) (Nat.le_of_ble_eq_true rfl) (cs_members h3 ?_)
    refine r_icmp_ge M dL_bids_9 (tgt := 105) rfl (by omega) (fun b9 => ?_) (fun b9 => by omega)
    refine r_vret MM dL_bids_105 ?_
    exact h S' hL' h3
  · intro k hk hP S' hL' h3 hu c5
    have hI := hL'.1.ci
    have hm := hI.mem (show k < 10 by omega)
    unfold MI at hm
    have hkc : (k : Int) < S' 0 0 3 := by omega
    refine r_iload M dL_bids_3 rfl ?_
    refine r_aload_n M dL_bids_5 rfl ?_
    refine r_callV0 MM dL_bids_6 ck_L_14 vk_X3_members ⟨by omega, by omega, by omega⟩ ⟨by decide, by decide, rfl⟩ (by decide) (Nat.le_of_ble_eq_true rfl) (cs_members h3 ?_)
    refine r_icmp_ge M dL_bids_9 (tgt := 105) rfl (by omega) (fun b9 => by omega) (fun b9 => ?_)
    refine r_aload_n M dL_bids_12 rfl ?_
    refine r_iload M dL_bids_13 rfl ?_
    refine r_callV1 MM dL_bids_15 ck_L_33 vk_X3_state ⟨by omega, by omega, by omega⟩ ⟨by decide, by decide, rfl⟩ (by decide) (Nat.le_of_ble_eq_true rfl) (cs_state hI hkc rfl ?_)
    refine r_iconst M dL_bids_18 ?_
    refine r_icmp_le M dL_bids_19 (tgt := 25) rfl (by omega) (fun b19 => ?_) (fun b19 => ?_)
    rotate_left
    · refine r_goto M dL_bids_22 (tgt := 99) rfl ?_
      refine r_iinc_4 M (_) dL_bids_99 rfl (by decide) rfl ?_
      refine r_goto M dL_bids_102 (tgt := 3) rfl ?_
      exact k_w M (by omega) (by omega) (hP S' hL' h3 (fun i hi hik => hu i hi (by omega)) _)
    refine r_iconst M dL_bids_25 ?_
    refine r_istore_5 M dL_bids_26 (by decide) rfl ?_
    refine k_w M (n2 := 61 * k + 1 + 5 * 0) (by omega) (by omega) ?_
    refine fz (P := fun l => ∀ S', LF t f b S' → S' 0 0 3 = S 0 0 3 → (∀ i, i < 10 → k + 1 ≤ i → ∀ l : Nat, (l : Int) < S' 2 0 1 → S' 7 i l = -1001) → (∀ l' : Nat, l ≤ l' → (l' : Int) < S' 2 0 1 → S' 7 k l' = -1001) → S' 4 k 3 ≤ 1 → K (61 * k + 1 + 5 * l) 28 [some (vR 0 0), some (vI b), some (vI x), some (vI y), some (vI (k : Int)), some (vI (l : Int))] [] S') (m := 12) ?_ ?_ S' hL' h3 (fun i hi hik => hu i hi (by omega)) (fun l' _ hl' => hu k (by omega) (Nat.le_refl _) l' hl') (by omega)
    · intro S2 hL2 h32 hu2 hv2 ha2
      refine r_iload M dL_bids_28 rfl ?_
      refine r_iload_n M dL_bids_30 rfl ?_
      refine r_icmp_ge M dL_bids_31 (tgt := 99) rfl (by omega) (fun b31 => ?_) (fun b31 => ?_)
      · refine r_iinc_4 M (_) dL_bids_99 rfl (by decide) rfl ?_
        refine r_goto M dL_bids_102 (tgt := 3) rfl ?_
        exact k_w M (by omega) (by omega) (hP S2 hL2 h32 hu2 _)
      refine r_iload M dL_bids_34 rfl ?_
      refine r_bipush M dL_bids_36 rfl ?_
      refine r_icmp_ge M dL_bids_38 (tgt := 99) rfl (by omega) (fun b38 => ?_) (fun b38 => by omega)
      refine r_iinc_4 M (_) dL_bids_99 rfl (by decide) rfl ?_
      refine r_goto M dL_bids_102 (tgt := 3) rfl ?_
      exact k_w M (by omega) (by omega) (hP S2 hL2 h32 hu2 _)
    · intro l hl hQ S2 hL2 h32 hu2 hv2 ha2
      have hI2 := hL2.1.ci
      have hm2 := hI2.mem (show k < 10 by omega)
      unfold MI at hm2
      have h5 := hL2.2.2.2.2.2.1
      have hu7 := hL2.2.1
      refine r_iload M dL_bids_28 rfl ?_
      refine r_iload_n M dL_bids_30 rfl ?_
      refine r_icmp_ge M dL_bids_31 (tgt := 99) rfl (by omega) (fun b31 => ?_) (fun b31 => ?_)
      · refine r_iinc_4 M (_) dL_bids_99 rfl (by decide) rfl ?_
        refine r_goto M dL_bids_102 (tgt := 3) rfl ?_
        exact k_w M (by omega) (by omega) (hP S2 hL2 h32 hu2 _)
      refine r_iload M dL_bids_34 rfl ?_
      refine r_bipush M dL_bids_36 rfl ?_
      refine r_icmp_ge M dL_bids_38 (tgt := 99) rfl (by omega) (fun b38 => by omega) (fun b38 => ?_)
      refine r_iload_n M dL_bids_41 rfl ?_
      refine r_iload M dL_bids_42 rfl ?_
      refine r_iload M dL_bids_44 rfl ?_
      refine r_iconst M dL_bids_46 ?_
      refine r_irem M dL_bids_47 (by omega) (fun x47 hx47 => ?_)
      refine r_iadd M dL_bids_48 ?_
      refine r_ishr M dL_bids_49 (fun x49 hx49 => ?_)
      refine r_iconst M dL_bids_50 ?_
      refine r_callS2 MM dL_bids_51 sl_L_55 st_L_at rfl ck_L_55 ⟨by omega, by omega, by omega⟩ (Nat.le_of_ble_eq_true rfl) (cn_at (by omega) (fun z hz => ?_))
      refine r_if_le M dL_bids_54 (tgt := 93) rfl (by omega) (fun b54 => ?_) (fun b54 => ?_)
      · refine r_iinc_5 M (_) dL_bids_93 rfl (by decide) rfl ?_
        refine r_goto M dL_bids_96 (tgt := 28) rfl ?_
        first | exact k_w M (by omega) (by omega) (hQ S2 hL2 h32 hu2 (fun l' q => hv2 l' (by omega)) ha2) | exact k_w M (by omega) (by omega) (hQ _ (hL2.bid k l (by omega)) h32 (fun i hi hik l' hl' => (if_neg (fun q => by omega)).trans (hu2 i hi hik l' hl')) (fun l' q hl' => (if_neg (fun q => by omega)).trans (hv2 l' (by omega) hl')) ha2)
      refine r_aload_n M dL_bids_57 rfl ?_
      refine r_iload M dL_bids_58 rfl ?_
      refine r_iload M dL_bids_60 rfl ?_
      refine r_iload_n M dL_bids_62 rfl ?_
      refine r_bipush M dL_bids_63 rfl ?_
      refine r_iload M dL_bids_65 rfl ?_
      refine r_imul M dL_bids_67 ?_
      refine r_iadd M dL_bids_68 ?_
      refine r_bipush M dL_bids_69 rfl ?_
      refine r_iload M dL_bids_71 rfl ?_
      refine r_imul M dL_bids_73 ?_
      refine r_iadd M dL_bids_74 ?_
      refine r_iload M dL_bids_75 rfl ?_
      refine r_iconst M dL_bids_77 ?_
      refine r_irem M dL_bids_78 (by omega) (fun x78 hx78 => ?_)
      refine r_ishr M dL_bids_79 (fun x79 hx79 => ?_)
      refine r_sipush M dL_bids_80 rfl ?_
      refine r_callS2 MM dL_bids_83 sl_L_55 st_L_at rfl ck_L_55 ⟨by omega, by omega, by omega⟩ (Nat.le_of_ble_eq_true rfl) (cn_at (by omega) (fun z2 hz2 => ?_))
      refine r_sipush M dL_bids_86 rfl ?_
      refine r_isub M dL_bids_89 ?_
      refine r_callV3 MM dL_bids_90 ck_L_70 vk_X3_bid ⟨by omega, by omega, by omega⟩ ⟨by decide, by decide, rfl⟩ (by decide) (Nat.le_of_ble_eq_true rfl) (cs_bid hI2 (by omega) (by omega) (by omega) (by omega) (by unfold actv; omega) (hv2 l (Nat.le_refl _) (by omega)) ?_)
      refine r_iinc_5 M (_) dL_bids_93 rfl (by decide) rfl ?_
      refine r_goto M dL_bids_96 (tgt := 28) rfl ?_
      first | exact k_w M (by omega) (by omega) (hQ S2 hL2 h32 hu2 (fun l' q => hv2 l' (by omega)) ha2) | exact k_w M (by omega) (by omega) (hQ _ (hL2.bid k l (by omega)) h32 (fun i hi hik l' hl' => (if_neg (fun q => by omega)).trans (hu2 i hi hik l' hl')) (fun l' q hl' => (if_neg (fun q => by omega)).trans (hv2 l' (by omega) hl')) ha2)
end XBids
end
section
/-! ===== close: what each stage eats ===== -/
section STAGE
variable {X : St} {a : Int}
theorem sh_all (hI : CI X) (hZ : Z8 X) (ha : 0 ≤ a ∧ a ≤ 100000000) (jj : Int) : ∃ P : Nat → Int, (CI (eaSh X a jj).1 ∧ Z8 (eaSh X a jj).1 ∧ cN (eaSh X a jj).1 = cN X) ∧ (∀ i, i < cN X → (eaSh X a jj).1 4 i 5 = X 4 i 5 - P i) ∧ (∀ i k, k ≠ 5 → (eaSh X a jj).1 4 i k = X 4 i k) ∧ (∀ k, (eaSh X a jj).1 0 0 k = X 0 0 k) ∧
    (∀ i, i < cN X → (0 ≤ P i ∧ P i ≤ X 4 i 5) ∧ (¬ (actv X i ∧ X 4 i 9 = jj) → P i = 0) ∧ (0 < (eaSh X a jj).2 → actv X i ∧ X 4 i 9 = jj → P i = X 4 i 5)) ∧ smN P (cN X) + (eaSh X a jj).2 = a ∧ 0 ≤ (eaSh X a jj).2 ∧ (eaSh X a jj).2 ≤ a := by
  have hw := shW_ok hI jj
  have hr := prS_rng hI hw ha
  have hs := prS_sum hI hZ hw ha
  refine ⟨(prS X (shW X jj) (fun i => X 4 i 5) a).1, ⟨(CI_eaSh hI ha jj).1, Z8_eat hZ _ _ _ _ _, rfl⟩, fun i hi => ?_, fun i k hk => eaSh_k hk, fun k => rfl, fun i hi => ⟨hr.1 i hi, fun q => prS_zero hI hw ha hi (by unfold shW; rw [if_neg q]), fun hl q => ?_⟩, hs, hr.2⟩
  · exact (eat_4 X (shW X jj) (fun i => X 4 i 5) a 5 (fun i => X 4 i 5 - (prS X (shW X jj) (fun i => X 4 i 5) a).1 i) i 5).trans (if_pos ⟨rfl, hi⟩)
  · have ew : shW X jj i = X 4 i 5 := by unfold shW; rw [if_pos q]
    have h1 := hr.1 i hi
    by_cases q0 : 0 < X 4 i 5
    · exact prS_full hI hw ha hl hi (by rw [ew]; exact q0)
    · have h2 : (prS X (shW X jj) (fun i => X 4 i 5) a).1 i ≤ X 4 i 5 := h1.2
      omega
theorem as_all (hI : CI X) (hZ : Z8 X) (ha : 0 ≤ a ∧ a ≤ 100000000) : ∃ P : Nat → Int, (CI (eaAs X a).1 ∧ Z8 (eaAs X a).1 ∧ cN (eaAs X a).1 = cN X) ∧ (∀ i, i < cN X → (eaAs X a).1 4 i 10 = X 4 i 10 + P i) ∧ (∀ i k, k ≠ 10 → (eaAs X a).1 4 i k = X 4 i k) ∧ (∀ k, (eaAs X a).1 0 0 k = X 0 0 k) ∧
    (∀ i, i < cN X → 0 ≤ P i ∧ P i ≤ X 4 i 12 ∧ (X 4 i 3 = 1 → P i ≤ X 4 i 12 / 2) ∧ (¬ actv X i → P i = 0)) ∧ smN P (cN X) + (eaAs X a).2 = a ∧ 0 ≤ (eaAs X a).2 ∧ (eaAs X a).2 ≤ a := by
  have hw := asW_ok hI
  have hr := prS_rng hI hw ha
  have hs := prS_sum hI hZ hw ha
  have hcl := cN_le hI
  refine ⟨(prS X (asW X) (asB X) a).1, ⟨(CI_eaAs hI ha).1, Z8_eat hZ _ _ _ _ _, rfl⟩, fun i hi => ?_, fun i k hk => eaAs_k hk, fun k => rfl, fun i hi => ?_, hs, hr.2⟩
  · exact (eat_4 X (asW X) (asB X) a 10 (fun i => X 4 i 10 + (prS X (asW X) (asB X) a).1 i) i 10).trans (if_pos ⟨rfl, hi⟩)
  · have h1 := hr.1 i hi
    have hm := hI.mem (show i < 10 by omega)
    unfold MI at hm
    have h12 := hm.2.2.2.2.2.2.2.2.2.1
    by_cases qa : actv X i
    · have ew : asW X i = X 4 i 12 := by unfold asW; rw [if_pos qa]
      have eb : asB X i = if X 4 i 3 = 1 then X 4 i 12 / 2 else X 4 i 12 := by unfold asB; rw [ew]
      rw [eb] at h1
      refine ⟨h1.1, ?_, fun q => ?_, fun q => absurd qa q⟩
      · split at h1 <;> omega
      · rw [if_pos q] at h1
        exact h1.2
    · have hz := prS_zero hI hw ha hi (by unfold asW; rw [if_neg qa])
      rw [hz]
      exact ⟨by omega, by omega, fun _ => by omega, fun _ => rfl⟩
theorem gn_all (hI : CI X) (hZ : Z8 X) (ha : 0 ≤ a ∧ a ≤ 100000000) : ∃ P : Nat → Int, (CI (eaGn X a).1 ∧ Z8 (eaGn X a).1 ∧ cN (eaGn X a).1 = cN X) ∧ (∀ i, i < cN X → (eaGn X a).1 4 i 7 = X 4 i 7 - P i) ∧ (∀ i k, k ≠ 7 → (eaGn X a).1 4 i k = X 4 i k) ∧ (∀ k, (eaGn X a).1 0 0 k = X 0 0 k) ∧
    (∀ i, i < cN X → (0 ≤ P i ∧ P i ≤ X 4 i 7) ∧ (¬ actv X i → P i = 0) ∧ (0 < (eaGn X a).2 → actv X i → P i = X 4 i 7)) ∧ smN P (cN X) + (eaGn X a).2 = a ∧ 0 ≤ (eaGn X a).2 ∧ (eaGn X a).2 ≤ a := by
  have hw := gnW_ok hI
  have hr := prS_rng hI hw ha
  have hs := prS_sum hI hZ hw ha
  refine ⟨(prS X (gnW X) (fun i => X 4 i 7) a).1, ⟨(CI_eaGn hI ha).1, Z8_eat hZ _ _ _ _ _, rfl⟩, fun i hi => ?_, fun i k hk => eaGn_k hk, fun k => rfl, fun i hi => ⟨hr.1 i hi, fun q => prS_zero hI hw ha hi (by unfold gnW; rw [if_neg q]), fun hl q => ?_⟩, hs, hr.2⟩
  · exact (eat_4 X (gnW X) (fun i => X 4 i 7) a 7 (fun i => X 4 i 7 - (prS X (gnW X) (fun i => X 4 i 7) a).1 i) i 7).trans (if_pos ⟨rfl, hi⟩)
  · have ew : gnW X i = X 4 i 7 := by unfold gnW; rw [if_pos q]
    have h1 := hr.1 i hi
    by_cases q0 : 0 < X 4 i 7
    · exact prS_full hI hw ha hl hi (by rw [ew]; exact q0)
    · have h2 : (prS X (gnW X) (fun i => X 4 i 7) a).1 i ≤ X 4 i 7 := h1.2
      omega
end STAGE
theorem smN_one {f : Nat → Int} {n k : Nat} (h : ∀ j, j < n → 0 ≤ f j) (hk : k < n) : f k ≤ smN f n := smN_mem h hk
/-- the whole chain, from the state behind the ranking: what shares, assessments and gains lose and bear -/
theorem ea_all {X : St} (hI : CI X) (hZ : Z8 X) {i : Nat} (hi : i < 10) : ∃ P Q R : Nat → Int,
    (CI (ea4 X i).1 ∧ Z8 (ea4 X i).1 ∧ cN (ea4 X i).1 = cN X) ∧ (∀ j, j < cN X → (ea4 X i).1 4 j 5 = X 4 j 5 - P j ∧ (ea4 X i).1 4 j 10 = X 4 j 10 + Q j ∧ (ea4 X i).1 4 j 7 = X 4 j 7 - R j) ∧ (∀ j k, k ≠ 5 → k ≠ 7 → k ≠ 10 → (ea4 X i).1 4 j k = X 4 j k) ∧
    ((ea4 X i).1 0 0 4 = X 0 0 4 - pd3 X i ∧ ∀ k, k ≠ 4 → (ea4 X i).1 0 0 k = X 0 0 k) ∧
    (∀ j, j < cN X → (0 ≤ P j ∧ P j ≤ X 4 j 5) ∧ (0 ≤ Q j ∧ Q j ≤ X 4 j 12 ∧ (X 4 j 3 = 1 → Q j ≤ X 4 j 12 / 2)) ∧ (0 ≤ R j ∧ R j ≤ X 4 j 7) ∧ (¬ actv X j → P j = 0 ∧ Q j = 0 ∧ R j = 0) ∧ (0 < R j → P j = X 4 j 5) ∧ (0 < (ea4 X i).2 → actv X j → P j = X 4 j 5 ∧ R j = X 4 j 7)) ∧
    pd3 X i + smN P (cN X) + smN Q (cN X) + smN R (cN X) = lf3 X i - (ea4 X i).2 ∧ (0 ≤ (ea4 X i).2 ∧ (ea4 X i).2 ≤ lf3 X i) ∧ (0 ≤ pd3 X i ∧ pd3 X i ≤ X 0 0 4) ∧ (0 < (ea4 X i).2 → pd3 X i = X 0 0 4) := by
  have h0 := ea0_ok hI hi
  have z0 : Z8 (ea0 X i).1 := Z8_cong hZ rfl rfl
  have n0 : cN (ea0 X i).1 = cN X := rfl
  have k0 : ∀ j k, (ea0 X i).1 4 j k = X 4 j k := fun j k => ea0_k
  have m0 : (ea0 X i).1 0 0 4 = X 0 0 4 - pd3 X i := rfl
  have m0' : ∀ k, k ≠ 4 → (ea0 X i).1 0 0 k = X 0 0 k := fun k hk => up3_k hk
  have v0 : (ea0 X i).2 = lf3 X i - pd3 X i := rfl
  have h5 := hI.2.2.2.1
  have h4 := hI.2.1
  have hm := hI.mem hi
  unfold MI at hm
  have hlf : 0 ≤ lf3 X i := by unfold lf3; omega
  have hpd : 0 ≤ pd3 X i ∧ pd3 X i ≤ X 0 0 4 ∧ pd3 X i ≤ lf3 X i ∧ (pd3 X i = X 0 0 4 ∨ pd3 X i = lf3 X i) := by unfold pd3; omega
  have s1 := sh_all h0.1 z0 (a := (ea0 X i).2) (by omega) 1
  rw [show eaSh (ea0 X i).1 (ea0 X i).2 1 = ea1 X i from rfl] at s1
  generalize (ea0 X i).1 = X0, (ea0 X i).2 = a0 at *
  obtain ⟨P1, ⟨c1, z1, n1⟩, e1, k1, m1, p1, q1, r1⟩ := s1
  have s2 := sh_all c1 z1 (a := (ea1 X i).2) (by omega) 0
  rw [show eaSh (ea1 X i).1 (ea1 X i).2 0 = ea2 X i from rfl] at s2
  generalize (ea1 X i).1 = X1, (ea1 X i).2 = a1 at *
  obtain ⟨P2, ⟨c2, z2, n2⟩, e2, k2, m2, p2, q2, r2⟩ := s2
  have s3 := as_all c2 z2 (a := (ea2 X i).2) (by omega)
  rw [show eaAs (ea2 X i).1 (ea2 X i).2 = ea3 X i from rfl] at s3
  generalize (ea2 X i).1 = X2, (ea2 X i).2 = a2 at *
  obtain ⟨Q, ⟨c3, z3, n3⟩, e3, k3, m3, p3, q3, r3⟩ := s3
  have s4 := gn_all c3 z3 (a := (ea3 X i).2) (by omega)
  rw [show eaGn (ea3 X i).1 (ea3 X i).2 = ea4 X i from rfl] at s4
  generalize (ea3 X i).1 = X3, (ea3 X i).2 = a3 at *
  obtain ⟨R, ⟨c4, z4, n4⟩, e4, k4, m4, p4, q4, r4⟩ := s4
  generalize (ea4 X i).1 = X4, (ea4 X i).2 = a4 at *
  rw [n0] at n1 e1 p1 q1
  rw [n1] at n2 e2 p2 q2
  rw [n2] at n3 e3 p3 q3
  rw [n3] at n4 e4 p4 q4
  have hcl := cN_le hI
  have hq := smN_add P1 P2 (cN X)
  refine ⟨fun k => P1 k + P2 k, Q, R, ⟨c4, z4, n4⟩, fun j hj => ?_, fun j k a b c => ?_, ⟨?_, fun k hk => ?_⟩, fun j hj => ?_, by omega, by omega, by omega, fun q => by omega⟩
  · rw [k4 j 5 (by omega), k3 j 5 (by omega), e2 j hj, e1 j hj, k0, k4 j 10 (by omega), e3 j hj, k2 j 10 (by omega), k1 j 10 (by omega), k0, e4 j hj, k3 j 7 (by omega), k2 j 7 (by omega), k1 j 7 (by omega), k0]
    refine ⟨?_, rfl, rfl⟩
    show _ = X 4 j 5 - (P1 j + P2 j)
    omega
  · rw [k4 j k b, k3 j k c, k2 j k a, k1 j k a, k0]
  · rw [m4, m3, m2, m1, m0]
  · rw [m4, m3, m2, m1, m0' k hk]
  · have w1 := p1 j hj
    have w2 := p2 j hj
    have w3 := p3 j hj
    have w4 := p4 j hj
    have hm9 := (hI.mem (show j < 10 by omega)).2.2.2.2.2.2.2.2.1
    have a0e : actv X0 j ↔ actv X j := by unfold actv; rw [k0]
    have a1e : actv X1 j ↔ actv X j := by unfold actv; rw [k1 j 3 (by omega), k0]
    have a2e : actv X2 j ↔ actv X j := by unfold actv; rw [k2 j 3 (by omega), k1 j 3 (by omega), k0]
    have a3e : actv X3 j ↔ actv X j := by unfold actv; rw [k3 j 3 (by omega), k2 j 3 (by omega), k1 j 3 (by omega), k0]
    rw [k0 j 5, k0 j 9, a0e] at w1
    rw [e1 j hj, k1 j 9 (by omega), k0 j 5, k0 j 9, a1e] at w2
    rw [k2 j 12 (by omega), k1 j 12 (by omega), k0 j 12, k2 j 3 (by omega), k1 j 3 (by omega), k0 j 3, a2e] at w3
    rw [k3 j 7 (by omega), k2 j 7 (by omega), k1 j 7 (by omega), k0 j 7, a3e] at w4
    have hful : actv X j → 0 < a2 → P1 j + P2 j = X 4 j 5 := fun qa ql => by
      by_cases q9 : X 4 j 9 = 1
      · have g1 := w1.2.2 (by omega) ⟨qa, q9⟩
        have g2 := w2.2.1 (fun z => by have := z.2; omega)
        omega
      · have g1 := w1.2.1 (fun z => q9 z.2)
        have g2 := w2.2.2 ql ⟨qa, by omega⟩
        omega
    have hmem := smN_mem (f := R) (m := cN X) (k := j) (fun k hk => (p4 k hk).1.1) hj
    refine ⟨⟨by show 0 ≤ P1 j + P2 j; omega, by show P1 j + P2 j ≤ _; omega⟩, ⟨w3.1, w3.2.1, w3.2.2.1⟩, w4.1, fun q => ⟨?_, w3.2.2.2 q, w4.2.1 q⟩, fun q => ?_, fun ql qa => ⟨hful qa (by omega), w4.2.2 ql qa⟩⟩
    · have g1 := w1.2.1 (fun z => q z.1)
      have g2 := w2.2.1 (fun z => q z.1)
      show P1 j + P2 j = 0
      omega
    · by_cases qa : actv X j
      · exact hful qa (by omega)
      · have := w4.2.1 qa
        omega
end
section
/-! ===== close: awards, and all of it together ===== -/
theorem wn_val (f : Nat → Int) : ∀ m, ((wnN f m).1 = -1 ∧ (wnN f m).2 = -1001) ∨ (0 ≤ (wnN f m).1 ∧ f (wnN f m).1.toNat = (wnN f m).2 ∧ -1001 < (wnN f m).2)
  | 0 => Or.inl ⟨rfl, rfl⟩
  | m + 1 => by
    have ih := wn_val f m
    rw [wnN_succ]
    split
    · rename_i h
      refine Or.inr ⟨by show (0 : Int) ≤ m; omega, ?_, ?_⟩
      · show f ((m : Int).toNat) = f m
        rw [Int.toNat_natCast]
      · show -1001 < f m
        rcases ih with ih | ih <;> omega
    · exact ih
theorem aw_cost (C : St) : ∀ l : Nat, (awN C l).2 ≤ 1000 * l
  | 0 => by show (0 : Int) ≤ 1000 * 0; omega
  | l + 1 => by
    have h := aw_cost C l
    rw [awN_succ]
    split
    · show (awN C l).2 + 1000 ≤ _
      omega
    · rename_i hw
      have hv := wn_val (fun i => C 7 i l) 10
      have e : winr C l = (wnN (fun i => C 7 i l) 10).1 := rfl
      rw [← e] at hv
      show (awN C l).2 - C 7 (winr C l).toNat l ≤ _
      rcases hv with hv | hv
      · exact absurd hv.1 hw
      · have : C 7 (winr C l).toNat l = (wnN (fun i => C 7 i l) 10).2 := hv.2.1
        omega
theorem aw_won {C : St} (hA : smA C) : ∀ l : Nat, l ≤ 120 → (∀ j, C 4 j 11 ≤ (awN C l).1 4 j 11) ∧ smN (fun j => (awN C l).1 4 j 11) 10 ≤ smN (fun j => C 4 j 11) 10 + l
  | 0, _ => ⟨fun j => Int.le_refl _, by
    show smN (fun j => C 4 j 11) 10 ≤ smN (fun j => C 4 j 11) 10 + ((0 : Nat) : Int)
    omega⟩
  | l + 1, hl => by
    have h := aw_won hA l (by omega)
    have hw := winr_rng hA (show l < 120 by omega)
    rw [awN_succ]
    split
    · refine ⟨h.1, ?_⟩
      show smN (fun j => (awN C l).1 4 j 11) 10 ≤ _
      omega
    · have e : ∀ j, up3 (awN C l).1 4 (winr C l).toNat 11 ((awN C l).1 4 (winr C l).toNat 11 + 1) 4 j 11 = if j = (winr C l).toNat then (awN C l).1 4 (winr C l).toNat 11 + 1 else (awN C l).1 4 j 11 := fun j => by simp [up3]
      refine ⟨fun j => ?_, ?_⟩
      · have h1 := h.1 j
        show C 4 j 11 ≤ up3 (awN C l).1 4 (winr C l).toNat 11 ((awN C l).1 4 (winr C l).toNat 11 + 1) 4 j 11
        rw [e]
        split
        · rename_i q
          rw [← q]
          omega
        · exact h1
      · have e2 : smN (fun j => up3 (awN C l).1 4 (winr C l).toNat 11 ((awN C l).1 4 (winr C l).toNat 11 + 1) 4 j 11) 10 = smN (fun j => (awN C l).1 4 j 11) 10 + 1 := smN_upd (j := (winr C l).toNat) (by omega) (fun k hk => by
          show up3 (awN C l).1 4 (winr C l).toNat 11 ((awN C l).1 4 (winr C l).toNat 11 + 1) 4 k 11 = (awN C l).1 4 k 11
          rw [e, if_neg hk]) (by
          show up3 (awN C l).1 4 (winr C l).toNat 11 ((awN C l).1 4 (winr C l).toNat 11 + 1) 4 (winr C l).toNat 11 = (awN C l).1 4 (winr C l).toNat 11 + 1
          rw [e, if_pos rfl])
        show smN (fun j => up3 (awN C l).1 4 (winr C l).toNat 11 ((awN C l).1 4 (winr C l).toNat 11 + 1) 4 j 11) 10 ≤ _
        omega
section CLOSEG
variable {t f : Nat} {b : Int} {C : St}
theorem cl1_t {t' : Nat} (h0 : t' ≠ 0) (h4 : t' ≠ 4) : cl1 C t' = C t' := by
  have e : cl1 C t' = up3 (awN C (C 2 0 1).toNat).1 0 0 5 (max 0 (awN C (C 2 0 1).toNat).2) t' := by
    funext u v
    exact if_neg (fun z => h4 z.1)
  rw [e, up3_t h0, (awN_keep C _).1 t' h4]
theorem cl1_0 {k : Nat} (hk : k ≠ 5) : cl1 C 0 0 k = C 0 0 k := by
  have e : cl1 C 0 0 k = up3 (awN C (C 2 0 1).toNat).1 0 0 5 (max 0 (awN C (C 2 0 1).toNat).2) 0 0 k := rfl
  rw [e, up3_k hk, (awN_keep C _).1 0 (by omega)]
theorem cl1_5 : cl1 C 0 0 5 = max 0 (awN C (C 2 0 1).toNat).2 := by
  have e : cl1 C 0 0 5 = up3 (awN C (C 2 0 1).toNat).1 0 0 5 (max 0 (awN C (C 2 0 1).toNat).2) 0 0 5 := rfl
  rw [e, up3_at]
theorem cl1_4 {j k : Nat} (h9 : k ≠ 9) (h11 : k ≠ 11) : cl1 C 4 j k = C 4 j k := by
  rw [cl1_k h9, (awN_keep C _).2 j k h11]
theorem close_all (h : LF t f b C) : ∃ (P Q R : Nat → Int) (pd : Int), (LI (t + 1) (clS C f) ∧ clS C f 0 0 3 = C 0 0 3) ∧
    (clS C f 0 0 6 = C 0 0 6 + (ea4 (cl1 C) f).2 ∧ (0 ≤ clS C f 0 0 5 ∧ clS C f 0 0 5 ≤ 1000000) ∧ clS C f 0 0 5 ≤ 1000 * b ∧ (ea4 (cl1 C) f).2 ≤ clS C f 0 0 5 ∧ 0 ≤ (ea4 (cl1 C) f).2) ∧
    (clS C f 0 0 4 = C 0 0 4 - pd ∧ (0 ≤ pd ∧ pd ≤ C 0 0 4) ∧ (0 < (ea4 (cl1 C) f).2 → pd = C 0 0 4)) ∧
    (∀ j, j < cN C → (clS C f 4 j 10 = C 4 j 10 + Q j ∧ C 4 j 11 ≤ clS C f 4 j 11) ∧ (0 ≤ P j ∧ P j ≤ C 4 j 5) ∧ (0 ≤ Q j ∧ Q j ≤ C 4 j 5) ∧ (0 ≤ R j ∧ R j ≤ C 4 j 7) ∧ (¬ actv C j → P j = 0 ∧ Q j = 0 ∧ R j = 0) ∧
      (C 4 j 3 = 1 → clS C f 4 j 3 = 3 ∧ clS C f 4 j 5 = 0 ∧ clS C f 4 j 4 = 0 ∧ clS C f 4 j 7 = 0 ∧ clS C f 4 j 2 = 0 ∧ Q j ≤ C 4 j 5 / 2) ∧
      (C 4 j 3 = 0 → clS C f 4 j 3 = 0 ∧ clS C f 4 j 5 = C 4 j 5 - P j ∧ clS C f 4 j 7 = C 4 j 7 - R j ∧ (0 < R j → P j = C 4 j 5) ∧ (0 < (ea4 (cl1 C) f).2 → P j = C 4 j 5 ∧ R j = C 4 j 7))) ∧
    pd + smN P (cN C) + smN Q (cN C) + smN R (cN C) = max 0 (clS C f 0 0 5 - (C 4 f 4 + C 4 f 5)) - (ea4 (cl1 C) f).2 ∧
    smN (fun j => clS C f 4 j 11 - C 4 j 11) (cN C) ≤ b ∧
    (clS C f 4 f 3 = 2 ∧ clS C f 4 f 4 = 0 ∧ clS C f 4 f 5 = 0 ∧ clS C f 4 f 7 = 0 ∧ clS C f 4 f 2 = 0) := by
  obtain ⟨hB, h7, hfc, hf3, hsh, hlt, hb⟩ := h
  have hI := hB.ci
  have hcl := cN_le hI
  have hce := cN_eq hI
  have hf10 : f < 10 := by omega
  have hfn : f < cN C := by omega
  have h1 := CI_cl1 hI
  have n1 : cN (cl1 C) = cN C := by unfold cN; rw [cl1_0 (by omega)]
  have z1 : Z8 (cl1 C) := Z8_cong hB.z8 (cl1_t (by omega) (by omega)) (cl1_0 (by omega))
  have hA := hI.2.2.2.2.1
  have hA1 := hA.1
  have hco := aw_cost C (C 2 0 1).toNat
  have hwo := aw_won hA (C 2 0 1).toNat (by omega)
  have hokl := (ea_ok h1 hf10).2.2.2.2
  obtain ⟨P, Q, R, ⟨c4, z4, n4⟩, he, hk, ⟨hcap, h0k⟩, hp, hsum, hl, hpd, hpd2⟩ := ea_all h1 z1 hf10
  rw [n1] at n4 he hp hsum
  have x0 : ∀ k, clS C f 0 0 k = if k = 7 then -1 else cl2 C f 0 0 k := fun k => cls_0
  have x0k : ∀ k, k ≠ 4 → k ≠ 5 → k ≠ 6 → k ≠ 7 → clS C f 0 0 k = C 0 0 k := fun k a4 a5 a6 a7 => by
    rw [x0, if_neg a7]
    show up3 (ea4 (cl1 C) f).1 0 0 6 ((ea4 (cl1 C) f).1 0 0 6 + (ea4 (cl1 C) f).2) 0 0 k = _
    rw [up3_k a6, h0k k a4, cl1_0 a5]
  have x06 : clS C f 0 0 6 = C 0 0 6 + (ea4 (cl1 C) f).2 := by
    rw [x0, if_neg (by omega)]
    show up3 (ea4 (cl1 C) f).1 0 0 6 ((ea4 (cl1 C) f).1 0 0 6 + (ea4 (cl1 C) f).2) 0 0 6 = _
    rw [up3_at, h0k 6 (by omega), cl1_0 (by omega)]
  have x05 : clS C f 0 0 5 = max 0 (awN C (C 2 0 1).toNat).2 := by
    rw [x0, if_neg (by omega)]
    show up3 (ea4 (cl1 C) f).1 0 0 6 ((ea4 (cl1 C) f).1 0 0 6 + (ea4 (cl1 C) f).2) 0 0 5 = _
    rw [up3_k (by omega), h0k 5 (by omega), cl1_5]
  have x04 : clS C f 0 0 4 = C 0 0 4 - pd3 (cl1 C) f := by
    rw [x0, if_neg (by omega)]
    show up3 (ea4 (cl1 C) f).1 0 0 6 ((ea4 (cl1 C) f).1 0 0 6 + (ea4 (cl1 C) f).2) 0 0 4 = _
    rw [up3_k (by omega), hcap, cl1_0 (by omega)]
  have x4 := fun j k => cls_4 (S := C) (i := f) hf3 j k
  have y4 : ∀ j k, cl2 C f 4 j k = (ea4 (cl1 C) f).1 4 j k := fun j k => cl2_k
  have yk : ∀ j k, k ≠ 5 → k ≠ 7 → k ≠ 9 → k ≠ 10 → k ≠ 11 → cl2 C f 4 j k = C 4 j k := fun j k a b c d e => by rw [y4, hk j k a b d, cl1_4 c e]
  have x12 : clS C f 12 = C 12 := cls_t (by omega) (by omega) (by omega) (by omega) (by omega)
  have x5 : clS C f 5 = C 5 := cls_t (by omega) (by omega) (by omega) (by omega) (by omega)
  have x8 : Z8 (clS C f) := by
    refine fun k hk9 hc => ?_
    rw [x0k 3 (by omega) (by omega) (by omega) (by omega)] at hc
    rw [cls_89 (t := 8) (by omega) (by omega)]
    show (ea4 (cl1 C) f).1 8 0 k = 0
    exact z4 k hk9 (by rw [h0k 3 (by omega), cl1_0 (by omega)]; exact hc)
  have hloss : clS C f 0 0 5 = cl1 C 0 0 5 := by rw [x05, cl1_5]
  have hl5 := h1.2.2.2.1
  have hmf := hI.mem hf10
  unfold MI at hmf
  have hrest : lf3 (cl1 C) f = max 0 (clS C f 0 0 5 - (C 4 f 4 + C 4 f 5)) := by
    unfold lf3
    rw [cl1_4 (by omega) (by omega), cl1_4 (by omega) (by omega), ← hloss]
    omega
  have hfz : ∀ k, zf5 k → clS C f 4 f k = 0 := fun k hz => by
    rw [x4, if_neg (by omega), if_pos ⟨rfl, hz⟩]
  have g11 : ∀ j, clS C f 4 j 11 = (awN C (C 2 0 1).toNat).1 4 j 11 := fun j => by
    have e : clS C f 4 j 11 = cl2 C f 4 j 11 := by
      rw [x4]
      split
      · rw [if_neg (by omega), if_neg (by unfold zf5; omega)]
      · rw [if_neg (fun z => by have := z.2; unfold zf5 at this; omega)]
    rw [e, cl2_11, cl1_k (by omega)]
  refine ⟨P, Q, R, pd3 (cl1 C) f, ⟨⟨⟨CI_cls hI hf10 hf3, fun i hi => ?_, x8, fun k hk9 hc => ?_, fun i hi => ?_, ?_⟩, ?_⟩, x0k 3 (by omega) (by omega) (by omega) (by omega)⟩, ⟨x06, by rw [hloss]; omega, by rw [x05]; omega, by omega, hl.1⟩, ⟨x04, by rw [cl1_0 (by omega)] at hpd; exact hpd, fun q => by rw [hpd2 q, cl1_0 (by omega)]⟩, fun j hj => ?_, by rw [← hrest]; exact hsum, ?_, ?_, hfz 4 (by unfold zf5; omega), hfz 5 (by unfold zf5; omega), hfz 7 (by unfold zf5; omega), hfz 2 (by unfold zf5; omega)⟩
  · rw [x5]
    by_cases q : i < cN C ∧ C 4 i 3 = 1
    · have w1 : clS C f 4 i 1 = 0 := by rw [x4, if_pos q, if_neg (by omega), if_pos (by unfold zf5; omega)]
      have w2 : clS C f 4 i 2 = 0 := by rw [x4, if_pos q, if_neg (by omega), if_pos (by unfold zf5; omega)]
      rw [w1, w2]
      exact ⟨Int.le_refl _, rfl, fun k hk => by omega⟩
    · by_cases q2 : i = f
      · have w1 : clS C f 4 i 1 = 0 := by rw [x4, if_neg q, if_pos ⟨q2, by unfold zf5; omega⟩]
        have w2 : clS C f 4 i 2 = 0 := by rw [x4, if_neg q, if_pos ⟨q2, by unfold zf5; omega⟩]
        rw [w1, w2]
        exact ⟨Int.le_refl _, rfl, fun k hk => by omega⟩
      · have w1 : clS C f 4 i 1 = C 4 i 1 := by rw [x4, if_neg q, if_neg (fun z => q2 z.1), yk i 1 (by omega) (by omega) (by omega) (by omega) (by omega)]
        have w2 : clS C f 4 i 2 = C 4 i 2 := by rw [x4, if_neg q, if_neg (fun z => q2 z.1), yk i 2 (by omega) (by omega) (by omega) (by omega) (by omega)]
        rw [w1, w2]
        exact hB.cl i hi
  · rw [x0k 3 (by omega) (by omega) (by omega) (by omega)] at hc
    have e : clS C f 4 k 6 = C 4 k 6 := by
      rw [x4]
      split
      · rw [if_neg (by omega), if_neg (by unfold zf5; omega), yk k 6 (by omega) (by omega) (by omega) (by omega) (by omega)]
      · rw [if_neg (fun z => by have := z.2; unfold zf5 at this; omega), yk k 6 (by omega) (by omega) (by omega) (by omega) (by omega)]
    rw [x12, e]
    exact hB.rm k hk9 hc
  · have e : clS C f 4 i 10 = cl2 C f 4 i 10 := by
      rw [x4]
      split
      · rw [if_neg (by omega), if_neg (by unfold zf5; omega)]
      · rw [if_neg (fun z => by have := z.2; unfold zf5 at this; omega)]
    have h10 := cl2_10 hI hf10 hi
    have hbd := hB.bd.1 i hi
    rw [e]
    omega
  · have hbd := hB.bd.2
    rw [x06]
    omega
  · rw [x0, if_pos rfl]
  · have hj10 : j < 10 := by omega
    have hpj := hp j hj
    have hej := he j hj
    have hs := hsh j hj
    have a1 : actv (cl1 C) j ↔ actv C j := by unfold actv; rw [cl1_4 (by omega) (by omega)]
    rw [cl1_4 (j := j) (k := 5) (by omega) (by omega), cl1_4 (j := j) (k := 7) (by omega) (by omega), cl1_4 (j := j) (k := 12) (by omega) (by omega), cl1_4 (j := j) (k := 3) (by omega) (by omega), a1, hs] at hpj
    rw [cl1_4 (j := j) (k := 5) (by omega) (by omega), cl1_4 (j := j) (k := 7) (by omega) (by omega), cl1_4 (j := j) (k := 10) (by omega) (by omega)] at hej
    have e10 : clS C f 4 j 10 = C 4 j 10 + Q j := by
      rw [x4]
      split
      · rw [if_neg (by omega), if_neg (by unfold zf5; omega), y4, hej.2.1]
      · rw [if_neg (fun z => by have := z.2; unfold zf5 at this; omega), y4, hej.2.1]
    refine ⟨⟨e10, by rw [g11]; exact hwo.1 j⟩, hpj.1, ⟨hpj.2.1.1, hpj.2.1.2.1⟩, hpj.2.2.1, hpj.2.2.2.1, fun q => ?_, fun q => ?_⟩
    · refine ⟨?_, ?_, ?_, ?_, ?_, hpj.2.1.2.2 q⟩
      · rw [x4, if_pos ⟨hj, q⟩, if_pos rfl]
      · rw [x4, if_pos ⟨hj, q⟩, if_neg (by omega), if_pos (by unfold zf5; omega)]
      · rw [x4, if_pos ⟨hj, q⟩, if_neg (by omega), if_pos (by unfold zf5; omega)]
      · rw [x4, if_pos ⟨hj, q⟩, if_neg (by omega), if_pos (by unfold zf5; omega)]
      · rw [x4, if_pos ⟨hj, q⟩, if_neg (by omega), if_pos (by unfold zf5; omega)]
    · have hjf : ¬ j = f := fun z => by rw [z, hf3] at q; omega
      have e : ∀ k, clS C f 4 j k = cl2 C f 4 j k := fun k => by rw [x4, if_neg (by omega), if_neg (fun z => hjf z.1)]
      refine ⟨by rw [e, yk j 3 (by omega) (by omega) (by omega) (by omega) (by omega)]; exact q, by rw [e, y4]; exact hej.1, by rw [e, y4]; exact hej.2.2, hpj.2.2.2.2.1, fun ql => hpj.2.2.2.2.2 ql (Or.inl q)⟩
  · have e0 : smN (fun j => clS C f 4 j 11 - C 4 j 11) (cN C) ≤ smN (fun j => clS C f 4 j 11 - C 4 j 11) 10 := by
      have hm : ∀ r n : Nat, n + r = 10 → smN (fun j => clS C f 4 j 11 - C 4 j 11) n ≤ smN (fun j => clS C f 4 j 11 - C 4 j 11) 10 := by
        intro r
        induction r with
        | zero => intro n hn; rw [show n = 10 by omega]; exact Int.le_refl _
        | succ r ih =>
          intro n hn
          have h2 := ih (n + 1) (by omega)
          have h3 : smN (fun j => clS C f 4 j 11 - C 4 j 11) (n + 1) = smN (fun j => clS C f 4 j 11 - C 4 j 11) n + (clS C f 4 n 11 - C 4 n 11) := rfl
          have h4 := hwo.1 n
          rw [← g11] at h4
          omega
      exact hm (10 - cN C) (cN C) (by omega)
    have e1 : smN (fun j => clS C f 4 j 11 - C 4 j 11) 10 + smN (fun j => C 4 j 11) 10 = smN (fun j => clS C f 4 j 11) 10 := by
      rw [← smN_add]
      exact smN_cong (fun k hk => by omega)
    have e2 : smN (fun j => clS C f 4 j 11) 10 = smN (fun j => (awN C (C 2 0 1).toNat).1 4 j 11) 10 := smN_cong (fun k _ => g11 k)
    have e3 := hwo.2
    omega
  · rw [x4, if_neg (by omega), if_neg (fun z => by have := z.2; unfold zf5 at this; omega), yk f 3 (by omega) (by omega) (by omega) (by omega) (by omega)]
    exact hf3
end CLOSEG
end
section
/-! ===== ends: the law's check of a closing ===== -/
theorem r_istore_13 {g : Gl} {own : String} {cc : ByteArray} {nL fr lo N : Nat} {K : KT} {n pc : Nat} {st : List AV} {S : St} (M : Mk g own cc nL fr lo N K) {a0 a1 a2 a3 a4 a5 a6 a7 a8 a9 a10 a11 a12 w : Option AV} {T : List (Option AV)} {x : Int} (d : decode cc pc = .ok (.istore 13, 2)) (hj : 13 < nL) (hs : stOK (a0 :: a1 :: a2 :: a3 :: a4 :: a5 :: a6 :: a7 :: a8 :: a9 :: a10 :: a11 :: a12 :: w :: T) 13 = true) (kk : K n (pc + 2) (a0 :: a1 :: a2 :: a3 :: a4 :: a5 :: a6 :: a7 :: a8 :: a9 :: a10 :: a11 :: a12 :: some (vI x) :: T) st S) : K n pc (a0 :: a1 :: a2 :: a3 :: a4 :: a5 :: a6 :: a7 :: a8 :: a9 :: a10 :: a11 :: a12 :: w :: T) (vI x :: st) S := r_istoreG M d hj hs rfl kk
def snV (S : St) (k : Nat) : Int := if k < 10 then S 4 k 5 else if k < 20 then S 4 (k - 10) 7 else if k < 30 then S 4 (k - 20) 10 else if k < 40 then S 4 (k - 30) 3 else S 4 (k - 40) 11
def snS (S : St) (l : Nat) : St := fun t i k => if t = 11 ∧ i = 0 ∧ k < 50 ∧ k % 10 < l then snV S k else S t i k
theorem snS_0 (S : St) : snS S 0 = S := by
  funext t i k
  exact if_neg (fun q => by omega)
theorem snS_t {S : St} {l t : Nat} (h : t ≠ 11) : snS S l t = S t := by
  funext i k
  exact if_neg (fun q => h q.1)
theorem snS_at (S : St) (l k : Nat) : snS S l 11 0 k = if k < 50 ∧ k % 10 < l then snV S k else S 11 0 k := by
  by_cases q : k < 50 ∧ k % 10 < l
  · rw [if_pos q]
    exact if_pos ⟨rfl, rfl, q⟩
  · rw [if_neg q]
    exact if_neg (fun z => q z.2.2)
theorem snV_5 (S : St) {k : Nat} (h : k < 10) : snV S k = S 4 k 5 := by
  unfold snV
  rw [if_pos h]
theorem snV_7 (S : St) {k : Nat} (h : k < 10) : snV S (10 + k) = S 4 k 7 := by
  unfold snV
  rw [if_neg (by omega), if_pos (by omega), show 10 + k - 10 = k by omega]
theorem snV_10 (S : St) {k : Nat} (h : k < 10) : snV S (20 + k) = S 4 k 10 := by
  unfold snV
  rw [if_neg (by omega), if_neg (by omega), if_pos (by omega), show 20 + k - 20 = k by omega]
theorem snV_3 (S : St) {k : Nat} (h : k < 10) : snV S (30 + k) = S 4 k 3 := by
  unfold snV
  rw [if_neg (by omega), if_neg (by omega), if_neg (by omega), if_pos (by omega), show 30 + k - 30 = k by omega]
theorem snV_11 (S : St) {k : Nat} (h : k < 10) : snV S (40 + k) = S 4 k 11 := by
  unfold snV
  rw [if_neg (by omega), if_neg (by omega), if_neg (by omega), if_neg (by omega), show 40 + k - 40 = k by omega]
theorem snS_s (S : St) {l : Nat} (hl : l < 10) : up3 (up3 (up3 (up3 (up3 (snS S l) 11 0 l (S 4 l 5)) 11 0 (10 + l) (S 4 l 7)) 11 0 (20 + l) (S 4 l 10)) 11 0 (30 + l) (S 4 l 3)) 11 0 (40 + l) (S 4 l 11) = snS S (l + 1) := by
  funext t i k
  by_cases q : t = 11 ∧ i = 0
  · obtain ⟨rfl, rfl⟩ := q
    rw [snS_at]
    by_cases k4 : k = 40 + l
    · subst k4
      rw [up3_at, if_pos (by omega), snV_11 S hl]
    · rw [up3_k k4]
      by_cases k3 : k = 30 + l
      · subst k3
        rw [up3_at, if_pos (by omega), snV_3 S hl]
      · rw [up3_k k3]
        by_cases k2 : k = 20 + l
        · subst k2
          rw [up3_at, if_pos (by omega), snV_10 S hl]
        · rw [up3_k k2]
          by_cases k1 : k = 10 + l
          · subst k1
            rw [up3_at, if_pos (by omega), snV_7 S hl]
          · rw [up3_k k1]
            by_cases k0 : k = l
            · subst k0
              rw [up3_at, if_pos (by omega), snV_5 S hl]
            · rw [up3_k k0, snS_at]
              by_cases q2 : k < 50 ∧ k % 10 < l
              · rw [if_pos q2, if_pos (by omega)]
              · rw [if_neg q2, if_neg (by omega)]
  · have e1 : ∀ (X : St) (j : Nat) (v : Int), up3 X 11 0 j v t i k = X t i k := fun X j v => if_neg (fun z => q ⟨z.1, z.2.1⟩)
    rw [e1, e1, e1, e1, e1]
    exact (if_neg (fun z => q ⟨z.1, z.2.1⟩)).trans (if_neg (fun z => q ⟨z.1, z.2.1⟩)).symm
theorem LF.cong {t f : Nat} {b : Int} {S S' : St} (h : LF t f b S) (hT : ∀ t', t' ≠ 11 → S' t' = S t') : LF t f b S' := by
  obtain ⟨hB, h1, h2, h3, h4, h5, h6⟩ := h
  refine ⟨hB.gen (CI_cong (fun t' ht => hT t' (by omega)) hB.ci) (by rw [hT 0 (by omega)]) (hT 5 (by omega)) (fun i => by rw [hT 4 (by omega)]; exact ⟨rfl, rfl, rfl, rfl⟩) (Z8_cong hB.z8 (hT 8 (by omega)) (by rw [hT 0 (by omega)])) (hT 12 (by omega)) (by rw [hT 0 (by omega)]), by rw [hT 0 (by omega)]; exact h1, by rw [hT 0 (by omega)]; exact h2, by rw [hT 4 (by omega)]; exact h3, fun i hi => ?_, by rw [hT 2 (by omega)]; exact h5, h6⟩
  have hn : cN S' = cN S := by
    unfold cN
    rw [hT 0 (by omega)]
  rw [hn] at hi
  rw [hT 4 (by omega)]
  exact h4 i hi
def goN (S : St) : Nat → Int
  | 0 => 0
  | l + 1 => if S 4 l 3 = 1 then 1 else goN S l
theorem goN_rng (S : St) : ∀ l, goN S l = 0 ∨ goN S l = 1
  | 0 => Or.inl rfl
  | l + 1 => by
    have h := goN_rng S l
    unfold goN
    split
    · exact Or.inr rfl
    · exact h
theorem goN_z {S : St} : ∀ {l : Nat}, goN S l = 0 → ∀ k, k < l → S 4 k 3 ≠ 1
  | l + 1, h, k, hk => by
    unfold goN at h
    split at h
    · omega
    · by_cases e : k = l
      · subst e; assumption
      · exact goN_z h k (by omega)
def eatD (S : St) (P Q R : Nat → Int) (k : Nat) : Int := Q k + (if S 4 k 3 = 0 then P k + R k else 0)
section EATD
variable {S : St} {P Q R : Nat → Int}
theorem eatD_le : ∀ n, (∀ k, k < n → 0 ≤ P k ∧ 0 ≤ Q k ∧ 0 ≤ R k) → 0 ≤ smN (eatD S P Q R) n ∧ smN (eatD S P Q R) n ≤ smN Q n + smN P n + smN R n
  | 0, _ => ⟨Int.le_refl _, by show (0 : Int) ≤ 0 + 0 + 0; omega⟩
  | n + 1, h => by
    have ih := eatD_le n (fun k hk => h k (by omega))
    have h1 := h n (by omega)
    show 0 ≤ smN (eatD S P Q R) n + (Q n + (if S 4 n 3 = 0 then P n + R n else 0)) ∧ smN (eatD S P Q R) n + (Q n + (if S 4 n 3 = 0 then P n + R n else 0)) ≤ smN Q n + Q n + (smN P n + P n) + (smN R n + R n)
    split <;> omega
theorem eatD_eq : ∀ n, (∀ k, k < n → S 4 k 3 ≠ 0 → P k = 0 ∧ R k = 0) → smN (eatD S P Q R) n = smN Q n + smN P n + smN R n
  | 0, _ => rfl
  | n + 1, h => by
    have ih := eatD_eq n (fun k hk => h k (by omega))
    have h1 := h n (by omega)
    show smN (eatD S P Q R) n + (Q n + (if S 4 n 3 = 0 then P n + R n else 0)) = smN Q n + Q n + (smN P n + P n) + (smN R n + R n)
    split
    · omega
    · rename_i q
      have := h1 q
      omega
end EATD
section XEnds
variable {g : Gl} {S : St} {Ret : Option AV → St → Prop} {Thr : String → St → Prop} {t f : Nat} {b : Int}
theorem cs_close (hI : CI S) (h7 : S 0 0 7 = (f : Int)) (hf : f < 10) (h : Ret (some (vI (ea4 (cl1 S) f).2)) (clS S f)) : Cn g yX3_close cX3_close 2 (some .int) 6 143 1 [vR 0 0] S Ret Thr := by
  refine cn_close hI (fun i ei hi => ?_) (fun q => by omega)
  have e : i = f := by omega
  subst e
  exact h
theorem cn_ends (hL : LF t f b S) (ht : t ≤ 20) (h : ∀ S', LI (t + 1) S' → S' 0 0 3 = S 0 0 3 → Ret (some (vI 1)) S') : Cn g yL_ends cL_ends 14 (some .boolean) 10 172 220 [vR 0 0, vI b, vR 11 0] S Ret Thr := by
  refine enter (L := [some (vR 0 0), some (vI b), some (vR 11 0), none, none, none, none, none, none, none, none, none, none, none]) (by decide +kernel) (Nat.le_of_ble_eq_true rfl) rfl (fun K MM => ?_)
  have M := MM.mk
  have hI := hL.1.ci
  have hcl := cN_le hI
  have hce := cN_eq hI
  have h7 := hL.2.1
  have hfc := hL.2.2.1
  have hbr := hL.2.2.2.2.2.2
  have hbd := hL.1.bd.2
  have hcap := hI.2.1
  have hT : ∀ l t', t' ≠ 11 → snS S l t' = S t' := fun l t' q => snS_t q
  have hIs : ∀ l, CI (snS S l) := fun l => CI_cong (fun t' q => hT l t' (by omega)) hI
  refine r_aload_n M dL_ends_0 rfl ?_
  refine r_callV0 MM dL_ends_1 ck_L_27 vk_X3_failing ⟨by omega, by omega, by omega⟩ ⟨by decide, by decide, rfl⟩ (by decide) (Nat.le_of_ble_eq_true rfl) (cs_failing h7 ?_)
  refine r_istore_3 M dL_ends_4 (by decide) rfl ?_
  refine r_aload_n M dL_ends_5 rfl ?_
  refine r_callV0 MM dL_ends_6 ck_L_30 vk_X3_uncovered ⟨by omega, by omega, by omega⟩ ⟨by decide, by decide, rfl⟩ (by decide) (Nat.le_of_ble_eq_true rfl) (cs_uncovered rfl ?_)
  refine r_istore_4 M dL_ends_9 (by decide) rfl ?_
  refine r_aload_n M dL_ends_11 rfl ?_
  refine r_callV0 MM dL_ends_12 ck_L_8 vk_X3_capital ⟨by omega, by omega, by omega⟩ ⟨by decide, by decide, rfl⟩ (by decide) (Nat.le_of_ble_eq_true rfl) (cs_capital rfl ?_)
  refine r_istore_5 M dL_ends_15 (by decide) rfl ?_
  refine r_iconst M dL_ends_17 ?_
  refine r_istore_6 M dL_ends_18 (by decide) rfl ?_
  refine k_S (S1 := snS S 0) ?_ (snS_0 S).symm
  refine fz (P := fun l => K (5 * l) 20 [some (vR 0 0), some (vI b), some (vR 11 0), some (vI (f : Int)), some (vI (S 0 0 6)), some (vI (S 0 0 4)), some (vI (l : Int)), none, none, none, none, none, none, none] [] (snS S l)) (m := cN S) ?_ ?_
  · obtain ⟨C, hCd⟩ : ∃ C, C = snS S (cN S) := ⟨_, rfl⟩
    have hC : ∀ t', t' ≠ 11 → C t' = S t' := fun t' q => by rw [hCd]; exact hT _ t' q
    have hLC : LF t f b C := hL.cong hC
    have hIC := hLC.1.ci
    have e0 : C 0 = S 0 := hC 0 (by omega)
    have e4 : C 4 = S 4 := hC 4 (by omega)
    have hca := close_all hLC
    have hnC : cN C = cN S := by unfold cN; rw [e0]
    rw [hnC] at hca
    unfold actv at hca
    rw [e0, e4] at hca
    have h11 : ∀ k, k < 50 → k % 10 < cN S → clS C f 11 0 k = snV S k := fun k hk hk2 => by
      rw [cls_t (by omega) (by omega) (by omega) (by omega) (by omega), hCd, snS_at, if_pos ⟨hk, hk2⟩]
    refine k_S (S1 := C) ?_ hCd.symm
    have h3C : C 0 0 3 = S 0 0 3 := by rw [e0]
    refine r_iload M dL_ends_20 rfl ?_
    refine r_aload_n M dL_ends_22 rfl ?_
    refine r_callV0 MM dL_ends_23 ck_L_14 vk_X3_members ⟨by omega, by omega, by omega⟩ ⟨by decide, by decide, rfl⟩ (by decide) (Nat.le_of_ble_eq_true rfl) (cs_members h3C ?_)
    refine r_icmp_ge M dL_ends_26 (tgt := 97) rfl (by omega) (fun b26 => ?_) (fun b26 => by omega)
    refine r_aload_n M dL_ends_97 rfl ?_
    refine r_iload_n M dL_ends_98 rfl ?_
    refine r_callV1 MM dL_ends_99 ck_L_39 vk_X3_margin ⟨by omega, by omega, by omega⟩ ⟨by decide, by decide, rfl⟩ (by decide) (Nat.le_of_ble_eq_true rfl) (cs_margin hIC (by omega) (v := S 4 f 4) (by rw [e4]) ?_)
    refine r_aload_n M dL_ends_102 rfl ?_
    refine r_iload_n M dL_ends_103 rfl ?_
    refine r_callV1 MM dL_ends_104 ck_L_17 vk_X3_share ⟨by omega, by omega, by omega⟩ ⟨by decide, by decide, rfl⟩ (by decide) (Nat.le_of_ble_eq_true rfl) (cs_share hIC (by omega) (v := S 4 f 5) (by rw [e4]) ?_)
    refine r_iadd M dL_ends_107 ?_
    refine r_istore_6 M dL_ends_108 (by decide) rfl ?_
    refine r_aload_n M dL_ends_110 rfl ?_
    refine r_callV0 MM dL_ends_111 ck_L_42 vk_X3_close ⟨by omega, by omega, by omega⟩ ⟨by decide, by decide, rfl⟩ (by decide) (Nat.le_of_ble_eq_true rfl) (cs_close hIC hLC.2.1 (by omega) ?_)
    generalize (ea4 (cl1 C) f).2 = left at *
    generalize clS C f = S2 at *
    obtain ⟨P, Q, R, pd, ⟨hLI, h03⟩, ⟨g6, g5, g5b, gl, gl0⟩, ⟨g4, gpd, gpd2⟩, gj, gsum, gwon, gf3, gf4, gf5, gf7, gf2⟩ := hca
    have hI2 := hLI.1.ci
    have hend := h S2 hLI h03
    have hmf := hI.mem (show f < 10 by omega)
    unfold MI at hmf
    have hfn : f < cN S := by omega
    refine k_w M (n2 := 60) (by omega) (by omega) ?_
    refine r_istore_7 M dL_ends_114 (by decide) rfl ?_
    refine r_aload_n M dL_ends_116 rfl ?_
    refine r_callV0 MM dL_ends_117 ck_L_30 vk_X3_uncovered ⟨by omega, by omega, by omega⟩ ⟨by decide, by decide, rfl⟩ (by decide) (Nat.le_of_ble_eq_true rfl) (cs_uncovered g6 ?_)
    refine r_iload M dL_ends_120 rfl ?_
    refine r_iload M dL_ends_122 rfl ?_
    refine r_iadd M dL_ends_124 ?_
    refine r_icmp_ne M dL_ends_125 (tgt := 164) rfl (by omega) (fun b125 => by omega) (fun b125 => ?_)
    refine r_aload_n M dL_ends_128 rfl ?_
    refine r_callV0 MM dL_ends_129 ck_L_27 vk_X3_failing ⟨by omega, by omega, by omega⟩ ⟨by decide, by decide, rfl⟩ (by decide) (Nat.le_of_ble_eq_true rfl) (cs_failing hLI.2 ?_)
    refine r_iconst M dL_ends_132 ?_
    refine r_icmp_ne M dL_ends_133 (tgt := 164) rfl (by omega) (fun b133 => by omega) (fun b133 => ?_)
    refine r_aload_n M dL_ends_136 rfl ?_
    refine r_callV0 MM dL_ends_137 ck_L_45 vk_X3_loss ⟨by omega, by omega, by omega⟩ ⟨by decide, by decide, rfl⟩ (by decide) (Nat.le_of_ble_eq_true rfl) (cs_loss rfl ?_)
    refine r_if_lt M dL_ends_140 (tgt := 164) rfl (by omega) (fun b140 => by omega) (fun b140 => ?_)
    refine r_aload_n M dL_ends_143 rfl ?_
    refine r_callV0 MM dL_ends_144 ck_L_45 vk_X3_loss ⟨by omega, by omega, by omega⟩ ⟨by decide, by decide, rfl⟩ (by decide) (Nat.le_of_ble_eq_true rfl) (cs_loss rfl ?_)
    refine r_sipush M dL_ends_147 rfl ?_
    refine r_iload_n M dL_ends_150 rfl ?_
    refine r_imul M dL_ends_151 ?_
    refine r_icmp_gt M dL_ends_152 (tgt := 164) rfl (by omega) (fun b152 => by omega) (fun b152 => ?_)
    refine r_iload M dL_ends_155 rfl ?_
    refine r_aload_n M dL_ends_157 rfl ?_
    refine r_callV0 MM dL_ends_158 ck_L_45 vk_X3_loss ⟨by omega, by omega, by omega⟩ ⟨by decide, by decide, rfl⟩ (by decide) (Nat.le_of_ble_eq_true rfl) (cs_loss rfl ?_)
    refine r_icmp_le M dL_ends_161 (tgt := 166) rfl (by omega) (fun b161 => ?_) (fun b161 => by omega)
    refine r_iload M dL_ends_166 rfl ?_
    refine r_aload_n M dL_ends_168 rfl ?_
    refine r_callV0 MM dL_ends_169 ck_L_8 vk_X3_capital ⟨by omega, by omega, by omega⟩ ⟨by decide, by decide, rfl⟩ (by decide) (Nat.le_of_ble_eq_true rfl) (cs_capital g4 ?_)
    refine r_isub M dL_ends_172 ?_
    refine r_istore_8 M dL_ends_173 (by decide) rfl ?_
    refine r_iconst M dL_ends_175 ?_
    refine r_istore_9 M dL_ends_176 (by decide) rfl ?_
    refine r_iconst M dL_ends_178 ?_
    refine r_istore_10 M dL_ends_179 (by decide) rfl ?_
    refine r_iconst M dL_ends_181 ?_
    refine r_istore_11 M dL_ends_182 (by decide) rfl ?_
    skip
    have hgo := goN_rng S
    refine fz (P := fun l => ∀ (e8 w9 : Int) (c12 c13 : Option AV), e8 = pd + smN (eatD S P Q R) l → w9 = smN (fun j => S2 4 j 11 - S 4 j 11) l → K (60 + 15 * l) 184 [some (vR 0 0), some (vI b), some (vR 11 0), some (vI (f : Int)), some (vI (S 0 0 6)), some (vI (S 0 0 4)), some (vI (S 4 f 4 + S 4 f 5)), some (vI left), some (vI e8), some (vI w9), some (vI (goN S l)), some (vI (l : Int)), c12, c13] [] S2) (m := cN S) ?_ ?_ _ _ _ _ (by show _ = pd + 0; omega) rfl
    · intro e8 w9 c12 c13 he8 hw9
      have hw0 : 0 ≤ smN (fun j => S2 4 j 11 - S 4 j 11) (cN S) := by
        have : ∀ n, n ≤ cN S → 0 ≤ smN (fun j => S2 4 j 11 - S 4 j 11) n := by
          intro n
          induction n with
          | zero => intro _; exact Int.le_refl _
          | succ n ih =>
            intro hn
            have h1 := ih (by omega)
            have h2 := (gj n (by omega)).1.2
            show 0 ≤ smN (fun j => S2 4 j 11 - S 4 j 11) n + (S2 4 n 11 - S 4 n 11)
            omega
        exact this _ (Nat.le_refl _)
      have hle := eatD_le (S := S) (P := P) (Q := Q) (R := R) (cN S) (fun k hk => ⟨(gj k hk).2.1.1, (gj k hk).2.2.1.1, (gj k hk).2.2.2.1.1⟩)
      have heq : goN S (cN S) = 0 → smN (eatD S P Q R) (cN S) = smN Q (cN S) + smN P (cN S) + smN R (cN S) := fun q => eatD_eq (cN S) (fun k hk q0 => by
        have h1 := goN_z q k hk
        have h2 := (gj k hk).2.2.2.2.1 (fun z => by rcases z with z | z <;> omega)
        exact ⟨h2.1, h2.2.2⟩)
      have hg := hgo (cN S)
      generalize goN S (cN S) = gone at *
      generalize smN (eatD S P Q R) (cN S) = eat at *
      generalize smN (fun j => S2 4 j 11 - S 4 j 11) (cN S) = wons at *
      refine r_iload M dL_ends_184 rfl ?_
      refine r_aload_n M dL_ends_186 rfl ?_
      refine r_callV0 MM dL_ends_187 ck_L_14 vk_X3_members ⟨by omega, by omega, by omega⟩ ⟨by decide, by decide, rfl⟩ (by decide) (Nat.le_of_ble_eq_true rfl) (cs_members h03 ?_)
      refine r_icmp_ge M dL_ends_190 (tgt := 456) rfl (by omega) (fun b190 => ?_) (fun b190 => by omega)
      refine r_iload M dL_ends_456 rfl ?_
      refine r_iload_n M dL_ends_458 rfl ?_
      refine r_icmp_gt M dL_ends_459 (tgt := 497) rfl (by omega) (fun b459 => by omega) (fun b459 => ?_)
      refine r_aload_n M dL_ends_462 rfl ?_
      refine r_iload_n M dL_ends_463 rfl ?_
      refine r_callV1 MM dL_ends_464 ck_L_33 vk_X3_state ⟨by omega, by omega, by omega⟩ ⟨by decide, by decide, rfl⟩ (by decide) (Nat.le_of_ble_eq_true rfl) (cs_state hI2 (by omega) gf3 ?_)
      refine r_iconst M dL_ends_467 ?_
      refine r_icmp_ne M dL_ends_468 (tgt := 497) rfl (by omega) (fun b468 => by omega) (fun b468 => ?_)
      refine r_aload_n M dL_ends_471 rfl ?_
      refine r_iload_n M dL_ends_472 rfl ?_
      refine r_callV1 MM dL_ends_473 ck_L_39 vk_X3_margin ⟨by omega, by omega, by omega⟩ ⟨by decide, by decide, rfl⟩ (by decide) (Nat.le_of_ble_eq_true rfl) (cs_margin hI2 (by omega) gf4 ?_)
      refine r_aload_n M dL_ends_476 rfl ?_
      refine r_iload_n M dL_ends_477 rfl ?_
      refine r_callV1 MM dL_ends_478 ck_L_17 vk_X3_share ⟨by omega, by omega, by omega⟩ ⟨by decide, by decide, rfl⟩ (by decide) (Nat.le_of_ble_eq_true rfl) (cs_share hI2 (by omega) gf5 ?_)
      refine r_iadd M dL_ends_481 ?_
      refine r_aload_n M dL_ends_482 rfl ?_
      refine r_iload_n M dL_ends_483 rfl ?_
      refine r_callV1 MM dL_ends_484 ck_L_21 vk_X3_gain ⟨by omega, by omega, by omega⟩ ⟨by decide, by decide, rfl⟩ (by decide) (Nat.le_of_ble_eq_true rfl) (cs_gain hI2 (by omega) gf7 ?_)
      refine r_iadd M dL_ends_487 ?_
      refine r_aload_n M dL_ends_488 rfl ?_
      refine r_iload_n M dL_ends_489 rfl ?_
      refine r_callV1 MM dL_ends_490 ck_L_48 vk_X3_clientLots ⟨by omega, by omega, by omega⟩ ⟨by decide, by decide, rfl⟩ (by decide) (Nat.le_of_ble_eq_true rfl) (cs_clientLots hI2 (by omega) gf2 ?_)
      refine r_iadd M dL_ends_493 ?_
      refine r_if_eq M dL_ends_494 (tgt := 499) rfl (by omega) (fun b494 => ?_) (fun b494 => by omega)
      refine r_aload_n M dL_ends_499 rfl ?_
      refine r_callV0 MM dL_ends_500 ck_L_45 vk_X3_loss ⟨by omega, by omega, by omega⟩ ⟨by decide, by decide, rfl⟩ (by decide) (Nat.le_of_ble_eq_true rfl) (cs_loss rfl ?_)
      refine r_iload M dL_ends_503 rfl ?_
      refine r_isub M dL_ends_505 ?_
      refine r_istore_11 M dL_ends_506 (by decide) rfl ?_
      refine r_iload M dL_ends_508 rfl ?_
      refine r_if_le M dL_ends_510 (tgt := 518) rfl (by omega) (fun b510 => ?_) (fun b510 => ?_)
      · refine r_iconst M dL_ends_518 ?_
        refine r_istore_11 M dL_ends_519 (by decide) rfl ?_
        refine r_iload M dL_ends_521 rfl ?_
        refine r_if_eq M dL_ends_523 (tgt := 544) rfl (by omega) (fun b523 => ?_) (fun b523 => ?_)
        · refine r_iload M dL_ends_544 rfl ?_
          refine r_iload M dL_ends_546 rfl ?_
          refine r_iload M dL_ends_548 rfl ?_
          refine r_isub M dL_ends_550 ?_
          refine r_icmp_ne M dL_ends_551 (tgt := 558) rfl (by omega) (fun b551 => by omega) (fun b551 => ?_)
          refine r_iconst M dL_ends_554 ?_
          refine r_goto M dL_ends_555 (tgt := 559) rfl ?_
          refine r_zret MM dL_ends_559 (by omega) ?_
          exact hend
        refine r_iload M dL_ends_526 rfl ?_
        refine r_iload M dL_ends_528 rfl ?_
        refine r_iload M dL_ends_530 rfl ?_
        refine r_isub M dL_ends_532 ?_
        refine r_icmp_gt M dL_ends_533 (tgt := 540) rfl (by omega) (fun b533 => by omega) (fun b533 => ?_)
        refine r_iconst M dL_ends_536 ?_
        refine r_goto M dL_ends_537 (tgt := 559) rfl ?_
        refine r_zret MM dL_ends_559 (by omega) ?_
        exact hend
      refine r_iload M dL_ends_513 rfl ?_
      refine r_goto M dL_ends_515 (tgt := 519) rfl ?_
      refine r_istore_11 M dL_ends_519 (by decide) rfl ?_
      refine r_iload M dL_ends_521 rfl ?_
      refine r_if_eq M dL_ends_523 (tgt := 544) rfl (by omega) (fun b523 => ?_) (fun b523 => ?_)
      · refine r_iload M dL_ends_544 rfl ?_
        refine r_iload M dL_ends_546 rfl ?_
        refine r_iload M dL_ends_548 rfl ?_
        refine r_isub M dL_ends_550 ?_
        refine r_icmp_ne M dL_ends_551 (tgt := 558) rfl (by omega) (fun b551 => by omega) (fun b551 => ?_)
        refine r_iconst M dL_ends_554 ?_
        refine r_goto M dL_ends_555 (tgt := 559) rfl ?_
        refine r_zret MM dL_ends_559 (by omega) ?_
        exact hend
      refine r_iload M dL_ends_526 rfl ?_
      refine r_iload M dL_ends_528 rfl ?_
      refine r_iload M dL_ends_530 rfl ?_
      refine r_isub M dL_ends_532 ?_
      refine r_icmp_gt M dL_ends_533 (tgt := 540) rfl (by omega) (fun b533 => by omega) (fun b533 => ?_)
      refine r_iconst M dL_ends_536 ?_
      refine r_goto M dL_ends_537 (tgt := 559) rfl ?_
      refine r_zret MM dL_ends_559 (by omega) ?_
      exact hend
    · intro l hl hP e8 w9 c12 c13 he8 hw9
      have hl2 : (l : Int) < S2 0 0 3 := by omega
      have hj := gj l hl
      have hm := hI.mem (show l < 10 by omega)
      unfold MI at hm
      have hm2 := hI2.mem (show l < 10 by omega)
      unfold MI at hm2
      have hbl := hL.1.bd.1 l (by omega)
      have h5 : S2 11 0 l = S 4 l 5 := (h11 l (by omega) (by omega)).trans (snV_5 S (by omega))
      have h7' : S2 11 0 (10 + l) = S 4 l 7 := (h11 (10 + l) (by omega) (by omega)).trans (snV_7 S (by omega))
      have h10 : S2 11 0 (20 + l) = S 4 l 10 := (h11 (20 + l) (by omega) (by omega)).trans (snV_10 S (by omega))
      have h3' : S2 11 0 (30 + l) = S 4 l 3 := (h11 (30 + l) (by omega) (by omega)).trans (snV_3 S (by omega))
      have h11' : S2 11 0 (40 + l) = S 4 l 11 := (h11 (40 + l) (by omega) (by omega)).trans (snV_11 S (by omega))
      have hE0 : S 4 l 3 = 0 → smN (eatD S P Q R) (l + 1) = smN (eatD S P Q R) l + (Q l + (P l + R l)) := fun q => by
        show smN (eatD S P Q R) l + (Q l + (if S 4 l 3 = 0 then P l + R l else 0)) = _
        rw [if_pos q]
      have hE1 : ¬ S 4 l 3 = 0 → smN (eatD S P Q R) (l + 1) = smN (eatD S P Q R) l + Q l := fun q => by
        show smN (eatD S P Q R) l + (Q l + (if S 4 l 3 = 0 then P l + R l else 0)) = _
        rw [if_neg q]
        omega
      have hW : smN (fun j => S2 4 j 11 - S 4 j 11) (l + 1) = smN (fun j => S2 4 j 11 - S 4 j 11) l + (S2 4 l 11 - S 4 l 11) := rfl
      have hG1 : S 4 l 3 = 1 → goN S (l + 1) = 1 := fun q => if_pos q
      have hG0 : ¬ S 4 l 3 = 1 → goN S (l + 1) = goN S l := fun q => if_neg q
      have tail : ∀ e9 w10 : Int, e9 = pd + smN (eatD S P Q R) l + Q l → w10 = smN (fun j => S2 4 j 11 - S 4 j 11) (l + 1) → K (60 + 15 * l + 8) 310 [some (vR 0 0), some (vI b), some (vR 11 0), some (vI (f : Int)), some (vI (S 0 0 6)), some (vI (S 0 0 4)), some (vI (S 4 f 4 + S 4 f 5)), some (vI left), some (vI e9), some (vI w10), some (vI (goN S (l + 1))), some (vI (l : Int)), c12, c13] [] S2 := by
        intro e9 w10 he9 hw10
        generalize goN S (l + 1) = gone at *
        generalize smN (fun j => S2 4 j 11 - S 4 j 11) (l + 1) = wons at *
        refine r_aload_n M dL_ends_310 rfl ?_
        refine r_bipush M dL_ends_311 rfl ?_
        refine r_iload M dL_ends_313 rfl ?_
        refine r_iadd M dL_ends_315 ?_
        refine r_ialdV M ((30 + l)) dL_ends_316 ⟨rfl, by decide⟩ (by decide) (by omega) (show (_ : Nat) < 50 by omega) (Nat.le_of_ble_eq_true rfl) (S 4 l 3) (by exact h3') ?_
        refine r_if_eq M dL_ends_317 (tgt := 323) rfl (by omega) (fun b317 => ?_) (fun b317 => ?_)
        · refine r_aload_n M dL_ends_323 rfl ?_
          refine r_iload M dL_ends_324 rfl ?_
          refine r_ialdV M (_) dL_ends_326 ⟨rfl, by decide⟩ (by decide) rfl (show (_ : Nat) < 50 by omega) (Nat.le_of_ble_eq_true rfl) (S 4 l 5) (by exact h5) ?_
          refine r_aload_n M dL_ends_327 rfl ?_
          refine r_iload M dL_ends_328 rfl ?_
          refine r_callV1 MM dL_ends_330 ck_L_17 vk_X3_share ⟨by omega, by omega, by omega⟩ ⟨by decide, by decide, rfl⟩ (by decide) (Nat.le_of_ble_eq_true rfl) (cs_share hI2 hl2 (hj.2.2.2.2.2.2 b317).2.1 ?_)
          refine r_isub M dL_ends_333 ?_
          refine r_istore_12 M dL_ends_334 (by decide) rfl ?_
          refine r_aload_n M dL_ends_336 rfl ?_
          refine r_bipush M dL_ends_337 rfl ?_
          refine r_iload M dL_ends_339 rfl ?_
          refine r_iadd M dL_ends_341 ?_
          refine r_ialdV M ((10 + l)) dL_ends_342 ⟨rfl, by decide⟩ (by decide) (by omega) (show (_ : Nat) < 50 by omega) (Nat.le_of_ble_eq_true rfl) (S 4 l 7) (by exact h7') ?_
          refine r_aload_n M dL_ends_343 rfl ?_
          refine r_iload M dL_ends_344 rfl ?_
          refine r_callV1 MM dL_ends_346 ck_L_21 vk_X3_gain ⟨by omega, by omega, by omega⟩ ⟨by decide, by decide, rfl⟩ (by decide) (Nat.le_of_ble_eq_true rfl) (cs_gain hI2 hl2 (hj.2.2.2.2.2.2 b317).2.2.1 ?_)
          refine r_isub M dL_ends_349 ?_
          refine r_istore_13 M dL_ends_350 (by decide) rfl ?_
          refine r_aload_n M dL_ends_352 rfl ?_
          refine r_iload M dL_ends_353 rfl ?_
          refine r_callV1 MM dL_ends_355 ck_L_33 vk_X3_state ⟨by omega, by omega, by omega⟩ ⟨by decide, by decide, rfl⟩ (by decide) (Nat.le_of_ble_eq_true rfl) (cs_state hI2 hl2 (hj.2.2.2.2.2.2 b317).1 ?_)
          refine r_if_ne M dL_ends_358 (tgt := 392) rfl (by omega) (fun b358 => by omega) (fun b358 => ?_)
          refine r_iload M dL_ends_361 rfl ?_
          refine r_if_lt M dL_ends_363 (tgt := 392) rfl (by omega) (fun b363 => by omega) (fun b363 => ?_)
          refine r_iload M dL_ends_366 rfl ?_
          refine r_if_lt M dL_ends_368 (tgt := 392) rfl (by omega) (fun b368 => by omega) (fun b368 => ?_)
          refine r_aload_n M dL_ends_371 rfl ?_
          refine r_iload M dL_ends_372 rfl ?_
          refine r_callV1 MM dL_ends_374 ck_L_24 vk_X3_assessed ⟨by omega, by omega, by omega⟩ ⟨by decide, by decide, rfl⟩ (by decide) (Nat.le_of_ble_eq_true rfl) (cs_assessed hI2 hl2 hj.1.1 ?_)
          refine r_aload_n M dL_ends_377 rfl ?_
          refine r_bipush M dL_ends_378 rfl ?_
          refine r_iload M dL_ends_380 rfl ?_
          refine r_iadd M dL_ends_382 ?_
          refine r_ialdV M ((20 + l)) dL_ends_383 ⟨rfl, by decide⟩ (by decide) (by omega) (show (_ : Nat) < 50 by omega) (Nat.le_of_ble_eq_true rfl) (S 4 l 10) (by exact h10) ?_
          refine r_isub M dL_ends_384 ?_
          refine r_aload_n M dL_ends_385 rfl ?_
          refine r_iload M dL_ends_386 rfl ?_
          refine r_ialdV M (_) dL_ends_388 ⟨rfl, by decide⟩ (by decide) rfl (show (_ : Nat) < 50 by omega) (Nat.le_of_ble_eq_true rfl) (S 4 l 5) (by exact h5) ?_
          refine r_icmp_le M dL_ends_389 (tgt := 394) rfl (by omega) (fun b389 => ?_) (fun b389 => by omega)
          refine r_iload M dL_ends_394 rfl ?_
          refine r_if_le M dL_ends_396 (tgt := 408) rfl (by omega) (fun b396 => ?_) (fun b396 => ?_)
          · refine r_iload M dL_ends_408 rfl ?_
            refine r_if_le M dL_ends_410 (tgt := 440) rfl (by omega) (fun b410 => ?_) (fun b410 => ?_)
            · refine r_iload M dL_ends_440 rfl ?_
              refine r_iload M dL_ends_442 rfl ?_
              refine r_iload M dL_ends_444 rfl ?_
              refine r_iadd M dL_ends_446 ?_
              refine r_iadd M dL_ends_447 ?_
              refine r_istore_8 M dL_ends_448 (by decide) rfl ?_
              refine r_iinc_11 M (_) dL_ends_450 rfl (by decide) rfl ?_
              refine r_goto M dL_ends_453 (tgt := 184) rfl ?_
              first | exact k_w M (by omega) (by omega) (hP _ _ _ _ (by have := hE1 b317; omega) (by omega)) | exact k_w M (by omega) (by omega) (hP _ _ _ _ (by have := hE0 b317; omega) (by omega))
            refine r_aload_n M dL_ends_413 rfl ?_
            refine r_iload M dL_ends_414 rfl ?_
            refine r_callV1 MM dL_ends_416 ck_L_17 vk_X3_share ⟨by omega, by omega, by omega⟩ ⟨by decide, by decide, rfl⟩ (by decide) (Nat.le_of_ble_eq_true rfl) (cs_share hI2 hl2 (hj.2.2.2.2.2.2 b317).2.1 ?_)
            refine r_if_gt M dL_ends_419 (tgt := 438) rfl (by omega) (fun b419 => by have := (hj.2.2.2.2.2.2 b317).2.2.2.2 (by omega); omega) (fun b419 => ?_)
            refine r_aload_n M dL_ends_422 rfl ?_
            refine r_iload M dL_ends_423 rfl ?_
            refine r_callV1 MM dL_ends_425 ck_L_21 vk_X3_gain ⟨by omega, by omega, by omega⟩ ⟨by decide, by decide, rfl⟩ (by decide) (Nat.le_of_ble_eq_true rfl) (cs_gain hI2 hl2 (hj.2.2.2.2.2.2 b317).2.2.1 ?_)
            refine r_if_gt M dL_ends_428 (tgt := 438) rfl (by omega) (fun b428 => by have := (hj.2.2.2.2.2.2 b317).2.2.2.2 (by omega); omega) (fun b428 => ?_)
            refine r_aload_n M dL_ends_431 rfl ?_
            refine r_callV0 MM dL_ends_432 ck_L_8 vk_X3_capital ⟨by omega, by omega, by omega⟩ ⟨by decide, by decide, rfl⟩ (by decide) (Nat.le_of_ble_eq_true rfl) (cs_capital g4 ?_)
            refine r_if_le M dL_ends_435 (tgt := 440) rfl (by omega) (fun b435 => ?_) (fun b435 => by have := gpd2 (by omega); omega)
            refine r_iload M dL_ends_440 rfl ?_
            refine r_iload M dL_ends_442 rfl ?_
            refine r_iload M dL_ends_444 rfl ?_
            refine r_iadd M dL_ends_446 ?_
            refine r_iadd M dL_ends_447 ?_
            refine r_istore_8 M dL_ends_448 (by decide) rfl ?_
            refine r_iinc_11 M (_) dL_ends_450 rfl (by decide) rfl ?_
            refine r_goto M dL_ends_453 (tgt := 184) rfl ?_
            first | exact k_w M (by omega) (by omega) (hP _ _ _ _ (by have := hE1 b317; omega) (by omega)) | exact k_w M (by omega) (by omega) (hP _ _ _ _ (by have := hE0 b317; omega) (by omega))
          refine r_aload_n M dL_ends_399 rfl ?_
          refine r_iload M dL_ends_400 rfl ?_
          refine r_callV1 MM dL_ends_402 ck_L_17 vk_X3_share ⟨by omega, by omega, by omega⟩ ⟨by decide, by decide, rfl⟩ (by decide) (Nat.le_of_ble_eq_true rfl) (cs_share hI2 hl2 (hj.2.2.2.2.2.2 b317).2.1 ?_)
          refine r_if_gt M dL_ends_405 (tgt := 438) rfl (by omega) (fun b405 => by have := (hj.2.2.2.2.2.2 b317).2.2.2.1 (by omega); omega) (fun b405 => ?_)
          refine r_iload M dL_ends_408 rfl ?_
          refine r_if_le M dL_ends_410 (tgt := 440) rfl (by omega) (fun b410 => ?_) (fun b410 => ?_)
          · refine r_iload M dL_ends_440 rfl ?_
            refine r_iload M dL_ends_442 rfl ?_
            refine r_iload M dL_ends_444 rfl ?_
            refine r_iadd M dL_ends_446 ?_
            refine r_iadd M dL_ends_447 ?_
            refine r_istore_8 M dL_ends_448 (by decide) rfl ?_
            refine r_iinc_11 M (_) dL_ends_450 rfl (by decide) rfl ?_
            refine r_goto M dL_ends_453 (tgt := 184) rfl ?_
            first | exact k_w M (by omega) (by omega) (hP _ _ _ _ (by have := hE1 b317; omega) (by omega)) | exact k_w M (by omega) (by omega) (hP _ _ _ _ (by have := hE0 b317; omega) (by omega))
          refine r_aload_n M dL_ends_413 rfl ?_
          refine r_iload M dL_ends_414 rfl ?_
          refine r_callV1 MM dL_ends_416 ck_L_17 vk_X3_share ⟨by omega, by omega, by omega⟩ ⟨by decide, by decide, rfl⟩ (by decide) (Nat.le_of_ble_eq_true rfl) (cs_share hI2 hl2 (hj.2.2.2.2.2.2 b317).2.1 ?_)
          refine r_if_gt M dL_ends_419 (tgt := 438) rfl (by omega) (fun b419 => by have := (hj.2.2.2.2.2.2 b317).2.2.2.2 (by omega); omega) (fun b419 => ?_)
          refine r_aload_n M dL_ends_422 rfl ?_
          refine r_iload M dL_ends_423 rfl ?_
          refine r_callV1 MM dL_ends_425 ck_L_21 vk_X3_gain ⟨by omega, by omega, by omega⟩ ⟨by decide, by decide, rfl⟩ (by decide) (Nat.le_of_ble_eq_true rfl) (cs_gain hI2 hl2 (hj.2.2.2.2.2.2 b317).2.2.1 ?_)
          refine r_if_gt M dL_ends_428 (tgt := 438) rfl (by omega) (fun b428 => by have := (hj.2.2.2.2.2.2 b317).2.2.2.2 (by omega); omega) (fun b428 => ?_)
          refine r_aload_n M dL_ends_431 rfl ?_
          refine r_callV0 MM dL_ends_432 ck_L_8 vk_X3_capital ⟨by omega, by omega, by omega⟩ ⟨by decide, by decide, rfl⟩ (by decide) (Nat.le_of_ble_eq_true rfl) (cs_capital g4 ?_)
          refine r_if_le M dL_ends_435 (tgt := 440) rfl (by omega) (fun b435 => ?_) (fun b435 => by have := gpd2 (by omega); omega)
          refine r_iload M dL_ends_440 rfl ?_
          refine r_iload M dL_ends_442 rfl ?_
          refine r_iload M dL_ends_444 rfl ?_
          refine r_iadd M dL_ends_446 ?_
          refine r_iadd M dL_ends_447 ?_
          refine r_istore_8 M dL_ends_448 (by decide) rfl ?_
          refine r_iinc_11 M (_) dL_ends_450 rfl (by decide) rfl ?_
          refine r_goto M dL_ends_453 (tgt := 184) rfl ?_
          first | exact k_w M (by omega) (by omega) (hP _ _ _ _ (by have := hE1 b317; omega) (by omega)) | exact k_w M (by omega) (by omega) (hP _ _ _ _ (by have := hE0 b317; omega) (by omega))
        refine r_goto M dL_ends_320 (tgt := 450) rfl ?_
        refine r_iinc_11 M (_) dL_ends_450 rfl (by decide) rfl ?_
        refine r_goto M dL_ends_453 (tgt := 184) rfl ?_
        first | exact k_w M (by omega) (by omega) (hP _ _ _ _ (by have := hE1 b317; omega) (by omega)) | exact k_w M (by omega) (by omega) (hP _ _ _ _ (by have := hE0 b317; omega) (by omega))
      refine r_iload M dL_ends_184 rfl ?_
      refine r_aload_n M dL_ends_186 rfl ?_
      refine r_callV0 MM dL_ends_187 ck_L_14 vk_X3_members ⟨by omega, by omega, by omega⟩ ⟨by decide, by decide, rfl⟩ (by decide) (Nat.le_of_ble_eq_true rfl) (cs_members h03 ?_)
      refine r_icmp_ge M dL_ends_190 (tgt := 456) rfl (by omega) (fun b190 => by omega) (fun b190 => ?_)
      refine r_iload M dL_ends_193 rfl ?_
      refine r_aload_n M dL_ends_195 rfl ?_
      refine r_iload M dL_ends_196 rfl ?_
      refine r_callV1 MM dL_ends_198 ck_L_36 vk_X3_won ⟨by omega, by omega, by omega⟩ ⟨by decide, by decide, rfl⟩ (by decide) (Nat.le_of_ble_eq_true rfl) (cs_won hI2 hl2 rfl ?_)
      refine r_aload_n M dL_ends_201 rfl ?_
      refine r_bipush M dL_ends_202 rfl ?_
      refine r_iload M dL_ends_204 rfl ?_
      refine r_iadd M dL_ends_206 ?_
      refine r_ialdV M ((40 + l)) dL_ends_207 ⟨rfl, by decide⟩ (by decide) (by omega) (show (_ : Nat) < 50 by omega) (Nat.le_of_ble_eq_true rfl) (S 4 l 11) (by exact h11') ?_
      refine r_isub M dL_ends_208 ?_
      refine r_iadd M dL_ends_209 ?_
      refine r_istore_9 M dL_ends_210 (by decide) rfl ?_
      refine r_iload M dL_ends_212 rfl ?_
      refine r_aload_n M dL_ends_214 rfl ?_
      refine r_iload M dL_ends_215 rfl ?_
      refine r_callV1 MM dL_ends_217 ck_L_24 vk_X3_assessed ⟨by omega, by omega, by omega⟩ ⟨by decide, by decide, rfl⟩ (by decide) (Nat.le_of_ble_eq_true rfl) (cs_assessed hI2 hl2 hj.1.1 ?_)
      refine r_aload_n M dL_ends_220 rfl ?_
      refine r_bipush M dL_ends_221 rfl ?_
      refine r_iload M dL_ends_223 rfl ?_
      refine r_iadd M dL_ends_225 ?_
      refine r_ialdV M ((20 + l)) dL_ends_226 ⟨rfl, by decide⟩ (by decide) (by omega) (show (_ : Nat) < 50 by omega) (Nat.le_of_ble_eq_true rfl) (S 4 l 10) (by exact h10) ?_
      refine r_isub M dL_ends_227 ?_
      refine r_iadd M dL_ends_228 ?_
      refine r_istore_8 M dL_ends_229 (by decide) rfl ?_
      refine r_aload_n M dL_ends_231 rfl ?_
      refine r_bipush M dL_ends_232 rfl ?_
      refine r_iload M dL_ends_234 rfl ?_
      refine r_iadd M dL_ends_236 ?_
      refine r_ialdV M ((30 + l)) dL_ends_237 ⟨rfl, by decide⟩ (by decide) (by omega) (show (_ : Nat) < 50 by omega) (Nat.le_of_ble_eq_true rfl) (S 4 l 3) (by exact h3') ?_
      refine r_iconst M dL_ends_238 ?_
      refine r_icmp_ne M dL_ends_239 (tgt := 310) rfl (by omega) (fun b239 => ?_) (fun b239 => ?_)
      · first | (rw [hG1 b239] at tail; exact k_w M (by omega) (by omega) (tail _ _ (by omega) (by omega))) | (rw [hG0 b239] at tail; exact k_w M (by omega) (by omega) (tail _ _ (by omega) (by omega)))
      refine r_aload_n M dL_ends_242 rfl ?_
      refine r_iload M dL_ends_243 rfl ?_
      refine r_callV1 MM dL_ends_245 ck_L_33 vk_X3_state ⟨by omega, by omega, by omega⟩ ⟨by decide, by decide, rfl⟩ (by decide) (Nat.le_of_ble_eq_true rfl) (cs_state hI2 hl2 (hj.2.2.2.2.2.1 b239).1 ?_)
      refine r_iconst M dL_ends_248 ?_
      refine r_icmp_ne M dL_ends_249 (tgt := 305) rfl (by omega) (fun b249 => by omega) (fun b249 => ?_)
      refine r_aload_n M dL_ends_252 rfl ?_
      refine r_iload M dL_ends_253 rfl ?_
      refine r_callV1 MM dL_ends_255 ck_L_17 vk_X3_share ⟨by omega, by omega, by omega⟩ ⟨by decide, by decide, rfl⟩ (by decide) (Nat.le_of_ble_eq_true rfl) (cs_share hI2 hl2 (hj.2.2.2.2.2.1 b239).2.1 ?_)
      refine r_aload_n M dL_ends_258 rfl ?_
      refine r_iload M dL_ends_259 rfl ?_
      refine r_callV1 MM dL_ends_261 ck_L_39 vk_X3_margin ⟨by omega, by omega, by omega⟩ ⟨by decide, by decide, rfl⟩ (by decide) (Nat.le_of_ble_eq_true rfl) (cs_margin hI2 hl2 (hj.2.2.2.2.2.1 b239).2.2.1 ?_)
      refine r_iadd M dL_ends_264 ?_
      refine r_aload_n M dL_ends_265 rfl ?_
      refine r_iload M dL_ends_266 rfl ?_
      refine r_callV1 MM dL_ends_268 ck_L_21 vk_X3_gain ⟨by omega, by omega, by omega⟩ ⟨by decide, by decide, rfl⟩ (by decide) (Nat.le_of_ble_eq_true rfl) (cs_gain hI2 hl2 (hj.2.2.2.2.2.1 b239).2.2.2.1 ?_)
      refine r_iadd M dL_ends_271 ?_
      refine r_aload_n M dL_ends_272 rfl ?_
      refine r_iload M dL_ends_273 rfl ?_
      refine r_callV1 MM dL_ends_275 ck_L_48 vk_X3_clientLots ⟨by omega, by omega, by omega⟩ ⟨by decide, by decide, rfl⟩ (by decide) (Nat.le_of_ble_eq_true rfl) (cs_clientLots hI2 hl2 (hj.2.2.2.2.2.1 b239).2.2.2.2.1 ?_)
      refine r_iadd M dL_ends_278 ?_
      refine r_if_ne M dL_ends_279 (tgt := 305) rfl (by omega) (fun b279 => by omega) (fun b279 => ?_)
      refine r_aload_n M dL_ends_282 rfl ?_
      refine r_iload M dL_ends_283 rfl ?_
      refine r_callV1 MM dL_ends_285 ck_L_24 vk_X3_assessed ⟨by omega, by omega, by omega⟩ ⟨by decide, by decide, rfl⟩ (by decide) (Nat.le_of_ble_eq_true rfl) (cs_assessed hI2 hl2 hj.1.1 ?_)
      refine r_aload_n M dL_ends_288 rfl ?_
      refine r_bipush M dL_ends_289 rfl ?_
      refine r_iload M dL_ends_291 rfl ?_
      refine r_iadd M dL_ends_293 ?_
      refine r_ialdV M ((20 + l)) dL_ends_294 ⟨rfl, by decide⟩ (by decide) (by omega) (show (_ : Nat) < 50 by omega) (Nat.le_of_ble_eq_true rfl) (S 4 l 10) (by exact h10) ?_
      refine r_isub M dL_ends_295 ?_
      refine r_aload_n M dL_ends_296 rfl ?_
      refine r_iload M dL_ends_297 rfl ?_
      refine r_ialdV M (_) dL_ends_299 ⟨rfl, by decide⟩ (by decide) rfl (show (_ : Nat) < 50 by omega) (Nat.le_of_ble_eq_true rfl) (S 4 l 5) (by exact h5) ?_
      refine r_iconst M dL_ends_300 ?_
      refine r_idiv M dL_ends_301 (by omega) ?_
      refine r_icmp_le M dL_ends_302 (tgt := 307) rfl (by omega) (fun b302 => ?_) (fun b302 => by have := (hj.2.2.2.2.2.1 b239).2.2.2.2.2; omega)
      refine r_iconst M dL_ends_307 ?_
      refine r_istore_10 M dL_ends_308 (by decide) rfl ?_
      first | (rw [hG1 b239] at tail; exact k_w M (by omega) (by omega) (tail _ _ (by omega) (by omega))) | (rw [hG0 b239] at tail; exact k_w M (by omega) (by omega) (tail _ _ (by omega) (by omega)))
  · intro l hl hP
    have hl2 : (l : Int) < S 0 0 3 := by omega
    have hIu : ∀ {X : St} {j : Nat} {v : Int}, CI X → CI (up3 X 11 0 j v) := fun {X j v} hX => CI_cong (fun t' q => up3_t (by omega)) hX
    refine r_iload M dL_ends_20 rfl ?_
    refine r_aload_n M dL_ends_22 rfl ?_
    refine r_callV0 MM dL_ends_23 ck_L_14 vk_X3_members ⟨by omega, by omega, by omega⟩ ⟨by decide, by decide, rfl⟩ (by decide) (Nat.le_of_ble_eq_true rfl) (cs_members (v := S 0 0 3) rfl ?_)
    refine r_icmp_ge M dL_ends_26 (tgt := 97) rfl (by omega) (fun b26 => by omega) (fun b26 => ?_)
    refine r_aload_n M dL_ends_29 rfl ?_
    refine r_iload M dL_ends_30 rfl ?_
    refine r_aload_n M dL_ends_32 rfl ?_
    refine r_iload M dL_ends_33 rfl ?_
    refine r_callV1 MM dL_ends_35 ck_L_17 vk_X3_share ⟨by omega, by omega, by omega⟩ ⟨by decide, by decide, rfl⟩ (by decide) (Nat.le_of_ble_eq_true rfl) (cs_share (hIs l) hl2 (v := S 4 l 5) rfl ?_)
    refine r_iast M (_) dL_ends_38 ⟨rfl, by decide⟩ (by decide) rfl (show (_ : Nat) < 50 by omega) (Nat.le_of_ble_eq_true rfl) ?_
    refine r_aload_n M dL_ends_39 rfl ?_
    refine r_bipush M dL_ends_40 rfl ?_
    refine r_iload M dL_ends_42 rfl ?_
    refine r_iadd M dL_ends_44 ?_
    refine r_aload_n M dL_ends_45 rfl ?_
    refine r_iload M dL_ends_46 rfl ?_
    refine r_callV1 MM dL_ends_48 ck_L_21 vk_X3_gain ⟨by omega, by omega, by omega⟩ ⟨by decide, by decide, rfl⟩ (by decide) (Nat.le_of_ble_eq_true rfl) (cs_gain (hIu (hIs l)) hl2 (v := S 4 l 7) rfl ?_)
    refine r_iast M ((10 + l)) dL_ends_51 ⟨rfl, by decide⟩ (by decide) (by omega) (show (_ : Nat) < 50 by omega) (Nat.le_of_ble_eq_true rfl) ?_
    refine r_aload_n M dL_ends_52 rfl ?_
    refine r_bipush M dL_ends_53 rfl ?_
    refine r_iload M dL_ends_55 rfl ?_
    refine r_iadd M dL_ends_57 ?_
    refine r_aload_n M dL_ends_58 rfl ?_
    refine r_iload M dL_ends_59 rfl ?_
    refine r_callV1 MM dL_ends_61 ck_L_24 vk_X3_assessed ⟨by omega, by omega, by omega⟩ ⟨by decide, by decide, rfl⟩ (by decide) (Nat.le_of_ble_eq_true rfl) (cs_assessed (hIu (hIu (hIs l))) hl2 (v := S 4 l 10) rfl ?_)
    refine r_iast M ((20 + l)) dL_ends_64 ⟨rfl, by decide⟩ (by decide) (by omega) (show (_ : Nat) < 50 by omega) (Nat.le_of_ble_eq_true rfl) ?_
    refine r_aload_n M dL_ends_65 rfl ?_
    refine r_bipush M dL_ends_66 rfl ?_
    refine r_iload M dL_ends_68 rfl ?_
    refine r_iadd M dL_ends_70 ?_
    refine r_aload_n M dL_ends_71 rfl ?_
    refine r_iload M dL_ends_72 rfl ?_
    refine r_callV1 MM dL_ends_74 ck_L_33 vk_X3_state ⟨by omega, by omega, by omega⟩ ⟨by decide, by decide, rfl⟩ (by decide) (Nat.le_of_ble_eq_true rfl) (cs_state (hIu (hIu (hIu (hIs l)))) hl2 (v := S 4 l 3) rfl ?_)
    refine r_iast M ((30 + l)) dL_ends_77 ⟨rfl, by decide⟩ (by decide) (by omega) (show (_ : Nat) < 50 by omega) (Nat.le_of_ble_eq_true rfl) ?_
    refine r_aload_n M dL_ends_78 rfl ?_
    refine r_bipush M dL_ends_79 rfl ?_
    refine r_iload M dL_ends_81 rfl ?_
    refine r_iadd M dL_ends_83 ?_
    refine r_aload_n M dL_ends_84 rfl ?_
    refine r_iload M dL_ends_85 rfl ?_
    refine r_callV1 MM dL_ends_87 ck_L_36 vk_X3_won ⟨by omega, by omega, by omega⟩ ⟨by decide, by decide, rfl⟩ (by decide) (Nat.le_of_ble_eq_true rfl) (cs_won (hIu (hIu (hIu (hIu (hIs l))))) hl2 (v := S 4 l 11) rfl ?_)
    refine r_iast M ((40 + l)) dL_ends_90 ⟨rfl, by decide⟩ (by decide) (by omega) (show (_ : Nat) < 50 by omega) (Nat.le_of_ble_eq_true rfl) ?_
    refine r_iinc_6 M (_) dL_ends_91 rfl (by decide) rfl ?_
    refine r_goto M dL_ends_94 (tgt := 20) rfl ?_
    exact k_w M (by omega) (by omega) (k_S hP (snS_s S (by omega)))
end XEnds
end
section
/-! ===== the law's turns ===== -/
/-- one field of a member and the array that stands for it -/
theorem MI_set {S : St} {i : Nat} {j f : Nat} {v : Int} (h : MI S i) (hf : f = 7 ∧ (0 ≤ v ∧ v ≤ 1000000) ∨ f = 8 ∧ (0 ≤ v ∧ v ≤ 1000000) ∨ f = 3 ∧ 0 ≤ v ∧ v ≤ 3) : MI (up3 S 4 j f v) i := by
  have e : ∀ k, up3 S 4 j f v 4 i k = if i = j ∧ k = f then v else S 4 i k := fun k => by simp [up3]
  have e5 : ∀ k, up3 S 4 j f v 5 i k = S 5 i k := fun k => by simp [up3]
  unfold MI at h ⊢
  obtain ⟨a1, a2, a3, a4, a5, a6, a7, a8, a9, a10, a11⟩ := h
  refine ⟨?_, ?_, ?_, ?_, ?_, ?_, ?_, ?_, ?_, ?_, fun k hk => ?_⟩
  all_goals first | (rw [e5]; exact a11 k hk) | (rw [e]; split <;> omega)
section LIK
variable {t : Nat} {S : St}
theorem LI.suc (h : LI t S) : LI (t + 1) S := by
  obtain ⟨⟨h1, h2, h3, h4, h5⟩, h7⟩ := h
  refine ⟨⟨h1, h2, h3, h4, fun i hi => ?_, ?_⟩, h7⟩
  · have := h5.1 i hi
    omega
  · have := h5.2
    omega
theorem LI.set (h : LI t S) {j f : Nat} {v : Int} (hf : f = 7 ∧ (0 ≤ v ∧ v ≤ 1000000) ∨ f = 8 ∧ (0 ≤ v ∧ v ≤ 1000000) ∨ f = 3 ∧ 0 ≤ v ∧ v ≤ 3) : LI t (up3 S 4 j f v) := by
  have e : ∀ t', t' ≠ 4 → up3 S 4 j f v t' = S t' := fun t' q => up3_t q
  have e4 : ∀ i k, k ≠ f → up3 S 4 j f v 4 i k = S 4 i k := fun i k q => up3_k q
  have hP := h.1.ci.2.2.2.2.2.1
  refine ⟨h.1.gen (CI_set h.1.ci (e 0 (by omega)) (e 2 (by omega)) (e 7 (by omega)) (by unfold smP; rw [e 8 (by omega), e 9 (by omega), e 10 (by omega)]; exact hP) (fun i hi => MI_set (h.1.ci.mem hi) hf)) (by rw [e 0 (by omega)]) (e 5 (by omega)) (fun i => ⟨e4 i 1 (by omega), e4 i 2 (by omega), e4 i 6 (by omega), e4 i 10 (by omega)⟩) (Z8_cong h.1.z8 (e 8 (by omega)) (by rw [e 0 (by omega)])) (e 12 (by omega)) (by rw [e 0 (by omega)]), by rw [e 0 (by omega)]; exact h.2⟩
theorem LI.cap (h : LI t S) {v : Int} (hv : 0 ≤ v ∧ v ≤ 1000000) : LI t (up3 S 0 0 4 v) := by
  have e : ∀ t', t' ≠ 0 → up3 S 0 0 4 v t' = S t' := fun t' q => up3_t q
  have e0 : ∀ k, k ≠ 4 → up3 S 0 0 4 v 0 0 k = S 0 0 k := fun k q => up3_k q
  exact ⟨h.1.gen (CI_00 h.1.ci (Or.inl ⟨rfl, hv⟩)) (e0 3 (by omega)) (e 5 (by omega)) (fun i => by rw [e 4 (by omega)]; exact ⟨rfl, rfl, rfl, rfl⟩) (Z8_cong h.1.z8 (e 8 (by omega)) (e0 3 (by omega))) (e 12 (by omega)) (e0 6 (by omega)), by rw [e0 7 (by omega)]; exact h.2⟩
theorem LI.sz (h : LI t S) : LI t (szS S) := by
  have e4 : ∀ i k, k ≠ 5 → szS S 4 i k = S 4 i k := fun i k q => by rw [sz_4, if_neg (fun z => q z.1)]
  exact ⟨h.1.gen (CI_sz h.1.ci).1 rfl rfl (fun i => ⟨e4 i 1 (by omega), e4 i 2 (by omega), e4 i 6 (by omega), e4 i 10 (by omega)⟩) (Z8_eat h.1.z8 _ _ _ _ _) rfl rfl, h.2⟩
theorem LI.join (h : LI t S) {j : Nat} (hj : S 0 0 3 = (j : Int)) (hj10 : j < 10) {a b c : Int} (ha : 0 ≤ a ∧ a ≤ 1000000) (hb : 0 ≤ b ∧ b ≤ 1000000) (hc : 0 ≤ c ∧ c ≤ 100) : LI t (up3 (joinS (up3 S 12 0 j c) j a b c) 0 0 3 (j + 1 : Int)) := by
  obtain ⟨X, hX⟩ : ∃ X, X = up3 (joinS (up3 S 12 0 j c) j a b c) 0 0 3 (j + 1 : Int) := ⟨_, rfl⟩
  have e : ∀ t', t' ≠ 0 → t' ≠ 4 → t' ≠ 12 → X t' = S t' := fun t' q0 q4 q12 => by
    rw [hX]
    unfold joinS
    rw [up3_t q0, up3_t q4, up3_t q4, up3_t q4, up3_t q12]
  have e0 : ∀ k, k ≠ 3 → X 0 0 k = S 0 0 k := fun k q => by
    rw [hX, up3_k q]
    unfold joinS
    rw [up3_t (by omega), up3_t (by omega), up3_t (by omega), up3_t (by omega)]
  have e03 : X 0 0 3 = (j : Int) + 1 := by rw [hX, up3_at]
  have e12 : ∀ k, X 12 0 k = if k = j then c else S 12 0 k := fun k => by
    rw [hX]
    unfold joinS
    rw [up3_t (by omega), up3_t (by omega), up3_t (by omega), up3_t (by omega)]
    by_cases q : k = j
    · rw [if_pos q, q, up3_at]
    · rw [if_neg q, up3_k q]
  have e4 : ∀ i k, X 4 i k = if i = j ∧ k = 6 then c else if i = j ∧ k = 5 then b else if i = j ∧ k = 4 then a else S 4 i k := fun i k => by
    rw [hX]
    simp [joinS, up3]
  rw [← hX]
  have hI := h.1.ci
  obtain ⟨a1, a2, a3, a4, a5, a6, a7⟩ := hI
  refine ⟨⟨⟨by rw [e03]; omega, by rw [e0 4 (by omega)]; exact a2, by rw [e0 7 (by omega)]; exact a3, by rw [e0 5 (by omega)]; exact a4, ?_, ?_, fun i hi => ?_⟩, fun i hi => ?_, fun k hk hc9 => ?_, fun k hk hc9 => ?_, fun i hi => ?_, ?_⟩, ?_⟩
  · unfold smA
    rw [e 2 (by omega) (by omega) (by omega), e 7 (by omega) (by omega) (by omega)]
    exact a5
  · unfold smP
    rw [e 8 (by omega) (by omega) (by omega), e 9 (by omega) (by omega) (by omega), e 10 (by omega) (by omega) (by omega)]
    exact a6
  · have hm := a7 i hi
    unfold MI at hm ⊢
    obtain ⟨b1, b2, b3, b4, b5, b6, b7, b8, b9, b10, b11⟩ := hm
    rw [e 5 (by omega) (by omega) (by omega)]
    refine ⟨?_, ?_, ?_, ?_, ?_, ?_, ?_, ?_, ?_, ?_, b11⟩
    all_goals rw [e4]
    all_goals split
    all_goals first | omega | (split <;> first | omega | (split <;> omega))
  · rw [e 5 (by omega) (by omega) (by omega), e4, e4, if_neg (by omega), if_neg (by omega), if_neg (by omega), if_neg (by omega), if_neg (by omega), if_neg (by omega)]
    exact h.1.cl i hi
  · rw [e03] at hc9
    rw [e 8 (by omega) (by omega) (by omega)]
    exact h.1.z8 k hk (by omega)
  · rw [e03] at hc9
    rw [e12, e4]
    by_cases q : k = j
    · rw [if_pos q, if_pos ⟨q, rfl⟩]
    · rw [if_neg q, if_neg (fun z => q z.1), if_neg (fun z => q z.1), if_neg (fun z => q z.1)]
      exact h.1.rm k hk (by omega)
  · rw [e4, if_neg (by omega), if_neg (by omega), if_neg (by omega)]
    exact h.1.bd.1 i hi
  · rw [e0 6 (by omega)]
    exact h.1.bd.2
  · rw [e0 7 (by omega)]
    exact h.2
end LIK
section XTurn
variable {g : Gl} {S : St} {Ret : Option AV → St → Prop} {Thr : String → St → Prop} {t : Nat}
theorem cs_addMember {j : Nat} {a b c : Int} (hI : CI S) (hj : S 0 0 3 = (j : Int)) (hj10 : j < 10) (ha : 0 ≤ a ∧ a ≤ 1000000) (hb : 0 ≤ b ∧ b ≤ 1000000) (hc : 0 ≤ c ∧ c ≤ 100) (h : Ret (some (vI (j : Int))) (up3 (joinS S j a b c) 0 0 3 (j + 1 : Int))) : Cn g yX3_addMember cX3_addMember 4 (some .int) 7 112 4 [vR 0 0, vI a, vI b, vI c] S Ret Thr := by
  refine cn_addMember (by omega) (by omega) (by omega) hI (fun i ei hi _ _ _ => ?_) (fun q => absurd ⟨ha, hb, hc⟩ q) (fun _ q => absurd (by omega) q)
  have e : i = j := by omega
  subst e
  exact h
theorem cs_setGain {l : Nat} {v : Int} (hI : CI S) (hl : (l : Int) < S 0 0 3) (hv : 0 ≤ v ∧ v ≤ 1000000) (ha : actv S l) (h : Ret (some (vI (S 4 l 7))) (up3 S 4 l 7 v)) : Cn g yX3_setGain cX3_setGain 5 (some .int) 7 112 3 [vR 0 0, vI (l : Int), vI v] S Ret Thr := by
  have hc := hI.cnt
  refine cn_setGain (by omega) (by omega) hI (fun j ej hj hjc _ _ => ?_) (fun q => absurd ⟨by omega, hl⟩ q) (fun _ q => absurd hv q) (fun j ej hj hjc _ q => ?_)
  · have e : j = l := by omega
    subst e
    exact h
  · have e : j = l := by omega
    subst e
    exact absurd ha q
theorem cs_setTested {l : Nat} {v : Int} (hI : CI S) (hl : (l : Int) < S 0 0 3) (hv : 0 ≤ v ∧ v ≤ 1000000) (ha : actv S l) (h : Ret (some (vI (S 4 l 8))) (up3 S 4 l 8 v)) : Cn g yX3_setTested cX3_setTested 5 (some .int) 7 112 3 [vR 0 0, vI (l : Int), vI v] S Ret Thr := by
  have hc := hI.cnt
  refine cn_setTested (by omega) (by omega) hI (fun j ej hj hjc _ _ => ?_) (fun q => absurd ⟨by omega, hl⟩ q) (fun _ q => absurd hv q) (fun j ej hj hjc _ q => ?_)
  · have e : j = l := by omega
    subst e
    exact h
  · have e : j = l := by omega
    subst e
    exact absurd ha q
theorem cs_setCapital {v : Int} (hv : 0 ≤ v ∧ v ≤ 1000000) (h : Ret (some (vI (S 0 0 4))) (up3 S 0 0 4 v)) : Cn g yX3_setCapital cX3_setCapital 3 (some .int) 7 112 1 [vR 0 0, vI v] S Ret Thr := cn_setCapital (by omega) (fun _ => h) (fun q => absurd hv q)
theorem cs_giveNotice {l : Nat} (hI : CI S) (hl : (l : Int) < S 0 0 3) (h3 : S 4 l 3 = 0) (h7 : S 0 0 7 = -1) (h : Ret none (up3 S 4 l 3 1)) : Cn g yX3_giveNotice cX3_giveNotice 3 none 7 111 3 [vR 0 0, vI (l : Int)] S Ret Thr := by
  have hc := hI.cnt
  refine cn_giveNotice (by omega) hI (fun j ej hj hjc _ _ => ?_) (fun q => absurd ⟨by omega, hl⟩ q) (fun j ej hj hjc q => ?_)
  · have e : j = l := by omega
    subst e
    exact h
  · have e : j = l := by omega
    subst e
    exact absurd ⟨h3, h7⟩ q
end XTurn
section LAW
variable {g : Gl} {b Ln : Nat} {xs : Nat → Int32} {K : KT}
/-- the law's loop, from its head on -/
theorem law_loop (MW : MkW g b Ln xs 20000 K) : ∀ turn, turn ≤ 14 → ∀ S, LI turn S → (1 ≤ turn → 1 ≤ S 0 0 3) → ∀ c5 c6 c7 c8, K (1100 * turn) 21 [some (vX b), some (vR 0 0), some (vR 11 0), some (vR 12 0), some (vI (turn : Int)), c5, c6, c7, c8] [] S := by
  have M := MW.mk
  have hloop := up_loop (P := fun turn => ∀ S, LI turn S → (1 ≤ turn → 1 ≤ S 0 0 3) → ∀ c5 c6 c7 c8, K (1100 * turn) 21 [some (vX b), some (vR 0 0), some (vR 11 0), some (vR 12 0), some (vI (turn : Int)), c5, c6, c7, c8] [] S) (m := 14) ?_ ?_
  · exact fun turn ht => hloop turn ht
  · intro S hL hn c5 c6 c7 c8
    refine r_iload M dL_law_21 rfl ?_
    refine r_bipush M dL_law_23 rfl ?_
    refine r_icmp_ge M dL_law_25 (tgt := 333) rfl (by omega) (fun b25 => ?_) (fun b25 => by omega)
    refine r_iconst M dL_law_333 ?_
    exact rw_ret MW dL_law_334
  · intro turn ht hP S hL hn c5 c6 c7 c8
    refine r_iload M dL_law_21 rfl ?_
    refine r_bipush M dL_law_23 rfl ?_
    refine r_icmp_ge M dL_law_25 (tgt := 333) rfl (by omega) (fun b25 => by omega) (fun b25 => ?_)
    refine r_xload_n M dL_law_28 rfl ?_
    refine r_iconst M dL_law_29 ?_
    refine r_iload M dL_law_30 rfl ?_
    refine r_imul M dL_law_32 ?_
    refine rw_cell MW (by omega) (by omega) dL_law_33 (Nat.le_of_ble_eq_true rfl) (fun c33 => ?_)
    refine r_ldc M dL_law_36 kc_L_79 (z := 2147483647) rfl ?_
    refine r_iand M dL_law_38 (fun x38 hx38 => ?_)
    refine r_istore_5 M dL_law_39 (by decide) rfl ?_
    refine r_xload_n M dL_law_41 rfl ?_
    refine r_iconst M dL_law_42 ?_
    refine r_iload M dL_law_43 rfl ?_
    refine r_imul M dL_law_45 ?_
    refine r_iconst M dL_law_46 ?_
    refine r_iadd M dL_law_47 ?_
    refine rw_cell MW (by omega) (by omega) dL_law_48 (Nat.le_of_ble_eq_true rfl) (fun c48 => ?_)
    refine r_ldc M dL_law_51 kc_L_79 (z := 2147483647) rfl ?_
    refine r_iand M dL_law_53 (fun x53 hx53 => ?_)
    refine r_istore_6 M dL_law_54 (by decide) rfl ?_
    skip
    -- behind capital and size
    have h231 : ∀ (k n' : Nat) (S' : St) (c9 : Option AV), n' ≤ 1100 * turn + 90 → LI turn S' → (k : Int) < S' 0 0 3 → K n' 231 [some (vX b), some (vR 0 0), some (vR 11 0), some (vR 12 0), some (vI (turn : Int)), some (vI x38), some (vI x53), some (vI (k : Int)), c9] [] S' := by
      intro k n' S' c9 hn' hL' hk
      have hc9 := hL'.1.ci.cnt
      refine r_aload_n M dL_law_231 rfl ?_
      refine r_iload M dL_law_232 rfl ?_
      refine r_bipush M dL_law_234 rfl ?_
      refine r_ishr M dL_law_236 (fun x236 hx236 => ?_)
      refine r_sipush M dL_law_237 rfl ?_
      refine rk_callS2 M dL_law_240 sl_L_55 st_L_at rfl ck_L_55 ⟨by omega, by omega, by omega⟩ (Nat.le_of_ble_eq_true rfl) (cn_at (by omega) (fun z hz => ?_))
      refine rk_callV1 M dL_law_243 ck_L_98 vk_X3_setCapital ⟨by omega, by omega, by omega⟩ ⟨by decide, by decide, rfl⟩ (by decide) (Nat.le_of_ble_eq_true rfl) (cs_setCapital (by omega) ?_)
      refine r_pop M dL_law_246 ?_
      have hLc := hL'.cap (v := z) (by omega)
      have hkc : (k : Int) < up3 S' 0 0 4 z 0 0 3 := hk
      generalize up3 S' 0 0 4 z = S1 at *
      have hLs := hLc.sz.sz
      have hks : (k : Int) < szS (szS S1) 0 0 3 := hkc
      refine r_aload_n M dL_law_247 rfl ?_
      refine rk_callS1 M dL_law_248 sl_L_101 st_L_sizes rfl ck_L_101 ⟨by omega, by omega, by omega⟩ (Nat.le_of_ble_eq_true rfl) (cn_sizes hLc.1.ci (hLc.1.ar (by omega)) hLc.2 ?_)
      refine r_if_ne M dL_law_251 (tgt := 256) rfl (by omega) (fun b251 => ?_) (fun b251 => by omega)
      generalize szS (szS S1) = S2 at *
      have hI2 := hLs.1.ci
      have hm := hI2.mem (show k < 10 by omega)
      unfold MI at hm
      refine r_aload_n M dL_law_256 rfl ?_
      refine r_iload M dL_law_257 rfl ?_
      refine rk_callV1 M dL_law_259 ck_L_33 vk_X3_state ⟨by omega, by omega, by omega⟩ ⟨by decide, by decide, rfl⟩ (by decide) (Nat.le_of_ble_eq_true rfl) (cs_state hI2 hks rfl ?_)
      refine r_iconst M dL_law_262 ?_
      refine r_icmp_gt M dL_law_263 (tgt := 327) rfl (by omega) (fun b263 => ?_) (fun b263 => ?_)
      · refine r_iinc_4 M (_) dL_law_327 rfl (by decide) rfl ?_
        refine r_goto M dL_law_330 (tgt := 21) rfl ?_
        first | exact k_w M (by omega) (by omega) (hP _ hL5 (fun _ => by omega) _ _ _ _) | exact k_w M (by omega) (by omega) (hP _ hLs.suc (fun _ => by omega) _ _ _ _)
      refine r_iload M dL_law_266 rfl ?_
      refine r_iconst M dL_law_268 ?_
      refine rk_callS2 M dL_law_269 sl_L_55 st_L_at rfl ck_L_55 ⟨by omega, by omega, by omega⟩ (Nat.le_of_ble_eq_true rfl) (cn_at (by omega) (fun z2 hz2 => ?_))
      refine r_if_ne M dL_law_272 (tgt := 278) rfl (by omega) (fun b272 => ?_) (fun b272 => ?_)
      · refine r_aload_n M dL_law_278 rfl ?_
        refine r_iload M dL_law_279 rfl ?_
        refine r_iconst M dL_law_281 ?_
        refine r_iload M dL_law_282 rfl ?_
        refine r_bipush M dL_law_284 rfl ?_
        refine r_ishr M dL_law_286 (fun x286 hx286 => ?_)
        refine r_bipush M dL_law_287 rfl ?_
        refine rk_callS2 M dL_law_289 sl_L_55 st_L_at rfl ck_L_55 ⟨by omega, by omega, by omega⟩ (Nat.le_of_ble_eq_true rfl) (cn_at (by omega) (fun z3 hz3 => ?_))
        refine r_iadd M dL_law_292 ?_
        refine rk_callS3 M dL_law_293 sl_L_105 st_L_fails rfl ck_L_105 ⟨by omega, by omega, by omega⟩ (Nat.le_of_ble_eq_true rfl) (cn_fails hLs hks (by omega) (by unfold actv; omega) (fun bk S3 hF3 hB3 h33 => ?_))
        refine r_istore_8 M dL_law_296 (by decide) rfl ?_
        refine r_iload M dL_law_298 rfl ?_
        refine r_if_ge M dL_law_300 (tgt := 305) rfl (by have := hF3.2.2.2.2.2.2; omega) (fun b300 => ?_) (fun b300 => by have := hF3.2.2.2.2.2.2; omega)
        refine r_aload_n M dL_law_305 rfl ?_
        refine r_iload M dL_law_306 rfl ?_
        refine r_iload M dL_law_308 rfl ?_
        refine r_iload M dL_law_310 rfl ?_
        refine rk_callS4 M dL_law_312 sl_L_109 st_L_bids rfl ck_L_109 ⟨by omega, by omega, by omega⟩ (Nat.le_of_ble_eq_true rfl) (cn_bids hF3 hB3 (fun S4 hF4 h34 => ?_))
        refine r_aload_n M dL_law_315 rfl ?_
        refine r_iload M dL_law_316 rfl ?_
        refine r_aload_n M dL_law_318 rfl ?_
        refine rk_callS3 M dL_law_319 sl_L_113 st_L_ends rfl ck_L_113 ⟨by omega, by omega, by omega⟩ (Nat.le_of_ble_eq_true rfl) (cn_ends hF4 (by omega) (fun S5 hL5 h35 => ?_))
        refine r_if_ne M dL_law_322 (tgt := 327) rfl (by omega) (fun b322 => ?_) (fun b322 => by omega)
        refine r_iinc_4 M (_) dL_law_327 rfl (by decide) rfl ?_
        refine r_goto M dL_law_330 (tgt := 21) rfl ?_
        first | exact k_w M (by omega) (by omega) (hP _ hL5 (fun _ => by omega) _ _ _ _) | exact k_w M (by omega) (by omega) (hP _ hLs.suc (fun _ => by omega) _ _ _ _)
      refine r_goto M dL_law_275 (tgt := 327) rfl ?_
      refine r_iinc_4 M (_) dL_law_327 rfl (by decide) rfl ?_
      refine r_goto M dL_law_330 (tgt := 21) rfl ?_
      first | exact k_w M (by omega) (by omega) (hP _ hL5 (fun _ => by omega) _ _ _ _) | exact k_w M (by omega) (by omega) (hP _ hLs.suc (fun _ => by omega) _ _ _ _)
    have h133 : ∀ (n' : Nat) (S' : St) (c7 c8 : Option AV), n' ≤ 1100 * turn + 4 → LI turn S' → 1 ≤ S' 0 0 3 → K n' 133 [some (vX b), some (vR 0 0), some (vR 11 0), some (vR 12 0), some (vI (turn : Int)), some (vI x38), some (vI x53), c7, c8] [] S' := by
      intro n' S' c7 c8 hn' hL' h1
      refine r_aload_n M dL_law_133 rfl ?_
      refine r_iload M dL_law_134 rfl ?_
      refine r_iload M dL_law_136 rfl ?_
      refine r_aload_n M dL_law_138 rfl ?_
      refine rk_callS4 M dL_law_139 sl_L_84 st_L_clients rfl ck_L_84 ⟨by omega, by omega, by omega⟩ (Nat.le_of_ble_eq_true rfl) (cn_clients hL' (fun S1 hL1 h31 => ?_))
      refine r_if_ne M dL_law_142 (tgt := 147) rfl (by omega) (fun b142 => ?_) (fun b142 => by omega)
      have hI1 := hL1.1.ci
      have hc1 := hI1.cnt
      refine r_iload M dL_law_147 rfl ?_
      refine r_iconst M dL_law_149 ?_
      refine r_ishr M dL_law_150 (fun x150 hx150 => ?_)
      refine r_aload_n M dL_law_151 rfl ?_
      refine rk_callV0 M dL_law_152 ck_L_14 vk_X3_members ⟨by omega, by omega, by omega⟩ ⟨by decide, by decide, rfl⟩ (by decide) (Nat.le_of_ble_eq_true rfl) (cs_members rfl ?_)
      refine rk_callS2 M dL_law_155 sl_L_55 st_L_at rfl ck_L_55 ⟨by omega, by omega, by omega⟩ (Nat.le_of_ble_eq_true rfl) (cn_at (by omega) (fun z hz => ?_))
      obtain ⟨k, rfl⟩ : ∃ k : Nat, z = k := ⟨z.toNat, by omega⟩
      have hm := hI1.mem (show k < 10 by omega)
      unfold MI at hm
      refine r_istore_7 M dL_law_158 (by decide) rfl ?_
      refine r_aload_n M dL_law_160 rfl ?_
      refine r_iload M dL_law_161 rfl ?_
      refine rk_callV1 M dL_law_163 ck_L_33 vk_X3_state ⟨by omega, by omega, by omega⟩ ⟨by decide, by decide, rfl⟩ (by decide) (Nat.le_of_ble_eq_true rfl) (cs_state hI1 (by omega) rfl ?_)
      refine r_iconst M dL_law_166 ?_
      refine r_icmp_ge M dL_law_167 (tgt := 231) rfl (by omega) (fun b167 => ?_) (fun b167 => ?_)
      · exact h231 k _ _ _ (by omega) hL1 (by omega)
      refine r_aload_n M dL_law_170 rfl ?_
      refine r_iload M dL_law_171 rfl ?_
      refine r_iload M dL_law_173 rfl ?_
      refine r_iconst M dL_law_175 ?_
      refine r_ishr M dL_law_176 (fun x176 hx176 => ?_)
      refine r_sipush M dL_law_177 rfl ?_
      refine rk_callS2 M dL_law_180 sl_L_55 st_L_at rfl ck_L_55 ⟨by omega, by omega, by omega⟩ (Nat.le_of_ble_eq_true rfl) (cn_at (by omega) (fun z2 hz2 => ?_))
      refine rk_callV2 M dL_law_183 ck_L_88 vk_X3_setGain ⟨by omega, by omega, by omega⟩ ⟨by decide, by decide, rfl⟩ (by decide) (Nat.le_of_ble_eq_true rfl) (cs_setGain hI1 (by omega) (by omega) (by unfold actv; omega) ?_)
      refine r_pop M dL_law_186 ?_
      have hLg := hL1.set (j := k) (f := 7) (v := z2) (Or.inl ⟨rfl, by omega⟩)
      have hag : actv (up3 S1 4 k 7 z2) k := by unfold actv; rw [up3_k (by omega)]; omega
      have hkg : (k : Int) < up3 S1 4 k 7 z2 0 0 3 := by show (k : Int) < S1 0 0 3; omega
      generalize up3 S1 4 k 7 z2 = S2 at *
      refine r_aload_n M dL_law_187 rfl ?_
      refine r_iload M dL_law_188 rfl ?_
      refine r_iload M dL_law_190 rfl ?_
      refine r_iconst M dL_law_192 ?_
      refine r_ishr M dL_law_193 (fun x193 hx193 => ?_)
      refine r_sipush M dL_law_194 rfl ?_
      refine rk_callS2 M dL_law_197 sl_L_55 st_L_at rfl ck_L_55 ⟨by omega, by omega, by omega⟩ (Nat.le_of_ble_eq_true rfl) (cn_at (by omega) (fun z3 hz3 => ?_))
      refine rk_callV2 M dL_law_200 ck_L_91 vk_X3_setTested ⟨by omega, by omega, by omega⟩ ⟨by decide, by decide, rfl⟩ (by decide) (Nat.le_of_ble_eq_true rfl) (cs_setTested hLg.1.ci hkg (by omega) hag ?_)
      refine r_pop M dL_law_203 ?_
      have hLt := hLg.set (j := k) (f := 8) (v := z3) (Or.inr (Or.inl ⟨rfl, by omega⟩))
      have hkt : (k : Int) < up3 S2 4 k 8 z3 0 0 3 := hkg
      generalize up3 S2 4 k 8 z3 = S3 at *
      have hm3 := hLt.1.ci.mem (show k < 10 by omega)
      unfold MI at hm3
      refine r_iload M dL_law_204 rfl ?_
      refine r_bipush M dL_law_206 rfl ?_
      refine r_ishr M dL_law_208 (fun x208 hx208 => ?_)
      refine r_iconst M dL_law_209 ?_
      refine rk_callS2 M dL_law_210 sl_L_55 st_L_at rfl ck_L_55 ⟨by omega, by omega, by omega⟩ (Nat.le_of_ble_eq_true rfl) (cn_at (by omega) (fun z4 hz4 => ?_))
      refine r_if_ne M dL_law_213 (tgt := 231) rfl (by omega) (fun b213 => ?_) (fun b213 => ?_)
      · first | exact h231 k _ _ _ (by omega) hLt hkt | exact h231 k _ _ _ (by omega) (hLt.set (j := k) (f := 3) (v := 1) (Or.inr (Or.inr ⟨rfl, by omega, by omega⟩))) hkt
      refine r_aload_n M dL_law_216 rfl ?_
      refine r_iload M dL_law_217 rfl ?_
      refine rk_callV1 M dL_law_219 ck_L_33 vk_X3_state ⟨by omega, by omega, by omega⟩ ⟨by decide, by decide, rfl⟩ (by decide) (Nat.le_of_ble_eq_true rfl) (cs_state hLt.1.ci hkt rfl ?_)
      refine r_if_ne M dL_law_222 (tgt := 231) rfl (by omega) (fun b222 => ?_) (fun b222 => ?_)
      · first | exact h231 k _ _ _ (by omega) hLt hkt | exact h231 k _ _ _ (by omega) (hLt.set (j := k) (f := 3) (v := 1) (Or.inr (Or.inr ⟨rfl, by omega, by omega⟩))) hkt
      refine r_aload_n M dL_law_225 rfl ?_
      refine r_iload M dL_law_226 rfl ?_
      refine rk_callV1 M dL_law_228 ck_L_94 vk_X3_giveNotice ⟨by omega, by omega, by omega⟩ ⟨by decide, by decide, rfl⟩ (by decide) (Nat.le_of_ble_eq_true rfl) (cs_giveNotice hLt.1.ci hkt (by omega) hLt.2 ?_)
      first | exact h231 k _ _ _ (by omega) hLt hkt | exact h231 k _ _ _ (by omega) (hLt.set (j := k) (f := 3) (v := 1) (Or.inr (Or.inr ⟨rfl, by omega, by omega⟩))) hkt
    have hI := hL.1.ci
    have hc := hI.cnt
    obtain ⟨j, hj⟩ : ∃ j : Nat, S 0 0 3 = j := ⟨(S 0 0 3).toNat, by omega⟩
    refine r_aload_n M dL_law_56 rfl ?_
    refine rk_callV0 M dL_law_57 ck_L_14 vk_X3_members ⟨by omega, by omega, by omega⟩ ⟨by decide, by decide, rfl⟩ (by decide) (Nat.le_of_ble_eq_true rfl) (cs_members hj ?_)
    refine r_bipush M dL_law_60 rfl ?_
    refine r_icmp_ge M dL_law_62 (tgt := 133) rfl (by omega) (fun b62 => ?_) (fun b62 => ?_)
    · first | exact h133 _ _ _ _ (by omega) hL (by omega) | exact h133 _ _ _ _ (by omega) (hL.join hj (by omega) (by omega) (by omega) (by omega)) (by show (1 : Int) ≤ (j : Int) + 1; omega)
    refine r_iload M dL_law_65 rfl ?_
    refine r_iconst M dL_law_67 ?_
    refine r_icmp_lt M dL_law_68 (tgt := 80) rfl (by omega) (fun b68 => ?_) (fun b68 => ?_)
    · refine r_aload_n M dL_law_80 rfl ?_
      refine rk_callV0 M dL_law_81 ck_L_14 vk_X3_members ⟨by omega, by omega, by omega⟩ ⟨by decide, by decide, rfl⟩ (by decide) (Nat.le_of_ble_eq_true rfl) (cs_members hj ?_)
      refine r_istore_7 M dL_law_84 (by decide) rfl ?_
      refine r_aload_n M dL_law_86 rfl ?_
      refine r_iload M dL_law_87 rfl ?_
      refine r_iload M dL_law_89 rfl ?_
      refine r_iconst M dL_law_91 ?_
      refine r_ishr M dL_law_92 (fun x92 hx92 => ?_)
      refine r_bipush M dL_law_93 rfl ?_
      refine rk_callS2 M dL_law_95 sl_L_55 st_L_at rfl ck_L_55 ⟨by omega, by omega, by omega⟩ (Nat.le_of_ble_eq_true rfl) (cn_at (by omega) (fun z2 hz2 => ?_))
      refine r_iast M (j) dL_law_98 ⟨rfl, by decide⟩ (by decide) rfl (show (_ : Nat) < 10 by omega) (Nat.le_of_ble_eq_true rfl) ?_
      refine r_aload_n M dL_law_99 rfl ?_
      refine r_iload M dL_law_100 rfl ?_
      refine r_sipush M dL_law_102 rfl ?_
      refine rk_callS2 M dL_law_105 sl_L_55 st_L_at rfl ck_L_55 ⟨by omega, by omega, by omega⟩ (Nat.le_of_ble_eq_true rfl) (cn_at (by omega) (fun z3 hz3 => ?_))
      refine r_iload M dL_law_108 rfl ?_
      refine r_bipush M dL_law_110 rfl ?_
      refine r_ishr M dL_law_112 (fun x112 hx112 => ?_)
      refine r_sipush M dL_law_113 rfl ?_
      refine rk_callS2 M dL_law_116 sl_L_55 st_L_at rfl ck_L_55 ⟨by omega, by omega, by omega⟩ (Nat.le_of_ble_eq_true rfl) (cn_at (by omega) (fun z4 hz4 => ?_))
      refine r_aload_n M dL_law_119 rfl ?_
      refine r_iload M dL_law_120 rfl ?_
      refine r_ialdV M (j) dL_law_122 ⟨rfl, by decide⟩ (by decide) rfl (show (_ : Nat) < 10 by omega) (Nat.le_of_ble_eq_true rfl) (z2) (by exact up3_at) ?_
      refine rk_callV3 M dL_law_123 ck_L_80 vk_X3_addMember ⟨by omega, by omega, by omega⟩ ⟨by decide, by decide, rfl⟩ (by decide) (Nat.le_of_ble_eq_true rfl) (cs_addMember (CI_cong (fun t' q => up3_t (by omega)) hI) hj (by omega) (by omega) (by omega) (by omega) ?_)
      refine r_iload M dL_law_126 rfl ?_
      refine r_icmp_eq M dL_law_128 (tgt := 133) rfl (by omega) (fun b128 => ?_) (fun b128 => by omega)
      first | exact h133 _ _ _ _ (by omega) hL (by omega) | exact h133 _ _ _ _ (by omega) (hL.join hj (by omega) (by omega) (by omega) (by omega)) (by show (1 : Int) ≤ (j : Int) + 1; omega)
    refine r_iload M dL_law_71 rfl ?_
    refine r_iconst M dL_law_73 ?_
    refine rk_callS2 M dL_law_74 sl_L_55 st_L_at rfl ck_L_55 ⟨by omega, by omega, by omega⟩ (Nat.le_of_ble_eq_true rfl) (cn_at (by omega) (fun z hz => ?_))
    refine r_if_ne M dL_law_77 (tgt := 133) rfl (by omega) (fun b77 => ?_) (fun b77 => ?_)
    · first | exact h133 _ _ _ _ (by omega) hL (by omega) | exact h133 _ _ _ _ (by omega) (hL.join hj (by omega) (by omega) (by omega) (by omega)) (by show (1 : Int) ≤ (j : Int) + 1; omega)
    refine r_aload_n M dL_law_80 rfl ?_
    refine rk_callV0 M dL_law_81 ck_L_14 vk_X3_members ⟨by omega, by omega, by omega⟩ ⟨by decide, by decide, rfl⟩ (by decide) (Nat.le_of_ble_eq_true rfl) (cs_members hj ?_)
    refine r_istore_7 M dL_law_84 (by decide) rfl ?_
    refine r_aload_n M dL_law_86 rfl ?_
    refine r_iload M dL_law_87 rfl ?_
    refine r_iload M dL_law_89 rfl ?_
    refine r_iconst M dL_law_91 ?_
    refine r_ishr M dL_law_92 (fun x92 hx92 => ?_)
    refine r_bipush M dL_law_93 rfl ?_
    refine rk_callS2 M dL_law_95 sl_L_55 st_L_at rfl ck_L_55 ⟨by omega, by omega, by omega⟩ (Nat.le_of_ble_eq_true rfl) (cn_at (by omega) (fun z2 hz2 => ?_))
    refine r_iast M (j) dL_law_98 ⟨rfl, by decide⟩ (by decide) rfl (show (_ : Nat) < 10 by omega) (Nat.le_of_ble_eq_true rfl) ?_
    refine r_aload_n M dL_law_99 rfl ?_
    refine r_iload M dL_law_100 rfl ?_
    refine r_sipush M dL_law_102 rfl ?_
    refine rk_callS2 M dL_law_105 sl_L_55 st_L_at rfl ck_L_55 ⟨by omega, by omega, by omega⟩ (Nat.le_of_ble_eq_true rfl) (cn_at (by omega) (fun z3 hz3 => ?_))
    refine r_iload M dL_law_108 rfl ?_
    refine r_bipush M dL_law_110 rfl ?_
    refine r_ishr M dL_law_112 (fun x112 hx112 => ?_)
    refine r_sipush M dL_law_113 rfl ?_
    refine rk_callS2 M dL_law_116 sl_L_55 st_L_at rfl ck_L_55 ⟨by omega, by omega, by omega⟩ (Nat.le_of_ble_eq_true rfl) (cn_at (by omega) (fun z4 hz4 => ?_))
    refine r_aload_n M dL_law_119 rfl ?_
    refine r_iload M dL_law_120 rfl ?_
    refine r_ialdV M (j) dL_law_122 ⟨rfl, by decide⟩ (by decide) rfl (show (_ : Nat) < 10 by omega) (Nat.le_of_ble_eq_true rfl) (z2) (by exact up3_at) ?_
    refine rk_callV3 M dL_law_123 ck_L_80 vk_X3_addMember ⟨by omega, by omega, by omega⟩ ⟨by decide, by decide, rfl⟩ (by decide) (Nat.le_of_ble_eq_true rfl) (cs_addMember (CI_cong (fun t' q => up3_t (by omega)) hI) hj (by omega) (by omega) (by omega) (by omega) ?_)
    refine r_iload M dL_law_126 rfl ?_
    refine r_icmp_eq M dL_law_128 (tgt := 133) rfl (by omega) (fun b128 => ?_) (fun b128 => by omega)
    first | exact h133 _ _ _ _ (by omega) hL (by omega) | exact h133 _ _ _ _ (by omega) (hL.join hj (by omega) (by omega) (by omega) (by omega)) (by show (1 : Int) ≤ (j : Int) + 1; omega)
end LAW
end
section
/-! ===== what a constructor's walk stands on: worlds that grow ===== -/
def va_AOA (ty : FieldType) (U : State) : Prop := (Cond.arrayOver (.array ty)).before #[] U = true
theorem va_AOA.of {ty : FieldType} {A : Array Value} {U : State} (h : (Cond.arrayOver (.array ty)).before A U = true) : va_AOA ty U := h
theorem va_AOA.use {ty : FieldType} {A : Array Value} {U : State} (h : va_AOA ty U) : (Cond.arrayOver (.array ty)).before A U = true := h
theorem va_AOA.moved {ty : FieldType} {u U : State} (hvm : u.vm.Alike U.vm) (h : va_AOA ty u) : va_AOA ty U := by
  obtain ⟨comp, c, k, h1, h2, h3, h4, h5⟩ := arrayOverA_spec h
  obtain ⟨k', hk', he⟩ := hvm.2.2 _ _ h3
  have hi : (U.vm.classes.findIdx? fun (x : Class) => match x.kind with | .array component _ => component == comp | _ => false) = some c := by
    rw [hvm.findIdx?_eq _ (fun _ => rfl)]
    exact h2
  have hkind : k'.kind = .array comp (.array ty) := by rw [he]; exact h4
  have f1 : U.vm.findClass (FieldType.array ty).toString = some comp := by rw [hvm.findClass]; exact h1
  have f2 : U.vm.findClass ("[" ++ (FieldType.array ty).toString) = some c := by rw [hvm.findClass]; exact h5
  unfold va_AOA Cond.before Cond.holds
  simp only [Cond.value]
  rw [f1, Option.bind_some]
  refine (congrArg (fun o : Option Nat => (o.bind (fun c => (U.vm.classes[c]?).map fun (k : Class) => match k.kind with | .array _ ty9 => decide (ty9 = FieldType.array ty) && decide (U.vm.findClass ("[" ++ (FieldType.array ty).toString) = some c) | _ => false) == some true)) hi).trans ?_
  simp [hk', hkind, f2]
/-- what the tables say at a constructor -/
def GI (g : Gl) (U : State) : Prop := (∀ w ∈ NW, va_Nw w U) ∧ va_K g.2.1 vwCl (tyl g) U ∧ va_AO RX1 U ∧ va_AOA .int U
theorem GI.same {g : Gl} {u U : State} (h : u.vm = U.vm) (k : GI g u) : GI g U := by
  have hal : u.vm.Alike U.vm := by rw [h]; exact Vm.Alike.refl _
  exact ⟨fun w hw => va_Nw.same (nest_tab (List.mem_filter.mp hw).2) h (k.1 w hw), va_K.moved hal k.2.1, va_AO.moved hal k.2.2.1, va_AOA.moved hal k.2.2.2⟩
theorem GI.warm {g : Gl} {s U : State} (hW : s.WarmedH U.vm) (k : GI g s) : GI g U :=
  ⟨fun w hw => nest_warm (List.mem_filter.mp hw).2 hW (k.1 w hw), va_K.moved hW.alike k.2.1, va_AO.moved hW.alike k.2.2.1, va_AOA.moved hW.alike k.2.2.2⟩
/-- the cells that a constructor may write -/
def AI (h0 sz : Nat) : Nat → Prop := fun q => q = h0 ∨ sz ≤ q
def PrI (g : Gl) (h0 sz ci : Nat) (fs : List Value) : Array Value → State → Prop := va_Pc [.ref h0] (fun U => U.heap.size = sz ∧ GI g U ∧ va_P g.2.1 vwCl [(h0, .inr (ci, fs))] U.heap)
def QrI {α : Type} (g : Gl) (h0 sz : Nat) (Wu : α → va_W) : Array Value → State → Outcome → State → Prop := va_Qv (fun _ : α => True) (fun u t => va_P g.2.1 vwCl (Wu u) t.heap ∧ va_D (AI h0 sz) (Wu u)) (AI h0 sz)
def MetI {α : Type} (g : Gl) (y : MethodName) (cc : ByteArray) (nL fr lo mc ms ci : Nat) (fs : List Value) (W0 : Nat → α → va_W) : Prop :=
  ∀ h0 sz : Nat, Met g.1 y (Cond.code y cc nL none :: WT) ({ frames := fr, cells := mc, slots := ms, locals := lo }) (PrI g h0 sz ci fs) (QrI g h0 sz (W0 h0)) mc ms (AI h0 sz)
section KI
def CtI (g : Gl) (own : String) (cc : ByteArray) (nL fr lo mc ms : Nat) (p : Program) (R : Room) (s : State) (m : MethodId) (args : Array Value) (meth : Method) (c : Code) (A : Nat → Prop) : Prop :=
  p.tables.exec = Jvm.exec ∧ c.code = cc ∧ c.maxLocals = nL ∧ s.vm.findClass own = some m.cls ∧ (∀ w ∈ WT, w.before args s = true) ∧ GI g s ∧ (∀ q, s.heap.size ≤ q → A q) ∧ meth.locks = false ∧ fr ≤ R.frames ∧ lo ≤ R.locals ∧ mc ≤ R.cells ∧ ms ≤ R.slots
abbrev KTI : Type := Nat → Nat → Nat → List (Nat × Value) → List Value → va_W → Prop
def WkI (g : Gl) (nL : Nat) (p : Program) (e : Env) (R : Room) (s : State) (m : MethodId) (args : Array Value) (below : List Frame) (meth : Method) (c : Code) (A : Nat → Prop) (Q : State → Prop) : KTI := fun ce sl pc L st ws =>
  ∀ (H : Heap) (locs : List Loc) (ls : Array Slot), va_P g.2.1 vwCl ws H → va_D A ws → va_S A s.heap H locs → lv_has ls nL L → W p g.1 e R s m args below meth c H locs ce sl Q (F0 m pc ls st)
def MkI (g : Gl) (own : String) (cc : ByteArray) (nL fr lo mc ms : Nat) (ini : Bool) (K : KTI) : Prop :=
  ∃ (p : Program) (e : Env) (R : Room) (s : State) (m : MethodId) (args : Array Value) (below : List Frame) (meth : Method) (c : Code) (A : Nat → Prop) (Q : State → Prop), CtI g own cc nL fr lo mc ms p R s m args meth c A ∧ (ini = true → meth.name = "<init>") ∧ ∀ ce sl pc L st ws, K ce sl pc L st ws ↔ WkI g nL p e R s m args below meth c A Q ce sl pc L st ws
variable {g : Gl} {own : String} {cc : ByteArray} {nL fr lo mc ms : Nat} {ini : Bool} {K : KTI} {ce sl pc : Nat} {L : List (Nat × Value)} {st : List Value} {ws : va_W}
theorem MkI.go (M : MkI g own cc nL fr lo mc ms ini K) {pc' : Nat} {L' : List (Nat × Value)} {st' : List Value}
    (h : ∀ (p : Program) (e : Env) (R : Room) (s : State) (m : MethodId) (args : Array Value) (below : List Frame) (meth : Method) (c : Code) (A : Nat → Prop) (Q : State → Prop), CtI g own cc nL fr lo mc ms p R s m args meth c A → ∀ (H : Heap) (locs : List Loc) (ls : Array Slot), lv_has ls nL L →
      (∀ ls' : Array Slot, lv_has ls' nL L' → W p g.1 e R s m args below meth c H locs ce sl Q (F0 m pc' ls' st')) → W p g.1 e R s m args below meth c H locs ce sl Q (F0 m pc ls st))
    (k : K ce sl pc' L' st' ws) : K ce sl pc L st ws := by
  obtain ⟨p, e, R, s, m, args, below, meth, c, A, Q, C, hin, hK⟩ := M
  rw [hK] at k ⊢
  intro H locs ls hP hD hS hL
  exact h p e R s m args below meth c A Q C H locs ls hL (fun ls' hL' => k H locs ls' hP hD hS hL')
theorem i_aload (M : MkI g own cc nL fr lo mc ms ini K) {kf : Fin 4} {i x : Nat} (q : Nat) (d : decode cc pc = .ok (.aload_n kf, 1)) (hi : (kf : Nat) = i) (hq : L[q]? = some (i, .ref x)) (kk : K ce sl (pc + 1) L (.ref x :: st) ws) : K ce sl pc L st ws :=
  M.go (fun p e R s m args below meth c A Q C H locs ls hL k => lv_aload_n C.1 C.2.1 d hi (lv_at hL q hq) (k ls hL)) kk
theorem i_iload (M : MkI g own cc nL fr lo mc ms ini K) {kf : Fin 4} {i : Nat} {x : Int32} (q : Nat) (d : decode cc pc = .ok (.iload_n kf, 1)) (hi : (kf : Nat) = i) (hq : L[q]? = some (i, .int x)) (kk : K ce sl (pc + 1) L (.int x :: st) ws) : K ce sl pc L st ws :=
  M.go (fun p e R s m args below meth c A Q C H locs ls hL k => lv_iload_n C.1 C.2.1 d hi (lv_at hL q hq) (k ls hL)) kk
theorem i_iconst (M : MkI g own cc nL fr lo mc ms ini K) {n : Int} (v : Int32) (d : decode cc pc = .ok (.iconst n, 1)) (hv : Int32.ofInt n = v) (kk : K ce sl (pc + 1) L (.int v :: st) ws) : K ce sl pc L st ws :=
  M.go (fun p e R s m args below meth c A Q C H locs ls hL k => lv_iconst C.1 C.2.1 d hv (k ls hL)) kk
theorem i_bipush (M : MkI g own cc nL fr lo mc ms ini K) {n : Int} (v : Int32) (d : decode cc pc = .ok (.bipush n, 2)) (hv : (Int8.ofInt n).toInt32 = v) (kk : K ce sl (pc + 2) L (.int v :: st) ws) : K ce sl pc L st ws :=
  M.go (fun p e R s m args below meth c A Q C H locs ls hL k => lv_bipush C.1 C.2.1 d hv (k ls hL)) kk
theorem i_sipush (M : MkI g own cc nL fr lo mc ms ini K) {n : Int} (v : Int32) (d : decode cc pc = .ok (.sipush n, 3)) (hv : (Int16.ofInt n).toInt32 = v) (kk : K ce sl (pc + 3) L (.int v :: st) ws) : K ce sl pc L st ws :=
  M.go (fun p e R s m args below meth c A Q C H locs ls hL k => lv_sipush C.1 C.2.1 d hv (k ls hL)) kk
theorem i_dup (M : MkI g own cc nL fr lo mc ms ini K) {x : Nat} (d : decode cc pc = .ok (.dup, 1)) (kk : K ce sl (pc + 1) L (.ref x :: .ref x :: st) ws) : K ce sl pc L (.ref x :: st) ws :=
  M.go (fun p e R s m args below meth c A Q C H locs ls hL k => lv_dup C.1 C.2.1 d rfl (k ls hL)) kk
theorem i_istore (M : MkI g own cc nL fr lo mc ms ini K) {kf : Fin 4} {i : Nat} {x : Int32} (L' : List (Nat × Value)) (d : decode cc pc = .ok (.istore_n kf, 1)) (hi : (kf : Nat) = i) (hn : i < nL) (hl : (i, Value.int x) :: L.filter (fun q => !(q.1 == i) && !(q.1 + 1 == i && q.2.category == 2)) = L') (kk : K ce sl (pc + 1) L' st ws) : K ce sl pc L (.int x :: st) ws :=
  M.go (fun p e R s m args below meth c A Q C H locs ls hL k => lv_istore_n C.1 C.2.1 d hi hL hn hl (fun ls hL => k ls hL)) kk
theorem i_istoreW (M : MkI g own cc nL fr lo mc ms ini K) {i : Nat} {x : Int32} (L' : List (Nat × Value)) (d : decode cc pc = .ok (.istore i, 2)) (hn : i < nL) (hl : (i, Value.int x) :: L.filter (fun q => !(q.1 == i) && !(q.1 + 1 == i && q.2.category == 2)) = L') (kk : K ce sl (pc + 2) L' st ws) : K ce sl pc L (.int x :: st) ws :=
  M.go (fun p e R s m args below meth c A Q C H locs ls hL k => lv_istore C.1 C.2.1 d hL hn hl (fun ls hL => k ls hL)) kk
theorem i_astore (M : MkI g own cc nL fr lo mc ms ini K) {kf : Fin 4} {i x : Nat} (L' : List (Nat × Value)) (d : decode cc pc = .ok (.astore_n kf, 1)) (hi : (kf : Nat) = i) (hn : i < nL) (hl : (i, Value.ref x) :: L.filter (fun q => !(q.1 == i) && !(q.1 + 1 == i && q.2.category == 2)) = L') (kk : K ce sl (pc + 1) L' st ws) : K ce sl pc L (.ref x :: st) ws :=
  M.go (fun p e R s m args below meth c A Q C H locs ls hL k => lv_astore_n C.1 C.2.1 d hi hL hn hl (fun ls hL => k ls hL)) kk
theorem i_iinc (M : MkI g own cc nL fr lo mc ms ini K) {i : Nat} {n : Int} {x v : Int32} (q : Nat) (L' : List (Nat × Value)) (d : decode cc pc = .ok (.iinc i n, 3)) (hq : L[q]? = some (i, .int x)) (hv : x + Int32.ofInt n = v) (hn : i < nL) (hl : (i, Value.int v) :: L.filter (fun q => !(q.1 == i) && !(q.1 + 1 == i && q.2.category == 2)) = L') (kk : K ce sl (pc + 3) L' st ws) : K ce sl pc L st ws :=
  M.go (fun p e R s m args below meth c A Q C H locs ls hL k => lv_iinc C.1 C.2.1 d hL hq hv hn hl (fun ls hL => k ls hL)) kk
theorem i_goto (M : MkI g own cc nL fr lo mc ms ini K) {off : Int} (tgt : Nat) (d : decode cc pc = .ok (.goto off, 3)) (ht : (pc : Int) + off = (tgt : Int)) (kk : K ce sl tgt L st ws) : K ce sl pc L st ws :=
  M.go (fun p e R s m args below meth c A Q C H locs ls hL k => lv_goto C.1 C.2.1 d ht (k ls hL)) kk
theorem i_icmp_ge (M : MkI g own cc nL fr lo mc ms ini K) {off : Int} {x y : Int32} (tgt : Nat) (d : decode cc pc = .ok (.if_icmp .ge off, 3)) (ht : (pc : Int) + off = (tgt : Int)) (k1 : y ≤ x → K ce sl tgt L st ws) (k2 : ¬ y ≤ x → K ce sl (pc + 3) L st ws) : K ce sl pc L (.int y :: .int x :: st) ws := by
  obtain ⟨p, e, R, s, m, args, below, meth, c, A, Q, C, hin, hK⟩ := M
  rw [hK]
  intro H locs ls hP hD hS hL
  exact lv_icmp_ge C.1 C.2.1 d ht (fun q => (hK _ _ _ _ _ _).mp (k1 q) H locs ls hP hD hS hL) (fun q => (hK _ _ _ _ _ _).mp (k2 q) H locs ls hP hD hS hL)
theorem i_widen (M : MkI g own cc nL fr lo mc ms ini K) {ce' sl' : Nat} (h1 : ce ≤ ce') (h2 : sl ≤ sl') (kk : K ce' sl' pc L st ws) : K ce sl pc L st ws := by
  obtain ⟨p, e, R, s, m, args, below, meth, c, A, Q, C, hin, hK⟩ := M
  rw [hK] at kk ⊢
  intro H locs ls hP hD hS hL
  exact W.widen h1 h2 (kk H locs ls hP hD hS hL)
theorem i_obj (M : MkI g own cc nL fr lo mc ms ini K) {ix a : Nat} (d : decode cc pc = .ok (.invokespecial ix, 3)) (h1 : Cond.methodLink own ix objectInit ∈ WT) (h2 : Cond.instanceMethod objectInit ∈ WT) (h3 : Cond.code objectInit ⟨#[0xb1]⟩ 1 none ∈ WT) (hR : 1 ≤ fr ∧ 20 ≤ lo) (kk : K ce sl (pc + 3) L [] ws) : K ce sl pc L [.ref a] ws :=
  M.go (fun p e R s m args below meth c A Q C H locs ls hL k => by
    obtain ⟨hx, hb, hml, hown, hts, hG, hA, hlk, r1, r2, r3, r4⟩ := C
    refine W.objInit hx hb hown (hts _ h1) (hts _ h2) (hts _ h3) rfl (by rw [hml]; exact hL.1) rfl d (by omega) ?_ (k ls hL)
    have := lv_room (m := m) (pc := pc) (ls := ls) (rest := ([.ref a] : List Value)) (st := []) (by decide)
    simp only [List.map_nil, List.sum_nil, Nat.add_zero] at this ⊢
    omega) kk
theorem arr_pin {D : va_G} {s : State} {tys : List (ClassId × FieldType)} {cA cB : ClassId} {ty : FieldType} {k : Nat} (hK : va_K D vwCl (tys ++ [(cA, ty)]) s) (hk : tys[k]? = some (cB, ty)) : cA = cB := by
  have h1 := (hK.2 tys.length (cA, ty) (by simp)).2
  have hl := (List.getElem?_eq_some_iff.mp hk).1
  have h2 := (hK.2 k (cB, ty) (by rw [List.getElem?_append_left hl]; exact hk)).2
  cases ty with
  | object C =>
    obtain ⟨_, _, _, _, _, e1⟩ := h1
    obtain ⟨_, _, _, _, _, e2⟩ := h2
    exact Option.some.inj (e1.symm.trans e2)
  | _ => exact Option.some.inj (Eq.trans (Eq.symm h1) h2)
theorem i_newa (M : MkI g own cc nL fr lo mc ms ini K) {n : Int32} (N : Nat) (d : decode cc pc = .ok (.newarray .int, 2)) (hN : n.toNatClampNeg = N) (hn : ¬ n < 0) (hb4 : N ≤ 100000) (hc : ce + 1 ≤ mc ∧ sl + N ≤ ms) (kk : ∀ q : Nat, K (ce + 1) (sl + N) (pc + 2) L (.ref q :: st) (ws ++ [(q, .inl (g.2.2.2 0, N, .inl fun _ => 0))])) : K ce sl pc L (.int n :: st) ws := by
  obtain ⟨p, e, R, s, m, args, below, meth, c, A, Q, C, hin, hK⟩ := M
  rw [hK]
  intro H locs ls hP hD hS hL
  obtain ⟨hx, hb, hml, hown, hts, hG, hA, hlk, r1, r2, r3, r4⟩ := C
  refine va_newa (D := g.2.1) (cl := vwCl) (atype := .int) (ty := .int) (N' := N) (a0 := (N, .inl fun _ => 0)) hx hb (hts _ (wt_at 71 (by decide +kernel) rfl)) rfl hG.2.1 hP hD hS hA (fun cA => rfl) hn hN (by show N * 4 ≤ _; omega) (by omega) (by omega) d (fun q cA H1 hK1 hP1 hD1 hS1 => ?_)
  have e1 : cA = g.2.2.2 0 := arr_pin (k := 0) hK1 rfl
  subst e1
  exact (hK _ _ _ _ _ _).mp (kk q) H1 locs ls hP1 hD1 hS1 hL
theorem i_newq (M : MkI g own cc nL fr lo mc ms ini K) {n : Int32} {ix : Nat} (N : Nat) (d : decode cc pc = .ok (.anewarray ix, 3)) (hcl : Cond.classLink own ix RX1 ∈ WT) (hN : n.toNatClampNeg = N) (hn : ¬ n < 0) (hb4 : N ≤ 100000) (hc : ce + 1 ≤ mc ∧ sl + N ≤ ms) (kk : ∀ q : Nat, K (ce + 1) (sl + N) (pc + 3) L (.ref q :: st) (ws ++ [(q, .inl (g.2.2.2 1, N, .inr (.inr (.inr (.inr fun _ => none)))))])) : K ce sl pc L (.int n :: st) ws := by
  obtain ⟨p, e, R, s, m, args, below, meth, c, A, Q, C, hin, hK⟩ := M
  rw [hK]
  intro H locs ls hP hD hS hL
  obtain ⟨hx, hb, hml, hown, hts, hG, hA, hlk, r1, r2, r3, r4⟩ := C
  refine va_newq (D := g.2.1) (cl := vwCl) (N' := N) hx hb hown (hts _ hcl) hG.2.2.1 hG.2.1 hP hD hS hA hn hN (by omega) (by omega) (by omega) d (fun q cA H1 hK1 hP1 hD1 hS1 => ?_)
  have e1 : cA = g.2.2.2 1 := arr_pin (k := 1) hK1 rfl
  subst e1
  exact (hK _ _ _ _ _ _).mp (kk q) H1 locs ls hP1 hD1 hS1 hL
theorem i_new (M : MkI g own cc nL fr lo mc ms ini K) {ix N ci : Nat} {C9 : String} {T : u_T} {ty : Nat → FieldType} {fs : List Value} (d : decode cc pc = .ok (.new ix, 3)) (hci : vwCl[ci]? = some (C9, T, N)) (hw : ∀ w ∈ u_ws C9 T N, w ∈ WT) (hty : ∀ k, k < N → parseFieldDescriptor (T k).2.2.1 = some (ty k)) (h1 : Cond.classLink own ix C9 ∈ WT) (h2 : Cond.instantiable C9 N ∈ WT) (h3 : Cond.initialized C9 ∈ WT) (hfs : ∀ j, j < N → defaultValue (ty j) = vp_V fs j) (hc : ce + 1 ≤ mc ∧ sl + N ≤ ms)
    (kk : ∀ q : Nat, K (ce + 1) (sl + N) (pc + 3) L (.ref q :: st) (ws ++ [(q, .inr (ci, fs))])) : K ce sl pc L st ws := by
  obtain ⟨p, e, R, s, m, args, below, meth, c, A, Q, C, hin, hK⟩ := M
  rw [hK]
  intro H locs ls hP hD hS hL
  obtain ⟨hx, hb, hml, hown, hts, hG, hA, hlk, r1, r2, r3, r4⟩ := C
  exact va_new (D := g.2.1) (cl := vwCl) hx hb hts hw ty hty hown (hts _ h1) (hts _ h2) (hts _ h3) hG.2.1 hP hD hS hA hci hfs (by omega) (by omega) d (fun q H1 hP1 hD1 hS1 => (hK _ _ _ _ _ _).mp (kk q) H1 locs ls hP1 hD1 hS1 hL)
/-- a field of the object at the world's head -/
theorem i_putF (M : MkI g own cc nL fr lo mc ms true K) {ix N ci k a : Nat} {T : u_T} {ty0 : Nat → FieldType} {fs fs' : List Value} {rs : va_W} {v : Value} {ty : FieldType} (d : decode cc pc = .ok (.putfield ix, 3)) (hci : vwCl[ci]? = some (own, T, N)) (hw : ∀ w ∈ u_ws own T N, w ∈ WT) (hty : ∀ k, k < N → parseFieldDescriptor (T k).2.2.1 = some (ty0 k)) (hnm : ∀ a, a < N → ∀ b, b < N → a ≠ b → (T a).2.1 ≠ (T b).2.1) (hk : k < N) (hl : Cond.fieldLink own ix own (T k).2.1 (T k).2.2.1 ∈ WT) (how : (T k).1 = own) (hfin : (T k).2.2.2 = true) (hd : ty0 k = ty) (hn : narrow ty v = v) (hfit : fits ty v = true) (hlen : k < fs.length) (e9 : fs.set k v = fs')
    (kk : K ce sl (pc + 3) L st ((a, .inr (ci, fs')) :: rs)) : K ce sl pc L (v :: .ref a :: st) ((a, .inr (ci, fs)) :: rs) := by
  obtain ⟨p, e, R, s, m, args, below, meth, c, A, Q, C, hin, hK⟩ := M
  rw [hK] at kk ⊢
  intro H locs ls hP hD hS hL
  obtain ⟨hx, hb, hml, hown, hts, hG, hA, hlk, r1, r2, r3, r4⟩ := C
  subst e9
  subst hd
  exact va_putF (D := g.2.1) (ref := own) hx hb hts hw ty0 hty hnm hown hG.2.1 hP hD hS 0 rfl hci k hk (hts _ hl) (fun _ h => by rw [how] at h; exact h) hfin (hin rfl) how (hty k hk) hn hfit hlen d (fun H1 locs1 hP1 hD1 hS1 => kk H1 locs1 ls hP1 hD1 hS1 hL)
theorem i_put (M : MkI g own cc nL fr lo mc ms ini K) {ix N ci k a : Nat} {T : u_T} {ty0 : Nat → FieldType} {fs fs' : List Value} {rs : va_W} {v : Value} {ty : FieldType} (d : decode cc pc = .ok (.putfield ix, 3)) (hci : vwCl[ci]? = some (own, T, N)) (hw : ∀ w ∈ u_ws own T N, w ∈ WT) (hty : ∀ k, k < N → parseFieldDescriptor (T k).2.2.1 = some (ty0 k)) (hnm : ∀ a, a < N → ∀ b, b < N → a ≠ b → (T a).2.1 ≠ (T b).2.1) (hk : k < N) (hl : Cond.fieldLink own ix own (T k).2.1 (T k).2.2.1 ∈ WT) (how : (T k).1 = own) (hfin : (T k).2.2.2 = false) (hd : ty0 k = ty) (hn : narrow ty v = v) (hfit : fits ty v = true) (hlen : k < fs.length) (e9 : fs.set k v = fs')
    (kk : K ce sl (pc + 3) L st ((a, .inr (ci, fs')) :: rs)) : K ce sl pc L (v :: .ref a :: st) ((a, .inr (ci, fs)) :: rs) := by
  obtain ⟨p, e, R, s, m, args, below, meth, c, A, Q, C, hin, hK⟩ := M
  rw [hK] at kk ⊢
  intro H locs ls hP hD hS hL
  obtain ⟨hx, hb, hml, hown, hts, hG, hA, hlk, r1, r2, r3, r4⟩ := C
  subst e9
  subst hd
  exact va_put (D := g.2.1) (ref := own) hx hb hts hw ty0 hty hnm hown hG.2.1 hP hD hS 0 rfl hci k hk (hts _ hl) (fun _ h => by rw [how] at h; exact h) hfin (hty k hk) hn hfit hlen d (fun H1 locs1 hP1 hD1 hS1 => kk H1 locs1 ls hP1 hD1 hS1 hL)
theorem i_get (M : MkI g own cc nL fr lo mc ms ini K) {ix N ci k a : Nat} {T : u_T} {fs : List Value} {rs : va_W} {v : Value} (d : decode cc pc = .ok (.getfield ix, 3)) (hci : vwCl[ci]? = some (own, T, N)) (hw : ∀ w ∈ u_ws own T N, w ∈ WT) (hk : k < N) (hl : Cond.fieldLink own ix own (T k).2.1 (T k).2.2.1 ∈ WT) (how : (T k).1 = own) (hv : fs[k]? = some v)
    (kk : K ce sl (pc + 3) L (v :: st) ((a, .inr (ci, fs)) :: rs)) : K ce sl pc L (.ref a :: st) ((a, .inr (ci, fs)) :: rs) := by
  obtain ⟨p, e, R, s, m, args, below, meth, c, A, Q, C, hin, hK⟩ := M
  rw [hK] at kk ⊢
  intro H locs ls hP hD hS hL
  obtain ⟨hx, hb, hml, hown, hts, hG, hA, hlk, r1, r2, r3, r4⟩ := C
  exact va_get (D := g.2.1) (ref := own) hx hb hts hw hown hG.2.1 hP 0 rfl hci k hk (hts _ hl) (fun _ h => by rw [how] at h; exact h) hv d (kk H locs ls hP hD hS hL)
/-- a member into the array behind the world's head -/
theorem i_ast (M : MkI g own cc nL fr lo mc ms ini K) {x : Nat × va_E} {a v N : Nat} {vs : List Value} {f : Nat → Option Nat} {rs : va_W} {i : Int32} (qk : Nat) (d : decode cc pc = .ok (.aastore, 1)) (hv : rs[qk]? = some (v, .inr (1, vs))) (hin9 : vp_in i N)
    (kk : K ce sl (pc + 1) L st (x :: (a, .inl (g.2.2.2 1, N, .inr (.inr (.inr (.inr (va_up f i.toNatClampNeg (some v))))))) :: rs)) : K ce sl pc L (.ref v :: .int i :: .ref a :: st) (x :: (a, .inl (g.2.2.2 1, N, .inr (.inr (.inr (.inr f))))) :: rs) := by
  obtain ⟨p, e, R, s, m, args, below, meth, c, A, Q, C, hin, hK⟩ := M
  rw [hK] at kk ⊢
  intro H locs ls hP hD hS hL
  obtain ⟨hx, hb, hml, hown, hts, hG, hA, hlk, r1, r2, r3, r4⟩ := C
  exact va_astq (D := g.2.1) (cl := vwCl) (r := (RX1, TX1, 13)) hx hb hG.2.1 hP hD hS 1 1 (qk + 2) 1 rfl rfl hv rfl hin9 d (fun H1 locs1 hP1 hD1 hS1 => kk H1 locs1 ls hP1 hD1 hS1 hL)
theorem va_P.left {D : va_G} {cl : List vw_C} {w1 w2 : va_W} {H : Heap} (h : va_P D cl (w1 ++ w2) H) : va_P D cl w1 H := fun k q hk => h k q (by rw [List.getElem?_append_left (List.getElem?_eq_some_iff.mp hk).1]; exact hk)
theorem va_P.right {D : va_G} {cl : List vw_C} {w1 w2 : va_W} {H : Heap} (h : va_P D cl (w1 ++ w2) H) : va_P D cl w2 H := fun k q hk => h (w1.length + k) q (by rw [List.getElem?_append_right (by omega), Nat.add_sub_cancel_left]; exact hk)
theorem va_D.left {A : Nat → Prop} {w1 w2 : va_W} (h : va_D A (w1 ++ w2)) : va_D A w1 := by
  have key : ∀ (k : Nat) (q : Nat × va_E), w1[k]? = some q → (w1 ++ w2)[k]? = some q := fun k q hk => by rw [List.getElem?_append_left (List.getElem?_eq_some_iff.mp hk).1]; exact hk
  exact ⟨fun i j p q hi hj he => h.1 i j p q (key i p hi) (key j q hj) he, fun k q hk => h.2 k q (key k q hk)⟩
theorem join_last {D : va_G} {A : Nat → Prop} {ws w1 : va_W} {a : Nat} {e0 : va_E} {H H1 : Heap} (hP : va_P D vwCl (ws ++ [(a, e0)]) H) (hD : va_D A (ws ++ [(a, e0)])) (hA : ∀ q, H.size ≤ q → A q) (hk : ∀ q : Nat, q < H.size → ¬ AI a H.size q → H1[q]? = H[q]?) (hP1 : va_P D vwCl w1 H1) (hD1 : va_D (AI a H.size) w1) : va_P D vwCl (ws ++ w1) H1 ∧ va_D A (ws ++ w1) := by
  have hlast : (ws ++ [(a, e0)])[ws.length]? = some (a, e0) := by simp
  have apart : ∀ (k : Nat) (q : Nat × va_E), ws[k]? = some q → q.1 < H.size ∧ ¬ AI a H.size q.1 := fun k q hq => by
    have hl := (hP.left k q hq).lt
    refine ⟨hl, fun h => ?_⟩
    rcases h with h | h
    · have h9 := hD.1 k ws.length q (a, e0) (by rw [List.getElem?_append_left (List.getElem?_eq_some_iff.mp hq).1]; exact hq) hlast h
      have := (List.getElem?_eq_some_iff.mp hq).1
      omega
    · omega
  refine ⟨va_P.app (fun k q hq => (hP.left k q hq).kept (hk q.1 (apart k q hq).1 (apart k q hq).2)) hP1, va_D.app hD.left (hD1.weaken (fun k q _ h => ?_)) (fun i j x y hx hy hxy => ?_)⟩
  · rcases h with h | h
    · rw [h]; exact hD.2 _ _ hlast
    · exact hA _ h
  · exact (apart i x hx).2 (by rw [hxy]; exact hD1.2 j y hy)
theorem PrI_blind (g : Gl) (h0 sz ci : Nat) (fs : List Value) : FrameBlind (PrI g h0 sz ci fs) := fun a U f mk h => by
  obtain ⟨h1, h2, h3, h4⟩ := h
  exact ⟨h1, h2, GI.same (u := U) rfl h3, h4⟩
/-- a constructor's call over the newest cell -/
theorem i_init {α : Type} (M : MkI g own cc nL fr lo mc ms ini K) {y : MethodName} {ccy : ByteArray} {nLy fry loy mcy msy ix ci q : Nat} {fs : List Value} {W0 : Nat → α → va_W} (d : decode cc pc = .ok (.invokespecial ix, 3)) (hc : Ck own ix y ccy nLy none 0) (hin9 : y.name = "<init>" ∧ Cond.instanceMethod y ∈ WT) (hR : fry + 1 ≤ fr ∧ 8 + (nLy + 11) + loy ≤ lo ∧ ce + mcy ≤ mc ∧ sl + msy ≤ ms) (hcat : (st.map fun v => v.category).sum ≤ 8) (hM : MetI g y ccy nLy fry loy mcy msy ci fs W0)
    (kk : ∀ u : α, K (ce + mcy) (sl + msy) (pc + 3) L st (ws ++ W0 q u)) : K ce sl pc L (.ref q :: st) (ws ++ [(q, .inr (ci, fs))]) := by
  obtain ⟨p, e, R, s, m, args, below, meth, c, A, Q, C, hin, hK⟩ := M
  rw [hK]
  intro H locs ls hP hD hS hL
  obtain ⟨hx, hb, hml, hown, hts, hG, hA, hlk, r1, r2, r3, r4⟩ := C
  obtain ⟨hk1, hk2, hk3, hk4, hk5⟩ := hc
  have hAH : ∀ q, H.size ≤ q → A q := fun q h => hA q (Nat.le_trans hS.1 h)
  have hAq : A q := hD.2 ws.length (q, .inr (ci, fs)) (by simp)
  have hsub : ∀ x, AI q H.size x → A x := fun x h => by
    rcases h with h | h
    · rw [h]; exact hAq
    · exact hAH x h
  have hpre : PreS s H (PrI g q H.size ci fs) [.ref q] := ⟨PrI_blind g q H.size ci fs, fun U hU hW => ⟨rfl, by rw [hU], GI.warm hW hG, by rw [hU]; exact hP.right⟩⟩
  have hfix : CallFix p m c cc nL s args WT own := ⟨hx, hb, hml, hown, hts⟩
  have hrun : va_Run p g.1 e R s m args below meth c H locs ce sl mcy msy (F0 m pc ls (.ref q :: st)) st (QrI g q H.size (W0 q) #[.ref q]) (AI q H.size) := by
    rcases hk1 with hk1 | ⟨host, hk1⟩
    · exact va_runI (As := []) (rest := st) hfix (hM q H.size) (cwI 0 hts (wt_code hk3) rfl rfl rfl (hts _ hk2) (hts _ hk1) (hts _ hin9.2) hin9.1 ⟨hk4.1, hk4.2, hk5⟩ ⟨by show fry + 1 ≤ _; omega, by show 8 + (nLy + 11) + loy ≤ _; omega⟩) hpre rfl rfl hL.1 rfl (lv_room hcat) d ⟨by omega, by omega⟩
    · exact va_runIN (As := []) (rest := st) hfix (hM q H.size) ⟨va_cnB 0 hts (wt_code hk3) rfl rfl rfl (hG.1 _ hk1) (hts _ hk2) ⟨hk4.1, hk4.2, hk5⟩ ⟨by show fry + 1 ≤ _; omega, by show 8 + (nLy + 11) + loy ≤ _; omega⟩, hin9.1, hts _ hin9.2⟩ hpre rfl rfl hL.1 rfl (lv_room hcat) d ⟨by omega, by omega⟩
  refine va_callv hrun hS (fun x _ h => hsub x h) hsub (fun u t H1 locs1 ht hvm hw hB hz1 hk9 hS1 => ?_)
  obtain ⟨hP1, hD1⟩ := hB
  rw [ht] at hP1
  obtain ⟨hP2, hD2⟩ := join_last hP hD hAH hk9 hP1 hD1
  exact (hK _ _ _ _ _ _).mp (kk u) H1 locs1 ls hP2 hD2 hS1 hL
/-- a constructor -/
def MachI {α : Type} (g : Gl) (own : String) (cc : ByteArray) (nL fr lo mc ms h0 : Nat) (Wu : α → va_W) (K : KTI) : Prop :=
  ∃ (p : Program) (e : Env) (R : Room) (s : State) (m : MethodId) (args : Array Value) (below : List Frame) (meth : Method) (c : Code), CtI g own cc nL fr lo mc ms p R s m args meth c (AI h0 s.heap.size) ∧ meth.name = "<init>" ∧ meth.sig.returnType = none ∧ ∀ ce sl pc L st ws, K ce sl pc L st ws ↔ WkI g nL p e R s m args below meth c (AI h0 s.heap.size) (MQ below (QrI g h0 s.heap.size Wu) args s mc ms (AI h0 s.heap.size)) ce sl pc L st ws
theorem MachI.mk {α : Type} {h0 : Nat} {Wu : α → va_W} (M : MachI g own cc nL fr lo mc ms h0 Wu K) : MkI g own cc nL fr lo mc ms true K := by
  obtain ⟨p, e, R, s, m, args, below, meth, c, C, hin, hr, hK⟩ := M
  exact ⟨p, e, R, s, m, args, below, meth, c, _, _, C, fun _ => hin, hK⟩
theorem i_ret {α : Type} {h0 : Nat} {Wu : α → va_W} (M : MachI g own cc nL fr lo mc ms h0 Wu K) (u : α) (d : decode cc pc = .ok (.return_, 1)) (hw : ws = Wu u) (hc : ce ≤ mc ∧ sl ≤ ms) : K ce sl pc L [] ws := by
  obtain ⟨p, e, R, s, m, args, below, meth, c, C, hin, hr, hK⟩ := M
  rw [hK]
  intro H locs ls hP hD hS hL
  obtain ⟨hx, hb, hml, hown, hts, hG, hA, hlk, r1, r2, r3, r4⟩ := C
  subst hw
  refine W.widen hc.1 hc.2 ?_
  exact W.vret hx hb hr (fun t ht hW => ⟨⟨u, rfl, trivial, by rw [ht]; exact hP, hD⟩, hS.F ht⟩) hS.2.2 d hlk
theorem enterI {α : Type} {y : MethodName} {ci : Nat} {fs : List Value} {W0 : Nat → α → va_W} (hy : plainName y.cls = true) (hyn : y.name = "<init>") (hn : 1 ≤ nL) (h : ∀ (h0 : Nat) (K : KTI), MachI g y.cls cc nL fr lo mc ms h0 (W0 h0) K → K 0 0 0 [(0, .ref h0)] [] [(h0, .inr (ci, fs))]) : MetI g y cc nL fr lo mc ms ci fs W0 := by
  intro h0 sz
  refine Met.ofW (cc := cc) (maxL := nL) (ret := none) hy rfl ?_
  intro p e s m args below meth c s₁ B hml hv
  obtain ⟨rfl, hsz, hG, hP⟩ := hv
  subst hsz
  have hts0 := atoms_spec (ws := Cond.code y cc nL none :: WT) B.pre
  have C : CtI g y.cls cc nL fr lo mc ms p (headSpec (Cond.code y cc nL none :: WT) ({ frames := fr, cells := mc, slots := ms, locals := lo })).room s m ([.ref h0] : List Value).toArray meth c (AI h0 s.heap.size) :=
    ⟨B.exec, B.bytes, hml, findClass_of_methodNamed B.named, fun w hw => hts0 w (List.mem_cons_of_mem _ hw), hG, fun q hq => Or.inr hq, B.notSynchronized, Nat.le_refl _, Nat.le_refl _, Nat.le_refl _, Nat.le_refl _⟩
  have hD : va_D (AI h0 s.heap.size) [(h0, .inr (ci, fs))] := by
    refine ⟨fun i j p q hi hj _ => ?_, fun k q hk => ?_⟩
    · have h1 := (List.getElem?_eq_some_iff.mp hi).1
      have h2 := (List.getElem?_eq_some_iff.mp hj).1
      simp only [List.length_singleton] at h1 h2
      omega
    · have h1 := (List.getElem?_eq_some_iff.mp hk).1
      simp only [List.length_singleton] at h1
      rw [show k = 0 by omega] at hk
      cases hk
      exact Or.inl rfl
  have k := h h0 (WkI g nL p e (headSpec (Cond.code y cc nL none :: WT) ({ frames := fr, cells := mc, slots := ms, locals := lo })).room s m ([.ref h0] : List Value).toArray below meth c (AI h0 s.heap.size) (MQ below (QrI g h0 s.heap.size (W0 h0)) ([.ref h0] : List Value).toArray s mc ms (AI h0 s.heap.size)))
    ⟨p, e, _, s, m, _, below, meth, c, C, (name_of_methodNamed B.named B.method).1.trans hyn, B.returns, fun _ _ _ _ _ _ => Iff.rfl⟩
  have hl := lv_entry ([.ref h0] : List Value) (n := nL) hn
  rw [lg_entry_eq]
  exact k s.heap [] _ hP hD va_S.rf hl
end KI
end
section
/-! ===== the constructors that make arrays alone ===== -/
def fs1 : List Value := [.null, .int 0, .int 0, .int 0, .int 0, .int 0, .int 0, .int 0, .int 0, .int 0, .int 0, .int 0, .int 0]
def o1 (q : Nat) : va_E := .inr (1, [.ref q, .int 0, .int 0, .int 0, .int 0, .int 0, .int 0, .int 0, .int 0, .int 0, .int 0, .int 0, .int 0])
def W1 (g : Gl) (h0 : Nat) (q : Nat) : va_W := [(h0, o1 q), (q, .inl (g.2.2.2 0, 100, .inl fun _ => 0))]
set_option maxRecDepth 20000 in
/-- a Member and its row of clients -/
theorem c_X1_init (g : Gl) : MetI g yX1_init cX1_init 1 1 20 1 100 1 fs1 (W1 g) := by
  refine enterI rfl rfl (by decide) (fun h0 K M => ?_)
  have k : K 0 0 0 [(0, .ref h0)] [] ((h0, .inr (1, [.null, .int 0, .int 0, .int 0, .int 0, .int 0, .int 0, .int 0, .int 0, .int 0, .int 0, .int 0, .int 0])) :: []) := by
    refine i_aload M.mk 0 dX1_init_0 rfl rfl ?_
    refine i_obj M.mk dX1_init_1 (wt_at 92 (by decide +kernel) rfl) (wt_at 51 (by decide +kernel) rfl) (wt_at 52 (by decide +kernel) rfl) ⟨by decide, by decide⟩ ?_
    refine i_aload M.mk 0 dX1_init_4 rfl rfl ?_
    refine i_bipush M.mk 100 dX1_init_5 rfl ?_
    refine i_newa M.mk 100 dX1_init_7 rfl (by decide) (by decide) ⟨by decide, Nat.le_of_ble_eq_true rfl⟩ (fun q1 => ?_)
    show K 1 100 9 [(0, .ref h0)] [.ref q1, .ref h0] ((h0, .inr (1, [.null, .int 0, .int 0, .int 0, .int 0, .int 0, .int 0, .int 0, .int 0, .int 0, .int 0, .int 0, .int 0])) :: [(q1, .inl (g.2.2.2 0, 100, .inl fun _ => 0))])
    refine i_putF M.mk (k := 0) dX1_init_9 rfl inW1 tyX1_ok nmX1 (by decide) (wt_at 93 (by decide +kernel) rfl) rfl rfl rfl rfl rfl (Nat.le_of_ble_eq_true rfl) rfl ?_
    show K 1 100 12 [(0, .ref h0)] [] ((h0, .inr (1, [.ref q1, .int 0, .int 0, .int 0, .int 0, .int 0, .int 0, .int 0, .int 0, .int 0, .int 0, .int 0, .int 0])) :: [(q1, .inl (g.2.2.2 0, 100, .inl fun _ => 0))])
    refine i_aload M.mk 0 dX1_init_12 rfl rfl ?_
    refine i_iconst M.mk (0) dX1_init_13 rfl ?_
    refine i_put M.mk (k := 1) dX1_init_14 rfl inW1 tyX1_ok nmX1 (by decide) (wt_at 95 (by decide +kernel) rfl) rfl rfl rfl rfl rfl (Nat.le_of_ble_eq_true rfl) rfl ?_
    show K 1 100 17 [(0, .ref h0)] [] ((h0, .inr (1, [.ref q1, .int 0, .int 0, .int 0, .int 0, .int 0, .int 0, .int 0, .int 0, .int 0, .int 0, .int 0, .int 0])) :: [(q1, .inl (g.2.2.2 0, 100, .inl fun _ => 0))])
    refine i_aload M.mk 0 dX1_init_17 rfl rfl ?_
    refine i_iconst M.mk (0) dX1_init_18 rfl ?_
    refine i_put M.mk (k := 2) dX1_init_19 rfl inW1 tyX1_ok nmX1 (by decide) (wt_at 97 (by decide +kernel) rfl) rfl rfl rfl rfl rfl (Nat.le_of_ble_eq_true rfl) rfl ?_
    show K 1 100 22 [(0, .ref h0)] [] ((h0, .inr (1, [.ref q1, .int 0, .int 0, .int 0, .int 0, .int 0, .int 0, .int 0, .int 0, .int 0, .int 0, .int 0, .int 0])) :: [(q1, .inl (g.2.2.2 0, 100, .inl fun _ => 0))])
    refine i_aload M.mk 0 dX1_init_22 rfl rfl ?_
    refine i_iconst M.mk (0) dX1_init_23 rfl ?_
    refine i_put M.mk (k := 3) dX1_init_24 rfl inW1 tyX1_ok nmX1 (by decide) (wt_at 99 (by decide +kernel) rfl) rfl rfl rfl rfl rfl (Nat.le_of_ble_eq_true rfl) rfl ?_
    show K 1 100 27 [(0, .ref h0)] [] ((h0, .inr (1, [.ref q1, .int 0, .int 0, .int 0, .int 0, .int 0, .int 0, .int 0, .int 0, .int 0, .int 0, .int 0, .int 0])) :: [(q1, .inl (g.2.2.2 0, 100, .inl fun _ => 0))])
    refine i_aload M.mk 0 dX1_init_27 rfl rfl ?_
    refine i_iconst M.mk (0) dX1_init_28 rfl ?_
    refine i_put M.mk (k := 4) dX1_init_29 rfl inW1 tyX1_ok nmX1 (by decide) (wt_at 101 (by decide +kernel) rfl) rfl rfl rfl rfl rfl (Nat.le_of_ble_eq_true rfl) rfl ?_
    show K 1 100 32 [(0, .ref h0)] [] ((h0, .inr (1, [.ref q1, .int 0, .int 0, .int 0, .int 0, .int 0, .int 0, .int 0, .int 0, .int 0, .int 0, .int 0, .int 0])) :: [(q1, .inl (g.2.2.2 0, 100, .inl fun _ => 0))])
    refine i_aload M.mk 0 dX1_init_32 rfl rfl ?_
    refine i_iconst M.mk (0) dX1_init_33 rfl ?_
    refine i_put M.mk (k := 5) dX1_init_34 rfl inW1 tyX1_ok nmX1 (by decide) (wt_at 103 (by decide +kernel) rfl) rfl rfl rfl rfl rfl (Nat.le_of_ble_eq_true rfl) rfl ?_
    show K 1 100 37 [(0, .ref h0)] [] ((h0, .inr (1, [.ref q1, .int 0, .int 0, .int 0, .int 0, .int 0, .int 0, .int 0, .int 0, .int 0, .int 0, .int 0, .int 0])) :: [(q1, .inl (g.2.2.2 0, 100, .inl fun _ => 0))])
    refine i_aload M.mk 0 dX1_init_37 rfl rfl ?_
    refine i_iconst M.mk (0) dX1_init_38 rfl ?_
    refine i_put M.mk (k := 6) dX1_init_39 rfl inW1 tyX1_ok nmX1 (by decide) (wt_at 105 (by decide +kernel) rfl) rfl rfl rfl rfl rfl (Nat.le_of_ble_eq_true rfl) rfl ?_
    show K 1 100 42 [(0, .ref h0)] [] ((h0, .inr (1, [.ref q1, .int 0, .int 0, .int 0, .int 0, .int 0, .int 0, .int 0, .int 0, .int 0, .int 0, .int 0, .int 0])) :: [(q1, .inl (g.2.2.2 0, 100, .inl fun _ => 0))])
    refine i_aload M.mk 0 dX1_init_42 rfl rfl ?_
    refine i_iconst M.mk (0) dX1_init_43 rfl ?_
    refine i_put M.mk (k := 7) dX1_init_44 rfl inW1 tyX1_ok nmX1 (by decide) (wt_at 106 (by decide +kernel) rfl) rfl rfl rfl rfl rfl (Nat.le_of_ble_eq_true rfl) rfl ?_
    show K 1 100 47 [(0, .ref h0)] [] ((h0, .inr (1, [.ref q1, .int 0, .int 0, .int 0, .int 0, .int 0, .int 0, .int 0, .int 0, .int 0, .int 0, .int 0, .int 0])) :: [(q1, .inl (g.2.2.2 0, 100, .inl fun _ => 0))])
    refine i_aload M.mk 0 dX1_init_47 rfl rfl ?_
    refine i_iconst M.mk (0) dX1_init_48 rfl ?_
    refine i_put M.mk (k := 8) dX1_init_49 rfl inW1 tyX1_ok nmX1 (by decide) (wt_at 108 (by decide +kernel) rfl) rfl rfl rfl rfl rfl (Nat.le_of_ble_eq_true rfl) rfl ?_
    show K 1 100 52 [(0, .ref h0)] [] ((h0, .inr (1, [.ref q1, .int 0, .int 0, .int 0, .int 0, .int 0, .int 0, .int 0, .int 0, .int 0, .int 0, .int 0, .int 0])) :: [(q1, .inl (g.2.2.2 0, 100, .inl fun _ => 0))])
    refine i_aload M.mk 0 dX1_init_52 rfl rfl ?_
    refine i_iconst M.mk (0) dX1_init_53 rfl ?_
    refine i_put M.mk (k := 9) dX1_init_54 rfl inW1 tyX1_ok nmX1 (by decide) (wt_at 110 (by decide +kernel) rfl) rfl rfl rfl rfl rfl (Nat.le_of_ble_eq_true rfl) rfl ?_
    show K 1 100 57 [(0, .ref h0)] [] ((h0, .inr (1, [.ref q1, .int 0, .int 0, .int 0, .int 0, .int 0, .int 0, .int 0, .int 0, .int 0, .int 0, .int 0, .int 0])) :: [(q1, .inl (g.2.2.2 0, 100, .inl fun _ => 0))])
    refine i_aload M.mk 0 dX1_init_57 rfl rfl ?_
    refine i_iconst M.mk (0) dX1_init_58 rfl ?_
    refine i_put M.mk (k := 10) dX1_init_59 rfl inW1 tyX1_ok nmX1 (by decide) (wt_at 112 (by decide +kernel) rfl) rfl rfl rfl rfl rfl (Nat.le_of_ble_eq_true rfl) rfl ?_
    show K 1 100 62 [(0, .ref h0)] [] ((h0, .inr (1, [.ref q1, .int 0, .int 0, .int 0, .int 0, .int 0, .int 0, .int 0, .int 0, .int 0, .int 0, .int 0, .int 0])) :: [(q1, .inl (g.2.2.2 0, 100, .inl fun _ => 0))])
    refine i_aload M.mk 0 dX1_init_62 rfl rfl ?_
    refine i_iconst M.mk (0) dX1_init_63 rfl ?_
    refine i_put M.mk (k := 11) dX1_init_64 rfl inW1 tyX1_ok nmX1 (by decide) (wt_at 114 (by decide +kernel) rfl) rfl rfl rfl rfl rfl (Nat.le_of_ble_eq_true rfl) rfl ?_
    show K 1 100 67 [(0, .ref h0)] [] ((h0, .inr (1, [.ref q1, .int 0, .int 0, .int 0, .int 0, .int 0, .int 0, .int 0, .int 0, .int 0, .int 0, .int 0, .int 0])) :: [(q1, .inl (g.2.2.2 0, 100, .inl fun _ => 0))])
    refine i_aload M.mk 0 dX1_init_67 rfl rfl ?_
    refine i_iconst M.mk (0) dX1_init_68 rfl ?_
    refine i_put M.mk (k := 12) dX1_init_69 rfl inW1 tyX1_ok nmX1 (by decide) (wt_at 116 (by decide +kernel) rfl) rfl rfl rfl rfl rfl (Nat.le_of_ble_eq_true rfl) rfl ?_
    show K 1 100 72 [(0, .ref h0)] [] ((h0, .inr (1, [.ref q1, .int 0, .int 0, .int 0, .int 0, .int 0, .int 0, .int 0, .int 0, .int 0, .int 0, .int 0, .int 0])) :: [(q1, .inl (g.2.2.2 0, 100, .inl fun _ => 0))])
    exact i_ret M (q1) dX1_init_72 rfl ⟨Nat.le_refl _, Nat.le_refl _⟩
  exact k
def fs2 : List Value := [.null, .null, .null]
def o2 (q : Nat × Nat × Nat) : va_E := .inr (2, [.ref q.1, .ref q.2.1, .ref q.2.2])
def W2 (g : Gl) (h0 : Nat) (q : Nat × Nat × Nat) : va_W := [(h0, o2 q), (q.1, .inl (g.2.2.2 0, 10, .inl fun _ => 0)), (q.2.1, .inl (g.2.2.2 0, 10, .inl fun _ => 0)), (q.2.2, .inl (g.2.2.2 0, 10, .inl fun _ => 0))]
set_option maxRecDepth 20000 in
/-- a Parting and its three rows -/
theorem c_X2_init (g : Gl) : MetI g yX2_init cX2_init 1 1 20 3 30 2 fs2 (W2 g) := by
  refine enterI rfl rfl (by decide) (fun h0 K M => ?_)
  have k : K 0 0 0 [(0, .ref h0)] [] ((h0, .inr (2, [.null, .null, .null])) :: []) := by
    refine i_aload M.mk 0 dX2_init_0 rfl rfl ?_
    refine i_obj M.mk dX2_init_1 (wt_at 77 (by decide +kernel) rfl) (wt_at 51 (by decide +kernel) rfl) (wt_at 52 (by decide +kernel) rfl) ⟨by decide, by decide⟩ ?_
    refine i_aload M.mk 0 dX2_init_4 rfl rfl ?_
    refine i_bipush M.mk 10 dX2_init_5 rfl ?_
    refine i_newa M.mk 10 dX2_init_7 rfl (by decide) (by decide) ⟨by decide, Nat.le_of_ble_eq_true rfl⟩ (fun q1 => ?_)
    show K 1 10 9 [(0, .ref h0)] [.ref q1, .ref h0] ((h0, .inr (2, [.null, .null, .null])) :: [(q1, .inl (g.2.2.2 0, 10, .inl fun _ => 0))])
    refine i_putF M.mk (k := 0) dX2_init_9 rfl inW2 tyX2_ok nmX2 (by decide) (wt_at 78 (by decide +kernel) rfl) rfl rfl rfl rfl rfl (Nat.le_of_ble_eq_true rfl) rfl ?_
    show K 1 10 12 [(0, .ref h0)] [] ((h0, .inr (2, [.ref q1, .null, .null])) :: [(q1, .inl (g.2.2.2 0, 10, .inl fun _ => 0))])
    refine i_aload M.mk 0 dX2_init_12 rfl rfl ?_
    refine i_bipush M.mk 10 dX2_init_13 rfl ?_
    refine i_newa M.mk 10 dX2_init_15 rfl (by decide) (by decide) ⟨by decide, Nat.le_of_ble_eq_true rfl⟩ (fun q2 => ?_)
    show K 2 20 17 [(0, .ref h0)] [.ref q2, .ref h0] ((h0, .inr (2, [.ref q1, .null, .null])) :: [(q1, .inl (g.2.2.2 0, 10, .inl fun _ => 0)), (q2, .inl (g.2.2.2 0, 10, .inl fun _ => 0))])
    refine i_putF M.mk (k := 1) dX2_init_17 rfl inW2 tyX2_ok nmX2 (by decide) (wt_at 79 (by decide +kernel) rfl) rfl rfl rfl rfl rfl (Nat.le_of_ble_eq_true rfl) rfl ?_
    show K 2 20 20 [(0, .ref h0)] [] ((h0, .inr (2, [.ref q1, .ref q2, .null])) :: [(q1, .inl (g.2.2.2 0, 10, .inl fun _ => 0)), (q2, .inl (g.2.2.2 0, 10, .inl fun _ => 0))])
    refine i_aload M.mk 0 dX2_init_20 rfl rfl ?_
    refine i_bipush M.mk 10 dX2_init_21 rfl ?_
    refine i_newa M.mk 10 dX2_init_23 rfl (by decide) (by decide) ⟨by decide, Nat.le_of_ble_eq_true rfl⟩ (fun q3 => ?_)
    show K 3 30 25 [(0, .ref h0)] [.ref q3, .ref h0] ((h0, .inr (2, [.ref q1, .ref q2, .null])) :: [(q1, .inl (g.2.2.2 0, 10, .inl fun _ => 0)), (q2, .inl (g.2.2.2 0, 10, .inl fun _ => 0)), (q3, .inl (g.2.2.2 0, 10, .inl fun _ => 0))])
    refine i_putF M.mk (k := 2) dX2_init_25 rfl inW2 tyX2_ok nmX2 (by decide) (wt_at 80 (by decide +kernel) rfl) rfl rfl rfl rfl rfl (Nat.le_of_ble_eq_true rfl) rfl ?_
    show K 3 30 28 [(0, .ref h0)] [] ((h0, .inr (2, [.ref q1, .ref q2, .ref q3])) :: [(q1, .inl (g.2.2.2 0, 10, .inl fun _ => 0)), (q2, .inl (g.2.2.2 0, 10, .inl fun _ => 0)), (q3, .inl (g.2.2.2 0, 10, .inl fun _ => 0))])
    exact i_ret M ((q1, q2, q3)) dX2_init_28 rfl ⟨Nat.le_refl _, Nat.le_refl _⟩
  exact k
end
section
/-! ===== BEGIN new T[n][m]: the outer array a place, the inner ones among the pooled ===== -/
/-- f, but v at every address of l -/
def vr_up {α : Type} (f : Nat → α) (l : List Nat) (v : α) : Nat → α := fun a => if a ∈ l then v else f a
theorem vr_up_in {α : Type} {f : Nat → α} {l : List Nat} {v : α} {a : Nat} (h : a ∈ l) : vr_up f l v a = v := if_pos h
theorem vr_up_ne {α : Type} {f : Nat → α} {l : List Nat} {v : α} {a : Nat} (h : a ∉ l) : vr_up f l v a = f a := if_neg h
theorem vr_rows {L l : List Nat} {f : Nat → va_E} {e : va_E} (h : ∀ a, a ∈ l → a ∉ L) : va_pl L f ++ l.map (fun a => (a, e)) = va_pl (L ++ l) (vr_up f l e) := by
  unfold va_pl
  rw [List.map_append]
  congr 1
  · apply List.map_congr_left
    intro a ha
    rw [vr_up_ne (fun q => h a q ha)]
  · apply List.map_congr_left
    intro a ha
    rw [vr_up_in ha]
theorem vr_lay {X rows : va_W} {x : Nat × va_E} {pl : va_W} {D : va_G} {cl : List vw_C} {H : Heap} (hP : va_P D cl (((X ++ pl) ++ [x]) ++ rows) H) : va_P D cl ((X ++ [x]) ++ (pl ++ rows)) H := by
  rw [List.append_assoc (X ++ pl)] at hP
  have h := va_P.swap hP
  rw [← List.append_assoc X] at h
  have h2 := va_P.swap h
  rw [List.append_assoc (X ++ [x])] at h2
  exact h2
theorem vr_layD {X rows : va_W} {x : Nat × va_E} {pl : va_W} {A : Nat → Prop} (hD : va_D A (((X ++ pl) ++ [x]) ++ rows)) : va_D A ((X ++ [x]) ++ (pl ++ rows)) := by
  rw [List.append_assoc (X ++ pl)] at hD
  have h := va_D.swap hD
  rw [← List.append_assoc X] at h
  have h2 := va_D.swap h
  rw [List.append_assoc (X ++ [x])] at h2
  exact h2
theorem vr_outer (c : ClassId) (N h0 : Nat) : ∀ i : Nat, Jvm.Free.Multi.outerC c N h0 i = arrV c N (fun j => va_rf (if j < i then some (h0 + 1 + j) else none))
  | 0 => by
    show ({ cls := c, slots := Array.replicate N .null, vm := .none } : Cell) = _
    rw [arrV_new]
    refine congrArg (arrV c N) (funext fun j => ?_)
    simp [va_rf]
  | i + 1 => by
    show (Jvm.Free.Multi.outerC c N h0 i).setSlot i (.ref (h0 + 1 + i)) = _
    rw [vr_outer c N h0 i, arrV_store]
    refine congrArg (arrV c N) (funext fun j => ?_)
    by_cases e : j = i
    · subst e
      simp [updV, va_rf]
    · by_cases h : j < i
      · simp [updV, e, h, Nat.lt_succ_of_lt h]
      · simp [updV, e, h, show ¬ j < i + 1 by omega]
section VGM
variable {p : Program} {l : Launch} {e : Env} {R : Room} {s : State} {m : MethodId} {args : Array Value} {below : List Frame} {meth : Method} {c : Code} {H : Heap} {locs : List Loc} {cells slots : Nat} {Q : State → Prop}
variable {cc : ByteArray} {pc : Nat} {ls : Array Slot} {rest : List Value} {D : va_G} {cl : List vw_C} {A : Nat → Prop} {a : Nat} {tys : List (ClassId × FieldType)} {ws : va_W} {H0 : Heap}
theorem va_mna {X : va_W} {L : List Nat} {f : Nat → va_E} {cc : ByteArray} (hexec : p.tables.exec = Jvm.exec) (hb : c.code = cc) {own : String} {index : Nat} {ty : FieldType} {cy : ClassId} (hown : s.vm.findClass own = some m.cls) (hclink : (Cond.classLink own index ("[" ++ (FieldType.array ty).toString)).before args s = true) (hover : va_AOA ty s) (harr : (Cond.arrayClass ty).before args s = true) (hcy : s.vm.findClass (FieldType.array ty).toString = some cy)
    (hK : va_K D cl tys s) (hP : va_P D cl (X ++ va_pl L f) H) (hD : va_D A (X ++ va_pl L f)) (hS : va_S A H0 H locs) (hA : ∀ q, H0.size ≤ q → A q) {n k : Int32} {N' K' : Nat} {z : vp_A} (hn : ¬ n < 0) (hk : ¬ k < 0) (hN : n.toNatClampNeg = N') (hM : k.toNatClampNeg = K')
    (hb1 : N' * 4 ≤ 536870912) (hb2 : K' * componentBytes ty ≤ 536870912) (hb3 : K' ≤ 536870912) (hdf : fits ty (defaultValue ty) = true) (hdd : (defaultValue ty).isDefault = true) (hcells : cells + (1 + N') ≤ R.cells) (hslots : slots + (N' + N' * K') ≤ R.slots) (hz : ∀ c : ClassId, Jvm.Free.Multi.innerC c K' (defaultValue ty) = vp_cell c z) (hdg : decode cc pc = .ok (.multianewarray index 2, 4))
    (kk : ∀ (q : Nat) (r : Nat → Nat) (cA : ClassId) (H1 : Heap), (∀ i j : Nat, i < N' → j < N' → r i = r j → i = j) → (∀ i : Nat, i < N' → r i ∉ L) → va_K D cl (tys ++ [(cA, .array ty)]) s →
      va_P D cl ((X ++ [(q, .inl (cA, N', .inr (.inr (.inr (.inr (fun i => if i < N' then some (r i) else none))))))]) ++ va_pl (L ++ (List.range N').map r) (vr_up f ((List.range N').map r) (.inl (cy, z)))) H1 → va_D A ((X ++ [(q, .inl (cA, N', .inr (.inr (.inr (.inr (fun i => if i < N' then some (r i) else none))))))]) ++ va_pl (L ++ (List.range N').map r) (vr_up f ((List.range N').map r) (.inl (cy, z)))) → va_S A H0 H1 locs →
      W p l e R s m args below meth c H1 locs (cells + 1 + N') (slots + N' + N' * K') Q (F0 m (pc + 4) ls (.ref q :: rest))) : W p l e R s m args below meth c H locs cells slots Q (F0 m pc ls (.int k :: .int n :: rest)) := by
  subst hN
  subst hM
  intro T hT Xs
  obtain ⟨vm₁, cA, comp, -, fA, fC, hO, -, X', step⟩ := Xs.multianewarray2F hexec hown hclink (va_AOA.use hover) harr (g := F0 m pc ls (.int k :: .int n :: rest)) rfl (by rw [hb]; exact hdg) rfl hn hk hb1 hb2 hb3 hdf hdd hcells hslots
  have ec : some cy = some comp := hcy.symm.trans fC
  cases ec
  generalize hF : Jvm.Free.Multi.fill (T.setVm vm₁) cA cy n.toNatClampNeg k.toNatClampNeg (defaultValue ty) n.toNatClampNeg = F at X' step
  have hTh : (T.setVm vm₁).heap = H := hT
  obtain ⟨f1, f2, -, -⟩ := Jvm.Free.Multi.fill_facts (T.setVm vm₁) cA cy n.toNatClampNeg k.toNatClampNeg (defaultValue ty) n.toNatClampNeg
  rw [hF, hTh] at f1 f2
  have hold : ∀ x : Nat, x < H.size → F.heap[x]? = H[x]? := fun x hx => by
    have := Jvm.Free.Multi.fill_old (T.setVm vm₁) cA cy n.toNatClampNeg k.toNatClampNeg (defaultValue ty) (a := x) (by rw [hTh]; exact hx) n.toNatClampNeg
    rw [hF, hTh] at this
    exact this
  have hrow : ∀ j : Nat, j < n.toNatClampNeg → F.heap[H.size + 1 + j]? = some (vp_cell cy z) := fun j hj => by
    have := Jvm.Free.Multi.fill_inner (T.setVm vm₁) cA cy n.toNatClampNeg k.toNatClampNeg (defaultValue ty) n.toNatClampNeg j hj
    rw [hF, hTh, hz] at this
    exact this
  have hout : Jvm.Free.Multi.outerC cA n.toNatClampNeg H.size n.toNatClampNeg = vp_cell cA (n.toNatClampNeg, .inr (.inr (.inr (.inr (fun i => if i < n.toNatClampNeg then some (H.size + 1 + i) else none))))) := by
    rw [vp_cell_q]
    exact vr_outer cA n.toNatClampNeg H.size n.toNatClampNeg
  rw [hout] at f2
  have hlt : ∀ a, a ∈ L → a < H.size := fun a ha => by
    obtain ⟨k9, hk9⟩ := va_pl_get (X := X) (f := f) ha
    exact (hP k9 _ hk9).lt
  have hnl : ∀ i : Nat, i < n.toNatClampNeg → H.size + 1 + i ∉ L := fun i _ h => by
    have := hlt _ h
    omega
  have hnm : ∀ a, a ∈ (List.range n.toNatClampNeg).map (fun i => H.size + 1 + i) → a ∉ L := fun a ha h => by
    obtain ⟨i, -, rfl⟩ := List.mem_map.mp ha
    have := hlt _ h
    omega
  have hP0 : va_P D cl (X ++ va_pl L f) F.heap := hP.kept (fun k9 x hx => hold x.1 ((hP k9 x hx).lt))
  have hP1 : va_P D cl ((X ++ va_pl L f) ++ [(H.size, .inl (cA, n.toNatClampNeg, .inr (.inr (.inr (.inr (fun i => if i < n.toNatClampNeg then some (H.size + 1 + i) else none))))))]) F.heap := hP0.app (fun k9 x hx => by
    have h0 : k9 < 1 := (List.getElem?_eq_some_iff.mp hx).1
    rw [show k9 = 0 by omega] at hx
    cases hx
    exact f2)
  have hP2 : va_P D cl (((X ++ va_pl L f) ++ [(H.size, .inl (cA, n.toNatClampNeg, .inr (.inr (.inr (.inr (fun i => if i < n.toNatClampNeg then some (H.size + 1 + i) else none))))))]) ++ ((List.range n.toNatClampNeg).map (fun i => H.size + 1 + i)).map (fun a => (a, .inl (cy, z)))) F.heap := hP1.app (fun k9 x hx => by
    obtain ⟨a, ha, rfl⟩ := List.mem_map.mp (List.mem_of_getElem? hx)
    obtain ⟨i, hi, rfl⟩ := List.mem_map.mp ha
    exact hrow i (List.mem_range.mp hi))
  have hD2 : va_D A (((X ++ va_pl L f) ++ [(H.size, .inl (cA, n.toNatClampNeg, .inr (.inr (.inr (.inr (fun i => if i < n.toNatClampNeg then some (H.size + 1 + i) else none))))))]) ++ ((List.range n.toNatClampNeg).map (fun i => H.size + 1 + i)).map (fun a => (a, .inl (cy, z)))) := by
    have hD1 := hD.push (e := .inl (cA, n.toNatClampNeg, .inr (.inr (.inr (.inr (fun i => if i < n.toNatClampNeg then some (H.size + 1 + i) else none)))))) hP rfl (hA _ hS.1)
    generalize hW1 : (X ++ va_pl L f) ++ [(H.size, .inl (cA, n.toNatClampNeg, .inr (.inr (.inr (.inr (fun i => if i < n.toNatClampNeg then some (H.size + 1 + i) else none))))))] = W1 at hD1 hP1 ⊢
    have hle : ∀ (k9 : Nat) (x : Nat × va_E), W1[k9]? = some x → x.1 ≤ H.size := fun k9 x hx => by
      rw [← hW1] at hx
      by_cases hl : k9 < (X ++ va_pl L f).length
      · rw [List.getElem?_append_left hl] at hx
        exact Nat.le_of_lt ((hP k9 x hx).lt)
      · rw [List.getElem?_append_right (by omega)] at hx
        have h0 : k9 - (X ++ va_pl L f).length < 1 := (List.getElem?_eq_some_iff.mp hx).1
        rw [show k9 - (X ++ va_pl L f).length = 0 by omega] at hx
        cases hx
        exact Nat.le_refl _
    have hr : ∀ (k9 : Nat) (x : Nat × va_E), (((List.range n.toNatClampNeg).map (fun i => H.size + 1 + i)).map (fun a => ((a, .inl (cy, z)) : Nat × va_E)))[k9]? = some x → x.1 = H.size + 1 + k9 := fun k9 x hx => by
      rw [List.getElem?_map, List.getElem?_map] at hx
      by_cases h9 : k9 < n.toNatClampNeg
      · rw [List.getElem?_range h9] at hx
        cases hx
        rfl
      · have hn0 : (List.range n.toNatClampNeg)[k9]? = none := List.getElem?_eq_none (by rw [List.length_range]; omega)
        rw [hn0] at hx
        cases hx
    refine ⟨fun i j x y hi hj hxy => ?_, fun k9 x hx => ?_⟩
    · by_cases h1 : i < W1.length <;> by_cases h2 : j < W1.length
      · rw [List.getElem?_append_left h1] at hi
        rw [List.getElem?_append_left h2] at hj
        exact hD1.1 i j x y hi hj hxy
      · rw [List.getElem?_append_left h1] at hi
        rw [List.getElem?_append_right (by omega)] at hj
        have := hle _ _ hi
        have := hr _ _ hj
        omega
      · rw [List.getElem?_append_right (by omega)] at hi
        rw [List.getElem?_append_left h2] at hj
        have := hle _ _ hj
        have := hr _ _ hi
        omega
      · rw [List.getElem?_append_right (by omega)] at hi hj
        have := hr _ _ hi
        have := hr _ _ hj
        omega
    · by_cases h1 : k9 < W1.length
      · rw [List.getElem?_append_left h1] at hx
        exact hD1.2 k9 x hx
      · rw [List.getElem?_append_right (by omega)] at hx
        have := hr _ _ hx
        exact hA _ (by have := hS.1; omega)
  have hAr : ArrOfT s cA (.array ty) := fun N9 z9 => by
    obtain ⟨-, k9, hk9, cm9, hkk9⟩ := (hO 0 0 0).1
    exact ⟨(fun q hq => by cases hq), k9, hk9, cm9, hkk9⟩
  have hK2 : va_K D cl (tys ++ [(cA, .array ty)]) s := ⟨hK.1, fun k9 x hx => by
    by_cases hl : k9 < tys.length
    · rw [List.getElem?_append_left hl] at hx
      exact hK.2 k9 x hx
    · rw [List.getElem?_append_right (by omega)] at hx
      have h0 : k9 - tys.length < 1 := (List.getElem?_eq_some_iff.mp hx).1
      rw [show k9 - tys.length = 0 by omega] at hx
      cases hx
      exact ⟨hAr, fA⟩⟩
  obtain ⟨t, a1, b1⟩ := kk H.size (fun i => H.size + 1 + i) cA F.heap (fun i j _ _ h => by have h9 : H.size + 1 + i = H.size + 1 + j := h; omega) hnl hK2 (by rw [← vr_rows hnm]; exact vr_lay hP2) (by rw [← vr_rows hnm]; exact vr_layD hD2) ⟨by rw [f1]; have := hS.1; omega, fun x h1 h2 => (hold x (Nat.lt_of_lt_of_le h1 hS.1)).trans (hS.2.1 x h1 h2), hS.2.2⟩ F rfl X'
  refine ⟨t, step t ?_, b1⟩
  have e : T.heap.size = H.size := by rw [hT]
  rw [e]
  exact a1
end VGM
/-! ===== END ===== -/
end
section
/-! ===== an Auction and its table of bids ===== -/
def fs0 : List Value := [.null, .int 0]
def o0 (q : Nat) : va_E := .inr (0, [.ref q, .int 0])
def qrf (f : Nat → Option Nat) : (Nat → Int32) ⊕ (Nat → Int64) ⊕ (Nat → UInt32) ⊕ (Nat → UInt64) ⊕ (Nat → Option Nat) := .inr (.inr (.inr (.inr f)))
def rw0 (g : Gl) (r : Nat → Nat) : va_W := (List.range 10).map fun i => (r i, .inl (g.2.2.2 0, 120, .inl fun _ => 0))
def W0 (g : Gl) (h0 : Nat) (u : Nat × (Nat → Nat)) : va_W := (h0, o0 u.1) :: (u.1, .inl (g.2.2.2 2, 10, qrf fun i => some (u.2 i))) :: rw0 g u.2
theorem at_ext {D : va_G} {cl : List vw_C} {a n : Nat} {cA : ClassId} {f f' : Nat → Option Nat} {H : Heap} (h : ∀ i, i < n → f i = f' i) (k : va_at D cl (a, .inl (cA, n, qrf f)) H) : va_at D cl (a, .inl (cA, n, qrf f')) H := by
  have e : vp_cell cA (n, qrf f) = vp_cell cA (n, qrf f') := by
    show arrV cA n (fun j => va_rf (f j)) = arrV cA n (fun j => va_rf (f' j))
    unfold arrV
    congr 1
    congr 1
    funext j
    exact congrArg va_rf (h j.val j.isLt)
  show H[a]? = some (vp_cell cA (n, qrf f'))
  rw [← e]
  exact k
section KA
variable {g : Gl} {own : String} {cc : ByteArray} {nL fr lo mc ms : Nat} {ini : Bool} {K : KTI} {ce sl pc : Nat} {L : List (Nat × Value)} {st : List Value} {ws : va_W}
theorem i_ext (M : MkI g own cc nL fr lo mc ms ini K) {x : Nat × va_E} {a n : Nat} {cA : ClassId} {f f' : Nat → Option Nat} {rs : va_W} (h : ∀ i, i < n → f i = f' i) (kk : K ce sl pc L st (x :: (a, .inl (cA, n, qrf f')) :: rs)) : K ce sl pc L st (x :: (a, .inl (cA, n, qrf f)) :: rs) := by
  obtain ⟨p, e, R, s, m, args, below, meth, c, A, Q, C, hin, hK⟩ := M
  rw [hK] at kk ⊢
  intro H locs ls hP hD hS hL
  refine kk H locs ls (fun k q hk => ?_) ?_ hS hL
  · match k, hk with
    | 0, hk => exact hP 0 q hk
    | 1, hk =>
      cases hk
      exact at_ext h (hP 1 _ rfl)
    | k + 2, hk => exact hP (k + 2) q hk
  · have h1 : va_D A ((x :: (a, .inl (cA, n, qrf f)) :: rs).set 1 (a, .inl (cA, n, qrf f'))) := hD.set (p := 1) rfl
    exact h1
theorem i_mna (M : MkI g own cc nL fr lo mc ms ini K) {n k : Int32} {ix : Nat} (N' K' : Nat) (d : decode cc pc = .ok (.multianewarray ix 2, 4)) (hcl : Cond.classLink own ix "[[I" ∈ WT) (hN : n.toNatClampNeg = N') (hM : k.toNatClampNeg = K') (hn : ¬ n < 0) (hk : ¬ k < 0) (hb4 : N' ≤ 1000 ∧ K' ≤ 1000) (hc : ce + (1 + N') ≤ mc ∧ sl + (N' + N' * K') ≤ ms)
    (kk : ∀ (q : Nat) (r : Nat → Nat), K (ce + 1 + N') (sl + N' + N' * K') (pc + 4) L (.ref q :: st) (ws ++ ((q, .inl (g.2.2.2 2, N', qrf fun i => if i < N' then some (r i) else none)) :: (List.range N').map fun i => (r i, .inl (g.2.2.2 0, K', .inl fun _ => 0))))) : K ce sl pc L (.int k :: .int n :: st) ws := by
  obtain ⟨p, e, R, s, m, args, below, meth, c, A, Q, C, hin, hK⟩ := M
  rw [hK]
  intro H locs ls hP hD hS hL
  obtain ⟨hx, hb, hml, hown, hts, hG, hA, hlk, r1, r2, r3, r4⟩ := C
  have e0 : "[" ++ (FieldType.array .int).toString = "[[I" := by decide +kernel
  have hcl2 : (Cond.classLink own ix ("[" ++ (FieldType.array .int).toString)).before args s = true := by rw [e0]; exact hts _ hcl
  have hcy : s.vm.findClass (FieldType.array .int).toString = some (g.2.2.2 0) := (hG.2.1.2 0 _ rfl).2
  have hP0 : va_P g.2.1 vwCl (ws ++ va_pl [] (fun _ => .inr (0, []))) H := by
    rw [show va_pl [] (fun _ => .inr (0, [])) = [] from rfl, List.append_nil]
    exact hP
  have hD0 : va_D A (ws ++ va_pl [] (fun _ => .inr (0, []))) := by
    rw [show va_pl [] (fun _ => .inr (0, [])) = [] from rfl, List.append_nil]
    exact hD
  refine va_mna (D := g.2.1) (cl := vwCl) (X := ws) (L := []) (f := fun _ => .inr (0, [])) (ty := .int) (cy := g.2.2.2 0) (N' := N') (K' := K') (z := (K', .inl fun _ => 0)) hx hb hown hcl2 hG.2.2.2 (hts _ (wt_at 71 (by decide +kernel) rfl)) hcy hG.2.1 hP0 hD0 hS hA hn hk hN hM (by omega) (by show K' * 4 ≤ _; omega) (by omega) rfl rfl (by omega) (by omega) (fun c9 => arrV_new c9 K' (.int 0)) d (fun q r cA H1 hinj hnl hK1 hP1 hD1 hS1 => ?_)
  have e1 : cA = g.2.2.2 2 := arr_pin (k := 2) hK1 rfl
  subst e1
  have e2 : (ws ++ [(q, .inl (g.2.2.2 2, N', .inr (.inr (.inr (.inr (fun i => if i < N' then some (r i) else none))))))]) ++ va_pl ([] ++ (List.range N').map r) (vr_up (fun _ => .inr (0, [])) ((List.range N').map r) (.inl (g.2.2.2 0, (K', .inl fun _ => 0)))) = ws ++ ((q, .inl (g.2.2.2 2, N', qrf fun i => if i < N' then some (r i) else none)) :: (List.range N').map fun i => (r i, .inl (g.2.2.2 0, K', .inl fun _ => 0))) := by
    rw [List.append_assoc, List.nil_append]
    congr 1
    show _ :: va_pl ((List.range N').map r) _ = _
    congr 1
    unfold va_pl
    rw [List.map_map]
    apply List.map_congr_left
    intro i hi
    show ((r i, vr_up (fun _ => .inr (0, [])) ((List.range N').map r) (.inl (g.2.2.2 0, (K', .inl fun _ => 0))) (r i)) : Nat × va_E) = _
    rw [vr_up_in (List.mem_map.mpr ⟨i, hi, rfl⟩)]
  rw [e2] at hP1 hD1
  exact (hK _ _ _ _ _ _).mp (kk q r) H1 locs ls hP1 hD1 hS1 hL
end KA
/-- new int[10][120] -/
theorem c_X0_init (g : Gl) : MetI g yX0_init cX0_init 1 1 20 11 1210 0 fs0 (W0 g) := by
  refine enterI rfl rfl (by decide) (fun h0 K M => ?_)
  refine i_aload M.mk 0 dX0_init_0 rfl rfl ?_
  refine i_obj M.mk dX0_init_1 (wt_at 60 (by decide +kernel) rfl) (wt_at 51 (by decide +kernel) rfl) (wt_at 52 (by decide +kernel) rfl) ⟨by decide, by decide⟩ ?_
  refine i_aload M.mk 0 dX0_init_4 rfl rfl ?_
  refine i_bipush M.mk 10 dX0_init_5 rfl ?_
  refine i_bipush M.mk 120 dX0_init_7 rfl ?_
  refine i_mna M.mk 10 120 dX0_init_9 (wt_at 61 (by decide +kernel) rfl) rfl rfl (by decide) (by decide) ⟨by decide, by decide⟩ ⟨by decide, Nat.le_of_ble_eq_true rfl⟩ (fun q r => ?_)
  show K 11 1210 13 [(0, .ref h0)] [.ref q, .ref h0] ((h0, .inr (0, [.null, .int 0])) :: ((q, .inl (g.2.2.2 2, 10, qrf fun i => if i < 10 then some (r i) else none)) :: rw0 g r))
  refine i_putF M.mk (k := 0) dX0_init_13 rfl inW0 tyX0_ok nmX0 (by decide) (wt_at 63 (by decide +kernel) rfl) rfl rfl rfl rfl rfl (Nat.le_of_ble_eq_true rfl) rfl ?_
  refine i_aload M.mk 0 dX0_init_16 rfl rfl ?_
  refine i_iconst M.mk 0 dX0_init_17 rfl ?_
  refine i_put M.mk (k := 1) dX0_init_18 rfl inW0 tyX0_ok nmX0 (by decide) (wt_at 64 (by decide +kernel) rfl) rfl rfl rfl rfl rfl (Nat.le_of_ble_eq_true rfl) rfl ?_
  refine i_ext M.mk (f' := fun i => some (r i)) (fun i hi => if_pos hi) ?_
  exact i_ret M (q, r) dX0_init_21 rfl ⟨Nat.le_refl _, Nat.le_refl _⟩
end
section
/-! ===== a DefaultFund is made ===== -/
def fs3 : List Value := [.null, .null, .null, .int 0, .int 0, .int 0, .int 0, .int 0]
def mm (g : Gl) (am ac : Nat → Nat) : Nat → va_W
  | 0 => []
  | n + 1 => mm g am ac n ++ W1 g (am n) (ac n)
theorem mm_up (g : Gl) (am ac : Nat → Nat) (n q q2 : Nat) : ∀ k, k ≤ n → mm g (va_up am n q) (va_up ac n q2) k = mm g am ac k
  | 0, _ => rfl
  | k + 1, h => by
    show mm g (va_up am n q) (va_up ac n q2) k ++ W1 g (va_up am n q k) (va_up ac n q2 k) = mm g am ac k ++ W1 g (am k) (ac k)
    rw [mm_up g am ac n q q2 k (by omega), va_up_ne am q (by omega), va_up_ne ac q2 (by omega)]
theorem mm_push (g : Gl) (am ac : Nat → Nat) (n q q2 : Nat) : mm g (va_up am n q) (va_up ac n q2) (n + 1) = mm g am ac n ++ W1 g q q2 := by
  show mm g (va_up am n q) (va_up ac n q2) n ++ W1 g (va_up am n q n) (va_up ac n q2 n) = _
  rw [mm_up g am ac n q q2 n (Nat.le_refl _), va_up_self, va_up_self]
def fM (am : Nat → Nat) (n : Nat) : Nat → Option Nat := fun k => if k < n then some (am k) else none
theorem fM_push (am : Nat → Nat) (n q : Nat) : va_up (fM am n) n (some q) = fM (va_up am n q) (n + 1) := by
  funext k
  unfold fM
  by_cases h : k = n
  · subst h
    rw [va_up_self, va_up_self, if_pos (by omega)]
  · rw [va_up_ne _ _ h, va_up_ne _ _ h]
    by_cases h2 : k < n
    · rw [if_pos h2, if_pos (by omega)]
    · rw [if_neg h2, if_neg (by omega)]
def o3 (q1 q2 q3 : Nat) : va_E := .inr (3, [.ref q1, .ref q2, .ref q3, .int 0, .int 0, .int 0, .int 0, .int (-1)])
def W3 (g : Gl) (h0 : Nat) (a : Nat → Nat → Nat) : va_W := (h0, o3 (a 1 0) (a 2 0) (a 3 0)) :: (a 1 0, .inl (g.2.2.2 1, 10, qrf fun k => some (a 4 k))) :: ((W0 g (a 2 0) (a 6 0, a 7) ++ W2 g (a 3 0) (a 8 0, a 9 0, a 10 0)) ++ mm g (a 4) (a 5) 10)
def adF (q1 q2 q3 : Nat) (am ac : Nat → Nat) (u0 : Nat × (Nat → Nat)) (u2 : Nat × Nat × Nat) : Nat → Nat → Nat := fun t i => match t with
  | 1 => q1
  | 2 => q2
  | 3 => q3
  | 4 => am i
  | 5 => ac i
  | 6 => u0.1
  | 7 => u0.2 i
  | 8 => u2.1
  | 9 => u2.2.1
  | _ => u2.2.2
theorem ck_X3_17 : Ck RX3 17 yX0_init cX0_init 1 none 0 := ⟨Or.inr ⟨"DefaultFund", nw_at 57 (by decide +kernel) rfl⟩, wt_at 35 (by decide +kernel) rfl, wt_at 59 (by decide +kernel) rfl, ⟨by decide +kernel, by decide +kernel⟩, by decide +kernel⟩
theorem ck_X3_24 : Ck RX3 24 yX2_init cX2_init 1 none 0 := ⟨Or.inr ⟨"DefaultFund", nw_at 74 (by decide +kernel) rfl⟩, wt_at 36 (by decide +kernel) rfl, wt_at 76 (by decide +kernel) rfl, ⟨by decide +kernel, by decide +kernel⟩, by decide +kernel⟩
theorem ck_X3_45 : Ck RX3 45 yX1_init cX1_init 1 none 0 := ⟨Or.inr ⟨"DefaultFund", nw_at 89 (by decide +kernel) rfl⟩, wt_at 37 (by decide +kernel) rfl, wt_at 91 (by decide +kernel) rfl, ⟨by decide +kernel, by decide +kernel⟩, by decide +kernel⟩
set_option maxRecDepth 20000 in
/-- a DefaultFund with all its rows -/
theorem c_X3_init (g : Gl) : MetI g yX3_init cX3_init 2 2 40 37 2385 3 fs3 (W3 g) := by
  refine enterI rfl rfl (by decide) (fun h0 K M => ?_)
  have loop : ∀ (q1 q2 q3 : Nat) (u0 : Nat × (Nat → Nat)) (u2 : Nat × Nat × Nat) (r n : Nat), n + r = 10 → ∀ am ac : Nat → Nat, K (17 + 2 * n) (1255 + 113 * n) 62 [(1, .int (nI n)), (0, .ref h0)] [] ((h0, o3 q1 q2 q3) :: (q1, .inl (g.2.2.2 1, 10, qrf (fM am n))) :: ((W0 g q2 u0 ++ W2 g q3 u2) ++ mm g am ac n)) := by
    intro q1 q2 q3 u0 u2 r
    induction r with
    | zero =>
      intro n hn am ac
      have hn9 : n = 10 := by omega
      subst hn9
      refine i_iload M.mk 0 dX3_init_62 rfl rfl ?_
      refine i_bipush M.mk 10 dX3_init_63 rfl ?_
      refine i_icmp_ge M.mk 87 dX3_init_65 (by decide) (fun _ => ?_) (fun q => absurd (nI_le (Nat.le_refl 10) (by decide)) q)
      refine i_ext M.mk (f' := fun k => some (am k)) (fun i hi => if_pos hi) ?_
      exact i_ret M (adF q1 q2 q3 am ac u0 u2) dX3_init_87 rfl ⟨by decide, by decide⟩
    | succ r ih =>
      intro n hn am ac
      have hn9 : n < 10 := by omega
      refine i_iload M.mk 0 dX3_init_62 rfl rfl ?_
      refine i_bipush M.mk 10 dX3_init_63 rfl ?_
      refine i_icmp_ge M.mk 87 dX3_init_65 (by decide) (fun q => absurd q (nI_ge hn9 (by decide))) (fun _ => ?_)
      refine i_aload M.mk 1 dX3_init_68 rfl rfl ?_
      refine i_get M.mk (k := 0) dX3_init_69 rfl inW3 (by decide) (wt_at 145 (by decide +kernel) rfl) rfl rfl ?_
      refine i_iload M.mk 0 dX3_init_72 rfl rfl ?_
      refine i_new M.mk (fs := fs1) dX3_init_73 (ci := 1) rfl inW1 tyX1_ok (wt_at 53 (by decide +kernel) rfl) (wt_at 88 (by decide +kernel) rfl) (wt_at 37 (by decide +kernel) rfl) (by decide +kernel) ⟨by omega, by omega⟩ (fun q => ?_)
      refine i_dup M.mk dX3_init_76 ?_
      refine i_init M.mk dX3_init_77 ck_X3_45 ⟨rfl, wt_at 90 (by decide +kernel) rfl⟩ ⟨by decide, by decide, by omega, by omega⟩ (Nat.le_of_ble_eq_true rfl) (c_X1_init g) (fun q9 => ?_)
      have hcl : (nI n).toNatClampNeg = n := nI_clamp (by omega)
      have k : K (17 + 2 * n + 1 + 1) (1255 + 113 * n + 13 + 100) 80 [(1, .int (nI n)), (0, .ref h0)] [.ref q, .int (nI n), .ref q1] ((h0, o3 q1 q2 q3) :: (q1, .inl (g.2.2.2 1, 10, qrf (fM am n))) :: (((W0 g q2 u0 ++ W2 g q3 u2) ++ mm g am ac n) ++ W1 g q q9)) := by
        refine i_ast M.mk ((W0 g q2 u0 ++ W2 g q3 u2) ++ mm g am ac n).length dX3_init_80 (vs := [.ref q9, .int 0, .int 0, .int 0, .int 0, .int 0, .int 0, .int 0, .int 0, .int 0, .int 0, .int 0, .int 0]) (by rw [List.getElem?_append_right (Nat.le_refl _), Nat.sub_self]; rfl) (vp_in_nI hn9 (by decide)) ?_
        refine i_iinc M.mk (v := nI (n + 1)) 0 [(1, .int (nI (n + 1))), (0, .ref h0)] dX3_init_81 rfl (nI_1 n) (by decide) rfl ?_
        refine i_goto M.mk 62 dX3_init_84 (by decide) ?_
        have e1 : va_up (fM am n) (nI n).toNatClampNeg (some q) = fM (va_up am n q) (n + 1) := by rw [hcl]; exact fM_push am n q
        have e2 : ((W0 g q2 u0 ++ W2 g q3 u2) ++ mm g am ac n) ++ W1 g q q9 = (W0 g q2 u0 ++ W2 g q3 u2) ++ mm g (va_up am n q) (va_up ac n q9) (n + 1) := by rw [mm_push, List.append_assoc]
        rw [e1, e2]
        exact i_widen M.mk (by omega) (by omega) (ih (n + 1) (by omega) (va_up am n q) (va_up ac n q9))
      exact k
  refine i_aload M.mk 0 dX3_init_0 rfl rfl ?_
  refine i_obj M.mk dX3_init_1 (wt_at 50 (by decide +kernel) rfl) (wt_at 51 (by decide +kernel) rfl) (wt_at 52 (by decide +kernel) rfl) ⟨by decide, by decide⟩ ?_
  refine i_aload M.mk 0 dX3_init_4 rfl rfl ?_
  refine i_bipush M.mk 10 dX3_init_5 rfl ?_
  refine i_newq M.mk 10 dX3_init_7 (wt_at 53 (by decide +kernel) rfl) rfl (by decide) (by decide) ⟨by decide, by decide⟩ (fun q1 => ?_)
  show K 1 10 10 [(0, .ref h0)] [.ref q1, .ref h0] ((h0, .inr (3, [.null, .null, .null, .int 0, .int 0, .int 0, .int 0, .int 0])) :: [(q1, .inl (g.2.2.2 1, 10, qrf fun _ => none))])
  refine i_putF M.mk (k := 0) dX3_init_10 rfl inW3 tyX3_ok nmX3 (by decide) (wt_at 145 (by decide +kernel) rfl) rfl rfl rfl rfl rfl (Nat.le_of_ble_eq_true rfl) rfl ?_
  refine i_aload M.mk 0 dX3_init_13 rfl rfl ?_
  refine i_new M.mk (fs := fs0) dX3_init_14 (ci := 0) rfl inW0 tyX0_ok (wt_at 55 (by decide +kernel) rfl) (wt_at 56 (by decide +kernel) rfl) (wt_at 35 (by decide +kernel) rfl) (by decide +kernel) ⟨by decide, by decide⟩ (fun q2 => ?_)
  refine i_dup M.mk dX3_init_17 ?_
  refine i_init M.mk dX3_init_18 ck_X3_17 ⟨rfl, wt_at 58 (by decide +kernel) rfl⟩ ⟨by decide, by decide, by decide, by decide⟩ (Nat.le_of_ble_eq_true rfl) (c_X0_init g) (fun u0 => ?_)
  show K 13 1222 21 [(0, .ref h0)] [.ref q2, .ref h0] ((h0, .inr (3, [.ref q1, .null, .null, .int 0, .int 0, .int 0, .int 0, .int 0])) :: (q1, .inl (g.2.2.2 1, 10, qrf fun _ => none)) :: W0 g q2 u0)
  refine i_putF M.mk (k := 1) dX3_init_21 rfl inW3 tyX3_ok nmX3 (by decide) (wt_at 146 (by decide +kernel) rfl) rfl rfl rfl rfl rfl (Nat.le_of_ble_eq_true rfl) rfl ?_
  refine i_aload M.mk 0 dX3_init_24 rfl rfl ?_
  refine i_new M.mk (fs := [.null, .null, .null]) dX3_init_25 (ci := 2) rfl inW2 tyX2_ok (wt_at 72 (by decide +kernel) rfl) (wt_at 73 (by decide +kernel) rfl) (wt_at 36 (by decide +kernel) rfl) (by decide +kernel) ⟨by decide, by decide⟩ (fun q3 => ?_)
  refine i_dup M.mk dX3_init_28 ?_
  refine i_init M.mk dX3_init_29 ck_X3_24 ⟨rfl, wt_at 75 (by decide +kernel) rfl⟩ ⟨by decide, by decide, by decide, by decide⟩ (Nat.le_of_ble_eq_true rfl) (c_X2_init g) (fun u2 => ?_)
  show K 17 1255 32 [(0, .ref h0)] [.ref q3, .ref h0] ((h0, .inr (3, [.ref q1, .ref q2, .null, .int 0, .int 0, .int 0, .int 0, .int 0])) :: ((q1, .inl (g.2.2.2 1, 10, qrf fun _ => none)) :: (W0 g q2 u0 ++ W2 g q3 u2)))
  refine i_putF M.mk (k := 2) dX3_init_32 rfl inW3 tyX3_ok nmX3 (by decide) (wt_at 147 (by decide +kernel) rfl) rfl rfl rfl rfl rfl (Nat.le_of_ble_eq_true rfl) rfl ?_
  refine i_aload M.mk 0 dX3_init_35 rfl rfl ?_
  refine i_iconst M.mk 0 dX3_init_36 rfl ?_
  refine i_put M.mk (k := 3) dX3_init_37 rfl inW3 tyX3_ok nmX3 (by decide) (wt_at 148 (by decide +kernel) rfl) rfl rfl rfl rfl rfl (Nat.le_of_ble_eq_true rfl) rfl ?_
  refine i_aload M.mk 0 dX3_init_40 rfl rfl ?_
  refine i_iconst M.mk 0 dX3_init_41 rfl ?_
  refine i_put M.mk (k := 4) dX3_init_42 rfl inW3 tyX3_ok nmX3 (by decide) (wt_at 149 (by decide +kernel) rfl) rfl rfl rfl rfl rfl (Nat.le_of_ble_eq_true rfl) rfl ?_
  refine i_aload M.mk 0 dX3_init_45 rfl rfl ?_
  refine i_iconst M.mk 0 dX3_init_46 rfl ?_
  refine i_put M.mk (k := 5) dX3_init_47 rfl inW3 tyX3_ok nmX3 (by decide) (wt_at 150 (by decide +kernel) rfl) rfl rfl rfl rfl rfl (Nat.le_of_ble_eq_true rfl) rfl ?_
  refine i_aload M.mk 0 dX3_init_50 rfl rfl ?_
  refine i_iconst M.mk 0 dX3_init_51 rfl ?_
  refine i_put M.mk (k := 6) dX3_init_52 rfl inW3 tyX3_ok nmX3 (by decide) (wt_at 151 (by decide +kernel) rfl) rfl rfl rfl rfl rfl (Nat.le_of_ble_eq_true rfl) rfl ?_
  refine i_aload M.mk 0 dX3_init_55 rfl rfl ?_
  refine i_iconst M.mk (-1) dX3_init_56 rfl ?_
  refine i_put M.mk (k := 7) dX3_init_57 rfl inW3 tyX3_ok nmX3 (by decide) (wt_at 152 (by decide +kernel) rfl) rfl rfl rfl rfl rfl (Nat.le_of_ble_eq_true rfl) rfl ?_
  refine i_iconst M.mk 0 dX3_init_60 rfl ?_
  refine i_istore M.mk [(1, .int 0), (0, .ref h0)] dX3_init_61 rfl (by decide) rfl ?_
  have k0 := loop q1 q2 q3 u0 u2 10 0 rfl (fun _ => 0) (fun _ => 0)
  rw [nI_0] at k0
  have k1 : K 17 1255 62 [(1, .int 0), (0, .ref h0)] [] ((h0, o3 q1 q2 q3) :: (q1, .inl (g.2.2.2 1, 10, qrf (fM (fun _ => 0) 0))) :: (W0 g q2 u0 ++ W2 g q3 u2)) := by
    rw [← List.append_nil (W0 g q2 u0 ++ W2 g q3 u2)]
    exact k0
  exact i_ext M.mk (f' := fM (fun _ => 0) 0) (fun i _ => rfl) k1
end
section
/-! ===== the state at the beginning; what holds at the law's entry ===== -/
def St0 : St := up3 (fun _ _ _ => 0) 0 0 7 (-1)
theorem St0_t {t : Nat} (h0 : t ≠ 0) (i k : Nat) : St0 t i k = 0 := by
  unfold St0
  rw [up3_t h0]
theorem St0_0 {k : Nat} : St0 0 0 k = if k = 7 then -1 else 0 := by
  unfold St0
  by_cases q : k = 7
  · rw [if_pos q, q]
    exact up3_at
  · rw [if_neg q, up3_k q]
theorem LI_0 : LI 0 St0 := by
  have z := @St0_t
  have hci : CI St0 := by
    refine ⟨by rw [St0_0]; decide, by rw [St0_0]; decide, by rw [St0_0]; decide, by rw [St0_0]; decide, ⟨by rw [z (by omega)]; omega, fun i hi k hk => by rw [z (by omega)]; omega⟩, fun k hk => by rw [z (by omega), z (by omega), z (by omega)]; omega, fun i hi => ?_⟩
    unfold MI
    simp only [z (show (4 : Nat) ≠ 0 by omega), z (show (5 : Nat) ≠ 0 by omega)]
    refine ⟨?_, ?_, ?_, ?_, ?_, ?_, ?_, ?_, ?_, ?_, fun k hk => ?_⟩ <;> omega
  refine ⟨⟨hci, fun i hi => ?_, fun k hk hc => z (by omega) _ _, fun k hk hc => ?_, fun i hi => ?_, ?_⟩, by rw [St0_0]; rfl⟩
  · rw [z (by omega), z (by omega)]
    exact ⟨Int.le_refl _, rfl, fun k hk => by omega⟩
  · rw [z (by omega), z (by omega)]
  · rw [z (by omega)]
    omega
  · rw [St0_0]
    decide
section FACTS
variable {p : Program} {s : State} {m : MethodId} {meth : Method} {c : Code} {b L : Nat} {xs : Nat → Int32}
theorem f_NW (C0 : lw_At p s m meth c b L xs) : ∀ w ∈ NW, va_Nw w s := fun w hw => va_Nw.of (nest_tab (List.mem_filter.mp hw).2) (C0.2.2.2.2.2.1 w (List.mem_filter.mp hw).1)
theorem f_st (l : Launch) (hflags : l.flags = flags0) : l.stackTraces = false := by
  unfold Launch.stackTraces
  rw [hflags]
  decide +kernel
theorem f_nc (s : State) : ∀ q ∈ ncs, va_Nc q.1 q.2 s := fun q hq => by
  simp only [ncs, List.not_mem_nil] at hq
theorem f_Zs (C0 : lw_At p s m meth c b L xs) : Zs (fun q => s.heap.size ≤ q) s s.heap := by
  have hs := flat_of_before _ C0.2.2.2.2.2.2.2.2.2
  have hts := C0.2.2.2.2.2.1
  refine ⟨vx_Zqof (hts _ (by decide +kernel)) (hts _ (by decide +kernel)) (hs _ (by decide +kernel)) (fun a h1 h2 => absurd h1 (Nat.not_lt.mpr h2)), vx_Zqof (hts _ (by decide +kernel)) (hts _ (by decide +kernel)) (hs _ (by decide +kernel)) (fun a h1 h2 => absurd h1 (Nat.not_lt.mpr h2))⟩
end FACTS
theorem f_str {p : Program} {s : State} {m : MethodId} {meth : Method} {c : Code} {b L : Nat} {xs : Nat → Int32} (C0 : lw_At p s m meth c b L xs) : ∀ q ∈ strs, ∃ a, vk_R q.1 q.2.1 q.2.2 a s := fun q hq => by
  have hs := flat_of_before _ C0.2.2.2.2.2.2.2.2.2
  have hts := C0.2.2.2.2.2.1
  have key : ∀ (k : Nat) (tx : String), (Cond.stringRef RX3 k tx).before #[Value.ref b] s = true → (Cond.exactly (.string RX3 k) "java/lang/String").before #[Value.ref b] s = true → ∃ a, vk_R RX3 k tx a s := fun k tx h1 h2 => by
    obtain ⟨a, _, _, _, q1, _⟩ := Cond.exactly_spec h2
    exact ⟨a, vk_R.of (A := #[Value.ref b]) h1 q1⟩
  simp only [strs, List.mem_cons, List.not_mem_nil, or_false] at hq
  rcases hq with rfl | rfl | rfl | rfl | rfl | rfl | rfl | rfl | rfl | rfl
  all_goals exact key _ _ (hts _ (by decide +kernel)) (hs _ (by decide +kernel))
end
section
/-! ===== what the tables know at the law's entry ===== -/
theorem arr_of {s : State} {c : ClassId} {k : Class} {comp : ClassId} {ty : FieldType} (h1 : s.vm.classes[c]? = some k) (h2 : k.kind = .array comp ty) : ArrOfT s c ty := fun n z => ⟨fun q h => (by cases h), k, h1, comp, h2⟩
theorem ki_start {p : Program} {s : State} {m : MethodId} {meth : Method} {c : Code} {b L : Nat} {xs : Nat → Int32} (l : Launch) (C0 : lw_At p s m meth c b L xs) : ∃ g : Gl, g.1 = l ∧ GI g s := by
  have hts := C0.2.2.2.2.2.1
  have htw : ∀ w ∈ WT, w.before #[Value.ref b] s = true := fun w hw => hts w (List.mem_filter.mp hw).1
  obtain ⟨c0, i0, k0⟩ := u_known (C := RX0) (T := TX0) (N := 2) (n := 2) htw inW0 (htw _ (wt_at 56 (by decide +kernel) rfl))
  obtain ⟨c1, i1, k1⟩ := u_known (C := RX1) (T := TX1) (N := 13) (n := 13) htw inW1 (htw _ (wt_at 88 (by decide +kernel) rfl))
  obtain ⟨c2, i2, k2⟩ := u_known (C := RX2) (T := TX2) (N := 3) (n := 3) htw inW2 (htw _ (wt_at 73 (by decide +kernel) rfl))
  obtain ⟨c3, i3, k3⟩ := u_known (C := RX3) (T := TX3) (N := 8) (n := 8) htw inW3 (htw _ (wt_at 46 (by decide +kernel) rfl))
  obtain ⟨dC, dI, hKc⟩ : ∃ (dC : Nat → ClassId) (dI : Nat → Nat → Nat), ∀ (k : Nat) (q : vw_C), vwCl[k]? = some q → u_Kn s q.1 q.2.1 q.2.2 (dC k) (dI k) := by
    refine ⟨fun k => match k with | 0 => c0 | 1 => c1 | 2 => c2 | _ => c3, fun k => match k with | 0 => i0 | 1 => i1 | 2 => i2 | _ => i3, ?_⟩
    intro k q hq
    match k, hq with
    | 0, hq => cases hq; exact k0
    | 1, hq => cases hq; exact k1
    | 2, hq => cases hq; exact k2
    | 3, hq => cases hq; exact k3
    | k + 4, hq => simp [vwCl] at hq
  have hO : va_AO RX1 s := va_AO.of (A := #[Value.ref b]) (hts _ (List.mem_of_getElem? (i := 54) (by decide +kernel)))
  have hOA : va_AOA .int s := va_AOA.of (A := #[Value.ref b]) (hts _ (List.mem_of_getElem? (i := 62) (by decide +kernel)))
  obtain ⟨a0, ka0, cm0, e01, e02, e03⟩ := Cond.arrayClass_spec (type := .int) (htw _ (wt_at 71 (by decide +kernel) rfl))
  obtain ⟨cm1, a1, ka1, e11, -, e12, e13, e14⟩ := Cond.arrayOver_spec hO
  obtain ⟨cm2, a2, ka2, e21, -, e22, e23, e24⟩ := arrayOverA_spec hOA
  refine ⟨(l, (dC, dI), fun _ _ => 0, fun k => match k with | 0 => a0 | 1 => a1 | _ => a2), rfl, f_NW C0, ⟨hKc, fun k q hq => ?_⟩, hO, hOA⟩
  match k, hq with
  | 0, hq => cases hq; exact ⟨arr_of e02 e03, e01⟩
  | 1, hq => cases hq; exact ⟨arr_of e12 e13, ka1, cm1, e12, e13, e11, e14⟩
  | 2, hq => cases hq; exact ⟨arr_of e22 e23, e24⟩
  | k + 3, hq => simp [tyl] at hq
end
section
/-! ===== all cells, where the constructors and the law laid them ===== -/
def adG (h0 qh qr : Nat) (a : Nat → Nat → Nat) : Nat → Nat → Nat := fun t i => match t with
  | 0 => h0
  | 1 => a 1 i
  | 2 => a 2 i
  | 3 => a 3 i
  | 4 => a 4 i
  | 5 => a 5 i
  | 6 => a 6 i
  | 7 => a 7 i
  | 8 => a 8 i
  | 9 => a 9 i
  | 10 => a 10 i
  | 11 => qh
  | _ => qr
def gW (g : Gl) (ad : Nat → Nat → Nat) : Gl := (g.1, g.2.1, ad, g.2.2.2)
def LL (g : Gl) (h0 qh qr : Nat) (a : Nat → Nat → Nat) : va_W := (W3 g h0 a ++ [(qh, .inl (g.2.2.2 0, 50, .inl fun _ => 0))]) ++ [(qr, .inl (g.2.2.2 0, 10, .inl fun _ => 0))]
/-- where a cell stands in that list -/
def iot (p : Nat × Nat) : Nat := match p.1 with
  | 0 => 0
  | 1 => 1
  | 2 => 2
  | 6 => 3
  | 7 => 4 + p.2
  | 3 => 14
  | 8 => 15
  | 9 => 16
  | 10 => 17
  | 4 => 18 + 2 * p.2
  | 5 => 19 + 2 * p.2
  | t => 27 + t
theorem iot_inj : ∀ p ∈ prs, ∀ q ∈ prs, iot p = iot q → p = q := by decide +kernel
theorem z_t {t : Nat} (h0 : t ≠ 0) (i : Nat) : St0 t i = fun _ => 0 := funext fun k => St0_t h0 i k
theorem e_arr (g : Gl) {t : Nat} (i : Nat) (h0 : t ≠ 0) (hk : kd t = 5) : en g t i (St0 t i) = .inl (g.2.2.2 0, nf t, .inl fun _ => 0) := by
  rw [en_int g i _ hk, z_t h0]
  rfl
theorem e_mem (g : Gl) (i : Nat) : en g 4 i (St0 4 i) = o1 (g.2.2.1 5 i) := by
  rw [en_obj g i _ (by decide), z_t (by decide)]
  rfl
theorem e_auc (g : Gl) : en g 2 0 (St0 2 0) = o0 (g.2.2.1 6 0) := by
  rw [en_obj g 0 _ (by decide), z_t (by decide)]
  rfl
theorem e_par (g : Gl) : en g 3 0 (St0 3 0) = o2 (g.2.2.1 8 0, g.2.2.1 9 0, g.2.2.1 10 0) := by
  rw [en_obj g 0 _ (by decide), z_t (by decide)]
  rfl
theorem z_0 : St0 0 0 = fun k => if k = 7 then -1 else 0 := funext fun k => St0_0
theorem e_fund (g : Gl) : en g 0 0 (St0 0 0) = o3 (g.2.2.1 1 0) (g.2.2.1 2 0) (g.2.2.1 3 0) := by
  rw [en_obj g 0 _ (by decide), z_0]
  rfl
theorem prs_mem {t i : Nat} (h : (t, i) ∈ prs) : t < 13 ∧ i < ctn t := by
  obtain ⟨t', ht, h2⟩ := List.mem_flatMap.mp h
  obtain ⟨i', hi, h3⟩ := List.mem_map.mp h2
  cases h3
  exact ⟨List.mem_range.mp ht, List.mem_range.mp hi⟩
end
section
/-! ===== each cell stands at its place ===== -/
set_option maxRecDepth 20000 in
theorem cst_0 (g : Gl) (h0 qh qr : Nat) (a : Nat → Nat → Nat) (i : Nat) (hi : i < ctn 0) : (LL g h0 qh qr a)[iot (0, i)]? = some (adG h0 qh qr a 0 i, en (gW g (adG h0 qh qr a)) 0 i (St0 0 i)) := by
  have hi1 : i < 1 := hi
  obtain rfl : i = 0 := by omega
  rw [e_fund]
  rfl
set_option maxRecDepth 20000 in
theorem cst_1 (g : Gl) (h0 qh qr : Nat) (a : Nat → Nat → Nat) (i : Nat) (hi : i < ctn 1) : (LL g h0 qh qr a)[iot (1, i)]? = some (adG h0 qh qr a 1 i, en (gW g (adG h0 qh qr a)) 1 i (St0 1 i)) := by
  have hi1 : i < 1 := hi
  obtain rfl : i = 0 := by omega
  rw [en_ref _ _ _ rfl]
  rfl
set_option maxRecDepth 20000 in
theorem cst_2 (g : Gl) (h0 qh qr : Nat) (a : Nat → Nat → Nat) (i : Nat) (hi : i < ctn 2) : (LL g h0 qh qr a)[iot (2, i)]? = some (adG h0 qh qr a 2 i, en (gW g (adG h0 qh qr a)) 2 i (St0 2 i)) := by
  have hi1 : i < 1 := hi
  obtain rfl : i = 0 := by omega
  rw [e_auc]
  rfl
set_option maxRecDepth 20000 in
theorem cst_3 (g : Gl) (h0 qh qr : Nat) (a : Nat → Nat → Nat) (i : Nat) (hi : i < ctn 3) : (LL g h0 qh qr a)[iot (3, i)]? = some (adG h0 qh qr a 3 i, en (gW g (adG h0 qh qr a)) 3 i (St0 3 i)) := by
  have hi1 : i < 1 := hi
  obtain rfl : i = 0 := by omega
  rw [e_par]
  rfl
set_option maxRecDepth 20000 in
theorem cst_4 (g : Gl) (h0 qh qr : Nat) (a : Nat → Nat → Nat) (i : Nat) (hi : i < ctn 4) : (LL g h0 qh qr a)[iot (4, i)]? = some (adG h0 qh qr a 4 i, en (gW g (adG h0 qh qr a)) 4 i (St0 4 i)) := by
  have hi1 : i < 10 := hi
  rw [e_mem]
  rcases (by omega : i = 0 ∨ i = 1 ∨ i = 2 ∨ i = 3 ∨ i = 4 ∨ i = 5 ∨ i = 6 ∨ i = 7 ∨ i = 8 ∨ i = 9) with rfl | rfl | rfl | rfl | rfl | rfl | rfl | rfl | rfl | rfl <;> rfl
set_option maxRecDepth 20000 in
theorem cst_5 (g : Gl) (h0 qh qr : Nat) (a : Nat → Nat → Nat) (i : Nat) (hi : i < ctn 5) : (LL g h0 qh qr a)[iot (5, i)]? = some (adG h0 qh qr a 5 i, en (gW g (adG h0 qh qr a)) 5 i (St0 5 i)) := by
  have hi1 : i < 10 := hi
  rw [e_arr _ _ (by decide) rfl]
  rcases (by omega : i = 0 ∨ i = 1 ∨ i = 2 ∨ i = 3 ∨ i = 4 ∨ i = 5 ∨ i = 6 ∨ i = 7 ∨ i = 8 ∨ i = 9) with rfl | rfl | rfl | rfl | rfl | rfl | rfl | rfl | rfl | rfl <;> rfl
set_option maxRecDepth 20000 in
theorem cst_6 (g : Gl) (h0 qh qr : Nat) (a : Nat → Nat → Nat) (i : Nat) (hi : i < ctn 6) : (LL g h0 qh qr a)[iot (6, i)]? = some (adG h0 qh qr a 6 i, en (gW g (adG h0 qh qr a)) 6 i (St0 6 i)) := by
  have hi1 : i < 1 := hi
  obtain rfl : i = 0 := by omega
  rw [en_ref _ _ _ rfl]
  rfl
set_option maxRecDepth 20000 in
theorem cst_7 (g : Gl) (h0 qh qr : Nat) (a : Nat → Nat → Nat) (i : Nat) (hi : i < ctn 7) : (LL g h0 qh qr a)[iot (7, i)]? = some (adG h0 qh qr a 7 i, en (gW g (adG h0 qh qr a)) 7 i (St0 7 i)) := by
  have hi1 : i < 10 := hi
  rw [e_arr _ _ (by decide) rfl]
  rcases (by omega : i = 0 ∨ i = 1 ∨ i = 2 ∨ i = 3 ∨ i = 4 ∨ i = 5 ∨ i = 6 ∨ i = 7 ∨ i = 8 ∨ i = 9) with rfl | rfl | rfl | rfl | rfl | rfl | rfl | rfl | rfl | rfl <;> rfl
set_option maxRecDepth 20000 in
theorem cst_8 (g : Gl) (h0 qh qr : Nat) (a : Nat → Nat → Nat) (i : Nat) (hi : i < ctn 8) : (LL g h0 qh qr a)[iot (8, i)]? = some (adG h0 qh qr a 8 i, en (gW g (adG h0 qh qr a)) 8 i (St0 8 i)) := by
  have hi1 : i < 1 := hi
  obtain rfl : i = 0 := by omega
  rw [e_arr _ _ (by decide) rfl]
  rfl
set_option maxRecDepth 20000 in
theorem cst_9 (g : Gl) (h0 qh qr : Nat) (a : Nat → Nat → Nat) (i : Nat) (hi : i < ctn 9) : (LL g h0 qh qr a)[iot (9, i)]? = some (adG h0 qh qr a 9 i, en (gW g (adG h0 qh qr a)) 9 i (St0 9 i)) := by
  have hi1 : i < 1 := hi
  obtain rfl : i = 0 := by omega
  rw [e_arr _ _ (by decide) rfl]
  rfl
set_option maxRecDepth 20000 in
theorem cst_10 (g : Gl) (h0 qh qr : Nat) (a : Nat → Nat → Nat) (i : Nat) (hi : i < ctn 10) : (LL g h0 qh qr a)[iot (10, i)]? = some (adG h0 qh qr a 10 i, en (gW g (adG h0 qh qr a)) 10 i (St0 10 i)) := by
  have hi1 : i < 1 := hi
  obtain rfl : i = 0 := by omega
  rw [e_arr _ _ (by decide) rfl]
  rfl
set_option maxRecDepth 20000 in
theorem cst_11 (g : Gl) (h0 qh qr : Nat) (a : Nat → Nat → Nat) (i : Nat) (hi : i < ctn 11) : (LL g h0 qh qr a)[iot (11, i)]? = some (adG h0 qh qr a 11 i, en (gW g (adG h0 qh qr a)) 11 i (St0 11 i)) := by
  have hi1 : i < 1 := hi
  obtain rfl : i = 0 := by omega
  rw [e_arr _ _ (by decide) rfl]
  rfl
set_option maxRecDepth 20000 in
theorem cst_12 (g : Gl) (h0 qh qr : Nat) (a : Nat → Nat → Nat) (i : Nat) (hi : i < ctn 12) : (LL g h0 qh qr a)[iot (12, i)]? = some (adG h0 qh qr a 12 i, en (gW g (adG h0 qh qr a)) 12 i (St0 12 i)) := by
  have hi1 : i < 1 := hi
  obtain rfl : i = 0 := by omega
  rw [e_arr _ _ (by decide) rfl]
  rfl
theorem cells_at (g : Gl) (h0 qh qr : Nat) (a : Nat → Nat → Nat) (t i : Nat) (ht : t < 13) (hi : i < ctn t) : (LL g h0 qh qr a)[iot (t, i)]? = some (adG h0 qh qr a t i, en (gW g (adG h0 qh qr a)) t i (St0 t i)) := by
  rcases (by omega : t = 0 ∨ t = 1 ∨ t = 2 ∨ t = 3 ∨ t = 4 ∨ t = 5 ∨ t = 6 ∨ t = 7 ∨ t = 8 ∨ t = 9 ∨ t = 10 ∨ t = 11 ∨ t = 12) with rfl | rfl | rfl | rfl | rfl | rfl | rfl | rfl | rfl | rfl | rfl | rfl | rfl
  · exact cst_0 g h0 qh qr a i hi
  · exact cst_1 g h0 qh qr a i hi
  · exact cst_2 g h0 qh qr a i hi
  · exact cst_3 g h0 qh qr a i hi
  · exact cst_4 g h0 qh qr a i hi
  · exact cst_5 g h0 qh qr a i hi
  · exact cst_6 g h0 qh qr a i hi
  · exact cst_7 g h0 qh qr a i hi
  · exact cst_8 g h0 qh qr a i hi
  · exact cst_9 g h0 qh qr a i hi
  · exact cst_10 g h0 qh qr a i hi
  · exact cst_11 g h0 qh qr a i hi
  · exact cst_12 g h0 qh qr a i hi
theorem w_start {g : Gl} {h0 qh qr : Nat} {a : Nat → Nat → Nat} {H : Heap} (hP : va_P g.2.1 vwCl (LL g h0 qh qr a) H) : Wd (gW g (adG h0 qh qr a)) St0 H := fun k q hk => by
  obtain ⟨⟨t, i⟩, hp, rfl⟩ := List.mem_map.mp (List.mem_of_getElem? hk)
  obtain ⟨ht, hi⟩ := prs_mem hp
  exact hP _ _ (cells_at g h0 qh qr a t i ht hi)
theorem apt_start {g : Gl} {h0 qh qr : Nat} {a : Nat → Nat → Nat} {A : Nat → Prop} (hD : va_D A (LL g h0 qh qr a)) : Apt (gW g (adG h0 qh qr a)) ∧ ∀ q, q ∈ prs → A ((gW g (adG h0 qh qr a)).2.2.1 q.1 q.2) := by
  refine ⟨fun p hp q hq he => ?_, fun q hq => ?_⟩
  · obtain ⟨t, i⟩ := p
    obtain ⟨t', i'⟩ := q
    obtain ⟨ht, hi⟩ := prs_mem hp
    obtain ⟨ht', hi'⟩ := prs_mem hq
    exact iot_inj _ hp _ hq (hD.1 _ _ _ _ (cells_at g h0 qh qr a t i ht hi) (cells_at g h0 qh qr a t' i' ht' hi') he)
  · obtain ⟨t, i⟩ := q
    obtain ⟨ht, hi⟩ := prs_mem hq
    exact hD.2 _ _ (cells_at g h0 qh qr a t i ht hi)
end
section
/-! ===== the law from its entry ===== -/
theorem loop_W {p : Program} {e : Env} {s : State} {m : MethodId} {below : List Frame} {meth : Method} {c : Code} {b L : Nat} {xs : Nat → Int32} (hL : L ≤ 260) (C0 : lw_At p s m meth c b L xs) {g : Gl} (hG : GV g s) (hZ : Zs (fun q => s.heap.size ≤ q) s s.heap) (hA : ∀ q, q ∈ prs → s.heap.size ≤ g.2.2.1 q.1 q.2)
    {H : Heap} {locs : List Loc} {ls : Array Slot} {cells slots : Nat} (hW : Wd g St0 H) (hS : va_S (fun q => s.heap.size ≤ q) s.heap H locs) (hls : lvs g ls 9 [some (vX b), some (vR 0 0), some (vR 11 0), some (vR 12 0), some (vI ((0 : Nat) : Int)), none, none, none, none]) (hc : cells + 20000 ≤ 600130) (hs : slots + 6 * 20000 ≤ 7301080) :
    W p g.1 e room_1 s m #[Value.ref b] below meth c H locs cells slots (lw_Z below #[Value.ref b] s) (F0 m 21 ls []) := by
  obtain ⟨hx, hb, hr, hml, hown, hts, hX, hbl, hlocks, hgv⟩ := C0
  have C : Ctx g RL cL_law 9 12 426 20000 p room_1 s m #[Value.ref b] meth c (fun q => s.heap.size ≤ q) cells slots :=
    ⟨hx, hb, hml, hown, fun w hw => hts w (List.mem_filter.mp hw).1, hG, hA, fun q hq => hq, hZ, hlocks, Nat.le_refl _, Nat.le_refl _, hc, hs⟩
  have MW : MkW g b L xs 20000 (Wk g 9 20000 p e room_1 s m #[Value.ref b] below meth c (fun q => s.heap.size ≤ q) cells slots (lw_Z below #[Value.ref b] s)) :=
    ⟨p, e, s, m, below, meth, c, cells, slots, C, hr, hX, hbl, by omega, fun _ _ _ _ _ => Iff.rfl⟩
  have k := law_loop MW 0 (by omega) St0 LI_0 (fun q => absurd q (by omega)) none none none none
  exact k (Nat.zero_le _) H locs ls hW hS hls
theorem ck_L_74 : Ck RL 74 yX3_init cX3_init 2 none 0 := ⟨Or.inl (wt_at 47 (by decide +kernel) rfl), wt_at 34 (by decide +kernel) rfl, wt_at 49 (by decide +kernel) rfl, ⟨by decide +kernel, by decide +kernel⟩, by decide +kernel⟩
section KW
variable {g : Gl} {fr lo mc ms : Nat} {K : KTI}
/-- the law's first twelve instructions -/
theorem law_head {b : Nat} (M : MkI g RL cL_law 9 fr lo mc ms false K) (hR : 3 ≤ fr ∧ 61 ≤ lo ∧ 40 ≤ mc ∧ 2453 ≤ ms)
    (kk : ∀ (h0 qh qr : Nat) (a : Nat → Nat → Nat), K 40 2453 21 [(4, .int 0), (3, .ref qr), (2, .ref qh), (1, .ref h0), (0, .ref b)] [] (LL g h0 qh qr a)) : K 0 0 0 [(0, .ref b)] [] [] := by
  refine i_new M (fs := fs3) dL_law_0 (ci := 3) rfl inW3 tyX3_ok (wt_at 45 (by decide +kernel) rfl) (wt_at 46 (by decide +kernel) rfl) (wt_at 34 (by decide +kernel) rfl) (by decide +kernel) ⟨by omega, by omega⟩ (fun h0 => ?_)
  refine i_dup M dL_law_3 ?_
  refine i_init M (ws := []) dL_law_4 ck_L_74 ⟨rfl, wt_at 48 (by decide +kernel) rfl⟩ ⟨by omega, by omega, by omega, by omega⟩ (Nat.le_of_ble_eq_true rfl) (c_X3_init g) (fun a => ?_)
  show K 38 2393 7 [(0, .ref b)] [.ref h0] (W3 g h0 a)
  refine i_astore M [(1, .ref h0), (0, .ref b)] dL_law_7 rfl (by decide) rfl ?_
  refine i_bipush M 50 dL_law_8 rfl ?_
  refine i_newa M 50 dL_law_10 rfl (by decide) (by decide) ⟨by omega, by omega⟩ (fun qh => ?_)
  refine i_astore M [(2, .ref qh), (1, .ref h0), (0, .ref b)] dL_law_12 rfl (by decide) rfl ?_
  refine i_bipush M 10 dL_law_13 rfl ?_
  refine i_newa M 10 dL_law_15 rfl (by decide) (by decide) ⟨by omega, by omega⟩ (fun qr => ?_)
  refine i_astore M [(3, .ref qr), (2, .ref qh), (1, .ref h0), (0, .ref b)] dL_law_17 rfl (by decide) rfl ?_
  refine i_iconst M 0 dL_law_18 rfl ?_
  refine i_istoreW M [(4, .int 0), (3, .ref qr), (2, .ref qh), (1, .ref h0), (0, .ref b)] dL_law_19 (by decide) rfl ?_
  exact kk h0 qh qr a
end KW
/-- from the entry, for every script of at most 260 ints, the law comes to its end with true -/
theorem whole_start {p : Program} {e : Env} {s : State} {m : MethodId} {below : List Frame} {meth : Method} {c : Code} (l : Launch) (hflags : l.flags = flags0) {b L : Nat} {xs : Nat → Int32} (hL : L ≤ 260) (C0 : lw_At p s m meth c b L xs) : W p l e room_1 s m #[Value.ref b] below meth c s.heap [] 0 0 (lw_Z below #[Value.ref b] s) (entryFrame m ([Value.ref b] : List Value).toArray 9) := by
  obtain ⟨g, rfl, hG⟩ := ki_start l C0
  obtain ⟨hx, hb, hr, hml, hown, hts, hX, hbl, hlocks, hgv⟩ := id C0
  have C : CtI g RL cL_law 9 3 61 40 2453 p room_1 s m #[Value.ref b] meth c (fun q => s.heap.size ≤ q) :=
    ⟨hx, hb, hml, hown, fun w hw => hts w (List.mem_filter.mp hw).1, hG, fun q hq => hq, hlocks, Nat.le_of_ble_eq_true rfl, Nat.le_of_ble_eq_true rfl, Nat.le_of_ble_eq_true rfl, Nat.le_of_ble_eq_true rfl⟩
  have M : MkI g RL cL_law 9 3 61 40 2453 false (WkI g 9 p e room_1 s m #[Value.ref b] below meth c (fun q => s.heap.size ≤ q) (lw_Z below #[Value.ref b] s)) :=
    ⟨p, e, room_1, s, m, _, below, meth, c, _, _, C, (fun h => by cases h), fun _ _ _ _ _ _ => Iff.rfl⟩
  have k := law_head (b := b) M ⟨by omega, by omega, by omega, by omega⟩ (fun h0 qh qr a => by
    intro H locs ls hP hD hS hl
    obtain ⟨hA1, hA2⟩ := apt_start hD
    have hGV : GV (gW g (adG h0 qh qr a)) s := ⟨hG.1, hG.2.1, f_str C0, f_nc s, hA1, f_st g.1 hflags⟩
    refine loop_W hL C0 hGV (f_Zs C0) hA2 (w_start hP) hS ⟨hl.1, hl.2.1, fun n v hv => ?_⟩ (Nat.le_of_ble_eq_true rfl) (Nat.le_of_ble_eq_true rfl)
    match n, hv with
    | 0, hv => cases hv; exact lv_at hl 4 rfl
    | 1, hv => cases hv; exact lv_at hl 3 rfl
    | 2, hv => cases hv; exact lv_at hl 2 rfl
    | 3, hv => cases hv; exact lv_at hl 1 rfl
    | 4, hv => cases hv; exact lv_at hl 0 rfl
    | 5, hv => cases hv
    | 6, hv => cases hv
    | 7, hv => cases hv
    | 8, hv => cases hv
    | n + 9, hv => cases hv)
  have hl := lv_entry ([.ref b] : List Value) (n := 9) (Nat.le_of_ble_eq_true rfl)
  rw [lg_entry_eq]
  exact k s.heap [] _ (fun k q h => by simp at h) ⟨fun i j p q h => by simp at h, fun k q h => by simp at h⟩ va_S.rf hl
end
section
/-! ===== the claim out of the walk: the skeleton's end ===== -/
set_option maxHeartbeats 4000000 in
theorem lw_walk (l : Launch) (hflags : l.flags = flags0) (b : Addr) (xs : List Int32) : MetFree l x (headSpec (Jvm.Cond.code x code maxLocals ret :: tables_1) room_1) (lw_P b xs) (fun _ _ _ _ _ => True) lw_Q := by
  refine MetFree.of_bodyS (code := code) (maxLocals := maxLocals) (ret := ret) (by decide) ?_ ?_
  · intro args s m h hn
    obtain ⟨meth, c, h1, h2, h3, h4, h5, h6, -, -⟩ := Cond.code_spec hn (atoms_spec (ws := Jvm.Cond.code x code maxLocals ret :: tables_1) h _ List.mem_cons_self)
    exact ⟨meth, c, h1, h2, h3, h4, h5, h6⟩
  · intro p e s m args below meth c s₁ B hml0 hP _
    obtain ⟨rfl, hx, hbd, hgv⟩ := hP
    obtain ⟨scr, harrAt, hlist, hof, hsmall⟩ := hx
    obtain ⟨hcb, hkn, -, -⟩ := State.arrayAt?_spec harrAt
    have hown : s.vm.findClass R_law = some m.cls := findClass_of_methodNamed B.named
    have hts0 : ∀ c ∈ (Jvm.Cond.code x code maxLocals ret :: tables_1), c.before #[Value.ref b] s = true := atoms_spec (ws := Jvm.Cond.code x code maxLocals ret :: tables_1) B.pre
    have hts : ∀ w ∈ lw_tbl, w.before #[Value.ref b] s = true := k2_hts_sels lw_privs (fun w hw => hts0 w (List.mem_cons_of_mem _ hw)) lw_privs_ok
    have hml : c.maxLocals = 9 := B.maxLocals_eq (hts0 _ List.mem_cons_self)
    have X₀ : Stand p l e room_1 s m #[Value.ref b] below meth c s₁ [] 0 0 := Stand.of_body B
    have hh0 : s₁.heap = s.heap := by rw [B.state]; rfl
    have hsz : scr.slots.size = xs.length := by rw [← Array.length_toList, hlist, List.length_map]
    have hval : ∀ j : Nat, j < xs.length → scr.slots[j]? = some (.int (xs.getD j 0)) := fun j hj => by
      rw [← Array.getElem?_toList, hlist]
      simp [hj]
    have hbl : b < s.heap.size := (Array.getElem?_eq_some_iff.mp hcb).1
    have hX : va_X b xs.length (fun j => xs.getD j 0) s s.heap := ⟨scr, hcb, hof, hkn, hsz, hval⟩
    have K : W p l e room_1 s m #[Value.ref b] below meth c s₁.heap [] 0 0 (lw_Z below #[Value.ref b] s) (entryFrame m ([Value.ref b] : List Value).toArray 9) := by
      rw [hh0]
      exact whole_start l hflags hbd ⟨B.exec, B.bytes, B.returns, hml, hown, hts, hX, hbl, B.notSynchronized, hgv⟩
    obtain ⟨t, a1, o, b1, b2, b3⟩ := K s₁ rfl X₀
    exact ⟨t, o, a1, b1, b2, b3⟩
theorem lw_pre_spec {args : Array Value} {s : State} (h : (Jvm.Cond.and given_1 narrow_1).before args s = true) (hr : rest_1_c.before args s = true) : ∃ (b : Addr) (xs : List Int32), lw_P b xs args s := by
  have hs := flat_of_before _ h
  have hq := flat_of_before _ hr
  have hc : (Cond.count 1).before args s = true := hs _ (by decide +kernel)
  have harr : (Cond.arrayOf (.arg 0) .int).before args s = true := hs _ (by decide +kernel)
  have hle : (Cond.le (.length (.arg 0)) (.int 260)).before args s = true := hs _ (by decide +kernel)
  have hlen : (Cond.isInt (.length (.arg 0))).before args s = true := hq _ (by decide +kernel)
  have hall : (Cond.all (.arg 0) (.isInt (.elem (.arg 0) (.index 0)))).before args s = true := hq _ (by decide +kernel)
  obtain ⟨b, xs, hb, hx⟩ := State.ints_of_pre rfl harr hlen hall
  have hsm : xs.length < 2 ^ 31 := hx.choose_spec.2.2.2
  have hev : (Term.length (.arg 0)).eval args s none [] s = some (.int xs.length.toInt32) := hx.length_eval hb
  have hv := Cond.le_ints hev (show (Term.int 260).eval args s none [] s = some (.int 260) from rfl)
  have hd : xs.length.toInt32 ≤ 260 := by
    simpa [Cond.before, Cond.holds, hv] using hle
  have hN : xs.length ≤ 260 := (Int32.ofNat_le_ofNat hsm (by decide)).mp (show Int32.ofNat xs.length ≤ Int32.ofNat 260 from hd)
  exact ⟨b, xs, Cond.one_arg hc (show args[0]? = some (.ref b) from hb), hx, hN, h⟩
theorem lw_comes (l : Launch) (hflags : l.flags = flags0) : Comes l x (Jvm.Cond.code x code maxLocals ret :: tables_1) room_1 (fun tb e args s => Calls_1 tb e args s ∧ rest_1 tb e args s ∧ Pre_1 tb e args s)
    (fun _ _ args s o t => lw_Q args s o t) := by
  intro p e ha hc hk s m args below hf hfit hheap happ hpre
  obtain ⟨b, xs, hP⟩ := lw_pre_spec hpre.2.2 hpre.2.1
  obtain ⟨k, o, h1, h2, h3, hQ⟩ := lw_walk l hflags b xs p e ha hc hk s m args below hf ((Spec.applies_iff_loose hf).mp happ).1 hP trivial
  exact ⟨k, o, h1, h2, h3, hQ⟩
theorem lw_frame {s t : State} {o : Outcome} {args : Array Value} (h : Framed s o t [] 600130 7301080) :
    Framed s o t (fieldLocs frame_1_writes args s ++ arrayLocs frame_1_arrays args s ++ staticLocs frame_1_statics s) 600130 7301080 := h
theorem lw_limb (L : Cond) (hL : ∀ (args : Array Value) (s t : State), L.after args s (.returned (some (.int 1))) t = true) :
    ArmFor flags0 classFile x code maxLocals ret World_1 tables_1 room_1 Calls_1 rest_1 Pre_1
      (fun tb e a s o t => postC L tb e a s o t ∧ Framed s o t (fieldLocs frame_1_writes a s ++ arrayLocs frame_1_arrays a s ++ staticLocs frame_1_statics s) 600130 7301080) := by
  intro l hflags _ _ p e ha hc hk s m args below hf hfit hheap happ hpre
  obtain ⟨k, o, h1, h2, h3, rfl, hF⟩ := lw_comes l hflags p e ha hc hk s m args below hf hfit hheap happ hpre
  exact ⟨k, _, h1, h2, h3, hL args s _, lw_frame hF⟩
theorem i_vc : Claimed_1_1 ∧ Claimed_1_2 := ⟨lw_limb limb_1_1 (fun args s t => by simp [limb_1_1, Cond.after, Cond.holds, Cond.value]), lw_limb limb_1_2 (fun args s t => Cond.after_iff.mpr (by
  first | (rw [show limb_1_2 = Cond.eq .result (.int 1) from rfl, Cond.eq_ints (x := 1) (y := 1) rfl rfl]; simp; done) | (simp [limb_1_2, Cond.value, Term.eval]; done)))⟩
end
