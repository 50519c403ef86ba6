/-! THE CLAIM OUT OF ONE WALK OF THE LAW'S BODY. Your part is whole_start (and what it stands on); all else here is the same for every law, but numbers. -/
def R_law : String := "SmellHowLongLaw"
def lw_P (b : Addr) (xs : List Int32) (args : Array Value) (s : State) : Prop := args = #[.ref b] ∧ s.IntsAt b xs ∧ xs.length ≤ 2048 ∧ (Jvm.Cond.and given_1 narrow_1).before args s = true
def lw_Q (_ : Array Value) (s : State) (o : Outcome) (t : State) : Prop := o = .returned (some (.int 1)) ∧ Framed s o t [] 600000 7302250
def lw_Z (below : List Frame) (a : Array Value) (s : State) : State → Prop := fun t => ∃ o, t.status = .running ∧ Ended t below o ∧ lw_Q a s o t
/-- the law's own end, with 1 on the stack, nothing written that was there before, its room as the claim has it -/
theorem lw_ret {p : Program} {l : Launch} {e : Env} {s : State} {m : MethodId} {below : List Frame} {meth : Method} {c : Code} {b : Nat} (hx : p.tables.exec = Jvm.exec) (hb : c.code = code) (hr : meth.sig.returnType = ret) (hlocks : meth.locks = false) {pc : Nat} {H : Heap} {ls : Array Slot} (hdg : decode code pc = .ok (.ireturn, 1)) : W p l e room_1 s m #[Value.ref b] below meth c H [] 600000 7302250 (lw_Z below #[Value.ref b] s) (F0 m pc ls [.int 1]) := by
  intro T hT X
  obtain ⟨fs, hret, hrun, hended, hW, hframe⟩ := X.leave (v := some (.int 1)) (hlocks := hlocks) (fun h => by rw [hr] at h; cases h)
  have hmeth' : T.vm.method? m = some meth := X.method'
  refine ⟨T.setFrames fs, ?_, .returned (some (.int 1)), hrun, hended, rfl, ⟨_, rfl⟩, hW, hframe⟩
  jvm_step X.here [X.here.top, hx, hb, hdg, hmeth', hr, ret, narrow_b1]
  (try refine ⟨rfl, ?_⟩); (try refine ⟨rfl, ?_⟩)
  first | (intro acts; rw [hret _ acts rfl rfl rfl]) | rw [hret _ _ rfl rfl rfl]
  exact Steps.refl _
/-- what holds at the law's entry: the machine, the code, the tables' words (any of lw_tbl by 'hts w (by decide +kernel)'), the script of L ints xs at the cell b, what the Statement gives of the start (any of its parts by flat_of_before) -/
def lw_At (p : Program) (s : State) (m : MethodId) (meth : Method) (c : Code) (b L : Nat) (xs : Nat → Int32) : Prop :=
  p.tables.exec = Jvm.exec ∧ c.code = code ∧ meth.sig.returnType = ret ∧ c.maxLocals = 4 ∧ s.vm.findClass R_law = some m.cls ∧ (∀ w ∈ lw_tbl, w.before #[Value.ref b] s = true) ∧ va_X b L xs s s.heap ∧ b < s.heap.size ∧ meth.locks = false ∧ (Jvm.Cond.and given_1 narrow_1).before #[Value.ref b] s = true
/-! ===== the rows of the law's own body: its script stands outside the worlds ===== -/
/-- what the law's end asks -/
def EL (C : Cx) (L : Nat) (xs : Nat → Int32) : State → Array Value → List Frame → Method → (State → Prop) → Prop := fun s args below meth Q =>
  args = #[.ref (kGl C).2.2.2.2.2.2] ∧ Q = lw_Z below args s ∧ meth.sig.returnType = ret ∧ va_X (kGl C).2.2.2.2.2.2 L xs s s.heap ∧ (kGl C).2.2.2.2.2.2 < s.heap.size ∧ kA C = fun q => s.heap.size ≤ q
section GW
variable {C : Cx} {L : Nat} {xs : Nat → Int32} {cs ss pc : Nat} {ls st : List AV} {M : AM}
theorem g_slen (hC : Ok C cL_law RL 4 room_1 (EL C L xs)) (hd : decode cL_law pc = .ok (.arraylength, 1)) (k : G C cs ss (pc + 1) ls (aI (nI L) :: st) M) : G C cs ss pc ls (aK 3 :: st) M := by
  obtain ⟨p, l, e, s, m, args, below, meth, c, Q, hx, hb, hml, hown, hts, hV, hKS, hH, hA, hN, hw, hlk, ha, hQ, hr, hX, hbl, hkA⟩ := hC
  intro P H locs la h1 h2 h3 h4 h5
  have k := k P H locs la h1 h2 h3 h4 h5
  rw [hw] at k ⊢
  have hbA : ¬ kA C (kGl C).2.2.2.2.2.2 := by rw [hkA]; exact Nat.not_le.mpr hbl
  rw [hH] at hX hbl
  exact va_slen hx hb hX hbl hbA h4 hd k
theorem g_sld (hC : Ok C cL_law RL 4 room_1 (EL C L xs)) {n : Nat} (hn : n < L) (hL : L ≤ 2048) (hd : decode cL_law pc = .ok (.iaload, 1)) (k : G C cs ss (pc + 1) ls (aI (xs n) :: st) M) : G C cs ss pc ls (aI (nI n) :: aK 3 :: st) M := by
  obtain ⟨p, l, e, s, m, args, below, meth, c, Q, hx, hb, hml, hown, hts, hV, hKS, hH, hA, hN, hw, hlk, ha, hQ, hr, hX, hbl, hkA⟩ := hC
  intro P H locs la h1 h2 h3 h4 h5
  have k := k P H locs la h1 h2 h3 h4 h5
  rw [hw] at k ⊢
  have hbA : ¬ kA C (kGl C).2.2.2.2.2.2 := by rw [hkA]; exact Nat.not_le.mpr hbl
  rw [hH] at hX hbl
  refine va_sld hx hb hX hbl hbA h4 (vp_in_nI hn (by omega)) hd ?_
  rw [nI_clamp (by omega)]
  exact k
theorem g_lawret (hC : Ok C cL_law RL 4 room_1 (EL C L xs)) (hc : cs ≤ 600000) (hs : ss ≤ 7302250) (hd : decode cL_law pc = .ok (.ireturn, 1)) : G C cs ss pc ls [aI 1] M := by
  refine g_widen hC hc hs ?_
  obtain ⟨p, l, e, s, m, args, below, meth, c, Q, hx, hb, hml, hown, hts, hV, hKS, hH, hA, hN, hw, hlk, rfl, rfl, hr, hX, hbl, hkA⟩ := hC
  intro P H locs la h1 h2 h3 h4 h5
  rw [hw]
  refine va_forget (fun q hq => by have := h4.2.2 q hq; rw [hkA] at this; exact this) ?_
  exact lw_ret hx hb hr hlk hd
abbrev lwL (i : Nat) : List AV := [aK 3, aR 0 0 0, aR 8 0 0, aI (nI i)]
/-- one argument out of the script -/
theorem lw_arg (hC : Ok C cL_law RL 4 room_1 (EL C L xs)) {i j : Nat} {n : Int} (hL : L ≤ 2048) (hij : i + j < L) (hn : Int32.ofInt n = nI j) (d0 : decode cL_law pc = .ok (.aload_n 0, 1)) (d1 : decode cL_law (pc + 1) = .ok (.iload_n 3, 1)) (d2 : decode cL_law (pc + 2) = .ok (.iconst n, 1)) (d3 : decode cL_law (pc + 3) = .ok (.iadd, 1)) (d4 : decode cL_law (pc + 4) = .ok (.iaload, 1)) (k : G C cs ss (pc + 5) (lwL i) (aI (xs (i + j)) :: st) M) : G C cs ss pc (lwL i) st M := by
  refine g_aload_n hC d0 rfl rfl ?_
  refine g_iload_n hC d1 rfl ?_
  refine g_iconst hC d2 hn ?_
  refine g_iaddN hC d3 ?_
  exact g_sld hC hij hL d4 k
end GW
