/-! ===== arraycopy from place 0 to place 0, Math.min, Math.max, Object.<init> ===== -/
def cpy (f g : Nat → Int32) (n : Nat) : Nat → Int32 := fun j => if j < n then f j else g j
theorem va_cpy0 (f g : Nat → Int32) (n : Nat) : va_cpy f g 0 0 n = cpy f g n := by
  funext k
  unfold va_cpy cpy
  simp
section NW
variable {p : Program} {l : Launch} {e : Env} {R : Room} {s : State} {m : MethodId} {args : Array Value} {below : List Frame} {meth : Method} {c : Code} {H : Heap} {locs : List Loc} {cells slots : Nat} {Q : State → Prop}
theorem w_copy {cc : ByteArray} (hexec : p.tables.exec = Jvm.exec) (hb : c.code = cc) {pc : Nat} {ls : Array Slot} {rest : List Value} (hml : c.maxLocals = ls.size) {own : String} {index : Nat} (hown : s.vm.findClass own = some m.cls) (hlink : (Cond.methodLink own index arraycopyName).before args s = true) (hnat : (Cond.native arraycopyName).before args s = true) (hstat : (Cond.static arraycopyName).before args s = true) (hini : (Cond.initialized "java/lang/System").before args s = true)
    {a0 a n0 n1 n : Nat} {cI : ClassId} {f g : Nat → Int32} (hAr : ArrOfT s cI .int) (hc0 : H[a0]? = some (arrV cI n0 (fun j => .int (f j)))) (hc1 : H[a]? = some (arrV cI n1 (fun j => .int (g j)))) (h4 : n ≤ n0) (h5 : n ≤ n1) (hn : n < 2 ^ 31) {sp dp : Int32} (hsp : sp = 0) (hdp : dp = 0)
    (hframes : 1 ≤ R.frames) (hlocals : (rest.map fun v => v.category).sum + (nativeFrameWords "java/lang/System" "arraycopy" 5 + 11) ≤ R.locals) (hdg : decode cc pc = .ok (.invokestatic index, 3)) {A : Nat → Prop} {H0 : Heap} (hAa : A a) (hS : va_S A H0 H locs)
    (kk : ∀ (H1 : Heap) (locs1 : List Loc), H1[a]? = some (arrV cI n1 (fun j => .int (cpy f g n j))) → (∀ q : Nat, q ≠ a → H1[q]? = H[q]?) → va_S A H0 H1 locs1 → W p l e R s m args below meth c H1 locs1 cells slots Q (F0 m (pc + 3) ls rest)) : W p l e R s m args below meth c H locs cells slots Q (F0 m pc ls (.int (nI n) :: .int dp :: .ref a :: .int sp :: .ref a0 :: rest)) := by
  subst hsp
  subst hdp
  have z0 : (0 : Int32).toNatClampNeg = 0 := by decide
  have z1 : (0 : Int32).toInt = 0 := by decide
  have zn : (nI n).toNatClampNeg = n := nI_clamp hn
  have zi : (nI n).toInt = (n : Int) := nI_toInt hn
  intro T hT X
  obtain ⟨-, k0, hk0, cm0, hkk0⟩ := hAr n0 (fun j => .int (f j))
  obtain ⟨-, k1, hk1, cm1, hkk1⟩ := hAr n1 (fun j => .int (g j))
  obtain ⟨vm', X', step⟩ := X.arraycopy hexec hown hlink hnat hstat hini (src := a0) (dst := a) (cs := arrV cI n0 (fun j => .int (f j))) (cd := arrV cI n1 (fun j => .int (g j))) (srcPos := 0) (destPos := 0) (n := nI n) (by rw [hT]; exact hc0) (by rw [hT]; exact hc1)
    (fun _ h => by cases h) (fun _ h => by cases h) (fun h => by cases h) (fun h => by cases h) hk0 hk1 hkk0 hkk1 rfl (by decide) (by decide) (nI_pos hn)
    (by rw [z1, zi, arrV_size]; omega)
    (by rw [z1, zi, arrV_size]; omega)
    (fun vm₁ _ i hi => by
      rw [zn] at hi
      have e : (arrV cI n0 (fun j => .int (f j))).slots.getD ((0 : Int32).toNatClampNeg + i) .null = .int (f i) := by
        rw [z0, Nat.zero_add, Array.getD_eq_getD_getElem?, arrV_read _ _ (by omega)]
        rfl
      refine ⟨?_, ?_⟩
      · rw [e]
        rfl
      · rw [e]
        exact trivial)
    (g := F0 m pc ls (.int (nI n) :: .int 0 :: .ref a :: .int 0 :: .ref a0 :: rest)) rfl (by rw [hml]) (rest := rest) rfl (by rw [hb]; exact hdg) hframes (by show 2 * 0 + _ + _ ≤ _; omega)
  have e1 : copied (arrV cI n0 (fun j => .int (f j))) (arrV cI n1 (fun j => .int (g j))) 0 0 (nI n) = arrV cI n1 (fun j => .int (cpy f g n j)) := by
    have e0 := va_copied (fun z : Int32 => Value.int z) cI cI f g (n0 := n0) (n1 := n1) (sp := 0) (dp := 0) (n := n) (by omega)
    rw [va_cpy0] at e0
    show (arrV cI n1 (fun j => .int (g j))).storeRun (0 : Int32).toNatClampNeg ((arrV cI n0 (fun j => .int (f j))).stretch (0 : Int32).toNatClampNeg (nI n).toNatClampNeg) = _
    rw [z0, zn]
    exact e0
  rw [e1] at X' step
  have hl : a < H.size := (Array.getElem?_eq_some_iff.mp hc1).1
  have hheap : ((T.setVm vm').setCell a (arrV cI n1 (fun j => .int (cpy f g n j)))).heap = H.setIfInBounds a (arrV cI n1 (fun j => .int (cpy f g n j))) := by rw [← hT]; rfl
  have oq : ∀ q : Nat, q ≠ a → (H.setIfInBounds a (arrV cI n1 (fun j => .int (cpy f g n j))))[q]? = H[q]? := fun q hq => by simp [Array.getElem?_setIfInBounds, Ne.symm hq]
  obtain ⟨t, a1, b1⟩ := kk _ _ (show (H.setIfInBounds a _)[a]? = some _ by simp [Array.getElem?_setIfInBounds, hl]) oq ⟨by simp; exact hS.1, fun q g1 g2 => by
      rw [oq q (fun e => g2 (by rw [e]; exact hAa))]
      exact hS.2.1 q g1 g2, fun q hq => by
      rcases List.mem_append.mp hq with h | h
      · exact hS.2.2 q h
      · obtain ⟨z, -, hz⟩ := List.mem_map.mp h
        rw [← hz]
        exact hAa⟩ _ hheap X'
  exact ⟨t, step t a1, b1⟩
end NW
section GN
variable {C : Cx} {cc : ByteArray} {own : String} {nL : Nat} {R : Room} {E : State → Array Value → List Frame → Method → (State → Prop) → Prop} {cs ss pc : Nat} {ls st : List AV} {M : AM}
theorem g_copy (hC : Ok C cc own nL R E) {index g k n0 g1 k1 n1 n : Nat} {f f1 : Nat → Int32} {sp dp i : Int32} (hd : decode cc pc = .ok (.invokestatic index, 3)) (w1 : Cond.methodLink own index arraycopyName ∈ tbG) (w2 : Cond.native arraycopyName ∈ tbG) (w3 : Cond.static arraycopyName ∈ tbG) (w4 : Cond.initialized "java/lang/System" ∈ tbG)
    (hM : getM M g k = some (cA n0 f)) (hM1 : getM M g1 k1 = some (cA n1 f1)) (hi : i = nI n) (hsp : sp = 0) (hdp : dp = 0) (hl0 : n ≤ n0) (hl1 : n ≤ n1) (hn : n < 2 ^ 31) (hfr : 1 ≤ R.frames) (hlo : catS st + (nativeFrameWords "java/lang/System" "arraycopy" 5 + 11) ≤ R.locals)
    (kk : G C cs ss (pc + 3) ls st (setM M g1 k1 (cA n1 (cpy f f1 n)))) : G C cs ss pc ls (aI i :: aI dp :: aR g1 k1 0 :: aI sp :: aR g k 0 :: st) M := by
  obtain ⟨p, l, e, s, m, args, below, meth, c, Q, hx, hb, hml, hown, hts, hV, hKS, hH, hA, hN, hw, hlk, hE⟩ := hC
  intro P H locs la h1 h2 h3 h4 h5
  rw [hw]
  subst hi
  refine w_copy hx hb (by rw [hml, ← hN]; exact h5.1.symm) hown (hts _ w1) (hts _ w2) (hts _ w3) (hts _ w4) (hV.1.2 0 _ rfl).1 (h2.1 g k _ hM) (h2.1 g1 k1 _ hM1) hl0 hl1 hn hsp hdp hfr (by rw [catS_eq]; exact hlo) hd (h3 g1 k1 0 ⟨_, hM1, Nat.zero_le _⟩) h4 fun H1 locs1 e1 oq hS => ?_
  have kq := kk P H1 locs1 la (h1.set hM1) (h2.set hM1 rfl (Nat.le_refl _) e1 oq) (h3.set hM1 rfl) hS h5
  rw [hw] at kq
  exact kq
def updR (f : Nat → Nat → Int32) (r : Nat) (x : Nat → Int32) : Nat → Nat → Int32 := fun a => if a = r then x else f a
theorem g_copy2 (hC : Ok C cc own nL R E) {index g k r0 rr n0 g1 k1 r1 rr1 n1 n : Nat} {f f1 : Nat → Nat → Int32} {sp dp i : Int32} (hd : decode cc pc = .ok (.invokestatic index, 3)) (w1 : Cond.methodLink own index arraycopyName ∈ tbG) (w2 : Cond.native arraycopyName ∈ tbG) (w3 : Cond.static arraycopyName ∈ tbG) (w4 : Cond.initialized "java/lang/System" ∈ tbG)
    (hM : getM M g k = some (cG r0 n0 f)) (hr : rr < r0) (hM1 : getM M g1 k1 = some (cG r1 n1 f1)) (hr1 : rr1 < r1) (hi : i = nI n) (hsp : sp = 0) (hdp : dp = 0) (hl0 : n ≤ n0) (hl1 : n ≤ n1) (hn : n < 2 ^ 31) (hfr : 1 ≤ R.frames) (hlo : catS st + (nativeFrameWords "java/lang/System" "arraycopy" 5 + 11) ≤ R.locals)
    (kk : G C cs ss (pc + 3) ls st (setM M g1 k1 (cG r1 n1 (updR f1 rr1 (cpy (f rr) (f1 rr1) n))))) : G C cs ss pc ls (aI i :: aI dp :: aR g1 k1 (rr1 + 1) :: aI sp :: aR g k (rr + 1) :: st) M := by
  obtain ⟨p, l, e, s, m, args, below, meth, c, Q, hx, hb, hml, hown, hts, hV, hKS, hH, hA, hN, hw, hlk, hE⟩ := hC
  intro P H locs la h1 h2 h3 h4 h5
  rw [hw]
  subst hi
  have hc1 := h2.1 g1 k1 _ hM1
  have hv : ∀ w', w' ≤ r1 → vld M g1 k1 w' := fun w' h => ⟨_, hM1, h⟩
  refine w_copy hx hb (by rw [hml, ← hN]; exact h5.1.symm) hown (hts _ w1) (hts _ w2) (hts _ w3) (hts _ w4) (hV.1.2 0 _ rfl).1 ((h2.1 g k _ hM).2 rr hr) (hc1.2 rr1 hr1) hl0 hl1 hn hsp hdp hfr (by rw [catS_eq]; exact hlo) hd (h3 g1 k1 (rr1 + 1) (hv _ hr1)) h4 fun H1 locs1 e1 oq hS => ?_
  have hc : cellAt (kGl C) P g1 k1 H1 (cG r1 n1 (updR f1 rr1 (cpy (f rr) (f1 rr1) n))) := by
    refine ⟨?_, fun a ha => ?_⟩
    · rw [oq _ (fun q => by have := (h2.2 _ _ _ _ _ _ (hv 0 (Nat.zero_le _)) (hv (rr1 + 1) hr1) q).2.2; omega)]
      exact hc1.1
    · show H1[P g1 k1 (a + 1)]? = some (arrV (kGl C).2.1 n1 fun j => Value.int (updR f1 rr1 (cpy (f rr) (f1 rr1) n) a j))
      by_cases he : a = rr1
      · subst he
        rw [e1]
        simp only [updR, if_true]
      · rw [oq _ (fun q => by have := (h2.2 _ _ _ _ _ _ (hv (a + 1) ha) (hv (rr1 + 1) hr1) q).2.2; omega), hc1.2 a ha]
        simp only [updR, if_neg he]
  have kq := kk P H1 locs1 la (h1.set hM1) (h2.set hM1 rfl (show rr1 + 1 ≤ r1 from hr1) hc oq) (h3.set hM1 rfl) hS h5
  rw [hw] at kq
  exact kq
theorem g_min (hC : Ok C cc own nL R E) {index : Nat} {x y v : Int32} (hd : decode cc pc = .ok (.invokestatic index, 3)) (w1 : Cond.methodLink own index Lib.Math.min.name ∈ tbG) (w2 : Cond.static Lib.Math.min.name ∈ tbG) (w3 : Cond.initialized "java/lang/Math" ∈ tbG) (w4 : Cond.code Lib.Math.min.name Lib.Math.min.code 2 (some .int) ∈ tbG) (hfr : 1 ≤ R.frames) (hlo : catS st + 13 ≤ R.locals) (hcs : cs ≤ R.cells) (hss : ss ≤ R.slots) (hv : (if y < x then y else x) = v) (kk : G C cs ss (pc + 3) ls (aI v :: st) M) : G C cs ss pc ls (aI y :: aI x :: st) M := by
  obtain ⟨p, l, e, s, m, args, below, meth, c, Q, hx, hb, hml, hown, hts, hV, hKS, hH, hA, hN, hw, hlk, hE⟩ := hC
  intro P H locs la h1 h2 h3 h4 h5
  have kq := kk P H locs la h1 h2 h3 h4 h5
  rw [hw] at kq ⊢
  exact va_mmin hx hb (by rw [hml, ← hN]; exact h5.1.symm) hown (hts _ w1) (hts _ w2) (hts _ w3) (hts _ w4) hfr (by rw [catS_eq]; exact hlo) hcs hss hd (by rw [hv]; exact kq)
theorem g_max (hC : Ok C cc own nL R E) {index : Nat} {x y v : Int32} (hd : decode cc pc = .ok (.invokestatic index, 3)) (w1 : Cond.methodLink own index Lib.Math.max.name ∈ tbG) (w2 : Cond.static Lib.Math.max.name ∈ tbG) (w3 : Cond.initialized "java/lang/Math" ∈ tbG) (w4 : Cond.code Lib.Math.max.name Lib.Math.max.code 2 (some .int) ∈ tbG) (hfr : 1 ≤ R.frames) (hlo : catS st + 13 ≤ R.locals) (hcs : cs ≤ R.cells) (hss : ss ≤ R.slots) (hv : (if x < y then y else x) = v) (kk : G C cs ss (pc + 3) ls (aI v :: st) M) : G C cs ss pc ls (aI y :: aI x :: st) M := by
  obtain ⟨p, l, e, s, m, args, below, meth, c, Q, hx, hb, hml, hown, hts, hV, hKS, hH, hA, hN, hw, hlk, hE⟩ := hC
  intro P H locs la h1 h2 h3 h4 h5
  have kq := kk P H locs la h1 h2 h3 h4 h5
  rw [hw] at kq ⊢
  exact va_mmax hx hb (by rw [hml, ← hN]; exact h5.1.symm) hown (hts _ w1) (hts _ w2) (hts _ w3) (hts _ w4) hfr (by rw [catS_eq]; exact hlo) hcs hss hd (by rw [hv]; exact kq)
theorem g_objInit (hC : Ok C cc own nL R E) {index g0 k0 : Nat} (hd : decode cc pc = .ok (.invokespecial index, 3)) (w1 : Cond.methodLink own index Lib.objectInit ∈ tbG) (w2 : Cond.instanceMethod Lib.objectInit ∈ tbG) (w3 : Cond.code Lib.objectInit ⟨#[0xb1]⟩ 1 none ∈ tbG) (hfr : 1 ≤ R.frames) (hlo : catS st + 12 ≤ R.locals) (kk : G C cs ss (pc + 3) ls st M) : G C cs ss pc ls (aR g0 k0 0 :: st) M := by
  obtain ⟨p, l, e, s, m, args, below, meth, c, Q, hx, hb, hml, hown, hts, hV, hKS, hH, hA, hN, hw, hlk, hE⟩ := hC
  intro P H locs la h1 h2 h3 h4 h5
  have kq := kk P H locs la h1 h2 h3 h4 h5
  rw [hw] at kq ⊢
  exact W.objInit hx hb hown (hts _ w1) (hts _ w2) (hts _ w3) rfl (by show la.size = _; rw [hml, ← hN]; exact h5.1) rfl hd hfr (by show 2 * 0 + _ + 12 ≤ _; rw [catS_eq]; omega) kq
end GN
