section GI
variable {C : Cx} {cc : ByteArray} {own : String} {nL : Nat} {R : Room} {E : State → Array Value → List Frame → Method → (State → Prop) → Prop} {cs ss pc : Nat} {ls st : List AV} {M : AM}
theorem g_iadd (hC : Ok C cc own nL R E) {x y v : Int32} (hd : decode cc pc = .ok (.iadd, 1)) (hv : x + y = v) (k : G C cs ss (pc + 1) ls (aI v :: st) M) : G C cs ss pc ls (aI y :: aI x :: st) M := by
  obtain ⟨p, l, e, s, m, args, below, meth, c, Q, hx, hb, hml, hown, hts, hV, hKS, hH, hA, hN, hw, hlk, hE⟩ := hC
  intro P H locs la h1 h2 h3 h4 h5
  have k := k P H locs la h1 h2 h3 h4 h5
  rw [hw] at k ⊢
  exact lv_iadd hx hb hd (by rw [hv]; exact k)
theorem g_isub (hC : Ok C cc own nL R E) {x y v : Int32} (hd : decode cc pc = .ok (.isub, 1)) (hv : x - y = v) (k : G C cs ss (pc + 1) ls (aI v :: st) M) : G C cs ss pc ls (aI y :: aI x :: st) M := by
  obtain ⟨p, l, e, s, m, args, below, meth, c, Q, hx, hb, hml, hown, hts, hV, hKS, hH, hA, hN, hw, hlk, hE⟩ := hC
  intro P H locs la h1 h2 h3 h4 h5
  have k := k P H locs la h1 h2 h3 h4 h5
  rw [hw] at k ⊢
  exact lv_isub hx hb hd (by rw [hv]; exact k)
theorem g_imul (hC : Ok C cc own nL R E) {x y v : Int32} (hd : decode cc pc = .ok (.imul, 1)) (hv : x * y = v) (k : G C cs ss (pc + 1) ls (aI v :: st) M) : G C cs ss pc ls (aI y :: aI x :: st) M := by
  obtain ⟨p, l, e, s, m, args, below, meth, c, Q, hx, hb, hml, hown, hts, hV, hKS, hH, hA, hN, hw, hlk, hE⟩ := hC
  intro P H locs la h1 h2 h3 h4 h5
  have k := k P H locs la h1 h2 h3 h4 h5
  rw [hw] at k ⊢
  exact lv_imul hx hb hd (by rw [hv]; exact k)
theorem g_iand (hC : Ok C cc own nL R E) {x y v : Int32} (hd : decode cc pc = .ok (.iand, 1)) (hv : x &&& y = v) (k : G C cs ss (pc + 1) ls (aI v :: st) M) : G C cs ss pc ls (aI y :: aI x :: st) M := by
  obtain ⟨p, l, e, s, m, args, below, meth, c, Q, hx, hb, hml, hown, hts, hV, hKS, hH, hA, hN, hw, hlk, hE⟩ := hC
  intro P H locs la h1 h2 h3 h4 h5
  have k := k P H locs la h1 h2 h3 h4 h5
  rw [hw] at k ⊢
  exact lv_iand hx hb hd (by rw [hv]; exact k)
theorem g_ior (hC : Ok C cc own nL R E) {x y v : Int32} (hd : decode cc pc = .ok (.ior, 1)) (hv : x ||| y = v) (k : G C cs ss (pc + 1) ls (aI v :: st) M) : G C cs ss pc ls (aI y :: aI x :: st) M := by
  obtain ⟨p, l, e, s, m, args, below, meth, c, Q, hx, hb, hml, hown, hts, hV, hKS, hH, hA, hN, hw, hlk, hE⟩ := hC
  intro P H locs la h1 h2 h3 h4 h5
  have k := k P H locs la h1 h2 h3 h4 h5
  rw [hw] at k ⊢
  exact lv_ior hx hb hd (by rw [hv]; exact k)
theorem g_ixor (hC : Ok C cc own nL R E) {x y v : Int32} (hd : decode cc pc = .ok (.ixor, 1)) (hv : x ^^^ y = v) (k : G C cs ss (pc + 1) ls (aI v :: st) M) : G C cs ss pc ls (aI y :: aI x :: st) M := by
  obtain ⟨p, l, e, s, m, args, below, meth, c, Q, hx, hb, hml, hown, hts, hV, hKS, hH, hA, hN, hw, hlk, hE⟩ := hC
  intro P H locs la h1 h2 h3 h4 h5
  have k := k P H locs la h1 h2 h3 h4 h5
  rw [hw] at k ⊢
  exact lv_ixor hx hb hd (by rw [hv]; exact k)
theorem g_ladd (hC : Ok C cc own nL R E) {x y v : Int64} (hd : decode cc pc = .ok (.ladd, 1)) (hv : x + y = v) (k : G C cs ss (pc + 1) ls (aL v :: st) M) : G C cs ss pc ls (aL y :: aL x :: st) M := by
  obtain ⟨p, l, e, s, m, args, below, meth, c, Q, hx, hb, hml, hown, hts, hV, hKS, hH, hA, hN, hw, hlk, hE⟩ := hC
  intro P H locs la h1 h2 h3 h4 h5
  have k := k P H locs la h1 h2 h3 h4 h5
  rw [hw] at k ⊢
  exact lv_ladd hx hb hd (by rw [hv]; exact k)
theorem g_lmul (hC : Ok C cc own nL R E) {x y v : Int64} (hd : decode cc pc = .ok (.lmul, 1)) (hv : x * y = v) (k : G C cs ss (pc + 1) ls (aL v :: st) M) : G C cs ss pc ls (aL y :: aL x :: st) M := by
  obtain ⟨p, l, e, s, m, args, below, meth, c, Q, hx, hb, hml, hown, hts, hV, hKS, hH, hA, hN, hw, hlk, hE⟩ := hC
  intro P H locs la h1 h2 h3 h4 h5
  have k := k P H locs la h1 h2 h3 h4 h5
  rw [hw] at k ⊢
  exact lv_lmul hx hb hd (by rw [hv]; exact k)
theorem g_idiv (hC : Ok C cc own nL R E) {x y v : Int32} (hd : decode cc pc = .ok (.idiv, 1)) (hne : ¬ y = 0) (hv : x / y = v) (k : G C cs ss (pc + 1) ls (aI v :: st) M) : G C cs ss pc ls (aI y :: aI x :: st) M := by
  obtain ⟨p, l, e, s, m, args, below, meth, c, Q, hx, hb, hml, hown, hts, hV, hKS, hH, hA, hN, hw, hlk, hE⟩ := hC
  intro P H locs la h1 h2 h3 h4 h5
  have k := k P H locs la h1 h2 h3 h4 h5
  rw [hw] at k ⊢
  exact lv_idiv hx hb hd hne (by rw [hv]; exact k)
theorem g_irem (hC : Ok C cc own nL R E) {x y v : Int32} (hd : decode cc pc = .ok (.irem, 1)) (hne : ¬ y = 0) (hv : x - x / y * y = v) (k : G C cs ss (pc + 1) ls (aI v :: st) M) : G C cs ss pc ls (aI y :: aI x :: st) M := by
  obtain ⟨p, l, e, s, m, args, below, meth, c, Q, hx, hb, hml, hown, hts, hV, hKS, hH, hA, hN, hw, hlk, hE⟩ := hC
  intro P H locs la h1 h2 h3 h4 h5
  have k := k P H locs la h1 h2 h3 h4 h5
  rw [hw] at k ⊢
  exact lv_irem hx hb hd hne (by rw [hv]; exact k)
theorem g_ineg (hC : Ok C cc own nL R E) {x v : Int32} (hd : decode cc pc = .ok (.ineg, 1)) (hv : -x = v) (k : G C cs ss (pc + 1) ls (aI v :: st) M) : G C cs ss pc ls (aI x :: st) M := by
  obtain ⟨p, l, e, s, m, args, below, meth, c, Q, hx, hb, hml, hown, hts, hV, hKS, hH, hA, hN, hw, hlk, hE⟩ := hC
  intro P H locs la h1 h2 h3 h4 h5
  have k := k P H locs la h1 h2 h3 h4 h5
  rw [hw] at k ⊢
  exact lv_ineg hx hb hd (by rw [hv]; exact k)
theorem g_ishl (hC : Ok C cc own nL R E) {x y v : Int32} (hd : decode cc pc = .ok (.ishl, 1)) (hv : x <<< (y &&& 31) = v) (k : G C cs ss (pc + 1) ls (aI v :: st) M) : G C cs ss pc ls (aI y :: aI x :: st) M := by
  obtain ⟨p, l, e, s, m, args, below, meth, c, Q, hx, hb, hml, hown, hts, hV, hKS, hH, hA, hN, hw, hlk, hE⟩ := hC
  intro P H locs la h1 h2 h3 h4 h5
  have k := k P H locs la h1 h2 h3 h4 h5
  rw [hw] at k ⊢
  exact lv_ishl hx hb hd (by rw [hv]; exact k)
theorem g_ishr (hC : Ok C cc own nL R E) {x y v : Int32} (hd : decode cc pc = .ok (.ishr, 1)) (hv : x >>> (y &&& 31) = v) (k : G C cs ss (pc + 1) ls (aI v :: st) M) : G C cs ss pc ls (aI y :: aI x :: st) M := by
  obtain ⟨p, l, e, s, m, args, below, meth, c, Q, hx, hb, hml, hown, hts, hV, hKS, hH, hA, hN, hw, hlk, hE⟩ := hC
  intro P H locs la h1 h2 h3 h4 h5
  have k := k P H locs la h1 h2 h3 h4 h5
  rw [hw] at k ⊢
  exact lv_ishr hx hb hd (by rw [hv]; exact k)
theorem g_iushr (hC : Ok C cc own nL R E) {x y v : Int32} (hd : decode cc pc = .ok (.iushr, 1)) (hv : (x.toUInt32 >>> (y.toUInt32 &&& Int32.toUInt32 31)).toInt32 = v) (k : G C cs ss (pc + 1) ls (aI v :: st) M) : G C cs ss pc ls (aI y :: aI x :: st) M := by
  obtain ⟨p, l, e, s, m, args, below, meth, c, Q, hx, hb, hml, hown, hts, hV, hKS, hH, hA, hN, hw, hlk, hE⟩ := hC
  intro P H locs la h1 h2 h3 h4 h5
  have k := k P H locs la h1 h2 h3 h4 h5
  rw [hw] at k ⊢
  exact lv_iushr hx hb hd hv k
theorem g_i2c (hC : Ok C cc own nL R E) {x v : Int32} (hd : decode cc pc = .ok (.i2c, 1)) (hv : (x.toUInt32 % 65536).toInt32 = v) (k : G C cs ss (pc + 1) ls (aI v :: st) M) : G C cs ss pc ls (aI x :: st) M := by
  obtain ⟨p, l, e, s, m, args, below, meth, c, Q, hx, hb, hml, hown, hts, hV, hKS, hH, hA, hN, hw, hlk, hE⟩ := hC
  intro P H locs la h1 h2 h3 h4 h5
  have k := k P H locs la h1 h2 h3 h4 h5
  rw [hw] at k ⊢
  exact lv_i2c hx hb hd hv k
theorem g_i2b (hC : Ok C cc own nL R E) {x v : Int32} (hd : decode cc pc = .ok (.i2b, 1)) (hv : x.toInt8.toInt32 = v) (k : G C cs ss (pc + 1) ls (aI v :: st) M) : G C cs ss pc ls (aI x :: st) M := by
  obtain ⟨p, l, e, s, m, args, below, meth, c, Q, hx, hb, hml, hown, hts, hV, hKS, hH, hA, hN, hw, hlk, hE⟩ := hC
  intro P H locs la h1 h2 h3 h4 h5
  have k := k P H locs la h1 h2 h3 h4 h5
  rw [hw] at k ⊢
  exact lv_i2b hx hb hd hv k
theorem g_l2i (hC : Ok C cc own nL R E) {x : Int64} {v : Int32} (hd : decode cc pc = .ok (.l2i, 1)) (hv : x.toInt32 = v) (k : G C cs ss (pc + 1) ls (aI v :: st) M) : G C cs ss pc ls (aL x :: st) M := by
  obtain ⟨p, l, e, s, m, args, below, meth, c, Q, hx, hb, hml, hown, hts, hV, hKS, hH, hA, hN, hw, hlk, hE⟩ := hC
  intro P H locs la h1 h2 h3 h4 h5
  have k := k P H locs la h1 h2 h3 h4 h5
  rw [hw] at k ⊢
  exact lv_l2i hx hb hd hv k
theorem g_lcmp (hC : Ok C cc own nL R E) {x y : Int64} {v : Int32} (hd : decode cc pc = .ok (.lcmp, 1)) (hv : lg_cmp x y = v) (k : G C cs ss (pc + 1) ls (aI v :: st) M) : G C cs ss pc ls (aL y :: aL x :: st) M := by
  obtain ⟨p, l, e, s, m, args, below, meth, c, Q, hx, hb, hml, hown, hts, hV, hKS, hH, hA, hN, hw, hlk, hE⟩ := hC
  intro P H locs la h1 h2 h3 h4 h5
  have k := k P H locs la h1 h2 h3 h4 h5
  rw [hw] at k ⊢
  exact W.lcmp hx hb hd (by rw [hv]; exact k)
theorem g_iconst (hC : Ok C cc own nL R E) {n : Int} {v : Int32} (hd : decode cc pc = .ok (.iconst n, 1)) (hv : Int32.ofInt n = v) (k : G C cs ss (pc + 1) ls (aI v :: st) M) : G C cs ss pc ls (st) M := by
  obtain ⟨p, l, e, s, m, args, below, meth, c, Q, hx, hb, hml, hown, hts, hV, hKS, hH, hA, hN, hw, hlk, hE⟩ := hC
  intro P H locs la h1 h2 h3 h4 h5
  have k := k P H locs la h1 h2 h3 h4 h5
  rw [hw] at k ⊢
  exact lv_iconst hx hb hd hv k
theorem g_bipush (hC : Ok C cc own nL R E) {n : Int} {v : Int32} (hd : decode cc pc = .ok (.bipush n, 2)) (hv : (Int8.ofInt n).toInt32 = v) (k : G C cs ss (pc + 2) ls (aI v :: st) M) : G C cs ss pc ls (st) M := by
  obtain ⟨p, l, e, s, m, args, below, meth, c, Q, hx, hb, hml, hown, hts, hV, hKS, hH, hA, hN, hw, hlk, hE⟩ := hC
  intro P H locs la h1 h2 h3 h4 h5
  have k := k P H locs la h1 h2 h3 h4 h5
  rw [hw] at k ⊢
  exact lv_bipush hx hb hd hv k
theorem g_sipush (hC : Ok C cc own nL R E) {n : Int} {v : Int32} (hd : decode cc pc = .ok (.sipush n, 3)) (hv : (Int16.ofInt n).toInt32 = v) (k : G C cs ss (pc + 3) ls (aI v :: st) M) : G C cs ss pc ls (st) M := by
  obtain ⟨p, l, e, s, m, args, below, meth, c, Q, hx, hb, hml, hown, hts, hV, hKS, hH, hA, hN, hw, hlk, hE⟩ := hC
  intro P H locs la h1 h2 h3 h4 h5
  have k := k P H locs la h1 h2 h3 h4 h5
  rw [hw] at k ⊢
  exact lv_sipush hx hb hd hv k
theorem g_lconst (hC : Ok C cc own nL R E) {n : Fin 2} {v : Int64} (hd : decode cc pc = .ok (.lconst n, 1)) (hv : Int64.ofNat (n : Nat) = v) (k : G C cs ss (pc + 1) ls (aL v :: st) M) : G C cs ss pc ls (st) M := by
  obtain ⟨p, l, e, s, m, args, below, meth, c, Q, hx, hb, hml, hown, hts, hV, hKS, hH, hA, hN, hw, hlk, hE⟩ := hC
  intro P H locs la h1 h2 h3 h4 h5
  have k := k P H locs la h1 h2 h3 h4 h5
  rw [hw] at k ⊢
  exact lv_lconst hx hb hd hv k
theorem g_ldc (hC : Ok C cc own nL R E) {n : Nat} {v : Int32} (hd : decode cc pc = .ok (.ldc n, 2)) (hl : Cond.constant own n v ∈ tbG) (k : G C cs ss (pc + 2) ls (aI v :: st) M) : G C cs ss pc ls (st) M := by
  obtain ⟨p, l, e, s, m, args, below, meth, c, Q, hx, hb, hml, hown, hts, hV, hKS, hH, hA, hN, hw, hlk, hE⟩ := hC
  intro P H locs la h1 h2 h3 h4 h5
  have k := k P H locs la h1 h2 h3 h4 h5
  rw [hw] at k ⊢
  exact lv_ldc hx hb hown (hts _ hl) hd k
theorem va_ldcwI' {p : Program} {l : Launch} {e : Env} {R : Room} {s : State} {m : MethodId} {args : Array Value} {below : List Frame} {meth : Method} {c : Code} {H : Heap} {locs : List Loc} {cells slots : Nat} {Q : State → Prop} {cc : ByteArray} {pc : Nat} {ls : Array Slot} {rest : List Value} (hexec : p.tables.exec = Jvm.exec) (hb : c.code = cc) {own : String} {index : Nat} {v : Int32} (hown : s.vm.findClass own = some m.cls) (hconst : (Jvm.Cond.constant own index v).before args s = true) (hdg : decode cc pc = .ok (.ldc_w index, 3)) (k : W p l e R s m args below meth c H locs cells slots Q (F0 m (pc + 3) ls (.int v :: rest))) : W p l e R s m args below meth c H locs cells slots Q (F0 m pc ls rest) := lv_ldcw hexec hb hown hconst hdg k
theorem g_ldcw (hC : Ok C cc own nL R E) {n : Nat} {v : Int32} (hd : decode cc pc = .ok (.ldc_w n, 3)) (hl : Cond.constant own n v ∈ tbG) (k : G C cs ss (pc + 3) ls (aI v :: st) M) : G C cs ss pc ls (st) M := by
  obtain ⟨p, l, e, s, m, args, below, meth, c, Q, hx, hb, hml, hown, hts, hV, hKS, hH, hA, hN, hw, hlk, hE⟩ := hC
  intro P H locs la h1 h2 h3 h4 h5
  have k := k P H locs la h1 h2 h3 h4 h5
  rw [hw] at k ⊢
  exact va_ldcwI' hx hb hown (hts _ hl) hd k
theorem g_dup (hC : Ok C cc own nL R E) {v : AV} (hd : decode cc pc = .ok (.dup, 1)) (hv : isLong v = false) (k : G C cs ss (pc + 1) ls (v :: v :: st) M) : G C cs ss pc ls (v :: st) M := by
  obtain ⟨p, l, e, s, m, args, below, meth, c, Q, hx, hb, hml, hown, hts, hV, hKS, hH, hA, hN, hw, hlk, hE⟩ := hC
  intro P H locs la h1 h2 h3 h4 h5
  have k := k P H locs la h1 h2 h3 h4 h5
  rw [hw] at k ⊢
  exact lv_dup hx hb hd (by rw [vOf_cat, hv]; rfl) k
theorem g_dup2 (hC : Ok C cc own nL R E) {u v : AV} (hd : decode cc pc = .ok (.dup2, 1)) (hv : isLong v = false) (hu : isLong u = false) (k : G C cs ss (pc + 1) ls (v :: u :: v :: u :: st) M) : G C cs ss pc ls (v :: u :: st) M := by
  obtain ⟨p, l, e, s, m, args, below, meth, c, Q, hx, hb, hml, hown, hts, hV, hKS, hH, hA, hN, hw, hlk, hE⟩ := hC
  intro P H locs la h1 h2 h3 h4 h5
  have k := k P H locs la h1 h2 h3 h4 h5
  rw [hw] at k ⊢
  exact lv_dup2_11 hx hb hd (by rw [vOf_cat, hv]; rfl) (by rw [vOf_cat, hu]; rfl) k
theorem g_pop (hC : Ok C cc own nL R E) {v : AV} (hd : decode cc pc = .ok (.pop, 1)) (hv : isLong v = false) (k : G C cs ss (pc + 1) ls (st) M) : G C cs ss pc ls (v :: st) M := by
  obtain ⟨p, l, e, s, m, args, below, meth, c, Q, hx, hb, hml, hown, hts, hV, hKS, hH, hA, hN, hw, hlk, hE⟩ := hC
  intro P H locs la h1 h2 h3 h4 h5
  have k := k P H locs la h1 h2 h3 h4 h5
  rw [hw] at k ⊢
  exact lv_pop hx hb hd (by rw [vOf_cat, hv]; rfl) k
theorem g_iload_n (hC : Ok C cc own nL R E) {j : Fin 4} {x : Int32} (hd : decode cc pc = .ok (.iload_n j, 1)) (hl : ls[(j : Nat)]? = some (aI x)) (k : G C cs ss (pc + 1) ls (aI x :: st) M) : G C cs ss pc ls st M := by
  obtain ⟨p, l, e, s, m, args, below, meth, c, Q, hx, hb, hml, hown, hts, hV, hKS, hH, hA, hN, hw, hlk, hE⟩ := hC
  intro P H locs la h1 h2 h3 h4 h5
  have k := k P H locs la h1 h2 h3 h4 h5
  rw [hw] at k ⊢
  exact lv_iload_n hx hb hd rfl (h5.2.2 _ _ hl (fun z => by cases z)) k
theorem g_iload (hC : Ok C cc own nL R E) {j : Nat} {x : Int32} (hd : decode cc pc = .ok (.iload j, 2)) (hl : ls[j]? = some (aI x)) (k : G C cs ss (pc + 2) ls (aI x :: st) M) : G C cs ss pc ls st M := by
  obtain ⟨p, l, e, s, m, args, below, meth, c, Q, hx, hb, hml, hown, hts, hV, hKS, hH, hA, hN, hw, hlk, hE⟩ := hC
  intro P H locs la h1 h2 h3 h4 h5
  have k := k P H locs la h1 h2 h3 h4 h5
  rw [hw] at k ⊢
  exact lv_iload hx hb hd (h5.2.2 _ _ hl (fun z => by cases z)) k
theorem g_lload_n (hC : Ok C cc own nL R E) {j : Fin 4} {x : Int64} (hd : decode cc pc = .ok (.lload_n j, 1)) (hl : ls[(j : Nat)]? = some (aL x)) (k : G C cs ss (pc + 1) ls (aL x :: st) M) : G C cs ss pc ls st M := by
  obtain ⟨p, l, e, s, m, args, below, meth, c, Q, hx, hb, hml, hown, hts, hV, hKS, hH, hA, hN, hw, hlk, hE⟩ := hC
  intro P H locs la h1 h2 h3 h4 h5
  have k := k P H locs la h1 h2 h3 h4 h5
  rw [hw] at k ⊢
  exact lv_lload_n hx hb hd rfl (h5.2.2 _ _ hl (fun z => by cases z)) k
theorem g_lload (hC : Ok C cc own nL R E) {j : Nat} {x : Int64} (hd : decode cc pc = .ok (.lload j, 2)) (hl : ls[j]? = some (aL x)) (k : G C cs ss (pc + 2) ls (aL x :: st) M) : G C cs ss pc ls st M := by
  obtain ⟨p, l, e, s, m, args, below, meth, c, Q, hx, hb, hml, hown, hts, hV, hKS, hH, hA, hN, hw, hlk, hE⟩ := hC
  intro P H locs la h1 h2 h3 h4 h5
  have k := k P H locs la h1 h2 h3 h4 h5
  rw [hw] at k ⊢
  exact lv_lload hx hb hd (h5.2.2 _ _ hl (fun z => by cases z)) k
def isRefV (v : AV) : Bool := match v with
  | .inr (.inr (.inl _)) => true
  | .inr (.inr (.inr (n + 1))) => decide (n + 1 ≠ 9)
  | _ => false
theorem vOf_ref {v : AV} (h : isRefV v = true) (gl : Gl) (P : Ad) : (∃ a, vOf gl P v = .ref a) ∧ v ≠ aK 9 := by
  rcases v with x | x | q | n
  · cases h
  · cases h
  · exact ⟨⟨_, rfl⟩, fun z => by cases z⟩
  · match n, h with
    | n + 1, h =>
      refine ⟨?_, fun z => ?_⟩
      · match n with
        | 0 => exact ⟨_, rfl⟩
        | 1 => exact ⟨_, rfl⟩
        | n + 2 => exact ⟨_, rfl⟩
      · have h0 : n + 1 ≠ 9 := of_decide_eq_true h
        have : n + 1 = 9 := by injection z with z; injection z with z; injection z
        omega
theorem g_aload_n (hC : Ok C cc own nL R E) {j : Fin 4} {v : AV} (hd : decode cc pc = .ok (.aload_n j, 1)) (hl : ls[(j : Nat)]? = some v) (hv : isRefV v = true) (k : G C cs ss (pc + 1) ls (v :: st) M) : G C cs ss pc ls st M := by
  obtain ⟨p, l, e, s, m, args, below, meth, c, Q, hx, hb, hml, hown, hts, hV, hKS, hH, hA, hN, hw, hlk, hE⟩ := hC
  intro P H locs la h1 h2 h3 h4 h5
  obtain ⟨⟨a, ha⟩, hne⟩ := vOf_ref hv (kGl C) P
  have k := k P H locs la h1 h2 h3 h4 h5
  have hl2 := h5.2.2 _ _ hl hne
  rw [List.map_cons, ha] at k
  rw [ha] at hl2
  rw [hw] at k ⊢
  exact lv_aload_n hx hb hd rfl hl2 k
theorem g_aload (hC : Ok C cc own nL R E) {j : Nat} {v : AV} (hd : decode cc pc = .ok (.aload j, 2)) (hl : ls[(j : Nat)]? = some v) (hv : isRefV v = true) (k : G C cs ss (pc + 2) ls (v :: st) M) : G C cs ss pc ls st M := by
  obtain ⟨p, l, e, s, m, args, below, meth, c, Q, hx, hb, hml, hown, hts, hV, hKS, hH, hA, hN, hw, hlk, hE⟩ := hC
  intro P H locs la h1 h2 h3 h4 h5
  obtain ⟨⟨a, ha⟩, hne⟩ := vOf_ref hv (kGl C) P
  have k := k P H locs la h1 h2 h3 h4 h5
  have hl2 := h5.2.2 _ _ hl hne
  rw [List.map_cons, ha] at k
  rw [ha] at hl2
  rw [hw] at k ⊢
  exact lv_aload hx hb hd hl2 k
theorem g_istore_n (hC : Ok C cc own nL R E) {j : Fin 4} {x : Int32} (hd : decode cc pc = .ok (.istore_n j, 1)) (hn : (j : Nat) < nL) (hp : preOk ls j = true) (k : G C cs ss (pc + 1) (ls.set j (aI x)) st M) : G C cs ss pc ls (aI x :: st) M := by
  obtain ⟨p, l, e, s, m, args, below, meth, c, Q, hx, hb, hml, hown, hts, hV, hKS, hH, hA, hN, hw, hlk, hE⟩ := hC
  intro P H locs la h1 h2 h3 h4 h5
  rw [hN] at h5
  obtain ⟨ls', e', h6⟩ := h5.set1 (v := aI x) hn rfl hp
  have k := k P H locs ls' h1 h2 h3 h4 (by rw [hN]; exact h6)
  rw [hw] at k ⊢
  intro T hT X
  obtain ⟨t, a, b⟩ := k T hT X
  refine ⟨t, ?_, b⟩
  have e2 : storeLocals la j (.int x) = some ls' := e'
  simp only [List.map_cons, vOf]
  jvm_step X.here [X.here.top, ↓top_set X.here.top, hx, hb, hd, e2]
  exact a
theorem g_istore (hC : Ok C cc own nL R E) {j : Nat} {x : Int32} (hd : decode cc pc = .ok (.istore j, 2)) (hn : (j : Nat) < nL) (hp : preOk ls j = true) (k : G C cs ss (pc + 2) (ls.set j (aI x)) st M) : G C cs ss pc ls (aI x :: st) M := by
  obtain ⟨p, l, e, s, m, args, below, meth, c, Q, hx, hb, hml, hown, hts, hV, hKS, hH, hA, hN, hw, hlk, hE⟩ := hC
  intro P H locs la h1 h2 h3 h4 h5
  rw [hN] at h5
  obtain ⟨ls', e', h6⟩ := h5.set1 (v := aI x) hn rfl hp
  have k := k P H locs ls' h1 h2 h3 h4 (by rw [hN]; exact h6)
  rw [hw] at k ⊢
  intro T hT X
  obtain ⟨t, a, b⟩ := k T hT X
  refine ⟨t, ?_, b⟩
  have e2 : storeLocals la j (.int x) = some ls' := e'
  simp only [List.map_cons, vOf]
  jvm_step X.here [X.here.top, ↓top_set X.here.top, hx, hb, hd, e2]
  exact a
theorem g_lstore_n (hC : Ok C cc own nL R E) {j : Fin 4} {x : Int64} (hd : decode cc pc = .ok (.lstore_n j, 1)) (hn : (j : Nat) + 1 < nL) (hp : preOk ls j = true) (k : G C cs ss (pc + 1) ((ls.set j (aL x)).set (j + 1) (aK 9)) st M) : G C cs ss pc ls (aL x :: st) M := by
  obtain ⟨p, l, e, s, m, args, below, meth, c, Q, hx, hb, hml, hown, hts, hV, hKS, hH, hA, hN, hw, hlk, hE⟩ := hC
  intro P H locs la h1 h2 h3 h4 h5
  rw [hN] at h5
  obtain ⟨ls', e', h6⟩ := h5.set2 (v := aL x) hn rfl hp
  have k := k P H locs ls' h1 h2 h3 h4 (by rw [hN]; exact h6)
  rw [hw] at k ⊢
  intro T hT X
  obtain ⟨t, a, b⟩ := k T hT X
  refine ⟨t, ?_, b⟩
  have e2 : storeLocals la j (.long x) = some ls' := e'
  simp only [List.map_cons, vOf]
  jvm_step X.here [X.here.top, ↓top_set X.here.top, hx, hb, hd, e2]
  exact a
theorem g_lstore (hC : Ok C cc own nL R E) {j : Nat} {x : Int64} (hd : decode cc pc = .ok (.lstore j, 2)) (hn : (j : Nat) + 1 < nL) (hp : preOk ls j = true) (k : G C cs ss (pc + 2) ((ls.set j (aL x)).set (j + 1) (aK 9)) st M) : G C cs ss pc ls (aL x :: st) M := by
  obtain ⟨p, l, e, s, m, args, below, meth, c, Q, hx, hb, hml, hown, hts, hV, hKS, hH, hA, hN, hw, hlk, hE⟩ := hC
  intro P H locs la h1 h2 h3 h4 h5
  rw [hN] at h5
  obtain ⟨ls', e', h6⟩ := h5.set2 (v := aL x) hn rfl hp
  have k := k P H locs ls' h1 h2 h3 h4 (by rw [hN]; exact h6)
  rw [hw] at k ⊢
  intro T hT X
  obtain ⟨t, a, b⟩ := k T hT X
  refine ⟨t, ?_, b⟩
  have e2 : storeLocals la j (.long x) = some ls' := e'
  simp only [List.map_cons, vOf]
  jvm_step X.here [X.here.top, ↓top_set X.here.top, hx, hb, hd, e2]
  exact a
theorem g_astore_n (hC : Ok C cc own nL R E) {j : Fin 4} {g0 k0 w0 : Nat} (hd : decode cc pc = .ok (.astore_n j, 1)) (hn : (j : Nat) < nL) (hp : preOk ls j = true) (k : G C cs ss (pc + 1) (ls.set j (aR g0 k0 w0)) st M) : G C cs ss pc ls (aR g0 k0 w0 :: st) M := by
  obtain ⟨p, l, e, s, m, args, below, meth, c, Q, hx, hb, hml, hown, hts, hV, hKS, hH, hA, hN, hw, hlk, hE⟩ := hC
  intro P H locs la h1 h2 h3 h4 h5
  rw [hN] at h5
  obtain ⟨ls', e', h6⟩ := h5.set1 (v := aR g0 k0 w0) hn rfl hp
  have k := k P H locs ls' h1 h2 h3 h4 (by rw [hN]; exact h6)
  rw [hw] at k ⊢
  intro T hT X
  obtain ⟨t, a, b⟩ := k T hT X
  refine ⟨t, ?_, b⟩
  have e2 : storeLocals la j (.ref (P g0 k0 w0)) = some ls' := e'
  simp only [List.map_cons, vOf]
  jvm_step X.here [X.here.top, ↓top_set X.here.top, hx, hb, hd, e2, Value.isRef]
  exact a
theorem g_astore (hC : Ok C cc own nL R E) {j : Nat} {g0 k0 w0 : Nat} (hd : decode cc pc = .ok (.astore j, 2)) (hn : (j : Nat) < nL) (hp : preOk ls j = true) (k : G C cs ss (pc + 2) (ls.set j (aR g0 k0 w0)) st M) : G C cs ss pc ls (aR g0 k0 w0 :: st) M := by
  obtain ⟨p, l, e, s, m, args, below, meth, c, Q, hx, hb, hml, hown, hts, hV, hKS, hH, hA, hN, hw, hlk, hE⟩ := hC
  intro P H locs la h1 h2 h3 h4 h5
  rw [hN] at h5
  obtain ⟨ls', e', h6⟩ := h5.set1 (v := aR g0 k0 w0) hn rfl hp
  have k := k P H locs ls' h1 h2 h3 h4 (by rw [hN]; exact h6)
  rw [hw] at k ⊢
  intro T hT X
  obtain ⟨t, a, b⟩ := k T hT X
  refine ⟨t, ?_, b⟩
  have e2 : storeLocals la j (.ref (P g0 k0 w0)) = some ls' := e'
  simp only [List.map_cons, vOf]
  jvm_step X.here [X.here.top, ↓top_set X.here.top, hx, hb, hd, e2, Value.isRef]
  exact a
theorem g_iinc (hC : Ok C cc own nL R E) {j : Nat} {n : Int} {x v : Int32} (hd : decode cc pc = .ok (.iinc j n, 3)) (hl : ls[j]? = some (aI x)) (hv : x + Int32.ofInt n = v) (hn : j < nL) (hp : preOk ls j = true) (k : G C cs ss (pc + 3) (ls.set j (aI v)) st M) : G C cs ss pc ls st M := by
  obtain ⟨p, l, e, s, m, args, below, meth, c, Q, hx, hb, hml, hown, hts, hV, hKS, hH, hA, hN, hw, hlk, hE⟩ := hC
  intro P H locs la h1 h2 h3 h4 h5
  subst hv
  have hg := h5.2.2 _ _ hl (fun z => by cases z)
  have hg2 : la[j]? = some (.val (.int x)) := hg
  rw [hN] at h5
  obtain ⟨ls', e', h6⟩ := h5.set1 (v := aI (x + Int32.ofInt n)) hn rfl hp
  have k := k P H locs ls' h1 h2 h3 h4 (by rw [hN]; exact h6)
  rw [hw] at k ⊢
  intro T hT X
  obtain ⟨t, a, b⟩ := k T hT X
  refine ⟨t, ?_, b⟩
  have e2 : storeLocals la j (.int (x + Int32.ofInt n)) = some ls' := e'
  jvm_step X.here [X.here.top, ↓top_set X.here.top, hx, hb, hd, hg2, e2]
  exact a
theorem g_if_eq (hC : Ok C cc own nL R E) {x : Int32} {off : Int} {tgt : Nat} (hd : decode cc pc = .ok (.ifCond .eq off, 3)) (ht : (pc : Int) + off = (tgt : Int)) (kt : x = 0 → G C cs ss tgt ls st M) (kf : ¬ x = 0 → G C cs ss (pc + 3) ls st M) : G C cs ss pc ls (aI x :: st) M := by
  obtain ⟨p, l, e, s, m, args, below, meth, c, Q, hx, hb, hml, hown, hts, hV, hKS, hH, hA, hN, hw, hlk, hE⟩ := hC
  intro P H locs la h1 h2 h3 h4 h5
  rw [hw]
  refine lv_if_eq hx hb hd ht (fun q => ?_) (fun q => ?_)
  · have k := kt q P H locs la h1 h2 h3 h4 h5
    rw [hw] at k
    exact k
  · have k := kf q P H locs la h1 h2 h3 h4 h5
    rw [hw] at k
    exact k
theorem g_icmp_eq (hC : Ok C cc own nL R E) {x y : Int32} {off : Int} {tgt : Nat} (hd : decode cc pc = .ok (.if_icmp .eq off, 3)) (ht : (pc : Int) + off = (tgt : Int)) (kt : x = y → G C cs ss tgt ls st M) (kf : ¬ x = y → G C cs ss (pc + 3) ls st M) : G C cs ss pc ls (aI y :: aI x :: st) M := by
  obtain ⟨p, l, e, s, m, args, below, meth, c, Q, hx, hb, hml, hown, hts, hV, hKS, hH, hA, hN, hw, hlk, hE⟩ := hC
  intro P H locs la h1 h2 h3 h4 h5
  rw [hw]
  refine lv_icmp_eq hx hb hd ht (fun q => ?_) (fun q => ?_)
  · have k := kt q P H locs la h1 h2 h3 h4 h5
    rw [hw] at k
    exact k
  · have k := kf q P H locs la h1 h2 h3 h4 h5
    rw [hw] at k
    exact k
theorem g_if_ne (hC : Ok C cc own nL R E) {x : Int32} {off : Int} {tgt : Nat} (hd : decode cc pc = .ok (.ifCond .ne off, 3)) (ht : (pc : Int) + off = (tgt : Int)) (kt : ¬ x = 0 → G C cs ss tgt ls st M) (kf : x = 0 → G C cs ss (pc + 3) ls st M) : G C cs ss pc ls (aI x :: st) M := by
  obtain ⟨p, l, e, s, m, args, below, meth, c, Q, hx, hb, hml, hown, hts, hV, hKS, hH, hA, hN, hw, hlk, hE⟩ := hC
  intro P H locs la h1 h2 h3 h4 h5
  rw [hw]
  refine lv_if_ne hx hb hd ht (fun q => ?_) (fun q => ?_)
  · have k := kt q P H locs la h1 h2 h3 h4 h5
    rw [hw] at k
    exact k
  · have k := kf q P H locs la h1 h2 h3 h4 h5
    rw [hw] at k
    exact k
theorem g_icmp_ne (hC : Ok C cc own nL R E) {x y : Int32} {off : Int} {tgt : Nat} (hd : decode cc pc = .ok (.if_icmp .ne off, 3)) (ht : (pc : Int) + off = (tgt : Int)) (kt : ¬ x = y → G C cs ss tgt ls st M) (kf : x = y → G C cs ss (pc + 3) ls st M) : G C cs ss pc ls (aI y :: aI x :: st) M := by
  obtain ⟨p, l, e, s, m, args, below, meth, c, Q, hx, hb, hml, hown, hts, hV, hKS, hH, hA, hN, hw, hlk, hE⟩ := hC
  intro P H locs la h1 h2 h3 h4 h5
  rw [hw]
  refine lv_icmp_ne hx hb hd ht (fun q => ?_) (fun q => ?_)
  · have k := kt q P H locs la h1 h2 h3 h4 h5
    rw [hw] at k
    exact k
  · have k := kf q P H locs la h1 h2 h3 h4 h5
    rw [hw] at k
    exact k
theorem g_if_lt (hC : Ok C cc own nL R E) {x : Int32} {off : Int} {tgt : Nat} (hd : decode cc pc = .ok (.ifCond .lt off, 3)) (ht : (pc : Int) + off = (tgt : Int)) (kt : x < 0 → G C cs ss tgt ls st M) (kf : ¬ x < 0 → G C cs ss (pc + 3) ls st M) : G C cs ss pc ls (aI x :: st) M := by
  obtain ⟨p, l, e, s, m, args, below, meth, c, Q, hx, hb, hml, hown, hts, hV, hKS, hH, hA, hN, hw, hlk, hE⟩ := hC
  intro P H locs la h1 h2 h3 h4 h5
  rw [hw]
  refine lv_if_lt hx hb hd ht (fun q => ?_) (fun q => ?_)
  · have k := kt q P H locs la h1 h2 h3 h4 h5
    rw [hw] at k
    exact k
  · have k := kf q P H locs la h1 h2 h3 h4 h5
    rw [hw] at k
    exact k
theorem g_icmp_lt (hC : Ok C cc own nL R E) {x y : Int32} {off : Int} {tgt : Nat} (hd : decode cc pc = .ok (.if_icmp .lt off, 3)) (ht : (pc : Int) + off = (tgt : Int)) (kt : x < y → G C cs ss tgt ls st M) (kf : ¬ x < y → G C cs ss (pc + 3) ls st M) : G C cs ss pc ls (aI y :: aI x :: st) M := by
  obtain ⟨p, l, e, s, m, args, below, meth, c, Q, hx, hb, hml, hown, hts, hV, hKS, hH, hA, hN, hw, hlk, hE⟩ := hC
  intro P H locs la h1 h2 h3 h4 h5
  rw [hw]
  refine lv_icmp_lt hx hb hd ht (fun q => ?_) (fun q => ?_)
  · have k := kt q P H locs la h1 h2 h3 h4 h5
    rw [hw] at k
    exact k
  · have k := kf q P H locs la h1 h2 h3 h4 h5
    rw [hw] at k
    exact k
theorem g_if_ge (hC : Ok C cc own nL R E) {x : Int32} {off : Int} {tgt : Nat} (hd : decode cc pc = .ok (.ifCond .ge off, 3)) (ht : (pc : Int) + off = (tgt : Int)) (kt : 0 ≤ x → G C cs ss tgt ls st M) (kf : ¬ 0 ≤ x → G C cs ss (pc + 3) ls st M) : G C cs ss pc ls (aI x :: st) M := by
  obtain ⟨p, l, e, s, m, args, below, meth, c, Q, hx, hb, hml, hown, hts, hV, hKS, hH, hA, hN, hw, hlk, hE⟩ := hC
  intro P H locs la h1 h2 h3 h4 h5
  rw [hw]
  refine lv_if_ge hx hb hd ht (fun q => ?_) (fun q => ?_)
  · have k := kt q P H locs la h1 h2 h3 h4 h5
    rw [hw] at k
    exact k
  · have k := kf q P H locs la h1 h2 h3 h4 h5
    rw [hw] at k
    exact k
theorem g_icmp_ge (hC : Ok C cc own nL R E) {x y : Int32} {off : Int} {tgt : Nat} (hd : decode cc pc = .ok (.if_icmp .ge off, 3)) (ht : (pc : Int) + off = (tgt : Int)) (kt : y ≤ x → G C cs ss tgt ls st M) (kf : ¬ y ≤ x → G C cs ss (pc + 3) ls st M) : G C cs ss pc ls (aI y :: aI x :: st) M := by
  obtain ⟨p, l, e, s, m, args, below, meth, c, Q, hx, hb, hml, hown, hts, hV, hKS, hH, hA, hN, hw, hlk, hE⟩ := hC
  intro P H locs la h1 h2 h3 h4 h5
  rw [hw]
  refine lv_icmp_ge hx hb hd ht (fun q => ?_) (fun q => ?_)
  · have k := kt q P H locs la h1 h2 h3 h4 h5
    rw [hw] at k
    exact k
  · have k := kf q P H locs la h1 h2 h3 h4 h5
    rw [hw] at k
    exact k
theorem g_if_gt (hC : Ok C cc own nL R E) {x : Int32} {off : Int} {tgt : Nat} (hd : decode cc pc = .ok (.ifCond .gt off, 3)) (ht : (pc : Int) + off = (tgt : Int)) (kt : 0 < x → G C cs ss tgt ls st M) (kf : ¬ 0 < x → G C cs ss (pc + 3) ls st M) : G C cs ss pc ls (aI x :: st) M := by
  obtain ⟨p, l, e, s, m, args, below, meth, c, Q, hx, hb, hml, hown, hts, hV, hKS, hH, hA, hN, hw, hlk, hE⟩ := hC
  intro P H locs la h1 h2 h3 h4 h5
  rw [hw]
  refine lv_if_gt hx hb hd ht (fun q => ?_) (fun q => ?_)
  · have k := kt q P H locs la h1 h2 h3 h4 h5
    rw [hw] at k
    exact k
  · have k := kf q P H locs la h1 h2 h3 h4 h5
    rw [hw] at k
    exact k
theorem g_icmp_gt (hC : Ok C cc own nL R E) {x y : Int32} {off : Int} {tgt : Nat} (hd : decode cc pc = .ok (.if_icmp .gt off, 3)) (ht : (pc : Int) + off = (tgt : Int)) (kt : y < x → G C cs ss tgt ls st M) (kf : ¬ y < x → G C cs ss (pc + 3) ls st M) : G C cs ss pc ls (aI y :: aI x :: st) M := by
  obtain ⟨p, l, e, s, m, args, below, meth, c, Q, hx, hb, hml, hown, hts, hV, hKS, hH, hA, hN, hw, hlk, hE⟩ := hC
  intro P H locs la h1 h2 h3 h4 h5
  rw [hw]
  refine lv_icmp_gt hx hb hd ht (fun q => ?_) (fun q => ?_)
  · have k := kt q P H locs la h1 h2 h3 h4 h5
    rw [hw] at k
    exact k
  · have k := kf q P H locs la h1 h2 h3 h4 h5
    rw [hw] at k
    exact k
theorem g_if_le (hC : Ok C cc own nL R E) {x : Int32} {off : Int} {tgt : Nat} (hd : decode cc pc = .ok (.ifCond .le off, 3)) (ht : (pc : Int) + off = (tgt : Int)) (kt : x ≤ 0 → G C cs ss tgt ls st M) (kf : ¬ x ≤ 0 → G C cs ss (pc + 3) ls st M) : G C cs ss pc ls (aI x :: st) M := by
  obtain ⟨p, l, e, s, m, args, below, meth, c, Q, hx, hb, hml, hown, hts, hV, hKS, hH, hA, hN, hw, hlk, hE⟩ := hC
  intro P H locs la h1 h2 h3 h4 h5
  rw [hw]
  refine lv_if_le hx hb hd ht (fun q => ?_) (fun q => ?_)
  · have k := kt q P H locs la h1 h2 h3 h4 h5
    rw [hw] at k
    exact k
  · have k := kf q P H locs la h1 h2 h3 h4 h5
    rw [hw] at k
    exact k
theorem g_icmp_le (hC : Ok C cc own nL R E) {x y : Int32} {off : Int} {tgt : Nat} (hd : decode cc pc = .ok (.if_icmp .le off, 3)) (ht : (pc : Int) + off = (tgt : Int)) (kt : x ≤ y → G C cs ss tgt ls st M) (kf : ¬ x ≤ y → G C cs ss (pc + 3) ls st M) : G C cs ss pc ls (aI y :: aI x :: st) M := by
  obtain ⟨p, l, e, s, m, args, below, meth, c, Q, hx, hb, hml, hown, hts, hV, hKS, hH, hA, hN, hw, hlk, hE⟩ := hC
  intro P H locs la h1 h2 h3 h4 h5
  rw [hw]
  refine lv_icmp_le hx hb hd ht (fun q => ?_) (fun q => ?_)
  · have k := kt q P H locs la h1 h2 h3 h4 h5
    rw [hw] at k
    exact k
  · have k := kf q P H locs la h1 h2 h3 h4 h5
    rw [hw] at k
    exact k
theorem g_goto (hC : Ok C cc own nL R E) {off : Int} {tgt : Nat} (hd : decode cc pc = .ok (.goto off, 3)) (ht : (pc : Int) + off = (tgt : Int)) (k : G C cs ss tgt ls st M) : G C cs ss pc ls st M := by
  obtain ⟨p, l, e, s, m, args, below, meth, c, Q, hx, hb, hml, hown, hts, hV, hKS, hH, hA, hN, hw, hlk, hE⟩ := hC
  intro P H locs la h1 h2 h3 h4 h5
  have k := k P H locs la h1 h2 h3 h4 h5
  rw [hw] at k ⊢
  exact lv_goto hx hb hd ht k
theorem g_lookup (hC : Ok C cc own nL R E) {dflt : Int} {ps : Array (Int × Int)} {len : Nat} {x : Int32} {off : Int} {tgt : Nat} (hd : decode cc pc = .ok (.lookupswitch dflt ps, len)) (hp : (ps.toList.zip (ps.toList.drop 1)).all (fun (a, next) => a.1 < next.1) = true) (ho : Op.lookupswitch.offset ps.toList dflt x.toInt = off) (ht : (pc : Int) + off = (tgt : Int)) (k : G C cs ss tgt ls st M) : G C cs ss pc ls (aI x :: st) M := by
  obtain ⟨p, l, e, s, m, args, below, meth, c, Q, hx, hb, hml, hown, hts, hV, hKS, hH, hA, hN, hw, hlk, hE⟩ := hC
  intro P H locs la h1 h2 h3 h4 h5
  have k := k P H locs la h1 h2 h3 h4 h5
  rw [hw] at k ⊢
  exact lv_lookup hx hb hd hp ho ht k
theorem g_tabOut (hC : Ok C cc own nL R E) {dflt lo hi : Int} {offs : Array Int} {len : Nat} {x : Int32} {tgt : Nat} (hd : decode cc pc = .ok (.tableswitch dflt lo hi offs, len)) (h : x.toInt < lo ∨ hi < x.toInt) (ht : (pc : Int) + dflt = (tgt : Int)) (k : G C cs ss tgt ls st M) : G C cs ss pc ls (aI x :: st) M := by
  obtain ⟨p, l, e, s, m, args, below, meth, c, Q, hx, hb, hml, hown, hts, hV, hKS, hH, hA, hN, hw, hlk, hE⟩ := hC
  intro P H locs la h1 h2 h3 h4 h5
  have k := k P H locs la h1 h2 h3 h4 h5
  rw [hw] at k ⊢
  exact lv_tableOut hx hb hd h ht k
theorem g_tabIn (hC : Ok C cc own nL R E) {dflt lo hi : Int} {offs : Array Int} {len : Nat} {x : Int32} {off : Int} {tgt : Nat} (hd : decode cc pc = .ok (.tableswitch dflt lo hi offs, len)) (g1 : ¬ x.toInt < lo) (g2 : ¬ hi < x.toInt) (ho : offs[(x.toInt - lo).toNat]? = some off) (ht : (pc : Int) + off = (tgt : Int)) (k : G C cs ss tgt ls st M) : G C cs ss pc ls (aI x :: st) M := by
  obtain ⟨p, l, e, s, m, args, below, meth, c, Q, hx, hb, hml, hown, hts, hV, hKS, hH, hA, hN, hw, hlk, hE⟩ := hC
  intro P H locs la h1 h2 h3 h4 h5
  have k := k P H locs la h1 h2 h3 h4 h5
  rw [hw] at k ⊢
  exact lv_tableIn hx hb hd g1 g2 ho ht k
theorem vpin {n w : Nat} (h : w < n) (hn : n < 2 ^ 31) {f : Nat → Value} {cA : ClassId} : ¬ (nI w < 0 ∨ (arrV cA n f).slots.size ≤ (nI w).toNatClampNeg) := by
  rw [arrV_size]
  exact nI_in h hn
theorem vprd {n w : Nat} (h : w < n) (hn : n < 2 ^ 31) {f : Nat → Value} {cA : ClassId} {v : Value} (hv : f w = v) : (arrV cA n f).slots[(nI w).toNatClampNeg]? = some v := by
  rw [nI_clamp (by omega), arrV_read _ _ h, hv]
theorem g_iald (hC : Ok C cc own nL R E) {g k n w : Nat} {f : Nat → Int32} {i v : Int32} (hd : decode cc pc = .ok (.iaload, 1)) (hM : getM M g k = some (cA n f)) (hi : i = nI w) (hlt : w < n) (hn : n < 2 ^ 31) (hv : f w = v) (kk : G C cs ss (pc + 1) ls (aI v :: st) M) : G C cs ss pc ls (aI i :: aR g k 0 :: st) M := by
  obtain ⟨p, l, e, s, m, args, below, meth, c, Q, hx, hb, hml, hown, hts, hV, hKS, hH, hA, hN, hw, hlk, hE⟩ := hC
  intro P H locs la h1 h2 h3 h4 h5
  have kq := kk P H locs la h1 h2 h3 h4 h5
  rw [hw] at kq ⊢
  subst hi
  exact W.iald hx hb (h2.1 g k _ hM) ((hV.1.2 0 _ rfl).1 n (fun j => .int (f j))) (fun q => by cases q) (vpin hlt hn) (vprd hlt hn (congrArg _ hv)) rfl rfl hd kq
theorem g_iald2 (hC : Ok C cc own nL R E) {g k r n rr w : Nat} {f : Nat → Nat → Int32} {i v : Int32} (hd : decode cc pc = .ok (.iaload, 1)) (hM : getM M g k = some (cG r n f)) (hr : rr < r) (hi : i = nI w) (hlt : w < n) (hn : n < 2 ^ 31) (hv : f rr w = v) (kk : G C cs ss (pc + 1) ls (aI v :: st) M) : G C cs ss pc ls (aI i :: aR g k (rr + 1) :: st) M := by
  obtain ⟨p, l, e, s, m, args, below, meth, c, Q, hx, hb, hml, hown, hts, hV, hKS, hH, hA, hN, hw, hlk, hE⟩ := hC
  intro P H locs la h1 h2 h3 h4 h5
  have kq := kk P H locs la h1 h2 h3 h4 h5
  rw [hw] at kq ⊢
  subst hi
  exact W.iald hx hb ((h2.1 g k _ hM).2 rr hr) ((hV.1.2 0 _ rfl).1 n (fun j => .int (f rr j))) (fun q => by cases q) (vpin hlt hn) (vprd hlt hn (congrArg _ hv)) rfl rfl hd kq
theorem g_lald (hC : Ok C cc own nL R E) {g k n w : Nat} {f : Nat → Int64} {i : Int32} {v : Int64} (hd : decode cc pc = .ok (.laload, 1)) (hM : getM M g k = some (cL n f)) (hi : i = nI w) (hlt : w < n) (hn : n < 2 ^ 31) (hv : f w = v) (kk : G C cs ss (pc + 1) ls (aL v :: st) M) : G C cs ss pc ls (aI i :: aR g k 0 :: st) M := by
  obtain ⟨p, l, e, s, m, args, below, meth, c, Q, hx, hb, hml, hown, hts, hV, hKS, hH, hA, hN, hw, hlk, hE⟩ := hC
  intro P H locs la h1 h2 h3 h4 h5
  have kq := kk P H locs la h1 h2 h3 h4 h5
  rw [hw] at kq ⊢
  subst hi
  exact W.lald hx hb (h2.1 g k _ hM) ((hV.1.2 1 _ rfl).1 n (fun j => .long (f j))) (fun q => by cases q) (vpin hlt hn) (vprd hlt hn (congrArg _ hv)) rfl rfl hd kq
theorem g_aald (hC : Ok C cc own nL R E) {g k r n w : Nat} {f : Nat → Nat → Int32} {i : Int32} (hd : decode cc pc = .ok (.aaload, 1)) (hM : getM M g k = some (cG r n f)) (hi : i = nI w) (hlt : w < r) (hn : r < 2 ^ 31) (kk : G C cs ss (pc + 1) ls (aR g k (w + 1) :: st) M) : G C cs ss pc ls (aI i :: aR g k 0 :: st) M := by
  obtain ⟨p, l, e, s, m, args, below, meth, c, Q, hx, hb, hml, hown, hts, hV, hKS, hH, hA, hN, hw, hlk, hE⟩ := hC
  intro P H locs la h1 h2 h3 h4 h5
  have kq := kk P H locs la h1 h2 h3 h4 h5
  rw [hw] at kq ⊢
  subst hi
  exact W.aald (ty := .array .int) hx hb (h2.1 g k _ hM).1 ((hV.1.2 2 _ rfl).1 r _) rfl (fun q => by cases q) (vpin hlt hn) (vprd hlt hn rfl) rfl rfl hd kq
theorem g_alen (hC : Ok C cc own nL R E) {g k n : Nat} {f : Nat → Int32} (hd : decode cc pc = .ok (.arraylength, 1)) (hM : getM M g k = some (cA n f)) (kk : G C cs ss (pc + 1) ls (aI (nI n) :: st) M) : G C cs ss pc ls (aR g k 0 :: st) M := by
  obtain ⟨p, l, e, s, m, args, below, meth, c, Q, hx, hb, hml, hown, hts, hV, hKS, hH, hA, hN, hw, hlk, hE⟩ := hC
  intro P H locs la h1 h2 h3 h4 h5
  have kq := kk P H locs la h1 h2 h3 h4 h5
  rw [hw] at kq ⊢
  exact W.alen (n := nI n) hx hb (h2.1 g k _ hM) ((hV.1.2 0 _ rfl).1 n (fun j => .int (f j))) (by show (arrV _ _ _).slots.size.toInt32 = _; rw [arrV_size]; rfl) rfl rfl hd kq
def upd2 (f : Nat → Nat → Int32) (r w : Nat) (x : Int32) : Nat → Nat → Int32 := fun a b => if a = r ∧ b = w then x else f a b
theorem updV_int (f : Nat → Int32) (w : Nat) (x : Int32) : updV (fun j => .int (f j)) w (.int x) = fun j => .int (upd f w x j) := by
  funext q
  by_cases hq : q = w
  · subst hq
    simp [updV, upd]
  · simp [updV, upd, hq]
theorem updV_long (f : Nat → Int64) (w : Nat) (x : Int64) : updV (fun j => .long (f j)) w (.long x) = fun j => .long (vp_updL f w x j) := by
  funext q
  by_cases hq : q = w
  · subst hq
    simp [updV, vp_updL]
  · simp [updV, vp_updL, hq]
theorem g_iast (hC : Ok C cc own nL R E) {g k n w : Nat} {f : Nat → Int32} {i x : Int32} (hd : decode cc pc = .ok (.iastore, 1)) (hM : getM M g k = some (cA n f)) (hi : i = nI w) (hlt : w < n) (hn : n < 2 ^ 31) (kk : G C cs ss (pc + 1) ls st (setM M g k (cA n (upd f w x)))) : G C cs ss pc ls (aI x :: aI i :: aR g k 0 :: st) M := by
  obtain ⟨p, l, e, s, m, args, below, meth, c, Q, hx, hb, hml, hown, hts, hV, hKS, hH, hA, hN, hw, hlk, hE⟩ := hC
  intro P H locs la h1 h2 h3 h4 h5
  rw [hw]
  subst hi
  refine W.iast hx hb (h2.1 g k _ hM) ((hV.1.2 0 _ rfl).1 n (fun j => .int (f j))) (fun q => by cases q) (vpin hlt hn) rfl rfl hd fun H1 e1 z oq => ?_
  have hc : cellAt (kGl C) P g k H1 (cA n (upd f w x)) := by
    show H1[P g k 0]? = _
    rw [e1, nI_clamp (by omega), arrV_store, updV_int]
  have kq := kk P H1 (locs ++ [⟨P g k 0, (nI w).toNatClampNeg⟩]) la (h1.set hM) (h2.set hM rfl (Nat.le_refl _) hc oq) (h3.set hM rfl) (h4.put z oq (h3 g k 0 ⟨_, hM, Nat.zero_le _⟩)) h5
  rw [hw] at kq
  exact kq
theorem g_last (hC : Ok C cc own nL R E) {g k n w : Nat} {f : Nat → Int64} {i : Int32} {x : Int64} (hd : decode cc pc = .ok (.lastore, 1)) (hM : getM M g k = some (cL n f)) (hi : i = nI w) (hlt : w < n) (hn : n < 2 ^ 31) (kk : G C cs ss (pc + 1) ls st (setM M g k (cL n (vp_updL f w x)))) : G C cs ss pc ls (aL x :: aI i :: aR g k 0 :: st) M := by
  obtain ⟨p, l, e, s, m, args, below, meth, c, Q, hx, hb, hml, hown, hts, hV, hKS, hH, hA, hN, hw, hlk, hE⟩ := hC
  intro P H locs la h1 h2 h3 h4 h5
  rw [hw]
  subst hi
  refine W.last hx hb (h2.1 g k _ hM) ((hV.1.2 1 _ rfl).1 n (fun j => .long (f j))) (fun q => by cases q) (vpin hlt hn) rfl rfl hd fun H1 e1 z oq => ?_
  have hc : cellAt (kGl C) P g k H1 (cL n (vp_updL f w x)) := by
    show H1[P g k 0]? = _
    rw [e1, nI_clamp (by omega), arrV_store, updV_long]
  have kq := kk P H1 (locs ++ [⟨P g k 0, (nI w).toNatClampNeg⟩]) la (h1.set hM) (h2.set hM rfl (Nat.le_refl _) hc oq) (h3.set hM rfl) (h4.put z oq (h3 g k 0 ⟨_, hM, Nat.zero_le _⟩)) h5
  rw [hw] at kq
  exact kq
theorem g_iast2 (hC : Ok C cc own nL R E) {g k r n rr w : Nat} {f : Nat → Nat → Int32} {i x : Int32} (hd : decode cc pc = .ok (.iastore, 1)) (hM : getM M g k = some (cG r n f)) (hr : rr < r) (hi : i = nI w) (hlt : w < n) (hn : n < 2 ^ 31) (kk : G C cs ss (pc + 1) ls st (setM M g k (cG r n (upd2 f rr w x)))) : G C cs ss pc ls (aI x :: aI i :: aR g k (rr + 1) :: st) M := by
  obtain ⟨p, l, e, s, m, args, below, meth, c, Q, hx, hb, hml, hown, hts, hV, hKS, hH, hA, hN, hw, hlk, hE⟩ := hC
  intro P H locs la h1 h2 h3 h4 h5
  rw [hw]
  subst hi
  have hc0 := h2.1 g k _ hM
  refine W.iast hx hb (hc0.2 rr hr) ((hV.1.2 0 _ rfl).1 n (fun j => .int (f rr j))) (fun q => by cases q) (vpin hlt hn) rfl rfl hd fun H1 e1 z oq => ?_
  have hv : ∀ w', w' ≤ r → vld M g k w' := fun w' h => ⟨_, hM, h⟩
  have hc : cellAt (kGl C) P g k H1 (cG r n (upd2 f rr w x)) := by
    refine ⟨?_, fun a ha => ?_⟩
    · rw [oq _ (fun q => by have := (h2.2 _ _ _ _ _ _ (hv 0 (Nat.zero_le _)) (hv (rr + 1) hr) q).2.2; omega)]
      exact hc0.1
    · by_cases he : a = rr
      · subst he
        rw [e1, nI_clamp (by omega), arrV_store, updV_int]
        have : upd (f a) w x = upd2 f a w x a := by
          funext q
          simp [upd, upd2]
        rw [this]
      · rw [oq _ (fun q => by have := (h2.2 _ _ _ _ _ _ (hv (a + 1) ha) (hv (rr + 1) hr) q).2.2; omega), hc0.2 a ha]
        have : f a = upd2 f rr w x a := by
          funext q
          simp [upd2, he]
        show some (arrV (kGl C).2.1 n fun j => Value.int (f a j)) = some (arrV (kGl C).2.1 n fun j => Value.int (upd2 f rr w x a j))
        rw [this]
  have kq := kk P H1 (locs ++ [⟨P g k (rr + 1), (nI w).toNatClampNeg⟩]) la (h1.set hM) (h2.set hM rfl (show rr + 1 ≤ r from hr) hc oq) (h3.set hM rfl) (h4.put z oq (h3 g k (rr + 1) (hv _ hr))) h5
  rw [hw] at kq
  exact kq
theorem g_getf (hC : Ok C cc own nL R E) {index ci N j g k : Nat} {ref Cn : String} {T : u_T} {fs : List SV} {sv : SV} (hd : decode cc pc = .ok (.getfield index, 3)) (hl : Cond.fieldLink own index ref (T j).2.1 (T j).2.2.1 ∈ tbG) (hc : vwCl[ci]? = some (Cn, T, N)) (hin : ∀ w ∈ u_ws Cn T N, w ∈ tbG) (hj : j < N) (href : (T j).1 = ref) (hM : getM M g k = some (cO ci fs)) (hv : fs[j]? = some sv) (kk : G C cs ss (pc + 3) ls (ldS g sv :: st) M) : G C cs ss pc ls (aR g k 0 :: st) M := by
  obtain ⟨p, l, e, s, m, args, below, meth, c, Q, hx, hb, hml, hown, hts, hV, hKS, hH, hA, hN, hw, hlk, hE⟩ := hC
  intro P H locs la h1 h2 h3 h4 h5
  have kq := kk P H locs la h1 h2 h3 h4 h5
  rw [List.map_cons, vOf_ldS] at kq
  rw [hw] at kq ⊢
  have hcell := h2.1 g k _ hM
  refine va_get (ws := [(P g k 0, .inr (ci, fs.map (sOf P g)))]) hx hb hts hin hown hV.1 (fun i q hq => ?_) 0 rfl hc j hj (hts _ hl) (fun x hx => by rw [← href]; exact hx) (v := sOf P g sv) (by rw [List.getElem?_map, hv]; rfl) hd kq
  have h0 : i < 1 := (List.getElem?_eq_some_iff.mp hq).1
  rw [show i = 0 by omega] at hq
  cases hq
  exact hcell
theorem g_putf (hC : Ok C cc own nL R E) {index ci N j g k : Nat} {ref Cn : String} {T : u_T} {fs : List SV} {ty : FieldType} (ty0 : Nat → FieldType) (hd : decode cc pc = .ok (.putfield index, 3)) (hl : Cond.fieldLink own index ref (T j).2.1 (T j).2.2.1 ∈ tbG) (hc : vwCl[ci]? = some (Cn, T, N)) (hin : ∀ w ∈ u_ws Cn T N, w ∈ tbG) (hty : ∀ k, k < N → parseFieldDescriptor (T k).2.2.1 = some (ty0 k)) (hnm : ∀ a, a < N → ∀ b, b < N → a ≠ b → (T a).2.1 ≠ (T b).2.1) (hj : j < N) (href : (T j).1 = ref) (hfin : (T j).2.2.2 = false) (hM : getM M g k = some (cO ci fs)) {sv : SV} {v : AV} (hsv : ldS g sv = v) (hdes : parseFieldDescriptor (T j).2.2.1 = some ty) (hnar : ∀ P, narrow ty (vOf (kGl C) P v) = vOf (kGl C) P v) (hfit : ∀ P, fits ty (vOf (kGl C) P v) = true) (hlen : j < fs.length) (kk : G C cs ss (pc + 3) ls st (setM M g k (cO ci (fs.set j sv)))) : G C cs ss pc ls (v :: aR g k 0 :: st) M := by
  obtain ⟨p, l, e, s, m, args, below, meth, c, Q, hx, hb, hml, hown, hts, hV, hKS, hH, hA, hN, hw, hlk, hE⟩ := hC
  intro P H locs la h1 h2 h3 h4 h5
  have hcell := h2.1 g k _ hM
  have hap := va_apart (own := own) (D := (kGl C).1) (cl := vwCl) hts hin ty0 hty hnm hV.1 hc
  obtain ⟨r, g1, cell, q1, q2, q3, q4⟩ := hcell
  have hr : r = (Cn, T, N) := Option.some.inj (g1.symm.trans hc)
  subst hr
  obtain ⟨hS, hfc, kC, hkC, hkind⟩ := hV.1.1 ci _ hc
  obtain ⟨cf, kf, fi, f, hi, hsl⟩ := hS j hj
  have hlay := hts _ (hin _ (u_in_lay hj))
  unfold u_lay at hlay
  rw [if_neg (by rw [hfin]; decide)] at hlay
  have hst := (u_facts hfc hkC (u_lays hts hin hj) hi).1
  have h6 := u_store hfc hkC hkind hlay hi hdes (hnar P) (hfit P)
  rw [hw]
  refine W.putK hx hb (f := f) ⟨hown, hts _ hl, ⟨_, _, _, by rw [← href]; exact hi⟩, hst⟩ (by rw [q2]; exact h6) q1 q3 (by rw [hsl]; exact k2_hasslot (q4 j hj)) rfl rfl hd fun H1 e1 e2 e3 => ?_
  rw [hsl] at e1
  have hc1 : cellAt (kGl C) P g k H1 (cO ci (fs.set j sv)) := by
    refine ⟨_, hc, t_OB.to (V := updV (vp_V (fs.map (sOf P g))) j (vOf (kGl C) P v)) ⟨_, e1, q2, q3, t_set q4 hap hj _⟩ (fun i _ => ?_)⟩
    rw [vp_updV_set (by rw [List.length_map]; exact hlen), List.map_set, ← vOf_ldS (kGl C), hsv]
  have kq := kk P H1 (locs ++ [⟨P g k 0, f.slot⟩]) la (h1.set hM) (h2.set hM rfl (Nat.le_refl _) hc1 e3) (h3.set hM rfl) (h4.put e2 e3 (h3 g k 0 ⟨_, hM, Nat.zero_le _⟩)) h5
  rw [hw] at kq
  exact kq
theorem g_putF {post : Option AV → AM → Prop} {mc ms : Nat} (hC : Ok C cc own nL R (End C none "<init>" post mc ms)) {index ci N j g k : Nat} {ref Cn : String} {T : u_T} {fs : List SV} {ty : FieldType} (ty0 : Nat → FieldType) (hd : decode cc pc = .ok (.putfield index, 3)) (hl : Cond.fieldLink own index ref (T j).2.1 (T j).2.2.1 ∈ tbG) (hc : vwCl[ci]? = some (Cn, T, N)) (hin : ∀ w ∈ u_ws Cn T N, w ∈ tbG) (hty : ∀ k, k < N → parseFieldDescriptor (T k).2.2.1 = some (ty0 k)) (hnm : ∀ a, a < N → ∀ b, b < N → a ≠ b → (T a).2.1 ≠ (T b).2.1) (hj : j < N) (href : (T j).1 = ref) (hfin : (T j).2.2.2 = true) (hdecl : (T j).1 = own) (hM : getM M g k = some (cO ci fs)) {sv : SV} {v : AV} (hsv : ldS g sv = v) (hdes : parseFieldDescriptor (T j).2.2.1 = some ty) (hnar : ∀ P, narrow ty (vOf (kGl C) P v) = vOf (kGl C) P v) (hfit : ∀ P, fits ty (vOf (kGl C) P v) = true) (hlen : j < fs.length) (kk : G C cs ss (pc + 3) ls st (setM M g k (cO ci (fs.set j sv)))) : G C cs ss pc ls (v :: aR g k 0 :: st) M := by
  obtain ⟨p, l, e, s, m, args, below, meth, c, Q, hx, hb, hml, hown, hts, hV, hKS, hH, hA, hN, hw, hlk, hE⟩ := hC
  intro P H locs la h1 h2 h3 h4 h5
  have hcell := h2.1 g k _ hM
  have hap := va_apart (own := own) (D := (kGl C).1) (cl := vwCl) hts hin ty0 hty hnm hV.1 hc
  obtain ⟨r, g1, cell, q1, q2, q3, q4⟩ := hcell
  have hr : r = (Cn, T, N) := Option.some.inj (g1.symm.trans hc)
  subst hr
  obtain ⟨hS, hfc, kC, hkC, hkind⟩ := hV.1.1 ci _ hc
  obtain ⟨cf, kf, fi, f, hi, hsl⟩ := hS j hj
  have hlay := hts _ (hin _ (u_in_lay hj))
  unfold u_lay at hlay
  rw [if_pos hfin] at hlay
  have hst := (u_facts hfc hkC (u_lays hts hin hj) hi).1
  have hcf : m.cls = cf := by
    obtain ⟨_, _, c', _, _, _, -, -, hf', -, -, -, hown2, -⟩ := Cond.laysFinal_spec hlay
    have e1 : c' = cf := by have := hi.symm.trans hf'; simp at this; exact this.1.symm
    rw [hdecl] at hown2
    rw [← e1]; exact Option.some.inj (hown.symm.trans hown2)
  have h6 := u_fits hfc hkC hkind (Or.inr hlay) hi hdes (hnar P) (hfit P)
  rw [hw]
  refine W.putFinK hx hb hown (hts _ hl) (by rw [← href]; exact hi) hst hcf hE.2.2 (by rw [q2]; exact h6) q1 q3 (by rw [hsl]; exact k2_hasslot (q4 j hj)) rfl rfl hd fun H1 e1 e2 e3 => ?_
  rw [hsl] at e1
  have hc1 : cellAt (kGl C) P g k H1 (cO ci (fs.set j sv)) := by
    refine ⟨_, hc, t_OB.to (V := updV (vp_V (fs.map (sOf P g))) j (vOf (kGl C) P v)) ⟨_, e1, q2, q3, t_set q4 hap hj _⟩ (fun i _ => ?_)⟩
    rw [vp_updV_set (by rw [List.length_map]; exact hlen), List.map_set, ← vOf_ldS (kGl C), hsv]
  have kq := kk P H1 (locs ++ [⟨P g k 0, f.slot⟩]) la (h1.set hM) (h2.set hM rfl (Nat.le_refl _) hc1 e3) (h3.set hM rfl) (h4.put e2 e3 (h3 g k 0 ⟨_, hM, Nat.zero_le _⟩)) h5
  rw [hw] at kq
  exact kq
theorem g_iret {ret : Option FieldType} {nm : String} {post : Option AV → AM → Prop} (hC : Ok C cc own nL R (End C ret nm post cs ss)) {v : Int32} (hret : ret = some .int) (hd : decode cc pc = .ok (.ireturn, 1)) (hp : post (some (aI v)) M) : G C cs ss pc ls [aI v] M := by
  obtain ⟨p, l, e, s, m, args, below, meth, c, Q, hx, hb, hml, hown, hts, hV, hKS, hH, hA, hN, hw, hlk, hE⟩ := hC
  intro P H locs la h1 h2 h3 h4 h5
  rw [hw, hE.1]
  subst hret
  exact W.iret hx hb hE.2.1 (fun t ht _ => ⟨some (aI v), M, P, rfl, hp, h1, by rw [ht]; exact h2, h3, va_S.F (by rw [hH]; exact h4) ht⟩) h4.2.2 hd hlk
theorem g_zret {ret : Option FieldType} {nm : String} {post : Option AV → AM → Prop} (hC : Ok C cc own nL R (End C ret nm post cs ss)) {v : Int32} {ty : FieldType} (hret : ret = some ty) (hv : narrow ty (.int v) = .int v) (hd : decode cc pc = .ok (.ireturn, 1)) (hp : post (some (aI v)) M) : G C cs ss pc ls [aI v] M := by
  obtain ⟨p, l, e, s, m, args, below, meth, c, Q, hx, hb, hml, hown, hts, hV, hKS, hH, hA, hN, hw, hlk, hE⟩ := hC
  intro P H locs la h1 h2 h3 h4 h5
  rw [hw, hE.1]
  subst hret
  exact W.zret hx hb hE.2.1 hv (fun t ht _ => ⟨some (aI v), M, P, rfl, hp, h1, by rw [ht]; exact h2, h3, va_S.F (by rw [hH]; exact h4) ht⟩) h4.2.2 hd hlk
theorem g_lret {ret : Option FieldType} {nm : String} {post : Option AV → AM → Prop} (hC : Ok C cc own nL R (End C ret nm post cs ss)) {v : Int64} (hret : ret = some .long) (hd : decode cc pc = .ok (.lreturn, 1)) (hp : post (some (aL v)) M) : G C cs ss pc ls [aL v] M := by
  obtain ⟨p, l, e, s, m, args, below, meth, c, Q, hx, hb, hml, hown, hts, hV, hKS, hH, hA, hN, hw, hlk, hE⟩ := hC
  intro P H locs la h1 h2 h3 h4 h5
  rw [hw, hE.1]
  subst hret
  exact W.lret hx hb hE.2.1 (fun t ht _ => ⟨some (aL v), M, P, rfl, hp, h1, by rw [ht]; exact h2, h3, va_S.F (by rw [hH]; exact h4) ht⟩) h4.2.2 hd hlk
theorem g_vret {ret : Option FieldType} {nm : String} {post : Option AV → AM → Prop} (hC : Ok C cc own nL R (End C ret nm post cs ss)) (hret : ret = none) (hd : decode cc pc = .ok (.return_, 1)) (hp : post none M) : G C cs ss pc ls [] M := by
  obtain ⟨p, l, e, s, m, args, below, meth, c, Q, hx, hb, hml, hown, hts, hV, hKS, hH, hA, hN, hw, hlk, hE⟩ := hC
  intro P H locs la h1 h2 h3 h4 h5
  rw [hw, hE.1]
  subst hret
  exact W.vret hx hb hE.2.1 (fun t ht _ => ⟨none, M, P, rfl, hp, h1, by rw [ht]; exact h2, h3, va_S.F (by rw [hH]; exact h4) ht⟩) h4.2.2 hd hlk
theorem g_widen (hC : Ok C cc own nL R E) {cs' ss' : Nat} (c1 : cs ≤ cs') (c2 : ss ≤ ss') (k : G C cs' ss' pc ls st M) : G C cs ss pc ls st M := by
  obtain ⟨p, l, e, s, m, args, below, meth, c, Q, hx, hb, hml, hown, hts, hV, hKS, hH, hA, hN, hw, hlk, hE⟩ := hC
  intro P H locs la h1 h2 h3 h4 h5
  have k := k P H locs la h1 h2 h3 h4 h5
  rw [hw] at k ⊢
  exact W.widen c1 c2 k
end GI
