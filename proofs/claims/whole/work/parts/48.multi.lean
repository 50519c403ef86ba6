/-! ===== multianewarray: rows of rows ===== -/
theorem arrOver_spec {args : Array Value} {first s : State} {o : Option Outcome} {idx : List Nat} {t : FieldType} (h : (Cond.arrayOver (.array t)).holds args first o s idx = true) :
    ∃ comp c k, s.vm.findClass (FieldType.array t).toString = some comp ∧ s.vm.classes[c]? = some k ∧ k.kind = .array comp (.array t) ∧ s.vm.findClass ("[" ++ (FieldType.array t).toString) = some c := by
  simp only [Cond.holds, Cond.value, beq_iff_eq] at h
  cases hc : s.vm.findClass (FieldType.array t).toString with
  | none => simp [hc] at h
  | some comp =>
    simp only [hc, Option.bind_some, Option.bind_eq_some_iff, Option.map_eq_some_iff] at h
    obtain ⟨c, hi, k, hk, hb⟩ := h
    obtain ⟨hlt, hp, -⟩ := Array.findIdx?_eq_some_iff_getElem.mp hi
    have hkk : s.vm.classes[c] = k := (Array.getElem?_eq_some_iff.mp hk).2
    rw [hkk] at hp
    cases hkind : k.kind with
    | array component ty =>
      rw [hkind] at hb hp
      simp at hb hp
      exact ⟨comp, c, k, rfl, hk, by rw [hkind, hp, hb.1], hb.2⟩
    | _ => rw [hkind] at hb; simp at hb
def mu_f (h i : Nat) : Nat → Value := fun j => if j < i then .ref (h + 1 + j) else .null
def mu_S (T : State) (h : Nat) (cA cI : ClassId) (r n : Nat) : Nat → State
  | 0 => T.pushCell (arrV cA r (mu_f h 0))
  | i + 1 => ((mu_S T h cA cI r n i).pushCell (arrV cI n (fun _ => .int 0))).setCell h (arrV cA r (mu_f h (i + 1)))
theorem mu_f_succ (h i : Nat) : updV (mu_f h i) i (.ref (h + 1 + i)) = mu_f h (i + 1) := by
  funext j
  show (if j = i then Value.ref (h + 1 + i) else if j < i then .ref (h + 1 + j) else .null) = if j < i + 1 then .ref (h + 1 + j) else .null
  by_cases h1 : j = i
  · subst h1; rw [if_pos rfl, if_pos (by omega)]
  · by_cases h2 : j < i
    · rw [if_neg h1, if_pos h2, if_pos (by omega)]
    · rw [if_neg h1, if_neg h2, if_neg (by omega)]
theorem mu_vm (T : State) (h : Nat) (cA cI : ClassId) (r n : Nat) : ∀ i, (mu_S T h cA cI r n i).vm = T.vm
  | 0 => rfl
  | i + 1 => mu_vm T h cA cI r n i
theorem mu_top (T : State) (h : Nat) (cA cI : ClassId) (r n : Nat) : ∀ i, (mu_S T h cA cI r n i).topJava? = T.topJava?
  | 0 => rfl
  | i + 1 => mu_top T h cA cI r n i
theorem mu_heap (T : State) {h : Nat} (hh : T.heap.size = h) (cA cI : ClassId) (r n : Nat) : ∀ i, (mu_S T h cA cI r n i).heap.size = h + 1 + i ∧ (mu_S T h cA cI r n i).heap[h]? = some (arrV cA r (mu_f h i)) ∧ (∀ j, j < i → (mu_S T h cA cI r n i).heap[h + 1 + j]? = some (arrV cI n (fun _ => .int 0))) ∧ (∀ q, q < h → (mu_S T h cA cI r n i).heap[q]? = T.heap[q]?)
  | 0 => by
    subst hh
    refine ⟨by show (T.heap.push _).size = _; simp, by show (T.heap.push _)[T.heap.size]? = _; simp, fun j hj => absurd hj (Nat.not_lt_zero _), fun q hq => ?_⟩
    show (T.heap.push _)[q]? = _
    rw [Array.getElem?_push, if_neg (Nat.ne_of_lt hq)]
  | i + 1 => by
    obtain ⟨h1, h2, h3, h4⟩ := mu_heap T hh cA cI r n i
    have e : ∀ q : Nat, (mu_S T h cA cI r n (i + 1)).heap[q]? = if h = q then some (arrV cA r (mu_f h (i + 1))) else if q = h + 1 + i then some (arrV cI n (fun _ => .int 0)) else (mu_S T h cA cI r n i).heap[q]? := by
      intro q
      show (((mu_S T h cA cI r n i).heap.push _).setIfInBounds h _)[q]? = _
      rw [Array.getElem?_setIfInBounds, Array.size_push, h1]
      by_cases c1 : h = q
      · subst c1
        rw [if_pos rfl, if_pos rfl, if_pos (by omega)]
      · rw [if_neg c1, if_neg c1, Array.getElem?_push, h1]
    refine ⟨?_, ?_, fun j hj => ?_, fun q hq => ?_⟩
    · show (((mu_S T h cA cI r n i).heap.push _).setIfInBounds h _).size = _
      rw [Array.size_setIfInBounds, Array.size_push, h1]
      omega
    · rw [e, if_pos rfl]
    · rw [e, if_neg (by omega)]
      by_cases c1 : j = i
      · rw [c1, if_pos rfl]
      · rw [if_neg (by omega)]
        exact h3 j (by omega)
    · rw [e, if_neg (by omega), if_neg (by omega)]
      exact h4 q hq
section MU
variable {p : Program} {l : Launch} {e : Env} {R : Room} {s : State} {m : MethodId} {args : Array Value} {below : List Frame} {meth : Method} {c : Code} {cells slots : Nat}
theorem mu_stand {T : State} {locs : List Loc} (X : Stand p l e R s m args below meth c T locs cells slots) {h : Nat} (hh : T.heap.size = h) (cA cI : ClassId) (r n : Nat) : ∀ i, ∃ L : List Loc, (∀ q ∈ L, q.base = h) ∧ Stand p l e R s m args below meth c (mu_S T h cA cI r n i) (locs ++ L) (cells + 1 + i) (slots + r + n * i)
  | 0 => ⟨[], fun _ q => (by cases q), by
    have := X.pushed (arrV cA r (mu_f h 0))
    rw [arrV_size] at this
    rw [List.append_nil, Nat.add_zero, Nat.mul_zero, Nat.add_zero]
    exact this⟩
  | i + 1 => by
    obtain ⟨L, h1, X1⟩ := mu_stand X hh cA cI r n i
    obtain ⟨g1, g2, -, -⟩ := mu_heap T hh cA cI r n i
    have X2 := X1.pushed (arrV cI n (fun _ => .int 0))
    rw [arrV_size] at X2
    have g3 : ((mu_S T h cA cI r n i).pushCell (arrV cI n (fun _ => .int 0))).heap[h]? = some (arrV cA r (mu_f h i)) := by
      show ((mu_S T h cA cI r n i).heap.push _)[h]? = _
      rw [Array.getElem?_push, if_neg (by omega)]
      exact g2
    have X3 := X2.stored g3 i (.ref (h + 1 + i))
    rw [arrV_store, mu_f_succ] at X3
    refine ⟨L ++ [⟨h, i⟩], fun q hq => ?_, ?_⟩
    · rcases List.mem_append.mp hq with z | z
      · exact h1 q z
      · rw [List.mem_singleton] at z
        rw [z]
    · rw [← List.append_assoc]
      show Stand p l e R s m args below meth c (((mu_S T h cA cI r n i).pushCell (arrV cI n (fun _ => .int 0))).setCell h (arrV cA r (mu_f h (i + 1)))) _ _ _
      rw [show cells + 1 + (i + 1) = cells + 1 + i + 1 by omega, show slots + r + n * (i + 1) = slots + r + n * i + n by rw [Nat.mul_succ]; omega]
      exact X3
end MU
section MUW
variable {E : CtlPost} {e : Env} {d : Bool} {acts : List Action} {Q : Unit → Pre}
theorem mu_row {s : State} {cI comp : ClassId} {kI : Class} {n : Nat} {Q : Addr → Pre} (hkI : s.vm.classes[cI]? = some kI) (hkindI : kI.kind = .array comp .int) (hn31 : n < 2 ^ 31) (hlimit : ¬ n > e.platform.arrayLengthLimit) (hheap : ¬ n * componentBytes .int > e.platform.maxHeapBytes) (hcells : s.heap.size < e.platform.maxCells) (hslots : s.slotsUsed + n ≤ e.platform.maxSlots)
    (hq : ∀ acts', Q s.heap.size d acts' (s.pushCell (arrV cI n (fun _ => .int 0)))) : wp (Jvm.Op.multianewarray.make cI [nI n]) Q E e d acts s := by
  have hn : ¬ nI n < 0 := nI_pos hn31
  have hcl : (nI n).toNatClampNeg = n := nI_clamp hn31
  unfold Jvm.Op.multianewarray.make
  simp only [wp_bind', hn, if_false, wp_pure', W.theClass, hkI, Option.some.injEq, exists_eq_left', hkindI, hcl]
  refine W.newArray_of hkI hkindI hlimit hheap hcells hslots rfl (fun acts' => ?_)
  have := hq acts'
  rw [← arrV_new] at this
  exact this
theorem mu_wp {index : Nat} {cA cI comp : ClassId} {kA kI : Class} {r n : Nat} {rest : List Value} {T : State} {f : JFrame} {vm1 : Vm} (hs : T.topJava?.isSome) (hg : (Jvm.resolveClass f.method.cls index).Gives e.toSetting T.vm (.ok cA) vm1) (hsz : vm1.classes.size ≤ T.vm.classes.size)
    (hkA : vm1.classes[cA]? = some kA) (hkindA : kA.kind = .array cI (.array .int)) (hkI : vm1.classes[cI]? = some kI) (hkindI : kI.kind = .array comp .int) (hstack : f.stack = .int (nI n) :: .int (nI r) :: rest) (hr31 : r < 2 ^ 31) (hn31 : n < 2 ^ 31) (hr0 : 0 < r)
    (hl1 : ¬ r > e.platform.arrayLengthLimit) (hb1 : ¬ r * componentBytes (.array .int) > e.platform.maxHeapBytes) (hl2 : ¬ n > e.platform.arrayLengthLimit) (hb2 : ¬ n * componentBytes .int > e.platform.maxHeapBytes)
    (hc0 : T.heap.size < e.platform.maxCells) (hs0 : T.slotsUsed + r ≤ e.platform.maxSlots)
    (hroom : ∀ i, i < r → (mu_S (T.setVm vm1) T.heap.size cA cI r n i).heap.size < e.platform.maxCells ∧ (mu_S (T.setVm vm1) T.heap.size cA cI r n i).slotsUsed + n ≤ e.platform.maxSlots)
    (hq : ∀ d' acts', Q () d' acts' ((mu_S (T.setVm vm1) T.heap.size cA cI r n r).setTop { f with stack := .ref T.heap.size :: rest })) : wp (Jvm.Op.multianewarray.sem index 2) Q E e d acts (T.setTop f) := by
  have hnr : ¬ nI r < 0 := nI_pos hr31
  have hcl : (nI r).toNatClampNeg = r := nI_clamp hr31
  unfold Jvm.Op.multianewarray.sem
  rw [wp_bind', W.resolveClassAt_links (t := T.setTop f) (State.method?_setTop f hs) hg hsz, State.setVm_setTop, wp_bind']
  refine (Op.popN_top (args := [.int (nI r), .int (nI n)]) (s := T.setVm vm1) hs hstack).mpr ?_
  simp only [List.mapM_cons, List.mapM_nil, wp_bind', wp_pure']
  unfold Jvm.Op.multianewarray.make
  simp only [wp_bind', hnr, if_false, wp_pure', W.theClass, State.vm_setTop, State.vm_setVm, hkA, Option.some.injEq, exists_eq_left', hkindA, hcl]
  refine W.newArray_of hkA hkindA hl1 hb1 hc0 hs0 rfl (fun acts1 => ?_)
  have hne : (nI r == 0) = false := by
    rw [beq_eq_false_iff_ne]
    intro z
    have h1 : (nI r).toInt = r := nI_toInt hr31
    rw [z] at h1
    have h2 : (0 : Int32).toInt = 0 := by decide
    omega
  simp only [hne, Bool.false_eq_true, if_false, wp_bind', wp_pure', W.mark, Std.Legacy.Range.forIn_eq_forIn_range', Std.Legacy.Range.size]
  have hrg : List.range' 0 ((r - 0 + 1 - 1) / 1) 1 = List.range' 0 r := by simp
  refine wp_forIn_inv (fun rest' s' => ∃ i, i ≤ r ∧ rest' = List.range' i (r - i) ∧ s' = (mu_S (T.setVm vm1) T.heap.size cA cI r n i).setTop { f with stack := rest }) _ _ ⟨0, Nat.zero_le _, by simp, ?_⟩ ?_ ?_
  · rw [arrV_new]
    rfl
  · rintro x rest' s' d' acts' Q' ⟨i, hi, hx, rfl⟩ hk
    have hir : i < r := by
      by_cases q : i < r
      · exact q
      · rw [show r - i = 0 by omega] at hx
        cases hx
    obtain ⟨k, hk2⟩ : ∃ k, r - i = k + 1 := ⟨r - i - 1, by omega⟩
    rw [hk2, List.range'_succ] at hx
    obtain ⟨rfl, rfl⟩ := List.cons.inj hx
    obtain ⟨w1, w2⟩ := hroom x hir
    obtain ⟨g1, g2, -, -⟩ := mu_heap (T.setVm vm1) (h := T.heap.size) rfl cA cI r n x
    have hvm := mu_vm (T.setVm vm1) T.heap.size cA cI r n x
    simp only [wp_bind']
    refine mu_row (kI := kI) (comp := comp) (by show ((mu_S (T.setVm vm1) T.heap.size cA cI r n x).vm).classes[cI]? = _; rw [hvm]; exact hkI) hkindI hn31 hl2 hb2 w1 w2 (fun acts2 => ?_)
    simp only [wp_bind', W.writeLoc, wp_pure']
    refine ⟨arrV cA r (mu_f T.heap.size x), ?_, (by intro z; cases z), by rw [arrV_size]; exact hir, ?_, ?_⟩
    · show ((mu_S (T.setVm vm1) T.heap.size cA cI r n x).heap.push _)[T.heap.size]? = _
      rw [Array.getElem?_push, if_neg (by rw [g1]; show ¬ T.heap.size = T.heap.size + 1 + x; omega)]
      exact g2
    · have hk9 : (mu_S (T.setVm vm1) T.heap.size cA cI r n x).vm.classes[cA]? = some kA := by
        rw [hvm]
        exact hkA
      show State.fitsSlot _ cA .none x _ = true
      simp [State.fitsSlot, State.slotType?, hk9, hkindA] <;> rfl
    · refine hk _ _ _ ⟨x + 1, hir, by rw [show r - (x + 1) = k by omega], ?_⟩
      rw [arrV_store]
      have e9 : ((mu_S (T.setVm vm1) T.heap.size cA cI r n x).setTop { f with stack := rest }).heap.size = T.heap.size + 1 + x := g1
      rw [e9, mu_f_succ]
      rfl
  · rintro s' d' acts' ⟨i, hi, hx, rfl⟩
    have hir : i = r := by
      have := congrArg List.length hx
      rw [List.length_range'] at this
      simp at this
      omega
    subst hir
    have htp := mu_top (T.setVm vm1) T.heap.size cA cI i n i
    have hs9 : (mu_S (T.setVm vm1) T.heap.size cA cI i n i).topJava?.isSome := by rw [htp]; exact hs
    show wp (do Jvm.mark "op.multianewarray"; Jvm.pushRef T.heap.size) Q E e d' acts' ((mu_S (T.setVm vm1) T.heap.size cA cI i n i).setTop { f with stack := rest })
    simp only [wp_bind', W.mark, W.pushRef, State.topJava?_setTop' _ hs9, Option.some.injEq, exists_eq_left', State.setTop_setTop]
    exact hq _ _
end MUW
section MUK
variable {p : Program} {l : Launch} {e : Env} {R : Room} {s : State} {m : MethodId} {args : Array Value} {below : List Frame} {meth : Method} {c : Code} {H : Heap} {locs : List Loc} {cells slots : Nat} {Q : State → Prop}
theorem mu_W {cc : ByteArray} (hexec : p.tables.exec = Jvm.exec) (hb : c.code = cc) {own : String} {index : Nat} (hown : s.vm.findClass own = some m.cls) (hclink : (Cond.classLink own index "[[I").before args s = true) {args' : Array Value} (hover : (Cond.arrayOver (.array .int)).before args' s = true) (harr : (Cond.arrayClass .int).before args s = true)
    {g : JFrame} (hg : g.method = m) (hdg : decode cc g.pc = .ok (.multianewarray index 2, 4)) {r n : Nat} {rest : List Value} (hstack : g.stack = .int (nI n) :: .int (nI r) :: rest) (hr0 : 0 < r) (hr : r ≤ 100) (hn : n ≤ 100) (hcells : cells + 1 + r ≤ R.cells) (hslots : slots + r + n * r ≤ R.slots)
    (kk : ∀ (H1 : Heap) (cA cI : ClassId) (L : List Loc), s.vm.findClass "[[I" = some cA → s.vm.findClass "[I" = some cI → H1.size = H.size + 1 + r → H1[H.size]? = some (arrV cA r (fun i => .ref (H.size + 1 + i))) → (∀ j, j < r → H1[H.size + 1 + j]? = some (arrV cI n (fun _ => .int 0))) → (∀ q, q < H.size → H1[q]? = H[q]?) → (∀ q ∈ L, q.base = H.size) →
      W p l e R s m args below meth c H1 (locs ++ L) (cells + 1 + r) (slots + r + n * r) Q { g with pc := g.pc + 4, stack := .ref H.size :: rest }) : W p l e R s m args below meth c H locs cells slots Q g := by
  intro T hT X
  subst hT; subst hb; subst hg
  have hpl : e.platform.magicAccessors = ({} : Platform).magicAccessors := by rw [X.admits.platform]
  obtain ⟨comp, cA, kA, hcomp, hkA, hkindA, hnameA⟩ := arrOver_spec hover
  obtain ⟨cI, kI, compI, hnI, hkI, hkindI⟩ := Cond.arrayClass_spec harr
  obtain ⟨cc, hfcc, hcl⟩ := Cond.classLink_spec hown hclink e.platform hpl
  have e1 : s.vm.findClass "[[I" = some cA := hnameA
  have e2 : s.vm.findClass "[I" = some cI := hnI
  have e3 : s.vm.findClass "[I" = some comp := hcomp
  obtain rfl : comp = cI := Option.some.inj (e3.symm.trans e2)
  obtain rfl : cc = cA := Option.some.inj (hfcc.symm.trans e1)
  obtain ⟨hg1, hwarm1, hready1⟩ := State.classEntry (e := e) X.warmed hcl
  have hsz : (T.vm.noted g.method.cls index (.cls cc)).classes.size ≤ T.vm.classes.size := by no_record
  generalize T.vm.noted g.method.cls index (.cls cc) = vm1 at hg1 hwarm1 hready1 hsz
  have hal : s.vm.Alike vm1 := hwarm1.alike
  obtain ⟨kA1, hkA1, heA⟩ := hal.2.2 _ _ hkA
  obtain ⟨kI1, hkI1, heI⟩ := hal.2.2 _ _ hkI
  have hkindA1 : kA1.kind = .array comp (.array .int) := by rw [heA]; exact hkindA
  have hkindI1 : kI1.kind = .array compI .int := by rw [heI]; exact hkindI
  have X1 := X.noted hwarm1
  obtain ⟨L, hL, XL⟩ := mu_stand X1 (h := T.heap.size) rfl cc comp r n r
  obtain ⟨g1, g2, g3, g4⟩ := mu_heap (T.setVm vm1) (h := T.heap.size) rfl cc comp r n r
  have hf : arrV cc r (mu_f T.heap.size r) = arrV cc r (fun i => .ref (T.heap.size + 1 + i)) := by
    show ({ cls := cc, slots := Array.ofFn (n := r) fun j => mu_f T.heap.size r j.val, vm := .none } : Cell) = { cls := cc, slots := Array.ofFn (n := r) fun j => .ref (T.heap.size + 1 + j.val), vm := .none }
    congr 2
    funext j
    exact if_pos j.isLt
  obtain ⟨t, a1, b1⟩ := kk (mu_S (T.setVm vm1) T.heap.size cc comp r n r).heap cc comp L e1 e2 g1 (by rw [← hf]; exact g2) g3 g4 hL _ rfl XL
  refine ⟨t, ?_, b1⟩
  refine Steps.instr (c := c) (by simpa using X.here) ?_
  obtain ⟨r1, r2⟩ := X1.roomAbove (a := 1) (b := r) (by omega) (by omega)
  have hlim : ¬ r > e.platform.arrayLengthLimit := by rw [Launch.admits_arrayLengthLimit X.admits]; omega
  have hlim2 : ¬ n > e.platform.arrayLengthLimit := by rw [Launch.admits_arrayLengthLimit X.admits]; omega
  have hh1 : ¬ r * componentBytes (.array .int) > e.platform.maxHeapBytes := by rw [Launch.admits_maxHeapBytes X.admits]; show ¬ r * 4 > 536870912; omega
  have hh2 : ¬ n * componentBytes .int > e.platform.maxHeapBytes := by rw [Launch.admits_maxHeapBytes X.admits]; show ¬ n * 4 > 536870912; omega
  simp only [hdg, hexec]
  refine mu_wp (T := T) (f := g) (kA := kA1) (kI := kI1) X.here.top hg1 hsz hkA1 hkindA1 hkI1 hkindI1 hstack (by omega) (by omega) hr0 hlim hh1 hlim2 hh2 (by have : T.heap.size + 1 ≤ e.platform.maxCells := r1; omega) r2 (fun i hi => ?_) (fun d' acts' acts => ?_)
  · obtain ⟨L2, -, X2⟩ := mu_stand X1 (h := T.heap.size) rfl cc comp r n i
    have hmul : n * (i + 1) ≤ n * r := Nat.mul_le_mul_left n (by omega)
    rw [Nat.mul_succ] at hmul
    obtain ⟨w1, w2⟩ := X2.roomAbove (a := 1) (b := n) (by omega) (by omega)
    exact ⟨w1, w2⟩
  · rw [afterInstr_ok]
    exact a1
end MUK
