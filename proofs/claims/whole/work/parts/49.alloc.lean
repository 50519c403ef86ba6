/-! ===== new cells in an abstract world ===== -/
def grpOk (G : List ACell) : Bool := G.all fun c => match c with
  | .inl o => o.2.all fun sv => match sv with
    | .inr (.inl k) => decide (k < G.length)
    | _ => true
  | _ => true
def Add (M : AM) (g k : Nat) (c : ACell) (M1 : AM) : Prop := getM M g k = none ∧ (∀ g' k', getM M1 g' k' = if g' = g ∧ k' = k then some c else getM M g' k') ∧ ∀ g1 k1 q, getM M g1 k1 = some (.inl q) → (g1 = g → sR k ∉ q.2) ∧ (k = 0 → sG g ∉ q.2)
theorem Add.app {M : AM} {g : Nat} {G : List ACell} {c : ACell} (hg : M[g]? = some G) (hok : grpOk G = true) (h0 : G.length ≠ 0) : Add M g G.length c (M.set g (G ++ [c])) := by
  have hlt : g < M.length := (List.getElem?_eq_some_iff.mp hg).1
  refine ⟨?_, fun g' k' => ?_, fun g1 k1 q hq => ⟨fun e hm => ?_, fun e => absurd e h0⟩⟩
  · unfold getM
    rw [hg]
    exact List.getElem?_eq_none (Nat.le_refl _)
  · unfold getM
    by_cases e1 : g' = g
    · subst e1
      rw [List.getElem?_set_self hlt, hg]
      show (G ++ [c])[k']? = _
      by_cases e2 : k' = G.length
      · subst e2
        rw [if_pos ⟨rfl, rfl⟩]
        simp
      · rw [if_neg (fun z => e2 z.2)]
        by_cases e3 : k' < G.length
        · rw [List.getElem?_append_left e3]
        · rw [List.getElem?_eq_none (by simp; omega)]
          exact (List.getElem?_eq_none (by omega)).symm
    · rw [List.getElem?_set_ne (Ne.symm e1), if_neg (fun z => e1 z.1)]
  · subst e
    obtain ⟨G', a1, a2⟩ := getM_some.mp hq
    rw [hg] at a1
    cases a1
    have b1 := List.all_eq_true.mp hok _ (List.mem_of_getElem? a2)
    have b2 := List.all_eq_true.mp b1 _ hm
    have b3 : decide (G.length < G.length) = true := b2
    simp at b3
theorem Add.grp {M : AM} {c : ACell} (hg : gAll M = true) : Add M M.length 0 c (M ++ [[c]]) := by
  refine ⟨?_, fun g' k' => ?_, fun g1 k1 q hq => ⟨fun e _ => ?_, fun _ hm => ?_⟩⟩
  · unfold getM
    rw [List.getElem?_eq_none (Nat.le_refl _)]
  · unfold getM
    by_cases e1 : g' = M.length
    · subst e1
      rw [List.getElem?_append_right (Nat.le_refl _), Nat.sub_self]
      show [c][k']? = _
      cases k' with
      | zero => rw [if_pos ⟨rfl, rfl⟩]; rfl
      | succ k' =>
        rw [if_neg (fun z => by cases z.2), List.getElem?_eq_none (l := M) (Nat.le_refl _)]
        rfl
    · rw [if_neg (fun z => e1 z.1)]
      by_cases e2 : g' < M.length
      · rw [List.getElem?_append_left e2]
      · rw [List.getElem?_eq_none (by simp; omega), List.getElem?_eq_none (by omega)]
  · obtain ⟨G, a1, -⟩ := getM_some.mp hq
    have := (List.getElem?_eq_some_iff.mp a1).1
    omega
  · obtain ⟨G, a1, -⟩ := gAll_at hg hq hm
    have := (List.getElem?_eq_some_iff.mp a1).1
    omega
def newP (P : Ad) (g k : Nat) (a : Nat → Nat) : Ad := fun g' k' w => if g' = g ∧ k' = k then a w else P g' k' w
theorem newP_at (P : Ad) (g k : Nat) (a : Nat → Nat) (w : Nat) : newP P g k a g k w = a w := if_pos ⟨rfl, rfl⟩
theorem newP_ne {P : Ad} {g k g' k' : Nat} {a : Nat → Nat} {w : Nat} (h : ¬ (g' = g ∧ k' = k)) : newP P g k a g' k' w = P g' k' w := if_neg h
theorem Add.ext {M M1 : AM} {P : Ad} {g k : Nat} {c : ACell} {a : Nat → Nat} (ha : Add M g k c M1) : Ext P M (newP P g k a) M1 := by
  intro g' k' ho
  obtain ⟨c', hc'⟩ := old_get ho
  have hne : ¬ (g' = g ∧ k' = k) := fun z => by rw [z.1, z.2, ha.1] at hc'; cases hc'
  exact ⟨old_of (c := c') (by rw [ha.2.1, if_neg hne]; exact hc'), fun w => newP_ne hne⟩
theorem Rep.add {gl : Gl} {P : Ad} {M M1 : AM} {H H1 : Heap} {g k : Nat} {c : ACell} {a : Nat → Nat} (h : Rep gl P M H) (ha : Add M g k c M1) (hf : ∀ w, w ≤ rowsOf c → H.size ≤ a w) (hi : ∀ w w', w ≤ rowsOf c → w' ≤ rowsOf c → a w = a w' → w = w') (hc : cellAt gl (newP P g k a) g k H1 c) (hk : ∀ q : Nat, q < H.size → H1[q]? = H[q]?) : Rep gl (newP P g k a) M1 H1 := by
  have vcase : ∀ g' k' w, vld M1 g' k' w → (g' = g ∧ k' = k ∧ w ≤ rowsOf c) ∨ (¬ (g' = g ∧ k' = k) ∧ vld M g' k' w) := by
    intro g' k' w ⟨c', c1, c2⟩
    rw [ha.2.1] at c1
    by_cases e : g' = g ∧ k' = k
    · rw [if_pos e] at c1
      cases c1
      exact Or.inl ⟨e.1, e.2, c2⟩
    · rw [if_neg e] at c1
      exact Or.inr ⟨e, c', c1, c2⟩
  refine ⟨fun g' k' c' hc' => ?_, fun g1 k1 w1 g2 k2 w2 v1 v2 e => ?_⟩
  · rw [ha.2.1] at hc'
    by_cases e : g' = g ∧ k' = k
    · rw [if_pos e] at hc'
      cases hc'
      obtain ⟨rfl, rfl⟩ := e
      exact hc
    · rw [if_neg e] at hc'
      have hcell := h.1 g' k' c' hc'
      have hcell1 : cellAt gl P g' k' H1 c' := hcell.kept (fun w hw => hk _ (hcell.lt hw))
      have hp : ∀ w, newP P g k a g' k' w = P g' k' w := fun w => newP_ne e
      rcases c' with q | q | q | q
      · have hr := ha.2.2 g' k' q hc'
        have em : q.2.map (sOf (newP P g k a) g') = q.2.map (sOf P g') := by
          refine List.map_congr_left fun sv hsv => ?_
          rcases sv with x | x | x | x
          · rfl
          · show Value.ref _ = Value.ref _
            rw [newP_ne (fun z => by rw [z.2] at hsv; exact hr.1 z.1 hsv)]
          · show Value.ref _ = Value.ref _
            rw [newP_ne (fun z => by rw [z.1] at hsv; exact hr.2 z.2.symm hsv)]
          · rfl
        show va_at gl.1 vwCl (newP P g k a g' k' 0, .inr (q.1, q.2.map (sOf (newP P g k a) g'))) H1
        rw [em, hp]
        exact hcell1
      · show H1[newP P g k a g' k' 0]? = _
        rw [hp]
        exact hcell1
      · show H1[newP P g k a g' k' 0]? = _
        rw [hp]
        exact hcell1
      · refine ⟨?_, fun i hi2 => ?_⟩
        · rw [hp]
          refine hcell1.1.trans ?_
          congr 2
          funext i
          rw [hp]
        · rw [hp]
          exact hcell1.2 i hi2
  · rcases vcase _ _ _ v1 with ⟨rfl, rfl, l1⟩ | ⟨n1, o1⟩ <;> rcases vcase _ _ _ v2 with ⟨rfl, rfl, l2⟩ | ⟨n2, o2⟩
    · rw [newP_at, newP_at] at e
      exact ⟨rfl, rfl, hi _ _ l1 l2 e⟩
    · rw [newP_at, newP_ne n2] at e
      have := hf _ l1
      have := h.lt o2
      omega
    · rw [newP_ne n1, newP_at] at e
      have := hf _ l2
      have := h.lt o1
      omega
    · rw [newP_ne n1, newP_ne n2] at e
      exact h.2 _ _ _ _ _ _ o1 o2 e
theorem Own.add {A : Nat → Prop} {P : Ad} {M M1 : AM} {g k n : Nat} {c : ACell} {a : Nat → Nat} (h : Own A P M) (ha : Add M g k c M1) (hf : ∀ w, w ≤ rowsOf c → n ≤ a w) (hA : ∀ q, n ≤ q → A q) : Own A (newP P g k a) M1 := by
  intro g' k' w ⟨c', c1, c2⟩
  rw [ha.2.1] at c1
  by_cases e : g' = g ∧ k' = k
  · rw [if_pos e] at c1
    cases c1
    obtain ⟨rfl, rfl⟩ := e
    rw [newP_at]
    exact hA _ (hf _ c2)
  · rw [if_neg e] at c1
    rw [newP_ne e]
    exact h g' k' w ⟨c', c1, c2⟩
theorem va_S.grow {A : Nat → Prop} {H0 H H1 : Heap} {locs L : List Loc} (h : va_S A H0 H locs) (hs : H.size ≤ H1.size) (hk : ∀ q : Nat, q < H.size → H1[q]? = H[q]?) (hL : ∀ q ∈ L, A q.base) : va_S A H0 H1 (locs ++ L) :=
  ⟨Nat.le_trans h.1 hs, fun x h1 h2 => (hk x (Nat.lt_of_lt_of_le h1 h.1)).trans (h.2.1 x h1 h2), fun q hq => by
    rcases List.mem_append.mp hq with z | z
    · exact h.2.2 q z
    · exact hL q z⟩
section GN
variable {C : Cx} {cc : ByteArray} {own : String} {nL : Nat} {R : Room} {E : State → Array Value → List Frame → Method → (State → Prop) → Prop} {cs ss pc : Nat} {ls st : List AV} {M M1 : AM}
theorem g_newaI (hC : Ok C cc own nL R E) {n g k : Nat} (hd : decode cc pc = .ok (.newarray .int, 2)) (w1 : Cond.arrayClass .int ∈ tbG) (hn : n ≤ 1000) (hR : cs + 1 ≤ R.cells ∧ ss + n ≤ R.slots) (ha : Add M g k (cA n (fun _ => nI 0)) M1) (hrs : refsOk M st = true) (hrl : refsOk M ls = true) (kk : G C (cs + 1) (ss + n) (pc + 2) ls (aR g k 0 :: st) M1) : G C cs ss pc ls (aI (nI n) :: st) M := by
  obtain ⟨p, l, e, s, m, args, below, meth, c, Q, hx, hb, hml, hown, hts, hV, hKS, hH, hA, hN, hw, hlk, hE⟩ := hC
  intro P H locs la h1 h2 h3 h4 h5
  rw [hw]
  have hn31 : n < 2 ^ 31 := by omega
  refine va_newaK (atype := .int) hx hb (hts _ w1) rfl hd rfl (nI_pos hn31) (nI_clamp hn31) (by show n * 4 ≤ 536870912; omega) hR.1 hR.2 rfl (fun H1 cI e1 z1 o1 hAr hNm => ?_)
  have hcI : cI = (kGl C).2.1 := Option.some.inj (hNm.symm.trans (show s.vm.findClass "[I" = some (kGl C).2.1 from (hV.1.2 0 _ rfl).2))
  subst hcI
  have kq := kk (newP P g k (fun _ => H.size)) H1 (locs ++ []) la (h1.trans ha.ext) (h2.add ha (fun _ _ => Nat.le_refl _) (fun w w' q q' _ => by
    have e1 : w = 0 := Nat.le_zero.mp q
    have e2 : w' = 0 := Nat.le_zero.mp q'
    rw [e1, e2]) (by show H1[newP P g k (fun _ => H.size) g k 0]? = _; rw [newP_at]; exact e1) o1) (h3.add ha (n := H.size) (fun _ _ => Nat.le_refl _) (fun q hq => hA q (Nat.le_trans h4.1 hq))) (h4.grow (by omega) o1 (fun q hq => by cases hq)) (h5.ext ha.ext hrl)
  rw [hw, List.append_nil, List.map_cons, map_ext (gl := kGl C) ha.ext hrs] at kq
  have e9 : vOf (kGl C) (newP P g k (fun _ => H.size)) (aR g k 0) = .ref H.size := by show Value.ref _ = _; rw [newP_at]
  rw [e9] at kq
  exact kq
theorem g_newaJ (hC : Ok C cc own nL R E) {n g k : Nat} (hd : decode cc pc = .ok (.newarray .long, 2)) (w1 : Cond.arrayClass .long ∈ tbG) (hn : n ≤ 1000) (hR : cs + 1 ≤ R.cells ∧ ss + n ≤ R.slots) (ha : Add M g k (cL n (fun _ => lN 0)) M1) (hrs : refsOk M st = true) (hrl : refsOk M ls = true) (kk : G C (cs + 1) (ss + n) (pc + 2) ls (aR g k 0 :: st) M1) : G C cs ss pc ls (aI (nI n) :: st) M := by
  obtain ⟨p, l, e, s, m, args, below, meth, c, Q, hx, hb, hml, hown, hts, hV, hKS, hH, hA, hN, hw, hlk, hE⟩ := hC
  intro P H locs la h1 h2 h3 h4 h5
  rw [hw]
  have hn31 : n < 2 ^ 31 := by omega
  refine va_newaK (atype := .long) hx hb (hts _ w1) rfl hd rfl (nI_pos hn31) (nI_clamp hn31) (by show n * 8 ≤ 536870912; omega) hR.1 hR.2 rfl (fun H1 cI e1 z1 o1 hAr hNm => ?_)
  have hcI : cI = (kGl C).2.2.1 := Option.some.inj (hNm.symm.trans (show s.vm.findClass "[J" = some (kGl C).2.2.1 from (hV.1.2 1 _ rfl).2))
  subst hcI
  have kq := kk (newP P g k (fun _ => H.size)) H1 (locs ++ []) la (h1.trans ha.ext) (h2.add ha (fun _ _ => Nat.le_refl _) (fun w w' q q' _ => by
    have e1 : w = 0 := Nat.le_zero.mp q
    have e2 : w' = 0 := Nat.le_zero.mp q'
    rw [e1, e2]) (by show H1[newP P g k (fun _ => H.size) g k 0]? = _; rw [newP_at]; exact e1) o1) (h3.add ha (n := H.size) (fun _ _ => Nat.le_refl _) (fun q hq => hA q (Nat.le_trans h4.1 hq))) (h4.grow (by omega) o1 (fun q hq => by cases hq)) (h5.ext ha.ext hrl)
  rw [hw, List.append_nil, List.map_cons, map_ext (gl := kGl C) ha.ext hrs] at kq
  have e9 : vOf (kGl C) (newP P g k (fun _ => H.size)) (aR g k 0) = .ref H.size := by show Value.ref _ = _; rw [newP_at]
  rw [e9] at kq
  exact kq
theorem g_multi (hC : Ok C cc own nL R E) {r n g k index : Nat} (hd : decode cc pc = .ok (.multianewarray index 2, 4)) (w0 : Cond.classLink own index "[[I" ∈ tbG) (w1 : Cond.arrayClass .int ∈ tbG) (hr0 : 0 < r) (hr : r ≤ 100) (hn : n ≤ 100) (hR : cs + 1 + r ≤ R.cells ∧ ss + r + n * r ≤ R.slots) (ha : Add M g k (cG r n (fun _ _ => nI 0)) M1) (hrs : refsOk M st = true) (hrl : refsOk M ls = true) (kk : G C (cs + 1 + r) (ss + r + n * r) (pc + 4) ls (aR g k 0 :: st) M1) : G C cs ss pc ls (aI (nI n) :: aI (nI r) :: st) M := by
  obtain ⟨p, l, e, s, m, args, below, meth, c, Q, hx, hb, hml, hown, hts, hV, hKS, hH, hA, hN, hw, hlk, hE⟩ := hC
  intro P H locs la h1 h2 h3 h4 h5
  rw [hw]
  refine mu_W hx hb hown (hts _ w0) hV.2.2.2.2.2.1 (hts _ w1) rfl hd rfl hr0 hr hn hR.1 hR.2 (fun H1 cA' cI' L e1 e2 z1 f1 f2 o1 hL => ?_)
  have hcA : cA' = (kGl C).2.2.2.1 := Option.some.inj (e1.symm.trans (show s.vm.findClass "[[I" = some (kGl C).2.2.2.1 from (hV.1.2 2 _ rfl).2))
  have hcI : cI' = (kGl C).2.1 := Option.some.inj (e2.symm.trans (show s.vm.findClass "[I" = some (kGl C).2.1 from (hV.1.2 0 _ rfl).2))
  subst hcA
  subst hcI
  have hAd : ∀ i, newP P g k (fun w => H.size + w) g k i = H.size + i := fun i => newP_at _ _ _ _ _
  have hcell : cellAt (kGl C) (newP P g k (fun w => H.size + w)) g k H1 (cG r n (fun _ _ => nI 0)) := by
    refine ⟨?_, fun i hi => ?_⟩
    · rw [hAd]
      refine f1.trans ?_
      congr 2
      funext i
      rw [hAd]
      show Value.ref (H.size + 1 + i) = Value.ref (H.size + (i + 1))
      rw [show H.size + 1 + i = H.size + (i + 1) by omega]
    · rw [hAd, show H.size + (i + 1) = H.size + 1 + i by omega]
      exact f2 i hi
  have kq := kk (newP P g k (fun w => H.size + w)) H1 (locs ++ L) la (h1.trans ha.ext) (h2.add ha (fun _ _ => Nat.le_add_right _ _) (fun w w' _ _ q => by have q : H.size + w = H.size + w' := q; omega) hcell o1) (h3.add ha (n := H.size) (fun _ _ => Nat.le_add_right _ _) (fun q hq => hA q (Nat.le_trans h4.1 hq))) (h4.grow (by omega) o1 (fun q hq => by rw [hL q hq]; exact hA _ h4.1)) (h5.ext ha.ext hrl)
  rw [hw, List.map_cons, map_ext (gl := kGl C) ha.ext hrs] at kq
  have e9 : vOf (kGl C) (newP P g k (fun w => H.size + w)) (aR g k 0) = .ref H.size := by show Value.ref _ = _; rw [newP_at]; rfl
  rw [e9] at kq
  exact kq
theorem g_new (hC : Ok C cc own nL R E) {Cn : String} {T : u_T} {N ci index g k : Nat} {fs : List SV} {fv : List Value} (ty0 : Nat → FieldType) (hd : decode cc pc = .ok (.new index, 3)) (hin : ∀ w ∈ u_ws Cn T N, w ∈ tbG) (hty : ∀ k, k < N → parseFieldDescriptor (T k).2.2.1 = some (ty0 k)) (w0 : Cond.classLink own index Cn ∈ tbG) (w1 : Cond.instantiable Cn N ∈ tbG) (w2 : Cond.initialized Cn ∈ tbG) (hc : vwCl[ci]? = some (Cn, T, N)) (hfs : ∀ j, j < N → defaultValue (ty0 j) = vp_V fv j) (hfv : ∀ P g, fs.map (sOf P g) = fv) (hR : cs + 1 ≤ R.cells ∧ ss + N ≤ R.slots) (ha : Add M g k (cO ci fs) M1) (hrs : refsOk M st = true) (hrl : refsOk M ls = true) (kk : G C (cs + 1) (ss + N) (pc + 3) ls (aR g k 0 :: st) M1) : G C cs ss pc ls st M := by
  obtain ⟨p, l, e, s, m, args, below, meth, c, Q, hx, hb, hml, hown, hts, hV, hKS, hH, hA, hN, hw, hlk, hE⟩ := hC
  intro P H locs la h1 h2 h3 h4 h5
  rw [hw]
  have hKn := hV.1.1 ci _ hc
  refine W.newcK hx hb hown (hts _ w0) (hts _ w1) (hts _ w2) rfl hd hR.1 hR.2 hKn.2.1 rfl fun H1 kC hkC e1 z1 o1 => ?_
  have hcell : cellAt (kGl C) (newP P g k (fun _ => H.size)) g k H1 (cO ci fs) := by
    show va_at (kGl C).1 vwCl (newP P g k (fun _ => H.size) g k 0, .inr (ci, fs.map (sOf (newP P g k (fun _ => H.size)) g))) H1
    rw [newP_at, hfv]
    exact ⟨_, hc, (u_born ty0 hts hin hKn hkC e1 hty).to hfs⟩
  have kq := kk (newP P g k (fun _ => H.size)) H1 (locs ++ []) la (h1.trans ha.ext) (h2.add ha (fun _ _ => Nat.le_refl _) (fun w w' q q' _ => by
    have e1 : w = 0 := Nat.le_zero.mp q
    have e2 : w' = 0 := Nat.le_zero.mp q'
    rw [e1, e2]) hcell o1) (h3.add ha (n := H.size) (fun _ _ => Nat.le_refl _) (fun q hq => hA q (Nat.le_trans h4.1 hq))) (h4.grow (by omega) o1 (fun q hq => by cases hq)) (h5.ext ha.ext hrl)
  rw [hw, List.append_nil, List.map_cons, map_ext (gl := kGl C) ha.ext hrs] at kq
  have e9 : vOf (kGl C) (newP P g k (fun _ => H.size)) (aR g k 0) = .ref H.size := by show Value.ref _ = _; rw [newP_at]
  rw [e9] at kq
  exact kq
end GN
