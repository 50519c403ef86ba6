theorem good_in {ws : List Cond} (h : ∀ w ∈ ws, w ∈ tbG) : GoodIn tbG ws := fun w hw => ⟨h w hw, good_of_word (List.mem_filter.mp (h w hw)).2⟩
theorem KS.blind {gl : Gl} {A : Nat → Prop} {U U1 : State} {H : Heap} (hv : U.vm.Alike U1.vm) (h : KS gl A U H) : KS gl A U1 H := ⟨vk_S.moved hv h.1, va_Z.moved hv h.2⟩
theorem KS.down {gl : Gl} {A B : Nat → Prop} {s : State} {H0 H : Heap} {locs : List Loc} (h : KS gl A s H0) (hS : va_S A H0 H locs) (hAB : ∀ q, B q → A q) : KS gl B s H :=
  ⟨vk_S.narrow (vk_S.kept h.1 hS.2.1) hAB, va_Z.narrow (va_Z.kept h.2 hS.2.1) hAB⟩
theorem PCC.blind (gl : Gl) (P0 : Ad) (M0 : AM) (sz : Nat) (av : List AV) : FrameBlind (PCC gl P0 M0 sz av) := fun a U g mk h =>
  ⟨h.1, h.2.1, h.2.2.1, VF.same (u := U) rfl h.2.2.2.1, KS.blind (U := U) (Vm.Alike.refl U.vm) h.2.2.2.2⟩
def oldB (M : AM) (g k : Nat) : Bool := match M[g]? with
  | some q => decide (k < q.length)
  | none => false
theorem oldB_of {M : AM} {g k : Nat} (h : oldB M g k = true) : old M g k := by
  unfold oldB at h
  split at h
  next q hq => exact ⟨q, hq, of_decide_eq_true h⟩
  next => cases h
def refsOk (M : AM) (l : List AV) : Bool := l.all fun v => match v with
  | .inr (.inr (.inl q)) => oldB M q.1 q.2.1
  | _ => true
theorem vOf_ext {gl : Gl} {P P1 : Ad} {M M1 : AM} {l : List AV} (h : Ext P M P1 M1) (hr : refsOk M l = true) : ∀ v ∈ l, vOf gl P1 v = vOf gl P v := by
  intro v hv
  have h1 := List.all_eq_true.mp hr v hv
  rcases v with x | x | q | n
  · rfl
  · rfl
  · show Value.ref _ = Value.ref _
    rw [(h _ _ (oldB_of h1)).2]
  · match n with
    | 0 => rfl
    | 1 => rfl
    | 2 => rfl
    | n + 3 => rfl
def okR (r : Option AV) : Bool := match r with
  | none => true
  | some (.inl _) => true
  | some (.inr (.inl _)) => true
  | _ => false
theorem okR_map {r : Option AV} (h : okR r = true) (gl : Gl) (P P1 : Ad) : r.map (vOf gl P) = r.map (vOf gl P1) := by
  match r, h with
  | none, _ => rfl
  | some (.inl _), _ => rfl
  | some (.inr (.inl _)), _ => rfl
def catS (l : List AV) : Nat := (l.map fun v => if isLong v then 2 else 1).sum
theorem catS_eq (gl : Gl) (P : Ad) (l : List AV) : ((l.map (vOf gl P)).map fun v => v.category).sum = catS l := by
  unfold catS
  rw [List.map_map]
  congr 1
  refine List.map_congr_left fun v _ => ?_
  exact vOf_cat gl P v
def upV (is : List Nat) (v : AV) : AV := match v with
  | .inr (.inr (.inl q)) => aR (is.getD q.1 0) q.2.1 q.2.2
  | v => v
theorem vOf_up (gl : Gl) (P : Ad) (is : List Nat) (v : AV) : vOf gl (subP P is) v = vOf gl P (upV is v) := by
  rcases v with x | x | q | n
  · rfl
  · rfl
  · rfl
  · match n with
    | 0 => rfl
    | 1 => rfl
    | 2 => rfl
    | n + 3 => rfl
theorem LR.ext {gl : Gl} {P P1 : Ad} {M M1 : AM} {nL : Nat} {la : Array Slot} {ls : List AV} (h : LR gl P nL la ls) (hE : Ext P M P1 M1) (hr : refsOk M ls = true) : LR gl P1 nL la ls :=
  ⟨h.1, h.2.1, fun i v hi hv => by rw [vOf_ext hE hr v (List.mem_of_getElem? hi)]; exact h.2.2 i v hi hv⟩
theorem map_ext {gl : Gl} {P P1 : Ad} {M M1 : AM} {st : List AV} (hE : Ext P M P1 M1) (hr : refsOk M st = true) : st.map (vOf gl P1) = st.map (vOf gl P) := List.map_congr_left fun v hv => vOf_ext hE hr v hv
section GC
variable {p : Program} {l : Launch} {e : Env} {R : Room} {s : State} {m : MethodId} {args : Array Value} {below : List Frame} {meth : Method} {c : Code} {H : Heap} {locs : List Loc} {cs ss mc ms : Nat} {Q : State → Prop}
theorem call_go {gl : Gl} {P : Ad} {M M0 : AM} {A : Nat → Prop} {H0 : Heap} {is : List Nat} {post : Option AV → AM → Prop} {pc : Nat} {la : Array Slot} {st0 rest : List Value} {a : Array Value}
    (hr : va_Run p l e R s m args below meth c H locs cs ss mc ms (F0 m pc la st0) rest (QC gl (subP P is) M0 (ownA (subP P is) M0 H.size) post a) (ownA (subP P is) M0 H.size))
    (h2 : Rep gl P M H) (h3 : Own A P M) (h4 : va_S A H0 H locs) (hA : ∀ q, H0.size ≤ q → A q) (hs : subG M is M0) (hn : is.Nodup) (hgM : gAll M = true)
    (kk : ∀ r M1, post r M1 → gOut is M.length M1 = true ∧ okR r = true ∧ ∀ P1 H1 locs1, Ext P M P1 (putG M is M1) → Rep gl P1 (putG M is M1) H1 → Own A P1 (putG M is M1) → va_S A H0 H1 locs1 →
      W p l e R s m args below meth c H1 locs1 (cs + mc) (ss + ms) Q (F0 m (pc + 3) la ((r.map (vOf gl P1)).toList ++ rest))) : W p l e R s m args below meth c H locs cs ss Q (F0 m pc la st0) := by
  intro T hT X
  obtain ⟨v, st₀, t, T', L, h0, X', hL, e1, e2, hq, go⟩ := hr T hT X
  obtain ⟨r, M1, P1, hv, hp, hE1, hR1, hO1, hF⟩ := hq
  obtain rfl : v = r.map (vOf gl P1) := Outcome.returned.inj hv
  obtain ⟨hgo, hok, kk⟩ := kk r M1 hp
  have hAH : ∀ q, H.size ≤ q → A q := fun q h => hA q (Nat.le_trans h4.1 h)
  obtain ⟨f1, f2⟩ := hF
  rw [h0] at f1 f2
  obtain ⟨j1, j2, j3⟩ := h2.join h3 hAH hs hn hgM hgo hE1 hR1 hO1 f2
  have hin : ∀ q, ownA (subP P is) M0 H.size q → A q := by
    intro q ho
    rcases ho with ⟨j, k', w', v, e⟩ | ho
    · obtain ⟨c, c1, c2⟩ := v
      obtain ⟨i, g1, g2⟩ := sub_get hs c1
      have e' : P i k' w' = q := by
        have e0 : P (is.getD j 0) k' w' = q := e
        rw [getD_of g1] at e0
        exact e0
      rw [← e']
      exact h3 i k' w' ⟨c, g2, c2⟩
    · exact hAH q ho
  have hS1 : va_S A H0 t.heap (locs ++ L) := ⟨Nat.le_trans h4.1 f1, fun q q1 q2 => by rw [f2 q (Nat.lt_of_lt_of_le q1 h4.1) (fun z => q2 (hin q z))]; exact h4.2.1 q q1 q2, fun x hx => by
    rcases List.mem_append.mp hx with z | z
    · exact h4.2.2 x z
    · exact hin _ (hL x z)⟩
  obtain ⟨t2, a1, b1⟩ := kk _ _ _ j3 j1 j2 hS1 T' e1 X'
  rw [← okR_map hok gl P1] at a1
  exact ⟨t2, go t2 a1, b1⟩
end GC
section GK
variable {C : Cx} {cc : ByteArray} {own : String} {nL : Nat} {R : Room} {E : State → Array Value → List Frame → Method → (State → Prop) → Prop} {cs ss pc : Nat} {ls st st0 : List AV} {M : AM}
variable {y : MethodName} {b : ByteArray} {maxL : Nat} {ret : Option FieldType} {h mc ms : Nat} {av : List AV} {M0 : AM} {post : Option AV → AM → Prop} {index : Nat} {is : List Nat}
theorem sm_recv {gl : Gl} {P : Ad} {H : Heap} {s : State} (hV : VF gl s) (h2 : Rep gl P M H) {g ci : Nat} {fs : List SV} {q : vw_C} (hM : getM M g 0 = some (cO ci fs)) (hc : vwCl[ci]? = some q) : ∃ cellB : Cell, H[P g 0 0]? = some cellB ∧ cellB.vm.isStatics = false ∧ s.vm.findClass q.1 = some cellB.cls := by
  obtain ⟨r, g1, cell, q1, q2, q3, q4⟩ := h2.1 g 0 _ hM
  exact ⟨cell, q1, by rw [q3]; rfl, by rw [q2]; exact (hV.1.1 ci q hc).2.1⟩
theorem g_invV (hC : Ok C cc own nL R E) {j ci N : Nat} {T : u_T} {fs : List SV} (hcon : Con y b maxL ret h mc ms (aR j 0 0 :: av) M0 post) (hd : decode cc pc = .ok (.invokevirtual index, 3)) (w1 : Cond.methodLink own index y ∈ tbG) (w2 : Cond.instanceMethod y ∈ tbG) (w3 : Cond.selects y.cls y y ∈ tbG) (w4 : Cond.initialized y.cls ∈ tbG) (w5 : Cond.code y b maxL ret ∈ tbG) (hy : y.cls ≠ "java/lang/invoke/MethodHandle" ∧ y.cls ≠ "java/lang/invoke/VarHandle" ∧ (parseMethodDescriptor y.desc).map (fun d => d.parameters.length) = some av.length) (hR : h + 1 ≤ R.frames ∧ 8 + (maxL + 11) + 40 * h ≤ R.locals) (hcs : cs + mc ≤ R.cells ∧ ss + ms ≤ R.slots) (hs : subG M is M0) (hn : is.Nodup) (hgi : gIn is M0 = true) (hgM : gAll M = true) (hob : getM M0 j 0 = some (cO ci fs)) (hoc : vwCl[ci]? = some (y.cls, T, N)) (hst : st0 = (av.map (upV is)).reverse ++ (upV is (aR j 0 0) :: st)) (hcat : catS st ≤ 8) (hrs : refsOk M st = true) (hrl : refsOk M ls = true) (kk : ∀ r M1, post r M1 → gOut is M.length M1 = true ∧ okR r = true ∧ G C (cs + mc) (ss + ms) (pc + 3) ls (r.toList ++ st) (putG M is M1)) : G C cs ss pc ls st0 M := by
  obtain ⟨p, l, e, s, m, args, below, meth, c, Q, hx, hb, hml, hown, hts, hV, hKS, hH, hA, hN, hw, hlk, hE⟩ := hC
  intro P H locs la h1 h2 h3 h4 h5
  subst hst
  have hsub := h2.sub hs hn hgi
  have hin : ∀ q, ownA (subP P is) M0 H.size q → kA C q := by
    intro q ho
    rcases ho with ⟨j, k', w', v, e⟩ | ho
    · obtain ⟨c, c1, c2⟩ := v
      obtain ⟨i, g1, g2⟩ := sub_get hs c1
      have e' : P i k' w' = q := by
        have e0 : P (is.getD j 0) k' w' = q := e
        rw [getD_of g1] at e0
        exact e0
      rw [← e']
      exact h3 i k' w' ⟨c, g2, c2⟩
    · exact hA q (Nat.le_trans h4.1 ho)
  have hKd := hKS.down h4 hin
  have hpre : ∀ U : State, U.heap = H → s.WarmedH U.vm → ∀ a : Array Value, a = ((aR j 0 0 :: av).map (vOf (kGl C) (subP P is))).toArray → PCC (kGl C) (subP P is) M0 H.size (aR j 0 0 :: av) a U := fun U hU hW a ha =>
    ⟨ha, by rw [hU], by rw [hU]; exact hsub, VF.warm hW hV, by rw [hU]; exact KS.blind hW.alike hKd⟩
  rw [hw]
  have hrun := va_runV (As := av.map (vOf (kGl C) (subP P is))) (b := subP P is j 0 0) (rest := st.map (vOf (kGl C) P)) (H := H) (locs := locs) (cells := cs) (slots := ss) (l := l) (e := e) (below := below) (meth := meth) (R := R) (g := F0 m pc la (((av.map (upV is)).reverse ++ (upV is (aR j 0 0) :: st)).map (vOf (kGl C) P))) ⟨hx, hb, hml, hown, hts⟩ (hcon l (kGl C) (subP P is) H.size) (cwV av.length hts (good_in (fun w hw => by
      rcases List.mem_append.mp hw with z | z
      · simp only [List.mem_cons, List.not_mem_nil, or_false] at z
        rcases z with rfl | rfl | rfl | rfl
        · exact w1
        · exact w2
        · exact w3
        · exact w4
      · rcases List.mem_cons.mp z with rfl | z
        · exact w5
        · exact z)) rfl rfl rfl ⟨rfl, hy.1, hy.2.1, hy.2.2⟩ hR) ⟨PCC.blind _ _ _ _ _, sm_recv hV hsub hob hoc, fun U hU hW => hpre U hU hW _ rfl⟩ rfl (by rw [List.length_map]) (by rw [← hN]; exact h5.1) (by
      show ((av.map (upV is)).reverse ++ (upV is (aR j 0 0) :: st)).map (vOf (kGl C) P) = _
      rw [List.map_append, List.map_reverse, List.map_map]
      congr 2
      refine List.map_congr_left fun v _ => ?_
      exact (vOf_up (kGl C) P is v).symm) (lv_room (by rw [catS_eq]; exact hcat)) hd hcs
  refine call_go hrun h2 h3 h4 hA hs hn hgM (fun r M1 hp => ?_)
  obtain ⟨k1, k2, k3⟩ := kk r M1 hp
  refine ⟨k1, k2, fun P1 H1 locs1 e1 e2 e3 e4 => ?_⟩
  have k4 := k3 P1 H1 locs1 la (h1.trans e1) e2 e3 e4 (h5.ext e1 hrl)
  rw [hw, List.map_append] at k4
  rw [← map_ext (gl := kGl C) e1 hrs]
  have e5 : r.toList.map (vOf (kGl C) P1) = (r.map (vOf (kGl C) P1)).toList := by cases r <;> rfl
  rw [e5] at k4
  exact k4
theorem g_invS (hC : Ok C cc own nL R E) (hcon : Con y b maxL ret h mc ms av M0 post) (hd : decode cc pc = .ok (.invokestatic index, 3)) (w1 : Cond.methodLink own index y ∈ tbG) (w2 : Cond.static y ∈ tbG) (w4 : Cond.initialized y.cls ∈ tbG) (w5 : Cond.code y b maxL ret ∈ tbG) (hy : y.cls ≠ "java/lang/invoke/MethodHandle" ∧ y.cls ≠ "java/lang/invoke/VarHandle" ∧ (parseMethodDescriptor y.desc).map (fun d => d.parameters.length) = some av.length) (hR : h + 1 ≤ R.frames ∧ 8 + (maxL + 11) + 40 * h ≤ R.locals) (hcs : cs + mc ≤ R.cells ∧ ss + ms ≤ R.slots) (hs : subG M is M0) (hn : is.Nodup) (hgi : gIn is M0 = true) (hgM : gAll M = true) (hst : st0 = (av.map (upV is)).reverse ++ st) (hcat : catS st ≤ 8) (hrs : refsOk M st = true) (hrl : refsOk M ls = true) (kk : ∀ r M1, post r M1 → gOut is M.length M1 = true ∧ okR r = true ∧ G C (cs + mc) (ss + ms) (pc + 3) ls (r.toList ++ st) (putG M is M1)) : G C cs ss pc ls st0 M := by
  obtain ⟨p, l, e, s, m, args, below, meth, c, Q, hx, hb, hml, hown, hts, hV, hKS, hH, hA, hN, hw, hlk, hE⟩ := hC
  intro P H locs la h1 h2 h3 h4 h5
  subst hst
  have hsub := h2.sub hs hn hgi
  have hin : ∀ q, ownA (subP P is) M0 H.size q → kA C q := by
    intro q ho
    rcases ho with ⟨j, k', w', v, e⟩ | ho
    · obtain ⟨c, c1, c2⟩ := v
      obtain ⟨i, g1, g2⟩ := sub_get hs c1
      have e' : P i k' w' = q := by
        have e0 : P (is.getD j 0) k' w' = q := e
        rw [getD_of g1] at e0
        exact e0
      rw [← e']
      exact h3 i k' w' ⟨c, g2, c2⟩
    · exact hA q (Nat.le_trans h4.1 ho)
  have hKd := hKS.down h4 hin
  have hpre : ∀ U : State, U.heap = H → s.WarmedH U.vm → ∀ a : Array Value, a = ((av).map (vOf (kGl C) (subP P is))).toArray → PCC (kGl C) (subP P is) M0 H.size (av) a U := fun U hU hW a ha =>
    ⟨ha, by rw [hU], by rw [hU]; exact hsub, VF.warm hW hV, by rw [hU]; exact KS.blind hW.alike hKd⟩
  rw [hw]
  have hrun := va_runS (As := av.map (vOf (kGl C) (subP P is))) (rest := st.map (vOf (kGl C) P)) (H := H) (locs := locs) (cells := cs) (slots := ss) (l := l) (e := e) (below := below) (meth := meth) (R := R) (g := F0 m pc la (((av.map (upV is)).reverse ++ st).map (vOf (kGl C) P))) ⟨hx, hb, hml, hown, hts⟩ (hcon l (kGl C) (subP P is) H.size) (va_cwS av.length hts (good_in (fun w hw => by
      rcases List.mem_append.mp hw with z | z
      · simp only [List.mem_cons, List.not_mem_nil, or_false] at z
        rcases z with rfl | rfl | rfl
        · exact w1
        · exact w2
        · exact w4
      · rcases List.mem_cons.mp z with rfl | z
        · exact w5
        · exact z)) rfl rfl rfl hy hR) ⟨PCC.blind _ _ _ _ _, fun U hU hW => hpre U hU hW _ rfl⟩ rfl (by rw [List.length_map]) (by rw [← hN]; exact h5.1) (by
      show ((av.map (upV is)).reverse ++ st).map (vOf (kGl C) P) = _
      rw [List.map_append, List.map_reverse, List.map_map]
      congr 2
      refine List.map_congr_left fun v _ => ?_
      exact (vOf_up (kGl C) P is v).symm) (lv_room (by rw [catS_eq]; exact hcat)) hd hcs
  refine call_go hrun h2 h3 h4 hA hs hn hgM (fun r M1 hp => ?_)
  obtain ⟨k1, k2, k3⟩ := kk r M1 hp
  refine ⟨k1, k2, fun P1 H1 locs1 e1 e2 e3 e4 => ?_⟩
  have k4 := k3 P1 H1 locs1 la (h1.trans e1) e2 e3 e4 (h5.ext e1 hrl)
  rw [hw, List.map_append] at k4
  rw [← map_ext (gl := kGl C) e1 hrs]
  have e5 : r.toList.map (vOf (kGl C) P1) = (r.map (vOf (kGl C) P1)).toList := by cases r <;> rfl
  rw [e5] at k4
  exact k4
theorem g_invSN (hC : Ok C cc own nL R E) {host : String} (hcon : Con y b maxL ret h mc ms av M0 post) (hd : decode cc pc = .ok (.invokestatic index, 3)) (w1 : ∀ s : State, VF (kGl C) s → va_Nw (.methodLinkNest own index y host) s) (w2 : Cond.static y ∈ tbG) (w4 : Cond.initialized y.cls ∈ tbG) (w5 : Cond.code y b maxL ret ∈ tbG) (hy : y.cls ≠ "java/lang/invoke/MethodHandle" ∧ y.cls ≠ "java/lang/invoke/VarHandle" ∧ (parseMethodDescriptor y.desc).map (fun d => d.parameters.length) = some av.length) (hR : h + 1 ≤ R.frames ∧ 8 + (maxL + 11) + 40 * h ≤ R.locals) (hcs : cs + mc ≤ R.cells ∧ ss + ms ≤ R.slots) (hs : subG M is M0) (hn : is.Nodup) (hgi : gIn is M0 = true) (hgM : gAll M = true) (hst : st0 = (av.map (upV is)).reverse ++ st) (hcat : catS st ≤ 8) (hrs : refsOk M st = true) (hrl : refsOk M ls = true) (kk : ∀ r M1, post r M1 → gOut is M.length M1 = true ∧ okR r = true ∧ G C (cs + mc) (ss + ms) (pc + 3) ls (r.toList ++ st) (putG M is M1)) : G C cs ss pc ls st0 M := by
  obtain ⟨p, l, e, s, m, args, below, meth, c, Q, hx, hb, hml, hown, hts, hV, hKS, hH, hA, hN, hw, hlk, hE⟩ := hC
  intro P H locs la h1 h2 h3 h4 h5
  subst hst
  have hsub := h2.sub hs hn hgi
  have hin : ∀ q, ownA (subP P is) M0 H.size q → kA C q := by
    intro q ho
    rcases ho with ⟨j, k', w', v, e⟩ | ho
    · obtain ⟨c, c1, c2⟩ := v
      obtain ⟨i, g1, g2⟩ := sub_get hs c1
      have e' : P i k' w' = q := by
        have e0 : P (is.getD j 0) k' w' = q := e
        rw [getD_of g1] at e0
        exact e0
      rw [← e']
      exact h3 i k' w' ⟨c, g2, c2⟩
    · exact hA q (Nat.le_trans h4.1 ho)
  have hKd := hKS.down h4 hin
  have hpre : ∀ U : State, U.heap = H → s.WarmedH U.vm → ∀ a : Array Value, a = ((av).map (vOf (kGl C) (subP P is))).toArray → PCC (kGl C) (subP P is) M0 H.size (av) a U := fun U hU hW a ha =>
    ⟨ha, by rw [hU], by rw [hU]; exact hsub, VF.warm hW hV, by rw [hU]; exact KS.blind hW.alike hKd⟩
  rw [hw]
  have hrun := va_runSN (host := host) (As := av.map (vOf (kGl C) (subP P is))) (rest := st.map (vOf (kGl C) P)) (H := H) (locs := locs) (cells := cs) (slots := ss) (l := l) (e := e) (below := below) (meth := meth) (R := R) (g := F0 m pc la (((av.map (upV is)).reverse ++ st).map (vOf (kGl C) P))) ⟨hx, hb, hml, hown, hts⟩ (hcon l (kGl C) (subP P is) H.size) ⟨va_cnB av.length hts (good_in (fun w hw => by
      rcases List.mem_cons.mp hw with rfl | z
      · exact w5
      · exact z)) rfl rfl rfl (w1 s hV) (hts _ w4) hy hR, hts _ w2, trivial⟩ ⟨PCC.blind _ _ _ _ _, fun U hU hW => hpre U hU hW _ rfl⟩ rfl (by rw [List.length_map]) (by rw [← hN]; exact h5.1) (by
      show ((av.map (upV is)).reverse ++ st).map (vOf (kGl C) P) = _
      rw [List.map_append, List.map_reverse, List.map_map]
      congr 2
      refine List.map_congr_left fun v _ => ?_
      exact (vOf_up (kGl C) P is v).symm) (lv_room (by rw [catS_eq]; exact hcat)) hd hcs
  refine call_go hrun h2 h3 h4 hA hs hn hgM (fun r M1 hp => ?_)
  obtain ⟨k1, k2, k3⟩ := kk r M1 hp
  refine ⟨k1, k2, fun P1 H1 locs1 e1 e2 e3 e4 => ?_⟩
  have k4 := k3 P1 H1 locs1 la (h1.trans e1) e2 e3 e4 (h5.ext e1 hrl)
  rw [hw, List.map_append] at k4
  rw [← map_ext (gl := kGl C) e1 hrs]
  have e5 : r.toList.map (vOf (kGl C) P1) = (r.map (vOf (kGl C) P1)).toList := by cases r <;> rfl
  rw [e5] at k4
  exact k4
theorem g_invI (hC : Ok C cc own nL R E) {j : Nat} (hcon : Con y b maxL none h mc ms (aR j 0 0 :: av) M0 post) (hd : decode cc pc = .ok (.invokespecial index, 3)) (w1 : Cond.methodLink own index y ∈ tbG) (w2 : Cond.instanceMethod y ∈ tbG) (hnm : y.name = "<init>") (w4 : Cond.initialized y.cls ∈ tbG) (w5 : Cond.code y b maxL none ∈ tbG) (hy : y.cls ≠ "java/lang/invoke/MethodHandle" ∧ y.cls ≠ "java/lang/invoke/VarHandle" ∧ (parseMethodDescriptor y.desc).map (fun d => d.parameters.length) = some av.length) (hR : h + 1 ≤ R.frames ∧ 8 + (maxL + 11) + 40 * h ≤ R.locals) (hcs : cs + mc ≤ R.cells ∧ ss + ms ≤ R.slots) (hs : subG M is M0) (hn : is.Nodup) (hgi : gIn is M0 = true) (hgM : gAll M = true) (hst : st0 = (av.map (upV is)).reverse ++ (upV is (aR j 0 0) :: st)) (hcat : catS st ≤ 8) (hrs : refsOk M st = true) (hrl : refsOk M ls = true) (kk : ∀ r M1, post r M1 → gOut is M.length M1 = true ∧ okR r = true ∧ G C (cs + mc) (ss + ms) (pc + 3) ls (r.toList ++ st) (putG M is M1)) : G C cs ss pc ls st0 M := by
  obtain ⟨p, l, e, s, m, args, below, meth, c, Q, hx, hb, hml, hown, hts, hV, hKS, hH, hA, hN, hw, hlk, hE⟩ := hC
  intro P H locs la h1 h2 h3 h4 h5
  subst hst
  have hsub := h2.sub hs hn hgi
  have hin : ∀ q, ownA (subP P is) M0 H.size q → kA C q := by
    intro q ho
    rcases ho with ⟨j, k', w', v, e⟩ | ho
    · obtain ⟨c, c1, c2⟩ := v
      obtain ⟨i, g1, g2⟩ := sub_get hs c1
      have e' : P i k' w' = q := by
        have e0 : P (is.getD j 0) k' w' = q := e
        rw [getD_of g1] at e0
        exact e0
      rw [← e']
      exact h3 i k' w' ⟨c, g2, c2⟩
    · exact hA q (Nat.le_trans h4.1 ho)
  have hKd := hKS.down h4 hin
  have hpre : ∀ U : State, U.heap = H → s.WarmedH U.vm → ∀ a : Array Value, a = ((aR j 0 0 :: av).map (vOf (kGl C) (subP P is))).toArray → PCC (kGl C) (subP P is) M0 H.size (aR j 0 0 :: av) a U := fun U hU hW a ha =>
    ⟨ha, by rw [hU], by rw [hU]; exact hsub, VF.warm hW hV, by rw [hU]; exact KS.blind hW.alike hKd⟩
  rw [hw]
  have hrun := va_runI (As := av.map (vOf (kGl C) (subP P is))) (b := subP P is j 0 0) (rest := st.map (vOf (kGl C) P)) (H := H) (locs := locs) (cells := cs) (slots := ss) (l := l) (e := e) (below := below) (meth := meth) (R := R) (g := F0 m pc la (((av.map (upV is)).reverse ++ (upV is (aR j 0 0) :: st)).map (vOf (kGl C) P))) ⟨hx, hb, hml, hown, hts⟩ (hcon l (kGl C) (subP P is) H.size) (cwI av.length hts (good_in (fun w hw => by
      rcases List.mem_cons.mp hw with rfl | z
      · exact w5
      · exact z)) rfl rfl rfl (hts _ w4) (hts _ w1) (hts _ w2) hnm hy hR) ⟨PCC.blind _ _ _ _ _, fun U hU hW => hpre U hU hW _ rfl⟩ rfl (by rw [List.length_map]) (by rw [← hN]; exact h5.1) (by
      show ((av.map (upV is)).reverse ++ (upV is (aR j 0 0) :: st)).map (vOf (kGl C) P) = _
      rw [List.map_append, List.map_reverse, List.map_map]
      congr 2
      refine List.map_congr_left fun v _ => ?_
      exact (vOf_up (kGl C) P is v).symm) (lv_room (by rw [catS_eq]; exact hcat)) hd hcs
  refine call_go hrun h2 h3 h4 hA hs hn hgM (fun r M1 hp => ?_)
  obtain ⟨k1, k2, k3⟩ := kk r M1 hp
  refine ⟨k1, k2, fun P1 H1 locs1 e1 e2 e3 e4 => ?_⟩
  have k4 := k3 P1 H1 locs1 la (h1.trans e1) e2 e3 e4 (h5.ext e1 hrl)
  rw [hw, List.map_append] at k4
  rw [← map_ext (gl := kGl C) e1 hrs]
  have e5 : r.toList.map (vOf (kGl C) P1) = (r.map (vOf (kGl C) P1)).toList := by cases r <;> rfl
  rw [e5] at k4
  exact k4
theorem g_invIN (hC : Ok C cc own nL R E) {host : String} {j : Nat} (hcon : Con y b maxL none h mc ms (aR j 0 0 :: av) M0 post) (hd : decode cc pc = .ok (.invokespecial index, 3)) (w1 : ∀ s : State, VF (kGl C) s → va_Nw (.methodLinkNest own index y host) s) (w2 : Cond.instanceMethod y ∈ tbG) (hnm : y.name = "<init>") (w4 : Cond.initialized y.cls ∈ tbG) (w5 : Cond.code y b maxL none ∈ tbG) (hy : y.cls ≠ "java/lang/invoke/MethodHandle" ∧ y.cls ≠ "java/lang/invoke/VarHandle" ∧ (parseMethodDescriptor y.desc).map (fun d => d.parameters.length) = some av.length) (hR : h + 1 ≤ R.frames ∧ 8 + (maxL + 11) + 40 * h ≤ R.locals) (hcs : cs + mc ≤ R.cells ∧ ss + ms ≤ R.slots) (hs : subG M is M0) (hn : is.Nodup) (hgi : gIn is M0 = true) (hgM : gAll M = true) (hst : st0 = (av.map (upV is)).reverse ++ (upV is (aR j 0 0) :: st)) (hcat : catS st ≤ 8) (hrs : refsOk M st = true) (hrl : refsOk M ls = true) (kk : ∀ r M1, post r M1 → gOut is M.length M1 = true ∧ okR r = true ∧ G C (cs + mc) (ss + ms) (pc + 3) ls (r.toList ++ st) (putG M is M1)) : G C cs ss pc ls st0 M := by
  obtain ⟨p, l, e, s, m, args, below, meth, c, Q, hx, hb, hml, hown, hts, hV, hKS, hH, hA, hN, hw, hlk, hE⟩ := hC
  intro P H locs la h1 h2 h3 h4 h5
  subst hst
  have hsub := h2.sub hs hn hgi
  have hin : ∀ q, ownA (subP P is) M0 H.size q → kA C q := by
    intro q ho
    rcases ho with ⟨j, k', w', v, e⟩ | ho
    · obtain ⟨c, c1, c2⟩ := v
      obtain ⟨i, g1, g2⟩ := sub_get hs c1
      have e' : P i k' w' = q := by
        have e0 : P (is.getD j 0) k' w' = q := e
        rw [getD_of g1] at e0
        exact e0
      rw [← e']
      exact h3 i k' w' ⟨c, g2, c2⟩
    · exact hA q (Nat.le_trans h4.1 ho)
  have hKd := hKS.down h4 hin
  have hpre : ∀ U : State, U.heap = H → s.WarmedH U.vm → ∀ a : Array Value, a = ((aR j 0 0 :: av).map (vOf (kGl C) (subP P is))).toArray → PCC (kGl C) (subP P is) M0 H.size (aR j 0 0 :: av) a U := fun U hU hW a ha =>
    ⟨ha, by rw [hU], by rw [hU]; exact hsub, VF.warm hW hV, by rw [hU]; exact KS.blind hW.alike hKd⟩
  rw [hw]
  have hrun := va_runIN (host := host) (As := av.map (vOf (kGl C) (subP P is))) (b := subP P is j 0 0) (rest := st.map (vOf (kGl C) P)) (H := H) (locs := locs) (cells := cs) (slots := ss) (l := l) (e := e) (below := below) (meth := meth) (R := R) (g := F0 m pc la (((av.map (upV is)).reverse ++ (upV is (aR j 0 0) :: st)).map (vOf (kGl C) P))) ⟨hx, hb, hml, hown, hts⟩ (hcon l (kGl C) (subP P is) H.size) ⟨va_cnB av.length hts (good_in (fun w hw => by
      rcases List.mem_cons.mp hw with rfl | z
      · exact w5
      · exact z)) rfl rfl rfl (w1 s hV) (hts _ w4) hy hR, hnm, hts _ w2⟩ ⟨PCC.blind _ _ _ _ _, fun U hU hW => hpre U hU hW _ rfl⟩ rfl (by rw [List.length_map]) (by rw [← hN]; exact h5.1) (by
      show ((av.map (upV is)).reverse ++ (upV is (aR j 0 0) :: st)).map (vOf (kGl C) P) = _
      rw [List.map_append, List.map_reverse, List.map_map]
      congr 2
      refine List.map_congr_left fun v _ => ?_
      exact (vOf_up (kGl C) P is v).symm) (lv_room (by rw [catS_eq]; exact hcat)) hd hcs
  refine call_go hrun h2 h3 h4 hA hs hn hgM (fun r M1 hp => ?_)
  obtain ⟨k1, k2, k3⟩ := kk r M1 hp
  refine ⟨k1, k2, fun P1 H1 locs1 e1 e2 e3 e4 => ?_⟩
  have k4 := k3 P1 H1 locs1 la (h1.trans e1) e2 e3 e4 (h5.ext e1 hrl)
  rw [hw, List.map_append] at k4
  rw [← map_ext (gl := kGl C) e1 hrs]
  have e5 : r.toList.map (vOf (kGl C) P1) = (r.map (vOf (kGl C) P1)).toList := by cases r <;> rfl
  rw [e5] at k4
  exact k4
end GK
