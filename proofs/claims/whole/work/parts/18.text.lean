section GT
variable {C : Cx} {cc : ByteArray} {own : String} {nL : Nat} {R : Room} {E : State → Array Value → List Frame → Method → (State → Prop) → Prop} {cs ss pc : Nat} {ls st st0 : List AV} {M : AM}
theorem g_ldcS (hC : Ok C cc RX0 nL R E) (hd : decode cc pc = .ok (.ldc 27, 2)) (k : G C cs ss (pc + 2) ls (aK 1 :: st) M) : G C cs ss pc ls st M := by
  obtain ⟨p, l, e, s, m, args, below, meth, c, Q, hx, hb, hml, hown, hts, hV, hKS, hH, hA, hN, hw, hlk, hE⟩ := hC
  intro P H locs la h1 h2 h3 h4 h5
  have kq := k P H locs la h1 h2 h3 h4 h5
  rw [hw] at kq ⊢
  exact va_ldcS hx hb hown hV.2.2.2.2.2.2 hd kq
theorem g_txtV (hC : Ok C cc RJ0 nL R E) (hd : decode cc pc = .ok (.getfield 9, 3)) (k : G C cs ss (pc + 3) ls (aK 2 :: st) M) : G C cs ss pc ls (aK 1 :: st) M := by
  obtain ⟨p, l, e, s, m, args, below, meth, c, Q, hx, hb, hml, hown, hts, hV, hKS, hH, hA, hN, hw, hlk, hE⟩ := hC
  intro P H locs la h1 h2 h3 h4 h5
  have kq := k P H locs la h1 h2 h3 h4 h5
  rw [hw] at kq ⊢
  rw [← hH] at h4 hKS
  exact vk_getf hx hb (hKS.1.1 0 (by decide)).2.2.1 h4 hown (hts _ tw_5_69) (fun x h => h) hd kq
theorem g_txtC (hC : Ok C cc RJ0 nL R E) (hd : decode cc pc = .ok (.getfield 15, 3)) (k : G C cs ss (pc + 3) ls (aI (nI 0) :: st) M) : G C cs ss pc ls (aK 1 :: st) M := by
  obtain ⟨p, l, e, s, m, args, below, meth, c, Q, hx, hb, hml, hown, hts, hV, hKS, hH, hA, hN, hw, hlk, hE⟩ := hC
  intro P H locs la h1 h2 h3 h4 h5
  have kq := k P H locs la h1 h2 h3 h4 h5
  rw [hw] at kq ⊢
  rw [← hH] at h4 hKS
  exact vk_getf hx hb (hKS.1.1 0 (by decide)).2.1 h4 hown (hts _ tw_5_68) (fun x h => h) hd kq
theorem g_compact (hC : Ok C cc RJ0 nL R E) (hd : decode cc pc = .ok (.getstatic 38, 3)) (k : G C cs ss (pc + 3) ls (aI (nI 1) :: st) M) : G C cs ss pc ls st M := by
  obtain ⟨p, l, e, s, m, args, below, meth, c, Q, hx, hb, hml, hown, hts, hV, hKS, hH, hA, hN, hw, hlk, hE⟩ := hC
  intro P H locs la h1 h2 h3 h4 h5
  have kq := k P H locs la h1 h2 h3 h4 h5
  rw [hw] at kq ⊢
  rw [← hH] at h4 hKS
  exact va_gets hx hb hKS.2 h4 hown (hts _ tw_1_182) (fun x h => h) hd kq
theorem g_txtL (hC : Ok C cc own nL R E) (hd : decode cc pc = .ok (.arraylength, 1)) (k : G C cs ss (pc + 1) ls (aI (nI 6) :: st) M) : G C cs ss pc ls (aK 2 :: st) M := by
  obtain ⟨p, l, e, s, m, args, below, meth, c, Q, hx, hb, hml, hown, hts, hV, hKS, hH, hA, hN, hw, hlk, hE⟩ := hC
  intro P H locs la h1 h2 h3 h4 h5
  have kq := k P H locs la h1 h2 h3 h4 h5
  rw [hw] at kq ⊢
  rw [← hH] at h4 hKS
  exact va_tlen (N := 6) (v := nI 6) hx hb (hKS.1.1 0 (by decide)).2.2.2 h4 rfl hd kq
theorem g_txtB (hC : Ok C cc own nL R E) {w : Nat} {v : Int32} (hd : decode cc pc = .ok (.baload, 1)) (hw6 : w < 6) (hv : txt.getD w 0 = v) (k : G C cs ss (pc + 1) ls (aI v :: st) M) : G C cs ss pc ls (aI (nI w) :: aK 2 :: st) M := by
  obtain ⟨p, l, e, s, m, args, below, meth, c, Q, hx, hb, hml, hown, hts, hV, hKS, hH, hA, hN, hw, hlk, hE⟩ := hC
  intro P H locs la h1 h2 h3 h4 h5
  have kq := k P H locs la h1 h2 h3 h4 h5
  rw [hw] at kq ⊢
  rw [← hH] at h4 hKS
  exact va_tb (N := 6) (v := .int v) hx hb (hKS.1.1 0 (by decide)).2.2.2 h4 (nI_in hw6 (by decide)) (by show Value.int (txt.getD (nI w).toNatClampNeg 0) = _; rw [nI_clamp (by omega), hv]) hd kq
end GT
section GT2
variable {C : Cx} {cc : ByteArray} {own : String} {nL : Nat} {R : Room} {E : State → Array Value → List Frame → Method → (State → Prop) → Prop} {cs ss pc : Nat} {ls st st0 : List AV} {M : AM}
variable {y : MethodName} {b : ByteArray} {maxL : Nat} {ret : Option FieldType} {h mc ms : Nat} {av : List AV} {M0 : AM} {post : Option AV → AM → Prop} {index : Nat} {is : List Nat}
theorem g_invT (hC : Ok C cc own nL R E) (hcon : Con y b maxL ret h mc ms (aK 1 :: av) M0 post) (hd : decode cc pc = .ok (.invokevirtual index, 3)) (w1 : Cond.methodLink own index y ∈ tbG) (w2 : Cond.instanceMethod y ∈ tbG) (w3 : Cond.selects y.cls y y ∈ tbG) (w4 : Cond.initialized y.cls ∈ tbG) (w5 : Cond.code y b maxL ret ∈ tbG) (hy : y.cls ≠ "java/lang/invoke/MethodHandle" ∧ y.cls ≠ "java/lang/invoke/VarHandle" ∧ (parseMethodDescriptor y.desc).map (fun d => d.parameters.length) = some av.length) (hR : h + 1 ≤ R.frames ∧ 8 + (maxL + 11) + 40 * h ≤ R.locals) (hcs : cs + mc ≤ R.cells ∧ ss + ms ≤ R.slots) (hs : subG M is M0) (hn : is.Nodup) (hgi : gIn is M0 = true) (hgM : gAll M = true) (hyc : y.cls = "java/lang/String") (hst : st0 = (av.map (upV is)).reverse ++ (aK 1 :: st)) (hcat : catS st ≤ 8) (hrs : refsOk M st = true) (hrl : refsOk M ls = true) (kk : ∀ r M1, post r M1 → gOut is M.length M1 = true ∧ okR r = true ∧ G C (cs + mc) (ss + ms) (pc + 3) ls (r.toList ++ st) (putG M is M1)) : G C cs ss pc ls st0 M := by
  obtain ⟨p, l, e, s, m, args, below, meth, c, Q, hx, hb, hml, hown, hts, hV, hKS, hH, hA, hN, hw, hlk, hE⟩ := hC
  intro P H locs la h1 h2 h3 h4 h5
  subst hst
  have hsub := h2.sub hs hn hgi
  have hin : ∀ q, ownA (subP P is) M0 H.size q → kA C q := by
    intro q ho
    rcases ho with ⟨j, k', w', v, e⟩ | ho
    · obtain ⟨c, c1, c2⟩ := v
      obtain ⟨i, g1, g2⟩ := sub_get hs c1
      have e' : P i k' w' = q := by
        have e0 : P (is.getD j 0) k' w' = q := e
        rw [getD_of g1] at e0
        exact e0
      rw [← e']
      exact h3 i k' w' ⟨c, g2, c2⟩
    · exact hA q (Nat.le_trans h4.1 ho)
  have hKd := hKS.down h4 hin
  have hpre : ∀ U : State, U.heap = H → s.WarmedH U.vm → ∀ a : Array Value, a = ((aK 1 :: av).map (vOf (kGl C) (subP P is))).toArray → PCC (kGl C) (subP P is) M0 H.size (aK 1 :: av) a U := fun U hU hW a ha =>
    ⟨ha, by rw [hU], by rw [hU]; exact hsub, VF.warm hW hV, by rw [hU]; exact KS.blind hW.alike hKd⟩
  rw [hw]
  have hrun := va_runV (As := av.map (vOf (kGl C) (subP P is))) (b := (kGl C).2.2.2.2.1) (rest := st.map (vOf (kGl C) P)) (H := H) (locs := locs) (cells := cs) (slots := ss) (l := l) (e := e) (below := below) (meth := meth) (R := R) (g := F0 m pc la (((av.map (upV is)).reverse ++ (aK 1 :: st)).map (vOf (kGl C) P))) ⟨hx, hb, hml, hown, hts⟩ (hcon l (kGl C) (subP P is) H.size) (cwV av.length hts (good_in (fun w hw => by
      rcases List.mem_append.mp hw with z | z
      · simp only [List.mem_cons, List.not_mem_nil, or_false] at z
        rcases z with rfl | rfl | rfl | rfl
        · exact w1
        · exact w2
        · exact w3
        · exact w4
      · rcases List.mem_cons.mp z with rfl | z
        · exact w5
        · exact z)) rfl rfl rfl ⟨rfl, hy.1, hy.2.1, hy.2.2⟩ hR) ⟨PCC.blind _ _ _ _ _, (by rw [hyc]; rw [← hH] at h4 hKS; exact vk_recv (i := 0) hKS.1 (by decide) h4), fun U hU hW => hpre U hU hW _ rfl⟩ rfl (by rw [List.length_map]) (by rw [← hN]; exact h5.1) (by
      show ((av.map (upV is)).reverse ++ (aK 1 :: st)).map (vOf (kGl C) P) = _
      rw [List.map_append, List.map_reverse, List.map_map]
      congr 2
      refine List.map_congr_left fun v _ => ?_
      exact (vOf_up (kGl C) P is v).symm) (lv_room (by rw [catS_eq]; exact hcat)) hd hcs
  refine call_go hrun h2 h3 h4 hA hs hn hgM (fun r M1 hp => ?_)
  obtain ⟨k1, k2, k3⟩ := kk r M1 hp
  refine ⟨k1, k2, fun P1 H1 locs1 e1 e2 e3 e4 => ?_⟩
  have k4 := k3 P1 H1 locs1 la (h1.trans e1) e2 e3 e4 (h5.ext e1 hrl)
  rw [hw, List.map_append] at k4
  rw [← map_ext (gl := kGl C) e1 hrs]
  have e5 : r.toList.map (vOf (kGl C) P1) = (r.map (vOf (kGl C) P1)).toList := by cases r <;> rfl
  rw [e5] at k4
  exact k4
theorem g_invTF {res : Option AV} {M1 : AM} {n : Nat} (hC : Ok C cc own nL R E) (hcon : ConF y b maxL ret h (aK 1 :: av) M0 res M1) (hd : decode cc pc = .ok (.invokevirtual index, 3)) (w1 : Cond.methodLink own index y ∈ tbG) (w2 : Cond.instanceMethod y ∈ tbG) (w3 : Cond.selects y.cls y y ∈ tbG) (w4 : Cond.initialized y.cls ∈ tbG) (w5 : Cond.code y b maxL ret ∈ tbG) (hyc : y.cls = "java/lang/String") (hy : (y.cls ≠ "java/lang/invoke/MethodHandle" ∧ y.cls ≠ "java/lang/invoke/VarHandle") ∧ (parseMethodDescriptor y.desc).map (fun d => d.parameters.length) = some n) (hav : av.length = n) (hR : h + 1 ≤ R.frames ∧ 8 + (maxL + 11) + 40 * h ≤ R.locals) (hcs : cs ≤ R.cells ∧ ss ≤ R.slots) (hs : subG M is M0) (hn : is.Nodup) (hck : ckB is M M0 M1 res st ls = true) (hst : st0 = (av.map (upV is)).reverse ++ (aK 1 :: st)) (kk : G C cs ss (pc + 3) ls (res.toList ++ st) (putG M is M1)) : G C cs ss pc ls st0 M := by
  obtain ⟨c1, c2, c3, c4, c5, c6, c7⟩ := ckB_of hck
  refine g_invT hC hcon hd w1 w2 w3 w4 w5 ⟨hy.1.1, hy.1.2, by rw [hav]; exact hy.2⟩ hR hcs hs hn c1 c2 hyc hst c7 c5 c6 (fun r Mx hp => ?_)
  obtain ⟨rfl, rfl⟩ := hp
  exact ⟨c3, c4, kk⟩
end GT2
theorem pn_J0 : plainName RJ0 = true := by decide +kernel
theorem pn_J1 : plainName RJ1 = true := by decide +kernel
section GQ
variable {C : Cx} {cc : ByteArray} {own : String} {nL : Nat} {R : Room} {E : State → Array Value → List Frame → Method → (State → Prop) → Prop} {cs ss pc : Nat} {ls st : List AV} {M : AM}
theorem oI_nI {o : Option Nat} {n : Nat} (ho : ∀ m, o = some m → m < 2 ^ 31) (hn : n < 2 ^ 31) : oI (-1) o = nI n ↔ o = some n := by
  cases o with
  | none =>
    constructor
    · intro h
      have h1 : (nI n).toInt = n := nI_toInt hn
      have h2 : (-1 : Int32) = nI n := h
      rw [← h2] at h1
      have h3 : (-1 : Int32).toInt = -1 := by decide
      omega
    · intro h; cases h
  | some m =>
    constructor
    · intro h
      have h1 : (nI n).toInt = n := nI_toInt hn
      have h2 : (nI m).toInt = m := nI_toInt (ho m rfl)
      have h3 : nI m = nI n := h
      rw [h3] at h2
      rw [h1] at h2
      have : n = m := by omega
      rw [this]
    · intro h
      cases h
      rfl
theorem g_icmp_eqQ (hC : Ok C cc own nL R E) {o : Option Nat} {n : Nat} {off : Int} {tgt : Nat} (hd : decode cc pc = .ok (.if_icmp .eq off, 3)) (ht : (pc : Int) + off = (tgt : Int)) (ho : ∀ m, o = some m → m < 2 ^ 31) (hn : n < 2 ^ 31) (kt : o = some n → G C cs ss tgt ls st M) (kf : o ≠ some n → G C cs ss (pc + 3) ls st M) : G C cs ss pc ls (aI (nI n) :: aI (oI (-1) o) :: st) M :=
  g_icmp_eq hC hd ht (fun h => kt ((oI_nI ho hn).mp h)) (fun h => kf (fun z => h ((oI_nI ho hn).mpr z)))
theorem g_icmp_neQ (hC : Ok C cc own nL R E) {o : Option Nat} {n : Nat} {off : Int} {tgt : Nat} (hd : decode cc pc = .ok (.if_icmp .ne off, 3)) (ht : (pc : Int) + off = (tgt : Int)) (ho : ∀ m, o = some m → m < 2 ^ 31) (hn : n < 2 ^ 31) (kt : o ≠ some n → G C cs ss tgt ls st M) (kf : o = some n → G C cs ss (pc + 3) ls st M) : G C cs ss pc ls (aI (nI n) :: aI (oI (-1) o) :: st) M :=
  g_icmp_ne hC hd ht (fun h => kt (fun z => h ((oI_nI ho hn).mpr z))) (fun h => kf ((oI_nI ho hn).mp h))
end GQ
