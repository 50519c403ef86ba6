def soonB (v : Vw) (f : Bool) (a b k : Nat) : Bool := (reach v f a k).testBit b
def oSoon (v : Vw) (f : Bool) (x y : Int32) : Ans := if (0 ≤ x ∧ x < nI 6) ∧ (0 ≤ y ∧ y < nI 6) then .inr (oI (-9) (fstB (soonB v f (tn x) (tn y)) 41)) else .inl 1
theorem oSoon_no {v : Vw} {f : Bool} {x y : Int32} (h : ¬ ((0 ≤ x ∧ x < nI 6) ∧ (0 ≤ y ∧ y < nI 6))) : oSoon v f x y = .inl 1 := if_neg h
theorem oSoon_ok {v u : Vw} {B : Nat} (hs : Sm u v) (hu : wf B u) {f : Bool} {a b : Nat} (h : (0 ≤ nI a ∧ nI a < nI 6)) (h2 : (0 ≤ nI b ∧ nI b < nI 6)) (ha : a < 6) (hb : b < 6) : oSoon v f (nI a) (nI b) = .inr (oI (-9) (fstB (soonB u f a b) 41)) := by
  unfold oSoon
  rw [if_pos ⟨h, h2⟩, tn_n (by omega), tn_n (by omega), fst_congr (p := soonB u f a b) (q := soonB v f a b) 41 (fun k _ => by unfold soonB; rw [sm_reach hs hu k])]
def sc (v : Vw) (z : Int32) : Nat → Vw × Int32
  | 0 => (v, z)
  | k + 1 => (mstep (scatV (sc v z k).1 (sc v z k).2 (vN (sc v z k).1)), sd (sc v z k).2 (vN (sc v z k).1))
def scg (v : Vw) (z : Int32) (g : Nat → Nat) : Nat → Nat → Nat
  | 0 => g
  | k + 1 => goG (scatV (sc v z k).1 (sc v z k).2 (vN (sc v z k).1)) (scg v z g k) 1
theorem wf_sc {B : Nat} {v : Vw} (h : wf B v) (z : Int32) : ∀ k, wf (B + k) (sc v z k).1
  | 0 => h
  | k + 1 => wf_mstep (wf_scat (wf_sc h z k) _ _)
theorem sm_sc {B : Nat} {v u : Vw} (h : Sm v u) (hv : wf B v) (z : Int32) : ∀ k, Sm (sc v z k).1 (sc u z k).1 ∧ (sc v z k).2 = (sc u z k).2
  | 0 => ⟨h, rfl⟩
  | k + 1 => by
    obtain ⟨h1, h2⟩ := sm_sc h hv z k
    have hw := wf_sc hv z k
    refine ⟨?_, ?_⟩
    · show Sm (mstep (scatV (sc v z k).1 (sc v z k).2 (vN (sc v z k).1))) (mstep (scatV (sc u z k).1 (sc u z k).2 (vN (sc u z k).1)))
      rw [← h2, ← sm_n h1]
      exact sm_mstep (sm_scat h1 _ _) (wf_scat hw _ _)
    · show sd (sc v z k).2 (vN (sc v z k).1) = sd (sc u z k).2 (vN (sc u z k).1)
      rw [h2, sm_n h1]
def kSeeds (x y : Int32) : Nat := if (0 ≤ y ∧ y < nI 6) then outN x (nI 1) (nI 30) else 1
theorem kSeeds_lt (x y : Int32) : kSeeds x y < 7 := by
  unfold kSeeds
  split
  · exact outN_lt _ _ _
  · decide
def oSeeds (v : Vw) (x z y : Int32) : Ans := if kSeeds x y = 0 then .inr (nI (apart (sc v z (tn x)).1 (tn y))) else .inl (kSeeds x y)
theorem Seeds_no {v : Vw} {x z y : Int32} (h : kSeeds x y ≠ 0) : oSeeds v x z y = .inl (kSeeds x y) := if_neg h
theorem Seeds_ok {v : Vw} {x z y : Int32} (h : kSeeds x y = 0) : oSeeds v x z y = .inr (nI (apart (sc v z (tn x)).1 (tn y))) := if_pos h
set_option maxRecDepth 100000 in
set_option maxHeartbeats 4000000 in
theorem c_X3_across (v : Vw) (rf : Nat) (go : Nat → Nat) (vm : Vw) (rm : Nat) (gm : Nat → Nat) (vt : Vw) (rt : Nat) (gt : Nat → Nat) (tk : Bool) (lt : Nat → Nat) (len : Nat) (op : Nat → Nat) (to on : Nat → Nat → Nat) (last : Nat) (num : Nat → Nat) (nin : Nat) (re : Nat → Nat) (x y : Int32) (hv : wf 99 v) : Con yX3_across cX3_across 3 (some .int) 6 0 0 [aR 0 0 0, aI (x), aI (y)] (mainW v rf go vm rm gm vt rt gt tk lt len op to on last num nin re) (fun r M => r = some (aI (ansOf (oSoon v false x y))) ∧ PX v rf vt rt tk lt len num nin (bump re (oSoon v false x y)) M) := by
  refine con_of RX3 pn_X3 rfl rfl (Nat.le_of_ble_eq_true rfl) (fun C hM0 hC => ?_)
  show G C 0 0 0 [aR 0 0 0, aI (x), aI (y)] [] (mainW v rf go vm rm gm vt rt gt tk lt len op to on last num nin re)
  have hn4 := wf_n hv
  refine g_iload_n hC dX3_across_0 rfl ?_
  refine gi_X3_69 hC (is := []) (st := []) (c_X3_isRoom x) dX3_across_1 rfl ⟨by decide, by decide⟩ ⟨by decide, by decide⟩ rfl (by decide) rfl rfl ?_
  refine g_if_eqB (tgt := 14) hC dX3_across_4 (by decide) (fun h_4 => ?_) (fun h_4 => ?_)
  · skip
    have hno := of_decide_eq_false h_4
    refine g_aload_n hC dX3_across_14 rfl rfl ?_
    refine g_iconst (v := (-1)) hC dX3_across_15 (by decide) ?_
    refine gi_X3_51 hC (is := [0, 1, 2, 3, 4, 5, 6, 7]) (st := []) (c_X3_refuse v rf go vm rm gm vt rt gt tk lt len op to on last num nin re (k := 1) (by decide)) dX3_across_16 rfl ⟨by decide, by decide⟩ ⟨by decide, by decide⟩ rfl (by decide) rfl rfl rfl ?_
    exact g_iret hC rfl dX3_across_19 (by first | exact ⟨rV (by rw [oSoon_no (fun z => hno z.1)]; rfl), by rw [oSoon_no (fun z => hno z.1)]; exact ⟨_, _, _, _, _, _, _, _, _, rfl⟩⟩ | exact ⟨rV (by rw [oSoon_no (fun z => hno z.2)]; rfl), by rw [oSoon_no (fun z => hno z.2)]; exact ⟨_, _, _, _, _, _, _, _, _, rfl⟩⟩)
  · skip
    have hr := of_decide_eq_true h_4
    obtain ⟨a, ha0, rfl⟩ := rm_of hr
    refine g_iload_n hC dX3_across_7 rfl ?_
    refine gi_X3_69 hC (is := []) (st := []) (c_X3_isRoom y) dX3_across_8 rfl ⟨by decide, by decide⟩ ⟨by decide, by decide⟩ rfl (by decide) rfl rfl ?_
    refine g_if_neB (tgt := 20) hC dX3_across_11 (by decide) (fun h_11 => ?_) (fun h_11 => ?_)
    · skip
      have hr2 := of_decide_eq_true h_11
      obtain ⟨b, hb0, rfl⟩ := rm_of hr2
      refine g_aload_n hC dX3_across_20 rfl rfl ?_
      refine g_iload_n hC dX3_across_21 rfl ?_
      refine g_iload_n hC dX3_across_22 rfl ?_
      refine g_iconst (v := nI (0)) hC dX3_across_23 (by decide) ?_
      refine g_invV (T := TX3) (N := 9) hC (is := [0, 1, 2, 3, 4, 5, 6, 7]) (st := []) (c_X3_soonest v rf go vm rm gm vt rt gt tk lt len op to on last num nin re ha0 hb0 false hv) dX3_across_24 tw_3_106 tw_3_108 ts_2_11 tw_1_1 tw_3_109 ⟨hy_X3_soonest.1.1, hy_X3_soonest.1.2, hy_X3_soonest.2⟩ ⟨by decide, by decide⟩ ⟨by decide, by decide⟩ rfl (by decide) rfl rfl rfl rfl rfl (Nat.le_of_ble_eq_true rfl) rfl rfl (fun r1 M1 hp => ?_)
      obtain ⟨rfl, vm1, rm1, gm1, rfl⟩ := hp
      refine ⟨rfl, rfl, ?_⟩
      show G C 0 0 27 [aR 0 0 0, aI (nI (a)), aI (nI (b))] [aI (oI (-9) (fstB (soonB (becm vm v) false a b) 41))] _
      exact g_iret hC rfl dX3_across_27 (⟨rV (by rw [oSoon_ok (sm_bec vm hv) (wf_becm vm hv) hr hr2 ha0 hb0]; rfl), by rw [oSoon_ok (sm_bec vm hv) (wf_becm vm hv) hr hr2 ha0 hb0]; exact ⟨_, _, _, _, _, _, _, _, _, rfl⟩⟩)
    · skip
      have hno := of_decide_eq_false h_11
      refine g_aload_n hC dX3_across_14 rfl rfl ?_
      refine g_iconst (v := (-1)) hC dX3_across_15 (by decide) ?_
      refine gi_X3_51 hC (is := [0, 1, 2, 3, 4, 5, 6, 7]) (st := []) (c_X3_refuse v rf go vm rm gm vt rt gt tk lt len op to on last num nin re (k := 1) (by decide)) dX3_across_16 rfl ⟨by decide, by decide⟩ ⟨by decide, by decide⟩ rfl (by decide) rfl rfl rfl ?_
      exact g_iret hC rfl dX3_across_19 (by first | exact ⟨rV (by rw [oSoon_no (fun z => hno z.1)]; rfl), by rw [oSoon_no (fun z => hno z.1)]; exact ⟨_, _, _, _, _, _, _, _, _, rfl⟩⟩ | exact ⟨rV (by rw [oSoon_no (fun z => hno z.2)]; rfl), by rw [oSoon_no (fun z => hno z.2)]; exact ⟨_, _, _, _, _, _, _, _, _, rfl⟩⟩)

set_option maxRecDepth 100000 in
set_option maxHeartbeats 4000000 in
theorem c_X3_covered (v : Vw) (rf : Nat) (go : Nat → Nat) (vm : Vw) (rm : Nat) (gm : Nat → Nat) (vt : Vw) (rt : Nat) (gt : Nat → Nat) (tk : Bool) (lt : Nat → Nat) (len : Nat) (op : Nat → Nat) (to on : Nat → Nat → Nat) (last : Nat) (num : Nat → Nat) (nin : Nat) (re : Nat → Nat) (x y : Int32) (hv : wf 99 v) : Con yX3_covered cX3_covered 3 (some .int) 6 0 0 [aR 0 0 0, aI (x), aI (y)] (mainW v rf go vm rm gm vt rt gt tk lt len op to on last num nin re) (fun r M => r = some (aI (ansOf (oSoon v true x y))) ∧ PX v rf vt rt tk lt len num nin (bump re (oSoon v true x y)) M) := by
  refine con_of RX3 pn_X3 rfl rfl (Nat.le_of_ble_eq_true rfl) (fun C hM0 hC => ?_)
  show G C 0 0 0 [aR 0 0 0, aI (x), aI (y)] [] (mainW v rf go vm rm gm vt rt gt tk lt len op to on last num nin re)
  have hn4 := wf_n hv
  refine g_iload_n hC dX3_covered_0 rfl ?_
  refine gi_X3_69 hC (is := []) (st := []) (c_X3_isRoom x) dX3_covered_1 rfl ⟨by decide, by decide⟩ ⟨by decide, by decide⟩ rfl (by decide) rfl rfl ?_
  refine g_if_eqB (tgt := 14) hC dX3_covered_4 (by decide) (fun h_4 => ?_) (fun h_4 => ?_)
  · skip
    have hno := of_decide_eq_false h_4
    refine g_aload_n hC dX3_covered_14 rfl rfl ?_
    refine g_iconst (v := (-1)) hC dX3_covered_15 (by decide) ?_
    refine gi_X3_51 hC (is := [0, 1, 2, 3, 4, 5, 6, 7]) (st := []) (c_X3_refuse v rf go vm rm gm vt rt gt tk lt len op to on last num nin re (k := 1) (by decide)) dX3_covered_16 rfl ⟨by decide, by decide⟩ ⟨by decide, by decide⟩ rfl (by decide) rfl rfl rfl ?_
    exact g_iret hC rfl dX3_covered_19 (by first | exact ⟨rV (by rw [oSoon_no (fun z => hno z.1)]; rfl), by rw [oSoon_no (fun z => hno z.1)]; exact ⟨_, _, _, _, _, _, _, _, _, rfl⟩⟩ | exact ⟨rV (by rw [oSoon_no (fun z => hno z.2)]; rfl), by rw [oSoon_no (fun z => hno z.2)]; exact ⟨_, _, _, _, _, _, _, _, _, rfl⟩⟩)
  · skip
    have hr := of_decide_eq_true h_4
    obtain ⟨a, ha0, rfl⟩ := rm_of hr
    refine g_iload_n hC dX3_covered_7 rfl ?_
    refine gi_X3_69 hC (is := []) (st := []) (c_X3_isRoom y) dX3_covered_8 rfl ⟨by decide, by decide⟩ ⟨by decide, by decide⟩ rfl (by decide) rfl rfl ?_
    refine g_if_neB (tgt := 20) hC dX3_covered_11 (by decide) (fun h_11 => ?_) (fun h_11 => ?_)
    · skip
      have hr2 := of_decide_eq_true h_11
      obtain ⟨b, hb0, rfl⟩ := rm_of hr2
      refine g_aload_n hC dX3_covered_20 rfl rfl ?_
      refine g_iload_n hC dX3_covered_21 rfl ?_
      refine g_iload_n hC dX3_covered_22 rfl ?_
      refine g_iconst (v := nI (1)) hC dX3_covered_23 (by decide) ?_
      refine g_invV (T := TX3) (N := 9) hC (is := [0, 1, 2, 3, 4, 5, 6, 7]) (st := []) (c_X3_soonest v rf go vm rm gm vt rt gt tk lt len op to on last num nin re ha0 hb0 true hv) dX3_covered_24 tw_3_106 tw_3_108 ts_2_11 tw_1_1 tw_3_109 ⟨hy_X3_soonest.1.1, hy_X3_soonest.1.2, hy_X3_soonest.2⟩ ⟨by decide, by decide⟩ ⟨by decide, by decide⟩ rfl (by decide) rfl rfl rfl rfl rfl (Nat.le_of_ble_eq_true rfl) rfl rfl (fun r1 M1 hp => ?_)
      obtain ⟨rfl, vm1, rm1, gm1, rfl⟩ := hp
      refine ⟨rfl, rfl, ?_⟩
      show G C 0 0 27 [aR 0 0 0, aI (nI (a)), aI (nI (b))] [aI (oI (-9) (fstB (soonB (becm vm v) true a b) 41))] _
      exact g_iret hC rfl dX3_covered_27 (⟨rV (by rw [oSoon_ok (sm_bec vm hv) (wf_becm vm hv) hr hr2 ha0 hb0]; rfl), by rw [oSoon_ok (sm_bec vm hv) (wf_becm vm hv) hr hr2 ha0 hb0]; exact ⟨_, _, _, _, _, _, _, _, _, rfl⟩⟩)
    · skip
      have hno := of_decide_eq_false h_11
      refine g_aload_n hC dX3_covered_14 rfl rfl ?_
      refine g_iconst (v := (-1)) hC dX3_covered_15 (by decide) ?_
      refine gi_X3_51 hC (is := [0, 1, 2, 3, 4, 5, 6, 7]) (st := []) (c_X3_refuse v rf go vm rm gm vt rt gt tk lt len op to on last num nin re (k := 1) (by decide)) dX3_covered_16 rfl ⟨by decide, by decide⟩ ⟨by decide, by decide⟩ rfl (by decide) rfl rfl rfl ?_
      exact g_iret hC rfl dX3_covered_19 (by first | exact ⟨rV (by rw [oSoon_no (fun z => hno z.1)]; rfl), by rw [oSoon_no (fun z => hno z.1)]; exact ⟨_, _, _, _, _, _, _, _, _, rfl⟩⟩ | exact ⟨rV (by rw [oSoon_no (fun z => hno z.2)]; rfl), by rw [oSoon_no (fun z => hno z.2)]; exact ⟨_, _, _, _, _, _, _, _, _, rfl⟩⟩)

set_option maxRecDepth 100000 in
set_option maxHeartbeats 4000000 in
theorem c_X3_seeds (v : Vw) (rf : Nat) (go : Nat → Nat) (vm : Vw) (rm : Nat) (gm : Nat → Nat) (vt : Vw) (rt : Nat) (gt : Nat → Nat) (tk : Bool) (lt : Nat → Nat) (len : Nat) (op : Nat → Nat) (to on : Nat → Nat → Nat) (last : Nat) (num : Nat → Nat) (nin : Nat) (re : Nat → Nat) (x z y : Int32) (hv : wf 99 v) : Con yX3_seeds cX3_seeds 7 (some .int) 5 0 0 [aR 0 0 0, aI (x), aI (z), aI (y)] (mainW v rf go vm rm gm vt rt gt tk lt len op to on last num nin re) (fun r M => r = some (aI (ansOf (oSeeds v x z y))) ∧ PX v rf vt rt tk lt len num nin (bump re (oSeeds v x z y)) M) := by
  refine con_of RX3 pn_X3 rfl rfl (Nat.le_of_ble_eq_true rfl) (fun C hM0 hC => ?_)
  show G C 0 0 0 [aR 0 0 0, aI (x), aI (z), aI (y), aK 9, aK 9, aK 9] [] (mainW v rf go vm rm gm vt rt gt tk lt len op to on last num nin re)
  have hn4 := wf_n hv
  refine g_iload_n hC dX3_seeds_0 rfl ?_
  refine gi_X3_69 hC (is := []) (st := []) (c_X3_isRoom y) dX3_seeds_1 rfl ⟨by decide, by decide⟩ ⟨by decide, by decide⟩ rfl (by decide) rfl rfl ?_
  refine g_if_eqB (tgt := 17) hC dX3_seeds_4 (by decide) (fun h_4 => ?_) (fun h_4 => ?_)
  · skip
    have hr := of_decide_eq_false h_4
    refine g_iconst (v := (-1)) hC dX3_seeds_17 (by decide) ?_
    have hK : kSeeds x y = 1 := if_neg hr
    show G C 0 0 _ _ (aI (-(nI 1)) :: []) _
    rw [show -(nI 1) = -(nI (kSeeds x y)) from by rw [hK]]
    refine g_istore hC dX3_seeds_18 (by decide) rfl ?_
    refine g_iload hC dX3_seeds_20 rfl ?_
    refine g_if_eq (tgt := 32) hC dX3_seeds_22 (by decide) (fun h_22 => ?_) (fun h_22 => ?_)
    · skip
      have hk := (neg_0 (kSeeds x y) (kSeeds_lt x y)).mp h_22
      rw [hK] at hk
      cases hk
    · skip
      have hk : kSeeds x y ≠ 0 := fun z => h_22 ((neg_0 (kSeeds x y) (kSeeds_lt x y)).mpr z)
      refine g_aload_n hC dX3_seeds_25 rfl rfl ?_
      refine g_iload hC dX3_seeds_26 rfl ?_
      refine gi_X3_51 hC (is := [0, 1, 2, 3, 4, 5, 6, 7]) (st := []) (c_X3_refuse v rf go vm rm gm vt rt gt tk lt len op to on last num nin re (k := (kSeeds x y)) (kSeeds_lt x y)) dX3_seeds_28 rfl ⟨by decide, by decide⟩ ⟨by decide, by decide⟩ rfl (by decide) rfl rfl rfl ?_
      exact g_iret hC rfl dX3_seeds_31 (⟨rV (by rw [Seeds_no hk]; rfl), by rw [Seeds_no hk]; exact ⟨_, _, _, _, _, _, _, _, _, rfl⟩⟩)
  · skip
    have hr := of_decide_eq_true h_4
    refine g_iload_n hC dX3_seeds_7 rfl ?_
    refine g_iconst (v := nI (1)) hC dX3_seeds_8 (by decide) ?_
    refine g_bipush (v := nI (30)) hC dX3_seeds_9 (by decide) ?_
    refine gi_X3_101 hC (is := []) (st := []) (c_X3_outside x (nI 1) (nI 30)) dX3_seeds_11 rfl ⟨by decide, by decide⟩ ⟨by decide, by decide⟩ rfl (by decide) rfl rfl ?_
    refine g_goto (tgt := 18) hC dX3_seeds_14 (by decide) ?_
    have hK : kSeeds x y = outN x (nI 1) (nI 30) := if_pos hr
    rw [show -(nI (outN x (nI 1) (nI 30))) = -(nI (kSeeds x y)) from by rw [hK]]
    refine g_istore hC dX3_seeds_18 (by decide) rfl ?_
    refine g_iload hC dX3_seeds_20 rfl ?_
    refine g_if_eq (tgt := 32) hC dX3_seeds_22 (by decide) (fun h_22 => ?_) (fun h_22 => ?_)
    · skip
      have hk := (neg_0 (kSeeds x y) (kSeeds_lt x y)).mp h_22
      have hx : outN x (nI 1) (nI 30) = 0 := by rw [← hK]; exact hk
      obtain ⟨r, hr0, rfl⟩ := rm_of hr
      obtain ⟨n, rfl, hn0, hn1⟩ := out_0 (by decide) (by decide) hx
      have hk0 := hk
      refine g_aload_n hC dX3_seeds_32 rfl rfl ?_
      refine gf_X3_mind hC dX3_seeds_33 rfl rfl ?_
      refine g_aload_n hC dX3_seeds_36 rfl rfl ?_
      refine gf_X3_now hC dX3_seeds_37 rfl rfl ?_
      refine gi_X3_148 hC (is := [2, 1]) (st := []) (c_X1_become vm v rm rf gm go hn4) dX3_seeds_40 rfl ⟨by decide, by decide⟩ ⟨by decide, by decide⟩ rfl (by decide) rfl rfl rfl ?_
      refine g_iload_n hC dX3_seeds_43 rfl ?_
      refine g_istore hC dX3_seeds_44 (by decide) rfl ?_
      refine g_iconst (v := nI (0)) hC dX3_seeds_46 (by decide) ?_
      refine g_istore hC dX3_seeds_47 (by decide) rfl ?_
      have hwb := wf_becm vm hv
      have loop : ∀ d k, k + d = n → G C 0 0 49 [aR 0 0 0, aI (nI (n)), aI (z), aI (nI (r)), aK 9, aI ((sc (becm vm v) z k).2), aI (nI (k))] [] (mainW v rf go (sc (becm vm v) z k).1 rf (scg (becm vm v) z gm k) vt rt gt tk lt len op to on last num nin re) := by
        intro d
        induction d with
        | zero =>
          intro k hk
          obtain rfl : k = n := by omega
          have hwm : wf 200 (sc (becm vm v) z k).1 := wf_up (wf_sc hwb z k) (by omega)
          refine g_iload hC dX3_seeds_49 rfl ?_
          refine g_iload_n hC dX3_seeds_51 rfl ?_
          refine g_icmp_geN (tgt := 80) hC dX3_seeds_52 (by decide) (by omega) (by omega) (fun h_52 => ?_) (fun h_52 => ?_)
          · skip
            refine g_aload_n hC dX3_seeds_80 rfl rfl ?_
            refine gf_X3_mind hC dX3_seeds_81 rfl rfl ?_
            refine g_iload_n hC dX3_seeds_84 rfl ?_
            refine gi_X3_142 hC (is := [2]) (st := []) (c_X1_toldApartIn (sc (becm vm v) z k).1 rf (scg (becm vm v) z gm k) hwm (by decide) hr0) dX3_seeds_85 rfl ⟨by decide, by decide⟩ ⟨by decide, by decide⟩ rfl (by decide) rfl rfl rfl ?_
            have ho := Seeds_ok (v := v) (z := z) hk0
            rw [tn_n (show k < 2 ^ 31 by omega), tn_n (show r < 2 ^ 31 by omega), ← sm_apart (sm_sc (sm_bec vm hv) hwb z k).1 hr0] at ho
            exact g_iret hC rfl dX3_seeds_88 (⟨rV (by rw [ho]; rfl), by rw [ho]; exact ⟨_, _, _, _, _, _, _, _, _, rfl⟩⟩)
          · skip
            omega
        | succ d ih =>
          intro k hk
          have hwk := wf_sc hwb z k
          refine g_iload hC dX3_seeds_49 rfl ?_
          refine g_iload_n hC dX3_seeds_51 rfl ?_
          refine g_icmp_geN (tgt := 80) hC dX3_seeds_52 (by decide) (by omega) (by omega) (fun h_52 => ?_) (fun h_52 => ?_)
          · skip
            omega
          · skip
            refine g_aload_n hC dX3_seeds_55 rfl rfl ?_
            refine gf_X3_mind hC dX3_seeds_56 rfl rfl ?_
            refine g_iload hC dX3_seeds_59 rfl ?_
            refine gi_X3_182 hC (is := [2]) (st := []) (c_X1_scatter (sc (becm vm v) z k).1 rf (scg (becm vm v) z gm k) hwk (by omega) (sc (becm vm v) z k).2) dX3_seeds_61 rfl ⟨by decide, by decide⟩ ⟨by decide, by decide⟩ rfl (by decide) rfl rfl rfl ?_
            refine g_istore hC dX3_seeds_64 (by decide) rfl ?_
            refine g_aload_n hC dX3_seeds_66 rfl rfl ?_
            refine gf_X3_mind hC dX3_seeds_67 rfl rfl ?_
            refine g_iconst (v := nI (1)) hC dX3_seeds_70 (by decide) ?_
            refine gi_X3_124 hC (is := [2]) (st := []) (c_X1_goOn (scatV (sc (becm vm v) z k).1 (sc (becm vm v) z k).2 (vN (sc (becm vm v) z k).1)) rf (scg (becm vm v) z gm k) (wf_scat hwk _ _) (show 99 + k + 1 ≤ 200 by omega)) dX3_seeds_71 rfl ⟨by decide, by decide⟩ ⟨by decide, by decide⟩ rfl (by decide) rfl rfl rfl ?_
            refine g_iincN hC dX3_seeds_74 rfl (by decide) rfl ?_
            refine g_goto (tgt := 49) hC dX3_seeds_77 (by decide) ?_
            exact ih (k + 1) (by omega)
      refine g_mask [true, true, true, true, false, true, true] ?_
      exact loop n 0 (by omega)
    · skip
      have hk : kSeeds x y ≠ 0 := fun z => h_22 ((neg_0 (kSeeds x y) (kSeeds_lt x y)).mpr z)
      refine g_aload_n hC dX3_seeds_25 rfl rfl ?_
      refine g_iload hC dX3_seeds_26 rfl ?_
      refine gi_X3_51 hC (is := [0, 1, 2, 3, 4, 5, 6, 7]) (st := []) (c_X3_refuse v rf go vm rm gm vt rt gt tk lt len op to on last num nin re (k := (kSeeds x y)) (kSeeds_lt x y)) dX3_seeds_28 rfl ⟨by decide, by decide⟩ ⟨by decide, by decide⟩ rfl (by decide) rfl rfl rfl ?_
      exact g_iret hC rfl dX3_seeds_31 (⟨rV (by rw [Seeds_no hk]; rfl), by rw [Seeds_no hk]; exact ⟨_, _, _, _, _, _, _, _, _, rfl⟩⟩)

