theorem min_nI {a b : Nat} (ha : a < 2 ^ 31) (hb : b < 2 ^ 31) : (if nI b < nI a then nI b else nI a) = nI (min a b) := by
  have e : nI b < nI a ↔ b < a := by rw [Int32.lt_iff_toInt_lt, nI_toInt ha, nI_toInt hb]; omega
  by_cases h : b < a
  · rw [if_pos (e.mpr h), Nat.min_eq_right (by omega)]
  · rw [if_neg (fun z => h (e.mp z)), Nat.min_eq_left (by omega)]
def oWalker (v : Vw) (x w : Int32) : Ans := if (0 ≤ x ∧ x < nI (vN v)) then (match whi w 3 with
  | some 0 => .inr (nI (vKi v (tn x)))
  | some 1 => .inr (nI (vPl v (tn x)))
  | some 2 => .inr (nI (vPL v (tn x)))
  | some 3 => .inr (nI (goal v (tn x)))
  | _ => .inl 2) else .inl 1
theorem oWalker_0 {v : Vw} {u : Nat} (h : 0 ≤ nI u ∧ nI u < nI (vN v)) (hu : u < vN v) (hn : vN v ≤ 4) : oWalker v (nI u) (nI 0) = .inr (nI (vKi v u)) := by
  unfold oWalker
  rw [if_pos h, whi_in (by decide) (by decide), tn_n (by omega)]
  rfl
theorem oWalker_1 {v : Vw} {u : Nat} (h : 0 ≤ nI u ∧ nI u < nI (vN v)) (hu : u < vN v) (hn : vN v ≤ 4) : oWalker v (nI u) (nI 1) = .inr (nI (vPl v u)) := by
  unfold oWalker
  rw [if_pos h, whi_in (by decide) (by decide), tn_n (by omega)]
  rfl
theorem oWalker_2 {v : Vw} {u : Nat} (h : 0 ≤ nI u ∧ nI u < nI (vN v)) (hu : u < vN v) (hn : vN v ≤ 4) : oWalker v (nI u) (nI 2) = .inr (nI (vPL v u)) := by
  unfold oWalker
  rw [if_pos h, whi_in (by decide) (by decide), tn_n (by omega)]
  rfl
theorem oWalker_3 {v : Vw} {u : Nat} (h : 0 ≤ nI u ∧ nI u < nI (vN v)) (hu : u < vN v) (hn : vN v ≤ 4) : oWalker v (nI u) (nI 3) = .inr (nI (goal v u)) := by
  unfold oWalker
  rw [if_pos h, whi_in (by decide) (by decide), tn_n (by omega)]
  rfl
theorem oWalker_no {v : Vw} {x w : Int32} (h : ¬ (0 ≤ x ∧ x < nI (vN v))) : oWalker v x w = .inl 1 := if_neg h
theorem oWalker_out {v : Vw} {x w : Int32} (h : (0 ≤ x ∧ x < nI (vN v))) (h2 : w.toInt < 0 ∨ ((3 : Nat) : Int) < w.toInt) : oWalker v x w = .inl 2 := by
  unfold oWalker
  rw [if_pos h, whi_out h2]
def oPut (v : Vw) (x y : Int32) : Ans := if (0 ≤ x ∧ x < nI (vN v)) ∧ (0 ≤ y ∧ y < nI 6) then .inr (nI (vPl v (tn x))) else .inl 1
def nPut (v : Vw) (x y : Int32) : Vw := if (0 ≤ x ∧ x < nI (vN v)) ∧ (0 ≤ y ∧ y < nI 6) then uPl v (updN (vPl v) (tn x) (tn y)) else v
theorem put_no {v : Vw} {x y : Int32} (h : ¬ ((0 ≤ x ∧ x < nI (vN v)) ∧ (0 ≤ y ∧ y < nI 6))) : oPut v x y = .inl 1 ∧ nPut v x y = v := ⟨if_neg h, if_neg h⟩
theorem put_ok {v : Vw} {u r : Nat} (hn : vN v ≤ 4) (h : (0 ≤ nI u ∧ nI u < nI (vN v))) (h2 : (0 ≤ nI r ∧ nI r < nI 6)) (hu : u < vN v) (hr : r < 6) : oPut v (nI u) (nI r) = .inr (nI (vPl v u)) ∧ nPut v (nI u) (nI r) = uPl v (updN (vPl v) u r) := by
  unfold oPut nPut
  rw [if_pos ⟨h, h2⟩, if_pos ⟨h, h2⟩, tn_n (by omega), tn_n (by omega)]
  exact ⟨rfl, rfl⟩
def kWind (x y : Int32) : Nat := if (0 ≤ x ∧ x < nI 6) then outN y (nI 0) (nI 3) else 1
theorem kWind_lt (x y : Int32) : kWind x y < 7 := by
  unfold kWind
  split
  · exact outN_lt _ _ _
  · decide
def oWind (v : Vw) (x y : Int32) : Ans := if kWind x y = 0 then .inr (nI (vWi v (tn x))) else .inl (kWind x y)
def nWind (v : Vw) (x y : Int32) : Vw := if kWind x y = 0 then uWi v (updN (vWi v) (tn x) (tn y)) else v
theorem Wind_no {v : Vw} {x y : Int32} (h : kWind x y ≠ 0) : oWind v x y = .inl (kWind x y) ∧ nWind v x y = v := ⟨if_neg h, if_neg h⟩
theorem Wind_ok {v : Vw} {x y : Int32} (h : kWind x y = 0) : oWind v x y = .inr (nI (vWi v (tn x))) ∧ nWind v x y = uWi v (updN (vWi v) (tn x) (tn y)) := ⟨if_pos h, if_pos h⟩
def kNose (x : Int32) : Nat := outN x (nI 1) (nI 9)
def oNose (v : Vw) (x : Int32) : Ans := if kNose x = 0 then .inr (nI (vNo v)) else .inl (kNose x)
def nNose (v : Vw) (x : Int32) : Vw := if kNose x = 0 then uNo v (tn x) else v
theorem Nose_no {v : Vw} {x : Int32} (h : kNose x ≠ 0) : oNose v x = .inl (kNose x) ∧ nNose v x = v := ⟨if_neg h, if_neg h⟩
theorem Nose_ok {v : Vw} {x : Int32} (h : kNose x = 0) : oNose v x = .inr (nI (vNo v)) ∧ nNose v x = uNo v (tn x) := ⟨if_pos h, if_pos h⟩
def kPass (v : Vw) (x : Int32) : Nat := outN x (nI 1) (nI (min 40 (99 - vMi v)))
def oPass (v : Vw) (x : Int32) : Ans := if kPass v x = 0 then .inr (nI (vMi v + tn x)) else .inl (kPass v x)
def nPass (v : Vw) (x : Int32) : Vw := if kPass v x = 0 then goN v (tn x) else v
theorem Pass_no {v : Vw} {x : Int32} (h : kPass v x ≠ 0) : oPass v x = .inl (kPass v x) ∧ nPass v x = v := ⟨if_neg h, if_neg h⟩
theorem Pass_ok {v : Vw} {x : Int32} (h : kPass v x = 0) : oPass v x = .inr (nI (vMi v + tn x)) ∧ nPass v x = goN v (tn x) := ⟨if_pos h, if_pos h⟩
def oRain (v : Vw) (ro : Nat → Bool) : Ans := .inr (nI (rainC v ro 6))
def oAge (v : Vw) (x y : Int32) : Ans := if (0 ≤ x ∧ x < nI (vN v)) ∧ (0 ≤ y ∧ y < nI 6) then .inr (oI (-9) (age v (tn x) (tn y) 0)) else .inl 1
theorem oAge_no {v : Vw} {x y : Int32} (h : ¬ ((0 ≤ x ∧ x < nI (vN v)) ∧ (0 ≤ y ∧ y < nI 6))) : oAge v x y = .inl 1 := if_neg h
theorem oAge_ok {v : Vw} {u r : Nat} (hn : vN v ≤ 4) (h : (0 ≤ nI u ∧ nI u < nI (vN v))) (h2 : (0 ≤ nI r ∧ nI r < nI 6)) (hu : u < vN v) (hr : r < 6) : oAge v (nI u) (nI r) = .inr (oI (-9) (age v u r 0)) := by
  unfold oAge
  rw [if_pos ⟨h, h2⟩, tn_n (by omega), tn_n (by omega)]
def oSmelt (v : Vw) (x w : Int32) : Ans := if (0 ≤ x ∧ x < nI 6) then (match whi w 3 with
  | some 0 => .inr (nI (traces v (tn x)))
  | some 1 => .inr (oI (-9) (ends v (tn x) 9 false (vN v)))
  | some 2 => .inr (oI (-9) (ends v (tn x) 9 true (vN v)))
  | some 3 => .inr (nI (apart v (tn x)))
  | _ => .inl 2) else .inl 1
theorem oSmelt_0 {v : Vw} {r : Nat} (h : (0 ≤ nI r ∧ nI r < nI 6)) (hr : r < 6) : oSmelt v (nI r) (nI 0) = .inr (nI (traces v r)) := by
  unfold oSmelt
  rw [if_pos h, whi_in (by decide) (by decide), tn_n (by omega)]
  rfl
theorem oSmelt_1 {v : Vw} {r : Nat} (h : (0 ≤ nI r ∧ nI r < nI 6)) (hr : r < 6) : oSmelt v (nI r) (nI 1) = .inr (oI (-9) (ends v r 9 false (vN v))) := by
  unfold oSmelt
  rw [if_pos h, whi_in (by decide) (by decide), tn_n (by omega)]
  rfl
theorem oSmelt_2 {v : Vw} {r : Nat} (h : (0 ≤ nI r ∧ nI r < nI 6)) (hr : r < 6) : oSmelt v (nI r) (nI 2) = .inr (oI (-9) (ends v r 9 true (vN v))) := by
  unfold oSmelt
  rw [if_pos h, whi_in (by decide) (by decide), tn_n (by omega)]
  rfl
theorem oSmelt_3 {v : Vw} {r : Nat} (h : (0 ≤ nI r ∧ nI r < nI 6)) (hr : r < 6) : oSmelt v (nI r) (nI 3) = .inr (nI (apart v r)) := by
  unfold oSmelt
  rw [if_pos h, whi_in (by decide) (by decide), tn_n (by omega)]
  rfl
theorem oSmelt_no {v : Vw} {x w : Int32} (h : ¬ (0 ≤ x ∧ x < nI 6)) : oSmelt v x w = .inl 1 := if_neg h
theorem oSmelt_out {v : Vw} {x w : Int32} (h : (0 ≤ x ∧ x < nI 6)) (h2 : w.toInt < 0 ∨ ((3 : Nat) : Int) < w.toInt) : oSmelt v x w = .inl 2 := by
  unfold oSmelt
  rw [if_pos h, whi_out h2]
set_option maxRecDepth 100000 in
set_option maxHeartbeats 4000000 in
theorem c_X3_walker (v : Vw) (rf : Nat) (go : Nat → Nat) (vm : Vw) (rm : Nat) (gm : Nat → Nat) (vt : Vw) (rt : Nat) (gt : Nat → Nat) (tk : Bool) (lt : Nat → Nat) (len : Nat) (op : Nat → Nat) (to on : Nat → Nat → Nat) (last : Nat) (num : Nat → Nat) (nin : Nat) (re : Nat → Nat) (x w : Int32) (hv : wf 99 v) : Con yX3_walker cX3_walker 3 (some .int) 4 0 0 [aR 0 0 0, aI (x), aI (w)] (mainW v rf go vm rm gm vt rt gt tk lt len op to on last num nin re) (fun r M => r = some (aI (ansOf (oWalker v x w))) ∧ PX v rf vt rt tk lt len num nin (bump re (oWalker v x w)) M) := by
  refine con_of RX3 pn_X3 rfl rfl (Nat.le_of_ble_eq_true rfl) (fun C hM0 hC => ?_)
  show G C 0 0 0 [aR 0 0 0, aI (x), aI (w)] [] (mainW v rf go vm rm gm vt rt gt tk lt len op to on last num nin re)
  have hn4 := wf_n hv
  refine g_aload_n hC dX3_walker_0 rfl rfl ?_
  refine gf_X3_now hC dX3_walker_1 rfl rfl ?_
  refine g_iload_n hC dX3_walker_4 rfl ?_
  refine gi_X3_82 hC (is := [1]) (st := []) (c_X1_isWalker v rf go x) dX3_walker_5 rfl ⟨by decide, by decide⟩ ⟨by decide, by decide⟩ rfl (by decide) rfl rfl rfl ?_
  refine g_if_neB (tgt := 17) hC dX3_walker_8 (by decide) (fun h_8 => ?_) (fun h_8 => ?_)
  · skip
    have hw := of_decide_eq_true h_8
    obtain ⟨u, hu0, rfl⟩ := wk_of hn4 hw
    refine g_iload_n hC dX3_walker_17 rfl ?_
    rcases tab_cases w 3 (by decide) with ⟨i, hi, rfl⟩ | hout
    · rcases (by omega : i = 0 ∨ i = 1 ∨ i = 2 ∨ i = 3) with rfl | rfl | rfl | rfl
      · refine g_tabIn (off := 30) (tgt := 48) hC dX3_walker_18 (by decide) (by decide) (by decide) (by decide) ?_
        refine g_aload_n hC dX3_walker_48 rfl rfl ?_
        refine gf_X3_now hC dX3_walker_49 rfl rfl ?_
        refine g_iload_n hC dX3_walker_52 rfl ?_
        refine gi_X3_85 hC (is := [1]) (st := []) (c_X1_kindOf v rf go (show u < 4 by omega)) dX3_walker_53 rfl ⟨by decide, by decide⟩ ⟨by decide, by decide⟩ rfl (by decide) rfl rfl rfl ?_
        exact g_iret hC rfl dX3_walker_56 (⟨rV (by rw [oWalker_0 hw hu0 hn4]; rfl), by rw [oWalker_0 hw hu0 hn4]; exact ⟨_, _, _, _, _, _, _, _, _, rfl⟩⟩)
      · refine g_tabIn (off := 39) (tgt := 57) hC dX3_walker_18 (by decide) (by decide) (by decide) (by decide) ?_
        refine g_aload_n hC dX3_walker_57 rfl rfl ?_
        refine gf_X3_now hC dX3_walker_58 rfl rfl ?_
        refine g_iload_n hC dX3_walker_61 rfl ?_
        refine gi_X3_88 hC (is := [1]) (st := []) (c_X1_placeOf v rf go (show u < 4 by omega)) dX3_walker_62 rfl ⟨by decide, by decide⟩ ⟨by decide, by decide⟩ rfl (by decide) rfl rfl rfl ?_
        exact g_iret hC rfl dX3_walker_65 (⟨rV (by rw [oWalker_1 hw hu0 hn4]; rfl), by rw [oWalker_1 hw hu0 hn4]; exact ⟨_, _, _, _, _, _, _, _, _, rfl⟩⟩)
      · refine g_tabIn (off := 48) (tgt := 66) hC dX3_walker_18 (by decide) (by decide) (by decide) (by decide) ?_
        refine g_aload_n hC dX3_walker_66 rfl rfl ?_
        refine gf_X3_now hC dX3_walker_67 rfl rfl ?_
        refine g_iload_n hC dX3_walker_70 rfl ?_
        refine gi_X3_91 hC (is := [1]) (st := []) (c_X1_planLengthOf v rf go (show u < 4 by omega)) dX3_walker_71 rfl ⟨by decide, by decide⟩ ⟨by decide, by decide⟩ rfl (by decide) rfl rfl rfl ?_
        exact g_iret hC rfl dX3_walker_74 (⟨rV (by rw [oWalker_2 hw hu0 hn4]; rfl), by rw [oWalker_2 hw hu0 hn4]; exact ⟨_, _, _, _, _, _, _, _, _, rfl⟩⟩)
      · refine g_tabIn (off := 57) (tgt := 75) hC dX3_walker_18 (by decide) (by decide) (by decide) (by decide) ?_
        refine g_aload_n hC dX3_walker_75 rfl rfl ?_
        refine gf_X3_now hC dX3_walker_76 rfl rfl ?_
        refine g_iload_n hC dX3_walker_79 rfl ?_
        refine gi_X3_94 hC (is := [1]) (st := []) (c_X1_goalOf v rf go hv (by decide) hu0) dX3_walker_80 rfl ⟨by decide, by decide⟩ ⟨by decide, by decide⟩ rfl (by decide) rfl rfl rfl ?_
        exact g_iret hC rfl dX3_walker_83 (⟨rV (by rw [oWalker_3 hw hu0 hn4]; rfl), by rw [oWalker_3 hw hu0 hn4]; exact ⟨_, _, _, _, _, _, _, _, _, rfl⟩⟩)
    · refine g_tabOut (tgt := 84) hC dX3_walker_18 hout (by decide) ?_
      refine g_aload_n hC dX3_walker_84 rfl rfl ?_
      refine g_bipush (v := (-2)) hC dX3_walker_85 (by decide) ?_
      refine gi_X3_51 hC (is := [0, 1, 2, 3, 4, 5, 6, 7]) (st := []) (c_X3_refuse v rf go vm rm gm vt rt gt tk lt len op to on last num nin re (k := 2) (by decide)) dX3_walker_87 rfl ⟨by decide, by decide⟩ ⟨by decide, by decide⟩ rfl (by decide) rfl rfl rfl ?_
      exact g_iret hC rfl dX3_walker_90 (⟨rV (by rw [oWalker_out hw hout]; rfl), by rw [oWalker_out hw hout]; exact ⟨_, _, _, _, _, _, _, _, _, rfl⟩⟩)
  · skip
    have hno := of_decide_eq_false h_8
    refine g_aload_n hC dX3_walker_11 rfl rfl ?_
    refine g_iconst (v := (-1)) hC dX3_walker_12 (by decide) ?_
    refine gi_X3_51 hC (is := [0, 1, 2, 3, 4, 5, 6, 7]) (st := []) (c_X3_refuse v rf go vm rm gm vt rt gt tk lt len op to on last num nin re (k := 1) (by decide)) dX3_walker_13 rfl ⟨by decide, by decide⟩ ⟨by decide, by decide⟩ rfl (by decide) rfl rfl rfl ?_
    exact g_iret hC rfl dX3_walker_16 (⟨rV (by rw [oWalker_no hno]; rfl), by rw [oWalker_no hno]; exact ⟨_, _, _, _, _, _, _, _, _, rfl⟩⟩)

set_option maxRecDepth 100000 in
set_option maxHeartbeats 4000000 in
theorem c_X3_put (v : Vw) (rf : Nat) (go : Nat → Nat) (vm : Vw) (rm : Nat) (gm : Nat → Nat) (vt : Vw) (rt : Nat) (gt : Nat → Nat) (tk : Bool) (lt : Nat → Nat) (len : Nat) (op : Nat → Nat) (to on : Nat → Nat → Nat) (last : Nat) (num : Nat → Nat) (nin : Nat) (re : Nat → Nat) (x y : Int32) (hv : wf 99 v) : Con yX3_put cX3_put 4 (some .int) 1 0 0 [aR 0 0 0, aI (x), aI (y)] (mainW v rf go vm rm gm vt rt gt tk lt len op to on last num nin re) (fun r M => r = some (aI (ansOf (oPut v x y))) ∧ PX (nPut v x y) rf vt rt tk lt len num nin (bump re (oPut v x y)) M) := by
  refine con_of RX3 pn_X3 rfl rfl (Nat.le_of_ble_eq_true rfl) (fun C hM0 hC => ?_)
  show G C 0 0 0 [aR 0 0 0, aI (x), aI (y), aK 9] [] (mainW v rf go vm rm gm vt rt gt tk lt len op to on last num nin re)
  have hn4 := wf_n hv
  refine g_aload_n hC dX3_put_0 rfl rfl ?_
  refine gf_X3_now hC dX3_put_1 rfl rfl ?_
  refine g_iload_n hC dX3_put_4 rfl ?_
  refine gi_X3_82 hC (is := [1]) (st := []) (c_X1_isWalker v rf go x) dX3_put_5 rfl ⟨by decide, by decide⟩ ⟨by decide, by decide⟩ rfl (by decide) rfl rfl rfl ?_
  refine g_if_eqB (tgt := 18) hC dX3_put_8 (by decide) (fun h_8 => ?_) (fun h_8 => ?_)
  · skip
    have hno := of_decide_eq_false h_8
    refine g_aload_n hC dX3_put_18 rfl rfl ?_
    refine g_iconst (v := (-1)) hC dX3_put_19 (by decide) ?_
    refine gi_X3_51 hC (is := [0, 1, 2, 3, 4, 5, 6, 7]) (st := []) (c_X3_refuse v rf go vm rm gm vt rt gt tk lt len op to on last num nin re (k := 1) (by decide)) dX3_put_20 rfl ⟨by decide, by decide⟩ ⟨by decide, by decide⟩ rfl (by decide) rfl rfl rfl ?_
    exact g_iret hC rfl dX3_put_23 (by first | exact ⟨rV (by rw [(put_no (fun z => hno z.1)).1]; rfl), by rw [(put_no (fun z => hno z.1)).1, (put_no (fun z => hno z.1)).2]; exact ⟨_, _, _, _, _, _, _, _, _, rfl⟩⟩ | exact ⟨rV (by rw [(put_no (fun z => hno z.2)).1]; rfl), by rw [(put_no (fun z => hno z.2)).1, (put_no (fun z => hno z.2)).2]; exact ⟨_, _, _, _, _, _, _, _, _, rfl⟩⟩)
  · skip
    have hw := of_decide_eq_true h_8
    obtain ⟨u, hu0, rfl⟩ := wk_of hn4 hw
    refine g_iload_n hC dX3_put_11 rfl ?_
    refine gi_X3_69 hC (is := []) (st := []) (c_X3_isRoom y) dX3_put_12 rfl ⟨by decide, by decide⟩ ⟨by decide, by decide⟩ rfl (by decide) rfl rfl ?_
    refine g_if_neB (tgt := 24) hC dX3_put_15 (by decide) (fun h_15 => ?_) (fun h_15 => ?_)
    · skip
      have hr := of_decide_eq_true h_15
      obtain ⟨r, hr0, rfl⟩ := rm_of hr
      refine g_aload_n hC dX3_put_24 rfl rfl ?_
      refine gf_X3_now hC dX3_put_25 rfl rfl ?_
      refine g_iload_n hC dX3_put_28 rfl ?_
      refine gi_X3_88 hC (is := [1]) (st := []) (c_X1_placeOf v rf go (show u < 4 by omega)) dX3_put_29 rfl ⟨by decide, by decide⟩ ⟨by decide, by decide⟩ rfl (by decide) rfl rfl rfl ?_
      refine g_istore_n hC dX3_put_32 (by decide) rfl ?_
      refine g_aload_n hC dX3_put_33 rfl rfl ?_
      refine gf_X3_now hC dX3_put_34 rfl rfl ?_
      refine g_iload_n hC dX3_put_37 rfl ?_
      refine g_iload_n hC dX3_put_38 rfl ?_
      refine gi_X3_97 hC (is := [1]) (st := []) (c_X1_place v rf go (show u < 4 by omega) r) dX3_put_39 rfl ⟨by decide, by decide⟩ ⟨by decide, by decide⟩ rfl (by decide) rfl rfl rfl ?_
      refine g_iload_n hC dX3_put_42 rfl ?_
      exact g_iret hC rfl dX3_put_43 (⟨rV (by rw [(put_ok hn4 hw hr hu0 hr0).1]; rfl), by rw [(put_ok hn4 hw hr hu0 hr0).1, (put_ok hn4 hw hr hu0 hr0).2]; exact ⟨_, _, _, _, _, _, _, _, _, rfl⟩⟩)
    · skip
      have hno := of_decide_eq_false h_15
      refine g_aload_n hC dX3_put_18 rfl rfl ?_
      refine g_iconst (v := (-1)) hC dX3_put_19 (by decide) ?_
      refine gi_X3_51 hC (is := [0, 1, 2, 3, 4, 5, 6, 7]) (st := []) (c_X3_refuse v rf go vm rm gm vt rt gt tk lt len op to on last num nin re (k := 1) (by decide)) dX3_put_20 rfl ⟨by decide, by decide⟩ ⟨by decide, by decide⟩ rfl (by decide) rfl rfl rfl ?_
      exact g_iret hC rfl dX3_put_23 (by first | exact ⟨rV (by rw [(put_no (fun z => hno z.1)).1]; rfl), by rw [(put_no (fun z => hno z.1)).1, (put_no (fun z => hno z.1)).2]; exact ⟨_, _, _, _, _, _, _, _, _, rfl⟩⟩ | exact ⟨rV (by rw [(put_no (fun z => hno z.2)).1]; rfl), by rw [(put_no (fun z => hno z.2)).1, (put_no (fun z => hno z.2)).2]; exact ⟨_, _, _, _, _, _, _, _, _, rfl⟩⟩)

set_option maxRecDepth 100000 in
set_option maxHeartbeats 4000000 in
theorem c_X3_wind (v : Vw) (rf : Nat) (go : Nat → Nat) (vm : Vw) (rm : Nat) (gm : Nat → Nat) (vt : Vw) (rt : Nat) (gt : Nat → Nat) (tk : Bool) (lt : Nat → Nat) (len : Nat) (op : Nat → Nat) (to on : Nat → Nat → Nat) (last : Nat) (num : Nat → Nat) (nin : Nat) (re : Nat → Nat) (x y : Int32) (hv : wf 99 v) : Con yX3_wind cX3_wind 5 (some .int) 1 0 0 [aR 0 0 0, aI (x), aI (y)] (mainW v rf go vm rm gm vt rt gt tk lt len op to on last num nin re) (fun r M => r = some (aI (ansOf (oWind v x y))) ∧ PX (nWind v x y) rf vt rt tk lt len num nin (bump re (oWind v x y)) M) := by
  refine con_of RX3 pn_X3 rfl rfl (Nat.le_of_ble_eq_true rfl) (fun C hM0 hC => ?_)
  show G C 0 0 0 [aR 0 0 0, aI (x), aI (y), aK 9, aK 9] [] (mainW v rf go vm rm gm vt rt gt tk lt len op to on last num nin re)
  have hn4 := wf_n hv
  refine g_iload_n hC dX3_wind_0 rfl ?_
  refine gi_X3_69 hC (is := []) (st := []) (c_X3_isRoom x) dX3_wind_1 rfl ⟨by decide, by decide⟩ ⟨by decide, by decide⟩ rfl (by decide) rfl rfl ?_
  refine g_if_eqB (tgt := 16) hC dX3_wind_4 (by decide) (fun h_4 => ?_) (fun h_4 => ?_)
  · skip
    have hr := of_decide_eq_false h_4
    refine g_iconst (v := (-1)) hC dX3_wind_16 (by decide) ?_
    have hK : kWind x y = 1 := if_neg hr
    show G C 0 0 _ _ (aI (-(nI 1)) :: []) _
    rw [show -(nI 1) = -(nI (kWind x y)) from by rw [hK]]
    refine g_istore_n hC dX3_wind_17 (by decide) rfl ?_
    refine g_iload_n hC dX3_wind_18 rfl ?_
    refine g_if_eq (tgt := 28) hC dX3_wind_19 (by decide) (fun h_19 => ?_) (fun h_19 => ?_)
    · skip
      have hk := (neg_0 (kWind x y) (kWind_lt x y)).mp h_19
      rw [hK] at hk
      cases hk
    · skip
      have hk : kWind x y ≠ 0 := fun z => h_19 ((neg_0 (kWind x y) (kWind_lt x y)).mpr z)
      refine g_aload_n hC dX3_wind_22 rfl rfl ?_
      refine g_iload_n hC dX3_wind_23 rfl ?_
      refine gi_X3_51 hC (is := [0, 1, 2, 3, 4, 5, 6, 7]) (st := []) (c_X3_refuse v rf go vm rm gm vt rt gt tk lt len op to on last num nin re (k := (kWind x y)) (kWind_lt x y)) dX3_wind_24 rfl ⟨by decide, by decide⟩ ⟨by decide, by decide⟩ rfl (by decide) rfl rfl rfl ?_
      exact g_iret hC rfl dX3_wind_27 (⟨rV (by rw [(Wind_no hk).1]; rfl), by rw [(Wind_no hk).1, (Wind_no hk).2]; exact ⟨_, _, _, _, _, _, _, _, _, rfl⟩⟩)
  · skip
    have hr := of_decide_eq_true h_4
    refine g_iload_n hC dX3_wind_7 rfl ?_
    refine g_iconst (v := nI (0)) hC dX3_wind_8 (by decide) ?_
    refine g_iconst (v := nI (3)) hC dX3_wind_9 (by decide) ?_
    refine gi_X3_101 hC (is := []) (st := []) (c_X3_outside y (nI 0) (nI 3)) dX3_wind_10 rfl ⟨by decide, by decide⟩ ⟨by decide, by decide⟩ rfl (by decide) rfl rfl ?_
    refine g_goto (tgt := 17) hC dX3_wind_13 (by decide) ?_
    have hK : kWind x y = outN y (nI 0) (nI 3) := if_pos hr
    rw [show -(nI (outN y (nI 0) (nI 3))) = -(nI (kWind x y)) from by rw [hK]]
    refine g_istore_n hC dX3_wind_17 (by decide) rfl ?_
    refine g_iload_n hC dX3_wind_18 rfl ?_
    refine g_if_eq (tgt := 28) hC dX3_wind_19 (by decide) (fun h_19 => ?_) (fun h_19 => ?_)
    · skip
      have hk := (neg_0 (kWind x y) (kWind_lt x y)).mp h_19
      have hy : outN y (nI 0) (nI 3) = 0 := by rw [← hK]; exact hk
      obtain ⟨r, hr0, rfl⟩ := rm_of hr
      obtain ⟨n, rfl, hn0, hn1⟩ := out_0 (by decide) (by decide) hy
      refine g_aload_n hC dX3_wind_28 rfl rfl ?_
      refine gf_X3_now hC dX3_wind_29 rfl rfl ?_
      refine g_iload_n hC dX3_wind_32 rfl ?_
      refine gi_X3_73 hC (is := [1]) (st := []) (c_X1_windIn v rf go hr0) dX3_wind_33 rfl ⟨by decide, by decide⟩ ⟨by decide, by decide⟩ rfl (by decide) rfl rfl rfl ?_
      refine g_istore hC dX3_wind_36 (by decide) rfl ?_
      refine g_aload_n hC dX3_wind_38 rfl rfl ?_
      refine gf_X3_now hC dX3_wind_39 rfl rfl ?_
      refine g_iload_n hC dX3_wind_42 rfl ?_
      refine g_iload_n hC dX3_wind_43 rfl ?_
      refine gi_X3_105 hC (is := [1]) (st := []) (c_X1_setWind v rf go hr0 n) dX3_wind_44 rfl ⟨by decide, by decide⟩ ⟨by decide, by decide⟩ rfl (by decide) rfl rfl rfl ?_
      refine g_iload hC dX3_wind_47 rfl ?_
      have e1 : tn (nI r) = r := tn_n (by omega)
      have e2 : tn (nI n) = n := tn_n (by omega)
      have ho := Wind_ok (v := v) hk
      rw [e1, e2] at ho
      exact g_iret hC rfl dX3_wind_49 (⟨rV (by rw [(ho).1]; rfl), by rw [(ho).1, (ho).2]; exact ⟨_, _, _, _, _, _, _, _, _, rfl⟩⟩)
    · skip
      have hk : kWind x y ≠ 0 := fun z => h_19 ((neg_0 (kWind x y) (kWind_lt x y)).mpr z)
      refine g_aload_n hC dX3_wind_22 rfl rfl ?_
      refine g_iload_n hC dX3_wind_23 rfl ?_
      refine gi_X3_51 hC (is := [0, 1, 2, 3, 4, 5, 6, 7]) (st := []) (c_X3_refuse v rf go vm rm gm vt rt gt tk lt len op to on last num nin re (k := (kWind x y)) (kWind_lt x y)) dX3_wind_24 rfl ⟨by decide, by decide⟩ ⟨by decide, by decide⟩ rfl (by decide) rfl rfl rfl ?_
      exact g_iret hC rfl dX3_wind_27 (⟨rV (by rw [(Wind_no hk).1]; rfl), by rw [(Wind_no hk).1, (Wind_no hk).2]; exact ⟨_, _, _, _, _, _, _, _, _, rfl⟩⟩)

set_option maxRecDepth 100000 in
set_option maxHeartbeats 4000000 in
theorem c_X3_nose (v : Vw) (rf : Nat) (go : Nat → Nat) (vm : Vw) (rm : Nat) (gm : Nat → Nat) (vt : Vw) (rt : Nat) (gt : Nat → Nat) (tk : Bool) (lt : Nat → Nat) (len : Nat) (op : Nat → Nat) (to on : Nat → Nat → Nat) (last : Nat) (num : Nat → Nat) (nin : Nat) (re : Nat → Nat) (x : Int32) (hv : wf 99 v) : Con yX3_nose cX3_nose 4 (some .int) 1 0 0 [aR 0 0 0, aI (x)] (mainW v rf go vm rm gm vt rt gt tk lt len op to on last num nin re) (fun r M => r = some (aI (ansOf (oNose v x))) ∧ PX (nNose v x) rf vt rt tk lt len num nin (bump re (oNose v x)) M) := by
  refine con_of RX3 pn_X3 rfl rfl (Nat.le_of_ble_eq_true rfl) (fun C hM0 hC => ?_)
  show G C 0 0 0 [aR 0 0 0, aI (x), aK 9, aK 9] [] (mainW v rf go vm rm gm vt rt gt tk lt len op to on last num nin re)
  have hn4 := wf_n hv
  refine g_iload_n hC dX3_nose_0 rfl ?_
  refine g_iconst (v := nI (1)) hC dX3_nose_1 (by decide) ?_
  refine g_bipush (v := nI (9)) hC dX3_nose_2 (by decide) ?_
  refine gi_X3_101 hC (is := []) (st := []) (c_X3_outside x (nI 1) (nI 9)) dX3_nose_4 rfl ⟨by decide, by decide⟩ ⟨by decide, by decide⟩ rfl (by decide) rfl rfl ?_
  refine g_istore_n hC dX3_nose_7 (by decide) rfl ?_
  refine g_iload_n hC dX3_nose_8 rfl ?_
  refine g_if_eq (tgt := 18) hC dX3_nose_9 (by decide) (fun h_9 => ?_) (fun h_9 => ?_)
  · skip
    have hk := (neg_0 (kNose x) (outN_lt _ _ _)).mp h_9
    obtain ⟨n, rfl, hn0, hn1⟩ := out_0 (by decide) (by decide) hk
    refine g_aload_n hC dX3_nose_18 rfl rfl ?_
    refine gf_X3_now hC dX3_nose_19 rfl rfl ?_
    refine gi_X3_108 hC (is := [1]) (st := []) (c_X1_noseNow v rf go) dX3_nose_22 rfl ⟨by decide, by decide⟩ ⟨by decide, by decide⟩ rfl (by decide) rfl rfl rfl ?_
    refine g_istore_n hC dX3_nose_25 (by decide) rfl ?_
    refine g_aload_n hC dX3_nose_26 rfl rfl ?_
    refine gf_X3_now hC dX3_nose_27 rfl rfl ?_
    refine g_iload_n hC dX3_nose_30 rfl ?_
    refine gi_X3_111 hC (is := [1]) (st := []) (c_X1_setNose v rf go n) dX3_nose_31 rfl ⟨by decide, by decide⟩ ⟨by decide, by decide⟩ rfl (by decide) rfl rfl rfl ?_
    refine g_iload_n hC dX3_nose_34 rfl ?_
    have ho := Nose_ok (v := v) hk
    rw [tn_n (show n < 2 ^ 31 by omega)] at ho
    exact g_iret hC rfl dX3_nose_35 (⟨rV (by rw [(ho).1]; rfl), by rw [(ho).1, (ho).2]; exact ⟨_, _, _, _, _, _, _, _, _, rfl⟩⟩)
  · skip
    have hk : kNose x ≠ 0 := fun z => h_9 ((neg_0 (kNose x) (outN_lt _ _ _)).mpr z)
    refine g_aload_n hC dX3_nose_12 rfl rfl ?_
    refine g_iload_n hC dX3_nose_13 rfl ?_
    refine gi_X3_51 hC (is := [0, 1, 2, 3, 4, 5, 6, 7]) (st := []) (c_X3_refuse v rf go vm rm gm vt rt gt tk lt len op to on last num nin re (k := (kNose x)) (outN_lt _ _ _)) dX3_nose_14 rfl ⟨by decide, by decide⟩ ⟨by decide, by decide⟩ rfl (by decide) rfl rfl rfl ?_
    exact g_iret hC rfl dX3_nose_17 (⟨rV (by rw [(Nose_no hk).1]; rfl), by rw [(Nose_no hk).1, (Nose_no hk).2]; exact ⟨_, _, _, _, _, _, _, _, _, rfl⟩⟩)

set_option maxRecDepth 100000 in
set_option maxHeartbeats 4000000 in
theorem c_X3_pass (v : Vw) (rf : Nat) (go : Nat → Nat) (vm : Vw) (rm : Nat) (gm : Nat → Nat) (vt : Vw) (rt : Nat) (gt : Nat → Nat) (tk : Bool) (lt : Nat → Nat) (len : Nat) (op : Nat → Nat) (to on : Nat → Nat → Nat) (last : Nat) (num : Nat → Nat) (nin : Nat) (re : Nat → Nat) (x : Int32) (hv : wf 99 v) : Con yX3_pass cX3_pass 3 (some .int) 5 0 0 [aR 0 0 0, aI (x)] (mainW v rf go vm rm gm vt rt gt tk lt len op to on last num nin re) (fun r M => r = some (aI (ansOf (oPass v x))) ∧ PX (nPass v x) rf vt rt tk lt len num nin (bump re (oPass v x)) M) := by
  refine con_of RX3 pn_X3 rfl rfl (Nat.le_of_ble_eq_true rfl) (fun C hM0 hC => ?_)
  show G C 0 0 0 [aR 0 0 0, aI (x), aK 9] [] (mainW v rf go vm rm gm vt rt gt tk lt len op to on last num nin re)
  have hn4 := wf_n hv
  have hmi := wf_mi hv
  refine g_iload_n hC dX3_pass_0 rfl ?_
  refine g_iconst (v := nI (1)) hC dX3_pass_1 (by decide) ?_
  refine g_bipush (v := nI (40)) hC dX3_pass_2 (by decide) ?_
  refine g_bipush (v := nI (99)) hC dX3_pass_4 (by decide) ?_
  refine g_aload_n hC dX3_pass_6 rfl rfl ?_
  refine gf_X3_now hC dX3_pass_7 rfl rfl ?_
  refine gi_X3_115 hC (is := [1]) (st := [aI (nI (99)), aI (nI (40)), aI (nI (1)), aI (x)]) (c_X1_minuteNow v rf go) dX3_pass_10 rfl ⟨by decide, by decide⟩ ⟨by decide, by decide⟩ rfl (by decide) rfl rfl rfl ?_
  refine g_isubN hC dX3_pass_13 (by omega) ?_
  refine g_min (v := nI (min 40 (99 - vMi v))) hC dX3_pass_14 tw_2_203 tw_1_202 tw_1_8 tw_1_203 (by decide) (Nat.le_of_ble_eq_true rfl) (by decide) (by decide) (min_nI (by omega) (by omega)) ?_
  refine gi_X3_101 hC (is := []) (st := []) (c_X3_outside x (nI 1) (nI (min 40 (99 - vMi v)))) dX3_pass_17 rfl ⟨by decide, by decide⟩ ⟨by decide, by decide⟩ rfl (by decide) rfl rfl ?_
  refine g_istore_n hC dX3_pass_20 (by decide) rfl ?_
  refine g_iload_n hC dX3_pass_21 rfl ?_
  refine g_if_eq (tgt := 31) hC dX3_pass_22 (by decide) (fun h_22 => ?_) (fun h_22 => ?_)
  · skip
    have hk := (neg_0 (kPass v x) (outN_lt _ _ _)).mp h_22
    obtain ⟨n, rfl, hn0, hn1⟩ := out_0 (by decide) (by omega) hk
    refine g_aload_n hC dX3_pass_31 rfl rfl ?_
    refine gf_X3_now hC dX3_pass_32 rfl rfl ?_
    refine g_iload_n hC dX3_pass_35 rfl ?_
    refine gi_X3_124 hC (is := [1]) (st := []) (c_X1_goOn v rf go hv (show 99 + n ≤ 200 by omega)) dX3_pass_36 rfl ⟨by decide, by decide⟩ ⟨by decide, by decide⟩ rfl (by decide) rfl rfl rfl ?_
    refine g_aload_n hC dX3_pass_39 rfl rfl ?_
    refine gf_X3_now hC dX3_pass_40 rfl rfl ?_
    refine gi_X3_115 hC (is := [1]) (st := []) (c_X1_minuteNow (goN v n) rf (goG v go n)) dX3_pass_43 rfl ⟨by decide, by decide⟩ ⟨by decide, by decide⟩ rfl (by decide) rfl rfl rfl ?_
    have ho := Pass_ok (v := v) hk
    rw [tn_n (show n < 2 ^ 31 by omega)] at ho
    exact g_iret hC rfl dX3_pass_46 (⟨rV (by rw [ho.1, goN_mi]; rfl), by rw [ho.1, ho.2]; exact ⟨_, _, _, _, _, _, _, _, _, rfl⟩⟩)
  · skip
    have hk : kPass v x ≠ 0 := fun z => h_22 ((neg_0 (kPass v x) (outN_lt _ _ _)).mpr z)
    refine g_aload_n hC dX3_pass_25 rfl rfl ?_
    refine g_iload_n hC dX3_pass_26 rfl ?_
    refine gi_X3_51 hC (is := [0, 1, 2, 3, 4, 5, 6, 7]) (st := []) (c_X3_refuse v rf go vm rm gm vt rt gt tk lt len op to on last num nin re (k := (kPass v x)) (outN_lt _ _ _)) dX3_pass_27 rfl ⟨by decide, by decide⟩ ⟨by decide, by decide⟩ rfl (by decide) rfl rfl rfl ?_
    exact g_iret hC rfl dX3_pass_30 (⟨rV (by rw [(Pass_no hk).1]; rfl), by rw [(Pass_no hk).1, (Pass_no hk).2]; exact ⟨_, _, _, _, _, _, _, _, _, rfl⟩⟩)

set_option maxRecDepth 100000 in
set_option maxHeartbeats 4000000 in
theorem c_X3_rain (v : Vw) (rf : Nat) (go : Nat → Nat) (vm : Vw) (rm : Nat) (gm : Nat → Nat) (vt : Vw) (rt : Nat) (gt : Nat → Nat) (tk : Bool) (lt : Nat → Nat) (len : Nat) (op : Nat → Nat) (to on : Nat → Nat → Nat) (last : Nat) (num : Nat → Nat) (nin : Nat) (re : Nat → Nat) (hv : wf 99 v) (hrf : rf < 64) : Con yX3_rain cX3_rain 1 (some .int) 3 0 0 [aR 0 0 0] (mainW v rf go vm rm gm vt rt gt tk lt len op to on last num nin re) (fun r M => r = some (aI (ansOf (oRain v (fun r => rf.testBit r)))) ∧ PX (rainV v (fun r => rf.testBit r) 6) rf vt rt tk lt len num nin (bump re (oRain v (fun r => rf.testBit r))) M) := by
  refine con_of RX3 pn_X3 rfl rfl (Nat.le_of_ble_eq_true rfl) (fun C hM0 hC => ?_)
  show G C 0 0 0 [aR 0 0 0] [] (mainW v rf go vm rm gm vt rt gt tk lt len op to on last num nin re)
  refine g_aload_n hC dX3_rain_0 rfl rfl ?_
  refine gf_X3_now hC dX3_rain_1 rfl rfl ?_
  refine gi_X3_127 hC (is := [1]) (st := []) (c_X1_washOut v rf go hv (by decide) hrf) dX3_rain_4 rfl ⟨by decide, by decide⟩ ⟨by decide, by decide⟩ rfl (by decide) rfl rfl rfl ?_
  exact g_iret hC rfl dX3_rain_7 (⟨rfl, ⟨_, _, _, _, _, _, _, _, _, rfl⟩⟩)

set_option maxRecDepth 100000 in
set_option maxHeartbeats 4000000 in
theorem c_X3_age (v : Vw) (rf : Nat) (go : Nat → Nat) (vm : Vw) (rm : Nat) (gm : Nat → Nat) (vt : Vw) (rt : Nat) (gt : Nat → Nat) (tk : Bool) (lt : Nat → Nat) (len : Nat) (op : Nat → Nat) (to on : Nat → Nat → Nat) (last : Nat) (num : Nat → Nat) (nin : Nat) (re : Nat → Nat) (x y : Int32) (hv : wf 99 v) : Con yX3_age cX3_age 3 (some .int) 1 0 0 [aR 0 0 0, aI (x), aI (y)] (mainW v rf go vm rm gm vt rt gt tk lt len op to on last num nin re) (fun r M => r = some (aI (ansOf (oAge v x y))) ∧ PX v rf vt rt tk lt len num nin (bump re (oAge v x y)) M) := by
  refine con_of RX3 pn_X3 rfl rfl (Nat.le_of_ble_eq_true rfl) (fun C hM0 hC => ?_)
  show G C 0 0 0 [aR 0 0 0, aI (x), aI (y)] [] (mainW v rf go vm rm gm vt rt gt tk lt len op to on last num nin re)
  have hn4 := wf_n hv
  refine g_aload_n hC dX3_age_0 rfl rfl ?_
  refine gf_X3_now hC dX3_age_1 rfl rfl ?_
  refine g_iload_n hC dX3_age_4 rfl ?_
  refine gi_X3_82 hC (is := [1]) (st := []) (c_X1_isWalker v rf go x) dX3_age_5 rfl ⟨by decide, by decide⟩ ⟨by decide, by decide⟩ rfl (by decide) rfl rfl rfl ?_
  refine g_if_eqB (tgt := 18) hC dX3_age_8 (by decide) (fun h_8 => ?_) (fun h_8 => ?_)
  · skip
    have hno := of_decide_eq_false h_8
    refine g_aload_n hC dX3_age_18 rfl rfl ?_
    refine g_iconst (v := (-1)) hC dX3_age_19 (by decide) ?_
    refine gi_X3_51 hC (is := [0, 1, 2, 3, 4, 5, 6, 7]) (st := []) (c_X3_refuse v rf go vm rm gm vt rt gt tk lt len op to on last num nin re (k := 1) (by decide)) dX3_age_20 rfl ⟨by decide, by decide⟩ ⟨by decide, by decide⟩ rfl (by decide) rfl rfl rfl ?_
    exact g_iret hC rfl dX3_age_23 (by first | exact ⟨rV (by rw [oAge_no (fun z => hno z.1)]; rfl), by rw [oAge_no (fun z => hno z.1)]; exact ⟨_, _, _, _, _, _, _, _, _, rfl⟩⟩ | exact ⟨rV (by rw [oAge_no (fun z => hno z.2)]; rfl), by rw [oAge_no (fun z => hno z.2)]; exact ⟨_, _, _, _, _, _, _, _, _, rfl⟩⟩)
  · skip
    have hw := of_decide_eq_true h_8
    obtain ⟨u, hu0, rfl⟩ := wk_of hn4 hw
    refine g_iload_n hC dX3_age_11 rfl ?_
    refine gi_X3_69 hC (is := []) (st := []) (c_X3_isRoom y) dX3_age_12 rfl ⟨by decide, by decide⟩ ⟨by decide, by decide⟩ rfl (by decide) rfl rfl ?_
    refine g_if_neB (tgt := 24) hC dX3_age_15 (by decide) (fun h_15 => ?_) (fun h_15 => ?_)
    · skip
      have hr := of_decide_eq_true h_15
      obtain ⟨r, hr0, rfl⟩ := rm_of hr
      refine g_aload_n hC dX3_age_24 rfl rfl ?_
      refine gf_X3_now hC dX3_age_25 rfl rfl ?_
      refine g_iload_n hC dX3_age_28 rfl ?_
      refine g_iload_n hC dX3_age_29 rfl ?_
      refine g_iconst (v := nI (0)) hC dX3_age_30 (by decide) ?_
      refine gi_X3_130 hC (is := [1]) (st := []) (c_X1_ageOf v rf go hv (by decide) hu0 hr0 (show 0 ≤ 50 by omega)) dX3_age_31 rfl ⟨by decide, by decide⟩ ⟨by decide, by decide⟩ rfl (by decide) rfl rfl rfl ?_
      exact g_iret hC rfl dX3_age_34 (⟨rV (by rw [oAge_ok hn4 hw hr hu0 hr0]; rfl), by rw [oAge_ok hn4 hw hr hu0 hr0]; exact ⟨_, _, _, _, _, _, _, _, _, rfl⟩⟩)
    · skip
      have hno := of_decide_eq_false h_15
      refine g_aload_n hC dX3_age_18 rfl rfl ?_
      refine g_iconst (v := (-1)) hC dX3_age_19 (by decide) ?_
      refine gi_X3_51 hC (is := [0, 1, 2, 3, 4, 5, 6, 7]) (st := []) (c_X3_refuse v rf go vm rm gm vt rt gt tk lt len op to on last num nin re (k := 1) (by decide)) dX3_age_20 rfl ⟨by decide, by decide⟩ ⟨by decide, by decide⟩ rfl (by decide) rfl rfl rfl ?_
      exact g_iret hC rfl dX3_age_23 (by first | exact ⟨rV (by rw [oAge_no (fun z => hno z.1)]; rfl), by rw [oAge_no (fun z => hno z.1)]; exact ⟨_, _, _, _, _, _, _, _, _, rfl⟩⟩ | exact ⟨rV (by rw [oAge_no (fun z => hno z.2)]; rfl), by rw [oAge_no (fun z => hno z.2)]; exact ⟨_, _, _, _, _, _, _, _, _, rfl⟩⟩)

set_option maxRecDepth 100000 in
set_option maxHeartbeats 4000000 in
theorem c_X3_smelt (v : Vw) (rf : Nat) (go : Nat → Nat) (vm : Vw) (rm : Nat) (gm : Nat → Nat) (vt : Vw) (rt : Nat) (gt : Nat → Nat) (tk : Bool) (lt : Nat → Nat) (len : Nat) (op : Nat → Nat) (to on : Nat → Nat → Nat) (last : Nat) (num : Nat → Nat) (nin : Nat) (re : Nat → Nat) (x w : Int32) (hv : wf 99 v) : Con yX3_smelt cX3_smelt 3 (some .int) 4 0 0 [aR 0 0 0, aI (x), aI (w)] (mainW v rf go vm rm gm vt rt gt tk lt len op to on last num nin re) (fun r M => r = some (aI (ansOf (oSmelt v x w))) ∧ PX v rf vt rt tk lt len num nin (bump re (oSmelt v x w)) M) := by
  refine con_of RX3 pn_X3 rfl rfl (Nat.le_of_ble_eq_true rfl) (fun C hM0 hC => ?_)
  show G C 0 0 0 [aR 0 0 0, aI (x), aI (w)] [] (mainW v rf go vm rm gm vt rt gt tk lt len op to on last num nin re)
  have hn4 := wf_n hv
  refine g_iload_n hC dX3_smelt_0 rfl ?_
  refine gi_X3_69 hC (is := []) (st := []) (c_X3_isRoom x) dX3_smelt_1 rfl ⟨by decide, by decide⟩ ⟨by decide, by decide⟩ rfl (by decide) rfl rfl ?_
  refine g_if_neB (tgt := 13) hC dX3_smelt_4 (by decide) (fun h_4 => ?_) (fun h_4 => ?_)
  · skip
    have hr := of_decide_eq_true h_4
    obtain ⟨r, hr0, rfl⟩ := rm_of hr
    refine g_iload_n hC dX3_smelt_13 rfl ?_
    rcases tab_cases w 3 (by decide) with ⟨i, hi, rfl⟩ | hout
    · rcases (by omega : i = 0 ∨ i = 1 ∨ i = 2 ∨ i = 3) with rfl | rfl | rfl | rfl
      · refine g_tabIn (off := 30) (tgt := 44) hC dX3_smelt_14 (by decide) (by decide) (by decide) (by decide) ?_
        refine g_aload_n hC dX3_smelt_44 rfl rfl ?_
        refine gf_X3_now hC dX3_smelt_45 rfl rfl ?_
        refine g_iload_n hC dX3_smelt_48 rfl ?_
        refine gi_X3_133 hC (is := [1]) (st := []) (c_X1_tracesIn v rf go hv (by decide) hr0) dX3_smelt_49 rfl ⟨by decide, by decide⟩ ⟨by decide, by decide⟩ rfl (by decide) rfl rfl rfl ?_
        exact g_iret hC rfl dX3_smelt_52 (⟨rV (by rw [oSmelt_0 hr hr0]; rfl), by rw [oSmelt_0 hr hr0]; exact ⟨_, _, _, _, _, _, _, _, _, rfl⟩⟩)
      · refine g_tabIn (off := 39) (tgt := 53) hC dX3_smelt_14 (by decide) (by decide) (by decide) (by decide) ?_
        refine g_aload_n hC dX3_smelt_53 rfl rfl ?_
        refine gf_X3_now hC dX3_smelt_54 rfl rfl ?_
        refine g_iload_n hC dX3_smelt_57 rfl ?_
        refine gi_X3_136 hC (is := [1]) (st := []) (c_X1_leastAge v rf go hv (by decide) hr0) dX3_smelt_58 rfl ⟨by decide, by decide⟩ ⟨by decide, by decide⟩ rfl (by decide) rfl rfl rfl ?_
        exact g_iret hC rfl dX3_smelt_61 (⟨rV (by rw [oSmelt_1 hr hr0]; rfl), by rw [oSmelt_1 hr hr0]; exact ⟨_, _, _, _, _, _, _, _, _, rfl⟩⟩)
      · refine g_tabIn (off := 48) (tgt := 62) hC dX3_smelt_14 (by decide) (by decide) (by decide) (by decide) ?_
        refine g_aload_n hC dX3_smelt_62 rfl rfl ?_
        refine gf_X3_now hC dX3_smelt_63 rfl rfl ?_
        refine g_iload_n hC dX3_smelt_66 rfl ?_
        refine gi_X3_139 hC (is := [1]) (st := []) (c_X1_greatestAge v rf go hv (by decide) hr0) dX3_smelt_67 rfl ⟨by decide, by decide⟩ ⟨by decide, by decide⟩ rfl (by decide) rfl rfl rfl ?_
        exact g_iret hC rfl dX3_smelt_70 (⟨rV (by rw [oSmelt_2 hr hr0]; rfl), by rw [oSmelt_2 hr hr0]; exact ⟨_, _, _, _, _, _, _, _, _, rfl⟩⟩)
      · refine g_tabIn (off := 57) (tgt := 71) hC dX3_smelt_14 (by decide) (by decide) (by decide) (by decide) ?_
        refine g_aload_n hC dX3_smelt_71 rfl rfl ?_
        refine gf_X3_now hC dX3_smelt_72 rfl rfl ?_
        refine g_iload_n hC dX3_smelt_75 rfl ?_
        refine gi_X3_142 hC (is := [1]) (st := []) (c_X1_toldApartIn v rf go hv (by decide) hr0) dX3_smelt_76 rfl ⟨by decide, by decide⟩ ⟨by decide, by decide⟩ rfl (by decide) rfl rfl rfl ?_
        exact g_iret hC rfl dX3_smelt_79 (⟨rV (by rw [oSmelt_3 hr hr0]; rfl), by rw [oSmelt_3 hr hr0]; exact ⟨_, _, _, _, _, _, _, _, _, rfl⟩⟩)
    · refine g_tabOut (tgt := 80) hC dX3_smelt_14 hout (by decide) ?_
      refine g_aload_n hC dX3_smelt_80 rfl rfl ?_
      refine g_bipush (v := (-2)) hC dX3_smelt_81 (by decide) ?_
      refine gi_X3_51 hC (is := [0, 1, 2, 3, 4, 5, 6, 7]) (st := []) (c_X3_refuse v rf go vm rm gm vt rt gt tk lt len op to on last num nin re (k := 2) (by decide)) dX3_smelt_83 rfl ⟨by decide, by decide⟩ ⟨by decide, by decide⟩ rfl (by decide) rfl rfl rfl ?_
      exact g_iret hC rfl dX3_smelt_86 (⟨rV (by rw [oSmelt_out hr hout]; rfl), by rw [oSmelt_out hr hout]; exact ⟨_, _, _, _, _, _, _, _, _, rfl⟩⟩)
  · skip
    have hno := of_decide_eq_false h_4
    refine g_aload_n hC dX3_smelt_7 rfl rfl ?_
    refine g_iconst (v := (-1)) hC dX3_smelt_8 (by decide) ?_
    refine gi_X3_51 hC (is := [0, 1, 2, 3, 4, 5, 6, 7]) (st := []) (c_X3_refuse v rf go vm rm gm vt rt gt tk lt len op to on last num nin re (k := 1) (by decide)) dX3_smelt_9 rfl ⟨by decide, by decide⟩ ⟨by decide, by decide⟩ rfl (by decide) rfl rfl rfl ?_
    exact g_iret hC rfl dX3_smelt_12 (⟨rV (by rw [oSmelt_no hno]; rfl), by rw [oSmelt_no hno]; exact ⟨_, _, _, _, _, _, _, _, _, rfl⟩⟩)

