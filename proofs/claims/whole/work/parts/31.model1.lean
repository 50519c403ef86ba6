
set_option maxRecDepth 100000 in
set_option maxHeartbeats 4000000 in
theorem c_X4_isRoom (x : Int32) : ConF yX4_isRoom cX4_isRoom 1 (some .boolean) 0 [aI (x)] [] (some (aI (bI (decide (0 ≤ x ∧ x < nI 6))))) [] := by
  refine con_of RX4 pn_X4 rfl rfl (Nat.le_of_ble_eq_true rfl) (fun C hM0 hC => ?_)
  show G C 0 0 0 [aI (x)] [] []
  refine g_iload_n hC dX4_isRoom_0 rfl ?_
  refine g_if_lt (tgt := 14) hC dX4_isRoom_1 (by decide) (fun h_1 => ?_) (fun h_1 => ?_)
  · skip
    refine g_iconst (v := nI (0)) hC dX4_isRoom_14 (by decide) ?_
    exact g_zret hC rfl rfl dX4_isRoom_15 (⟨rB0 (by first | exact fun z => Int32.not_le.mpr h_1 z.1 | exact fun z => Int32.not_le.mpr z.2 h_7), rfl⟩)
  · skip
    refine g_iload_n hC dX4_isRoom_4 rfl ?_
    refine g_bipush (v := nI (6)) hC dX4_isRoom_5 (by decide) ?_
    refine g_icmp_ge (tgt := 14) hC dX4_isRoom_7 (by decide) (fun h_7 => ?_) (fun h_7 => ?_)
    · skip
      refine g_iconst (v := nI (0)) hC dX4_isRoom_14 (by decide) ?_
      exact g_zret hC rfl rfl dX4_isRoom_15 (⟨rB0 (by first | exact fun z => Int32.not_le.mpr h_1 z.1 | exact fun z => Int32.not_le.mpr z.2 h_7), rfl⟩)
    · skip
      refine g_iconst (v := nI (1)) hC dX4_isRoom_10 (by decide) ?_
      refine g_goto (tgt := 15) hC dX4_isRoom_11 (by decide) ?_
      exact g_zret hC rfl rfl dX4_isRoom_15 (⟨rB1 ⟨Int32.not_lt.mp h_1, Int32.not_le.mp h_7⟩, rfl⟩)

set_option maxRecDepth 100000 in
set_option maxHeartbeats 4000000 in
theorem c_X4_isIn (x a b : Int32) : ConF yX4_isIn cX4_isIn 3 (some .boolean) 0 [aI (x), aI (a), aI (b)] [] (some (aI (bI (decide (a ≤ x ∧ x ≤ b))))) [] := by
  refine con_of RX4 pn_X4 rfl rfl (Nat.le_of_ble_eq_true rfl) (fun C hM0 hC => ?_)
  show G C 0 0 0 [aI (x), aI (a), aI (b)] [] []
  refine g_iload_n hC dX4_isIn_0 rfl ?_
  refine g_iload_n hC dX4_isIn_1 rfl ?_
  refine g_icmp_lt (tgt := 14) hC dX4_isIn_2 (by decide) (fun h_2 => ?_) (fun h_2 => ?_)
  · skip
    refine g_iconst (v := nI (0)) hC dX4_isIn_14 (by decide) ?_
    exact g_zret hC rfl rfl dX4_isIn_15 (⟨rB0 (by first | exact fun z => Int32.not_le.mpr h_2 z.1 | exact fun z => Int32.not_le.mpr h_7 z.2), rfl⟩)
  · skip
    refine g_iload_n hC dX4_isIn_5 rfl ?_
    refine g_iload_n hC dX4_isIn_6 rfl ?_
    refine g_icmp_gt (tgt := 14) hC dX4_isIn_7 (by decide) (fun h_7 => ?_) (fun h_7 => ?_)
    · skip
      refine g_iconst (v := nI (0)) hC dX4_isIn_14 (by decide) ?_
      exact g_zret hC rfl rfl dX4_isIn_15 (⟨rB0 (by first | exact fun z => Int32.not_le.mpr h_2 z.1 | exact fun z => Int32.not_le.mpr h_7 z.2), rfl⟩)
    · skip
      refine g_iconst (v := nI (1)) hC dX4_isIn_10 (by decide) ?_
      refine g_goto (tgt := 15) hC dX4_isIn_11 (by decide) ?_
      exact g_zret hC rfl rfl dX4_isIn_15 (⟨rB1 ⟨Int32.not_lt.mp h_2, Int32.not_lt.mp h_7⟩, rfl⟩)

set_option maxRecDepth 100000 in
set_option maxHeartbeats 4000000 in
theorem c_X4_bound (x a b : Int32) : ConF yX4_bound cX4_bound 3 (some .int) 0 [aI (x), aI (a), aI (b)] [] (some (aI (-(nI (outN x a b))))) [] := by
  refine con_of RX4 pn_X4 rfl rfl (Nat.le_of_ble_eq_true rfl) (fun C hM0 hC => ?_)
  show G C 0 0 0 [aI (x), aI (a), aI (b)] [] []
  refine g_iload_n hC dX4_bound_0 rfl ?_
  refine g_iload_n hC dX4_bound_1 rfl ?_
  refine g_icmp_ge (tgt := 10) hC dX4_bound_2 (by decide) (fun h_2 => ?_) (fun h_2 => ?_)
  · skip
    refine g_iload_n hC dX4_bound_10 rfl ?_
    refine g_iload_n hC dX4_bound_11 rfl ?_
    refine g_icmp_le (tgt := 20) hC dX4_bound_12 (by decide) (fun h_12 => ?_) (fun h_12 => ?_)
    · skip
      refine g_iconst (v := nI (0)) hC dX4_bound_20 (by decide) ?_
      exact g_iret hC rfl dX4_bound_21 (⟨rV (by unfold outN; rw [if_neg (Int32.not_lt.mpr h_2), if_neg (Int32.not_lt.mpr h_12)]; rfl), rfl⟩)
    · skip
      refine g_bipush (v := (-6)) hC dX4_bound_15 (by decide) ?_
      refine g_goto (tgt := 21) hC dX4_bound_17 (by decide) ?_
      exact g_iret hC rfl dX4_bound_21 (⟨rV (by unfold outN; rw [if_neg (Int32.not_lt.mpr (Decidable.not_not.mp (fun z => z h_2))), if_pos (Int32.not_le.mp h_12)]; rfl), rfl⟩)
  · skip
    refine g_bipush (v := (-4)) hC dX4_bound_5 (by decide) ?_
    refine g_goto (tgt := 21) hC dX4_bound_7 (by decide) ?_
    exact g_iret hC rfl dX4_bound_21 (⟨rV (by unfold outN; rw [if_pos (Int32.not_le.mp h_2)]; rfl), rfl⟩)

set_option maxRecDepth 100000 in
set_option maxHeartbeats 4000000 in
theorem c_X4_isWalker (u : Vw) (ro re lt : Nat → Nat) (len : Nat) (le la : Nat → Nat) (td : Nat → Int32) (fr ti : Nat → Nat) (pt st : Nat) (ke : Nat → Int32) (hi ik : Bool) (cu : Nat) (go num : Nat → Nat) (nin : Nat) (up fo : Nat → Nat) (x : Int32) : ConF yX4_isWalker cX4_isWalker 2 (some .boolean) 0 [aR 0 0 0, aI (x)] [modW u ro re lt len le la td fr ti pt st ke hi ik cu go num nin up fo] (some (aI (bI (decide (0 ≤ x ∧ x < nI (vN u)))))) [modW u ro re lt len le la td fr ti pt st ke hi ik cu go num nin up fo] := by
  refine con_of RX4 pn_X4 rfl rfl (Nat.le_of_ble_eq_true rfl) (fun C hM0 hC => ?_)
  show G C 0 0 0 [aR 0 0 0, aI (x)] [] [modW u ro re lt len le la td fr ti pt st ke hi ik cu go num nin up fo]
  refine g_iload_n hC dX4_isWalker_0 rfl ?_
  refine g_if_lt (tgt := 16) hC dX4_isWalker_1 (by decide) (fun h_1 => ?_) (fun h_1 => ?_)
  · skip
    refine g_iconst (v := nI (0)) hC dX4_isWalker_16 (by decide) ?_
    exact g_zret hC rfl rfl dX4_isWalker_17 (⟨rB0 (by first | exact fun z => Int32.not_le.mpr h_1 z.1 | exact fun z => Int32.not_le.mpr z.2 h_9), rfl⟩)
  · skip
    refine g_iload_n hC dX4_isWalker_4 rfl ?_
    refine g_aload_n hC dX4_isWalker_5 rfl rfl ?_
    refine gf_X4_walkers hC dX4_isWalker_6 rfl rfl ?_
    refine g_icmp_ge (tgt := 16) hC dX4_isWalker_9 (by decide) (fun h_9 => ?_) (fun h_9 => ?_)
    · skip
      refine g_iconst (v := nI (0)) hC dX4_isWalker_16 (by decide) ?_
      exact g_zret hC rfl rfl dX4_isWalker_17 (⟨rB0 (by first | exact fun z => Int32.not_le.mpr h_1 z.1 | exact fun z => Int32.not_le.mpr z.2 h_9), rfl⟩)
    · skip
      refine g_iconst (v := nI (1)) hC dX4_isWalker_12 (by decide) ?_
      refine g_goto (tgt := 17) hC dX4_isWalker_13 (by decide) ?_
      exact g_zret hC rfl rfl dX4_isWalker_17 (⟨rB1 ⟨Int32.not_lt.mp h_1, Int32.not_le.mp h_9⟩, rfl⟩)

set_option maxRecDepth 100000 in
set_option maxHeartbeats 4000000 in
theorem c_X4_no (u : Vw) (ro re lt : Nat → Nat) (len : Nat) (le la : Nat → Nat) (td : Nat → Int32) (fr ti : Nat → Nat) (pt st : Nat) (ke : Nat → Int32) (hi ik : Bool) (cu : Nat) (go num : Nat → Nat) (nin : Nat) (up fo : Nat → Nat) {k : Nat} (hk : k < 7) : ConF yX4_no cX4_no 2 (some .int) 0 [aR 0 0 0, aI (-(nI k))] [modW u ro re lt len le la td fr ti pt st ke hi ik cu go num nin up fo] (some (aI (-(nI k)))) [modW u ro (updN re k (re k + 1)) lt len le la td fr ti pt st ke hi ik cu go num nin up fo] := by
  refine con_of RX4 pn_X4 rfl rfl (Nat.le_of_ble_eq_true rfl) (fun C hM0 hC => ?_)
  show G C 0 0 0 [aR 0 0 0, aI (-(nI k))] [] [modW u ro re lt len le la td fr ti pt st ke hi ik cu go num nin up fo]
  refine g_aload_n hC dX4_no_0 rfl rfl ?_
  refine gf_X4_refused hC dX4_no_1 rfl rfl ?_
  refine g_iload_n hC dX4_no_4 rfl ?_
  refine g_ineg (v := nI (k)) hC dX4_no_5 (neg_neg_k k hk) ?_
  refine g_dup2 hC dX4_no_6 rfl rfl ?_
  refine g_ialdN hC dX4_no_7 rfl (by omega) (by decide) ?_
  refine g_iconst (v := nI (1)) hC dX4_no_8 (by decide) ?_
  refine g_iaddN hC dX4_no_9 ?_
  refine g_iastN hC dX4_no_10 rfl (by omega) (by decide) ?_
  refine g_iload_n hC dX4_no_11 rfl ?_
  exact g_iret hC rfl dX4_no_12 (⟨rfl, rfl⟩)

set_option maxRecDepth 100000 in
set_option maxHeartbeats 4000000 in
theorem c_X4_isTrace (u : Vw) (ro re lt : Nat → Nat) (len : Nat) (le la : Nat → Nat) (td : Nat → Int32) (fr ti : Nat → Nat) (pt st : Nat) (ke : Nat → Int32) (hi ik : Bool) (cu : Nat) (go num : Nat → Nat) (nin : Nat) (up fo : Nat → Nat) {B : Nat} (hu : wf B u) (hB : B ≤ 200) {w r : Nat} (hw : w < 4) (hr : r < 6) : ConF yX4_isTrace cX4_isTrace 3 (some .boolean) 0 [aR 0 0 0, aI (nI (w)), aI (nI (r))] [modW u ro re lt len le la td fr ti pt st ke hi ik cu go num nin up fo] (some (aI (bI (decide (w < vN u) && (vLf u w r).isSome)))) [modW u ro re lt len le la td fr ti pt st ke hi ik cu go num nin up fo] := by
  refine con_of RX4 pn_X4 rfl rfl (Nat.le_of_ble_eq_true rfl) (fun C hM0 hC => ?_)
  show G C 0 0 0 [aR 0 0 0, aI (nI (w)), aI (nI (r))] [] [modW u ro re lt len le la td fr ti pt st ke hi ik cu go num nin up fo]
  have hn := wf_n hu
  refine g_iload_n hC dX4_isTrace_0 rfl ?_
  refine g_aload_n hC dX4_isTrace_1 rfl rfl ?_
  refine gf_X4_walkers hC dX4_isTrace_2 rfl rfl ?_
  refine g_icmp_geN (tgt := 26) hC dX4_isTrace_5 (by decide) (by omega) (by omega) (fun h_5 => ?_) (fun h_5 => ?_)
  · skip
    refine g_iconst (v := nI (0)) hC dX4_isTrace_26 (by decide) ?_
    exact g_zret hC rfl rfl dX4_isTrace_27 (⟨rV (by first | (rw [decide_eq_false (by omega)]; rfl) | (rw [h_19, Bool.and_false]; rfl) | (rw [h_19]; simp; done) | (rw [h_19, Bool.and_comm]; rfl)), rfl⟩)
  · skip
    refine g_aload_n hC dX4_isTrace_8 rfl rfl ?_
    refine gf_X4_trace hC dX4_isTrace_9 rfl rfl ?_
    refine g_bipush (v := nI (6)) hC dX4_isTrace_12 (by decide) ?_
    refine g_iload_n hC dX4_isTrace_14 rfl ?_
    refine g_imulN hC dX4_isTrace_15 ?_
    refine g_iload_n hC dX4_isTrace_16 rfl ?_
    refine g_iaddN hC dX4_isTrace_17 ?_
    refine g_ialdFO (w := w) (r := r) hC dX4_isTrace_18 rfl (by omega) (by omega) ?_
    refine g_if_ltO (tgt := 26) hC dX4_isTrace_19 (by decide) (by decide) (fun m q => by have := wf_lf hu w (by omega) r hr m q; have := wf_mi hu; omega) (fun h_19 => ?_) (fun m_19 h_19 => ?_)
    · skip
      refine g_iconst (v := nI (0)) hC dX4_isTrace_26 (by decide) ?_
      exact g_zret hC rfl rfl dX4_isTrace_27 (⟨rV (by first | (rw [decide_eq_false (by omega)]; rfl) | (rw [h_19, Bool.and_false]; rfl) | (rw [h_19]; simp; done) | (rw [h_19, Bool.and_comm]; rfl)), rfl⟩)
    · skip
      refine g_iconst (v := nI (1)) hC dX4_isTrace_22 (by decide) ?_
      refine g_goto (tgt := 27) hC dX4_isTrace_23 (by decide) ?_
      exact g_zret hC rfl rfl dX4_isTrace_27 (⟨rV (by rw [h_19, decide_eq_true (by omega)]; rfl), rfl⟩)

set_option maxRecDepth 100000 in
set_option maxHeartbeats 4000000 in
theorem c_X4_isPath (u : Vw) (ro re lt : Nat → Nat) (len : Nat) (le la : Nat → Nat) (td : Nat → Int32) (fr ti : Nat → Nat) (pt st : Nat) (ke : Nat → Int32) (hi ik : Bool) (cu : Nat) (go num : Nat → Nat) (nin : Nat) (up fo : Nat → Nat) {a b : Nat} (ha : a < 6) (hb : b < 6) (hp : vPa u a < 64) : ConF yX4_isPath cX4_isPath 3 (some .boolean) 0 [aR 0 0 0, aI (nI (a)), aI (nI (b))] [modW u ro re lt len le la td fr ti pt st ke hi ik cu go num nin up fo] (some (aI (bI (isP u a b)))) [modW u ro re lt len le la td fr ti pt st ke hi ik cu go num nin up fo] := by
  refine con_of RX4 pn_X4 rfl rfl (Nat.le_of_ble_eq_true rfl) (fun C hM0 hC => ?_)
  show G C 0 0 0 [aR 0 0 0, aI (nI (a)), aI (nI (b))] [] [modW u ro re lt len le la td fr ti pt st ke hi ik cu go num nin up fo]
  refine g_aload_n hC dX4_isPath_0 rfl rfl ?_
  refine gf_X4_paths hC dX4_isPath_1 rfl rfl ?_
  refine g_iload_n hC dX4_isPath_4 rfl ?_
  refine g_ialdN hC dX4_isPath_5 rfl (by omega) (by decide) ?_
  refine g_iload_n hC dX4_isPath_6 rfl ?_
  refine g_ishr hC dX4_isPath_7 rfl ?_
  refine g_iconst (v := nI (1)) hC dX4_isPath_8 (by decide) ?_
  refine g_iand (v := nI (((vPa u a).testBit b).toNat)) hC dX4_isPath_9 (shr_bit _ hp _ hb) ?_
  refine g_iconst (v := nI (1)) hC dX4_isPath_10 (by decide) ?_
  refine g_icmp_neN (tgt := 18) hC dX4_isPath_11 (by decide) (bt_lt _) (by omega) (fun h_11 => ?_) (fun h_11 => ?_)
  · skip
    refine g_iconst (v := nI (0)) hC dX4_isPath_18 (by decide) ?_
    exact g_zret hC rfl rfl dX4_isPath_19 (⟨rV (by rw [show isP u a b = false from b0 h_11]; rfl), rfl⟩)
  · skip
    refine g_iconst (v := nI (1)) hC dX4_isPath_14 (by decide) ?_
    refine g_goto (tgt := 19) hC dX4_isPath_15 (by decide) ?_
    exact g_zret hC rfl rfl dX4_isPath_19 (⟨rV (by rw [show isP u a b = true from b1 h_11]; rfl), rfl⟩)

set_option maxRecDepth 100000 in
set_option maxHeartbeats 4000000 in
theorem c_X4_ageOf (u : Vw) (ro re lt : Nat → Nat) (len : Nat) (le la : Nat → Nat) (td : Nat → Int32) (fr ti : Nat → Nat) (pt st : Nat) (ke : Nat → Int32) (hi ik : Bool) (cu : Nat) (go num : Nat → Nat) (nin : Nat) (up fo : Nat → Nat) {B : Nat} (hu : wf B u) (hB : B ≤ 200) {w r m : Nat} (hw : w < vN u) (hr : r < 6) (hm : vLf u w r = some m) : ConF yX4_ageOf cX4_ageOf 4 (some .int) 0 [aR 0 0 0, aI (nI (w)), aI (nI (r))] [modW u ro re lt len le la td fr ti pt st ke hi ik cu go num nin up fo] (some (aI (nI (ageIn u w r 0 m)))) [modW u ro re lt len le la td fr ti pt st ke hi ik cu go num nin up fo] := by
  refine con_of RX4 pn_X4 rfl rfl (Nat.le_of_ble_eq_true rfl) (fun C hM0 hC => ?_)
  show G C 0 0 0 [aR 0 0 0, aI (nI (w)), aI (nI (r)), aK 9] [] [modW u ro re lt len le la td fr ti pt st ke hi ik cu go num nin up fo]
  have hn := wf_n hu
  have hmi := wf_mi hu
  have hwi := wf_wi hu r hr
  have hki := wf_ki hu w hw
  have hm2 := wf_lf hu w hw r hr m hm
  have hmul : (vMi u - m) * (1 + vWi u r) ≤ 200 * 4 := Nat.mul_le_mul (by omega) (by omega)
  refine g_aload_n hC dX4_ageOf_0 rfl rfl ?_
  refine gf_X4_minute hC dX4_ageOf_1 rfl rfl ?_
  refine g_aload_n hC dX4_ageOf_4 rfl rfl ?_
  refine gf_X4_trace hC dX4_ageOf_5 rfl rfl ?_
  refine g_bipush (v := nI (6)) hC dX4_ageOf_8 (by decide) ?_
  refine g_iload_n hC dX4_ageOf_10 rfl ?_
  refine g_imulN hC dX4_ageOf_11 ?_
  refine g_iload_n hC dX4_ageOf_12 rfl ?_
  refine g_iaddN hC dX4_ageOf_13 ?_
  refine g_ialdFO (w := w) (r := r) hC dX4_ageOf_14 rfl (by omega) (by omega) ?_
  rw [hm]
  show G C 0 0 15 _ (aI (nI m) :: aI (nI (vMi u)) :: []) _
  refine g_isubN hC dX4_ageOf_15 (by omega) ?_
  refine g_iconst (v := nI (1)) hC dX4_ageOf_16 (by decide) ?_
  refine g_aload_n hC dX4_ageOf_17 rfl rfl ?_
  refine gf_X4_windOf hC dX4_ageOf_18 rfl rfl ?_
  refine g_iload_n hC dX4_ageOf_21 rfl ?_
  refine g_ialdN hC dX4_ageOf_22 rfl (by omega) (by decide) ?_
  refine g_iaddN hC dX4_ageOf_23 ?_
  refine g_imulN hC dX4_ageOf_24 ?_
  refine g_istore_n hC dX4_ageOf_25 (by decide) rfl ?_
  refine g_aload_n hC dX4_ageOf_26 rfl rfl ?_
  refine gf_X4_kind hC dX4_ageOf_27 rfl rfl ?_
  refine g_iload_n hC dX4_ageOf_30 rfl ?_
  refine g_ialdN hC dX4_ageOf_31 rfl (by omega) (by decide) ?_
  refine g_iconst (v := nI (3)) hC dX4_ageOf_32 (by decide) ?_
  refine g_icmp_neN (tgt := 42) hC dX4_ageOf_33 (by decide) (by omega) (by omega) (fun h_33 => ?_) (fun h_33 => ?_)
  · skip
    refine g_iload_n hC dX4_ageOf_42 rfl ?_
    exact g_iret hC rfl dX4_ageOf_43 (⟨rV (by unfold ageIn; rw [Nat.add_zero, if_neg h_33]), rfl⟩)
  · skip
    refine g_iload_n hC dX4_ageOf_36 rfl ?_
    refine g_iconst (v := nI (2)) hC dX4_ageOf_37 (by decide) ?_
    refine g_idivN hC dX4_ageOf_38 (by omega) (by omega) (by omega) ?_
    refine g_goto (tgt := 43) hC dX4_ageOf_39 (by decide) ?_
    exact g_iret hC rfl dX4_ageOf_43 (⟨rV (by unfold ageIn; rw [Nat.add_zero, if_pos h_33]), rfl⟩)

