set_option maxRecDepth 100000 in
set_option maxHeartbeats 4000000 in
theorem c_X1_walkersIn (v : Vw) (rf : Nat) (go : Nat → Nat) : ConF yX1_walkersIn cX1_walkersIn 1 (some .int) 0 [aR 0 0 0] [townG v rf go] (some (aI (nI (vN v)))) [townG v rf go] := by
  refine con_of RX1 pn_X1 rfl rfl (Nat.le_of_ble_eq_true rfl) (fun C hM0 hC => ?_)
  show G C 0 0 0 [aR 0 0 0] [] [townG v rf go]
  refine g_aload_n hC dX1_walkersIn_0 rfl rfl ?_
  refine gf_X1_walkers hC dX1_walkersIn_1 rfl rfl ?_
  exact g_iret hC rfl dX1_walkersIn_4 (⟨rfl, rfl⟩)

set_option maxRecDepth 100000 in
set_option maxHeartbeats 4000000 in
theorem c_X1_minuteNow (v : Vw) (rf : Nat) (go : Nat → Nat) : ConF yX1_minuteNow cX1_minuteNow 1 (some .int) 0 [aR 0 0 0] [townG v rf go] (some (aI (nI (vMi v)))) [townG v rf go] := by
  refine con_of RX1 pn_X1 rfl rfl (Nat.le_of_ble_eq_true rfl) (fun C hM0 hC => ?_)
  show G C 0 0 0 [aR 0 0 0] [] [townG v rf go]
  refine g_aload_n hC dX1_minuteNow_0 rfl rfl ?_
  refine gf_X1_minute hC dX1_minuteNow_1 rfl rfl ?_
  exact g_iret hC rfl dX1_minuteNow_4 (⟨rfl, rfl⟩)

set_option maxRecDepth 100000 in
set_option maxHeartbeats 4000000 in
theorem c_X1_noseNow (v : Vw) (rf : Nat) (go : Nat → Nat) : ConF yX1_noseNow cX1_noseNow 1 (some .int) 0 [aR 0 0 0] [townG v rf go] (some (aI (nI (vNo v)))) [townG v rf go] := by
  refine con_of RX1 pn_X1 rfl rfl (Nat.le_of_ble_eq_true rfl) (fun C hM0 hC => ?_)
  show G C 0 0 0 [aR 0 0 0] [] [townG v rf go]
  refine g_aload_n hC dX1_noseNow_0 rfl rfl ?_
  refine gf_X1_nose hC dX1_noseNow_1 rfl rfl ?_
  exact g_iret hC rfl dX1_noseNow_4 (⟨rfl, rfl⟩)

set_option maxRecDepth 100000 in
set_option maxHeartbeats 4000000 in
theorem c_X1_windIn (v : Vw) (rf : Nat) (go : Nat → Nat) {r : Nat} (hr : r < 6) : ConF yX1_windIn cX1_windIn 2 (some .int) 0 [aR 0 0 0, aI (nI (r))] [townG v rf go] (some (aI (nI (vWi v r)))) [townG v rf go] := by
  refine con_of RX1 pn_X1 rfl rfl (Nat.le_of_ble_eq_true rfl) (fun C hM0 hC => ?_)
  show G C 0 0 0 [aR 0 0 0, aI (nI (r))] [] [townG v rf go]
  refine g_aload_n hC dX1_windIn_0 rfl rfl ?_
  refine gf_X1_winds hC dX1_windIn_1 rfl rfl ?_
  refine g_iload_n hC dX1_windIn_4 rfl ?_
  refine g_ialdN hC dX1_windIn_5 rfl (by omega) (by decide) ?_
  exact g_iret hC rfl dX1_windIn_6 (⟨rfl, rfl⟩)

set_option maxRecDepth 100000 in
set_option maxHeartbeats 4000000 in
theorem c_X1_pathsFrom (v : Vw) (rf : Nat) (go : Nat → Nat) {r : Nat} (hr : r < 6) : ConF yX1_pathsFrom cX1_pathsFrom 2 (some .int) 0 [aR 0 0 0, aI (nI (r))] [townG v rf go] (some (aI (nI (vPa v r)))) [townG v rf go] := by
  refine con_of RX1 pn_X1 rfl rfl (Nat.le_of_ble_eq_true rfl) (fun C hM0 hC => ?_)
  show G C 0 0 0 [aR 0 0 0, aI (nI (r))] [] [townG v rf go]
  refine g_aload_n hC dX1_pathsFrom_0 rfl rfl ?_
  refine gf_X1_paths hC dX1_pathsFrom_1 rfl rfl ?_
  refine g_iload_n hC dX1_pathsFrom_4 rfl ?_
  refine g_ialdN hC dX1_pathsFrom_5 rfl (by omega) (by decide) ?_
  exact g_iret hC rfl dX1_pathsFrom_6 (⟨rfl, rfl⟩)

set_option maxRecDepth 100000 in
set_option maxHeartbeats 4000000 in
theorem c_X1_kindOf (v : Vw) (rf : Nat) (go : Nat → Nat) {w : Nat} (hw : w < 4) : ConF yX1_kindOf cX1_kindOf 2 (some .int) 0 [aR 0 0 0, aI (nI (w))] [townG v rf go] (some (aI (nI (vKi v w)))) [townG v rf go] := by
  refine con_of RX1 pn_X1 rfl rfl (Nat.le_of_ble_eq_true rfl) (fun C hM0 hC => ?_)
  show G C 0 0 0 [aR 0 0 0, aI (nI (w))] [] [townG v rf go]
  refine g_aload_n hC dX1_kindOf_0 rfl rfl ?_
  refine gf_X1_kinds hC dX1_kindOf_1 rfl rfl ?_
  refine g_iload_n hC dX1_kindOf_4 rfl ?_
  refine g_ialdN hC dX1_kindOf_5 rfl (by omega) (by decide) ?_
  exact g_iret hC rfl dX1_kindOf_6 (⟨rfl, rfl⟩)

set_option maxRecDepth 100000 in
set_option maxHeartbeats 4000000 in
theorem c_X1_placeOf (v : Vw) (rf : Nat) (go : Nat → Nat) {w : Nat} (hw : w < 4) : ConF yX1_placeOf cX1_placeOf 2 (some .int) 0 [aR 0 0 0, aI (nI (w))] [townG v rf go] (some (aI (nI (vPl v w)))) [townG v rf go] := by
  refine con_of RX1 pn_X1 rfl rfl (Nat.le_of_ble_eq_true rfl) (fun C hM0 hC => ?_)
  show G C 0 0 0 [aR 0 0 0, aI (nI (w))] [] [townG v rf go]
  refine g_aload_n hC dX1_placeOf_0 rfl rfl ?_
  refine gf_X1_places hC dX1_placeOf_1 rfl rfl ?_
  refine g_iload_n hC dX1_placeOf_4 rfl ?_
  refine g_ialdN hC dX1_placeOf_5 rfl (by omega) (by decide) ?_
  exact g_iret hC rfl dX1_placeOf_6 (⟨rfl, rfl⟩)

set_option maxRecDepth 100000 in
set_option maxHeartbeats 4000000 in
theorem c_X1_planLengthOf (v : Vw) (rf : Nat) (go : Nat → Nat) {w : Nat} (hw : w < 4) : ConF yX1_planLengthOf cX1_planLengthOf 2 (some .int) 0 [aR 0 0 0, aI (nI (w))] [townG v rf go] (some (aI (nI (vPL v w)))) [townG v rf go] := by
  refine con_of RX1 pn_X1 rfl rfl (Nat.le_of_ble_eq_true rfl) (fun C hM0 hC => ?_)
  show G C 0 0 0 [aR 0 0 0, aI (nI (w))] [] [townG v rf go]
  refine g_aload_n hC dX1_planLengthOf_0 rfl rfl ?_
  refine gf_X1_planLengths hC dX1_planLengthOf_1 rfl rfl ?_
  refine g_iload_n hC dX1_planLengthOf_4 rfl ?_
  refine g_ialdN hC dX1_planLengthOf_5 rfl (by omega) (by decide) ?_
  exact g_iret hC rfl dX1_planLengthOf_6 (⟨rfl, rfl⟩)

set_option maxRecDepth 100000 in
set_option maxHeartbeats 4000000 in
theorem c_X1_setNose (v : Vw) (rf : Nat) (go : Nat → Nat) (x : Nat) : ConF yX1_setNose cX1_setNose 2 none 0 [aR 0 0 0, aI (nI (x))] [townG v rf go] none [townG (uNo v x) rf go] := by
  refine con_of RX1 pn_X1 rfl rfl (Nat.le_of_ble_eq_true rfl) (fun C hM0 hC => ?_)
  show G C 0 0 0 [aR 0 0 0, aI (nI (x))] [] [townG v rf go]
  refine g_aload_n hC dX1_setNose_0 rfl rfl ?_
  refine g_iload_n hC dX1_setNose_1 rfl ?_
  refine gp_X1_nose hC dX1_setNose_2 rfl rfl ?_
  exact g_vret hC rfl dX1_setNose_5 (⟨rfl, rfl⟩)

set_option maxRecDepth 100000 in
set_option maxHeartbeats 4000000 in
theorem c_X1_setWind (v : Vw) (rf : Nat) (go : Nat → Nat) {r : Nat} (hr : r < 6) (x : Nat) : ConF yX1_setWind cX1_setWind 3 none 0 [aR 0 0 0, aI (nI (r)), aI (nI (x))] [townG v rf go] none [townG (uWi v (updN (vWi v) r x)) rf go] := by
  refine con_of RX1 pn_X1 rfl rfl (Nat.le_of_ble_eq_true rfl) (fun C hM0 hC => ?_)
  show G C 0 0 0 [aR 0 0 0, aI (nI (r)), aI (nI (x))] [] [townG v rf go]
  refine g_aload_n hC dX1_setWind_0 rfl rfl ?_
  refine gf_X1_winds hC dX1_setWind_1 rfl rfl ?_
  refine g_iload_n hC dX1_setWind_4 rfl ?_
  refine g_iload_n hC dX1_setWind_5 rfl ?_
  refine g_iastN hC dX1_setWind_6 rfl (by omega) (by decide) ?_
  exact g_vret hC rfl dX1_setWind_7 (⟨rfl, rfl⟩)

set_option maxRecDepth 100000 in
set_option maxHeartbeats 4000000 in
theorem c_X1_place (v : Vw) (rf : Nat) (go : Nat → Nat) {w : Nat} (hw : w < 4) (r : Nat) : ConF yX1_place cX1_place 3 none 0 [aR 0 0 0, aI (nI (w)), aI (nI (r))] [townG v rf go] none [townG (uPl v (updN (vPl v) w r)) rf go] := by
  refine con_of RX1 pn_X1 rfl rfl (Nat.le_of_ble_eq_true rfl) (fun C hM0 hC => ?_)
  show G C 0 0 0 [aR 0 0 0, aI (nI (w)), aI (nI (r))] [] [townG v rf go]
  refine g_aload_n hC dX1_place_0 rfl rfl ?_
  refine gf_X1_places hC dX1_place_1 rfl rfl ?_
  refine g_iload_n hC dX1_place_4 rfl ?_
  refine g_iload_n hC dX1_place_5 rfl ?_
  refine g_iastN hC dX1_place_6 rfl (by omega) (by decide) ?_
  exact g_vret hC rfl dX1_place_7 (⟨rfl, rfl⟩)

set_option maxRecDepth 100000 in
set_option maxHeartbeats 4000000 in
theorem c_X1_hasSpace (v : Vw) (rf : Nat) (go : Nat → Nat) (hn : vN v ≤ 4) : ConF yX1_hasSpace cX1_hasSpace 1 (some .boolean) 0 [aR 0 0 0] [townG v rf go] (some (aI (bI (decide (vN v < 4))))) [townG v rf go] := by
  refine con_of RX1 pn_X1 rfl rfl (Nat.le_of_ble_eq_true rfl) (fun C hM0 hC => ?_)
  show G C 0 0 0 [aR 0 0 0] [] [townG v rf go]
  refine g_aload_n hC dX1_hasSpace_0 rfl rfl ?_
  refine gf_X1_walkers hC dX1_hasSpace_1 rfl rfl ?_
  refine g_iconst (v := nI (4)) hC dX1_hasSpace_4 (by decide) ?_
  refine g_icmp_geN (tgt := 12) hC dX1_hasSpace_5 (by decide) (by omega) (by omega) (fun h_5 => ?_) (fun h_5 => ?_)
  · skip
    refine g_iconst (v := nI (0)) hC dX1_hasSpace_12 (by decide) ?_
    exact g_zret hC rfl rfl dX1_hasSpace_13 (⟨rB0 (by omega), rfl⟩)
  · skip
    refine g_iconst (v := nI (1)) hC dX1_hasSpace_8 (by decide) ?_
    refine g_goto (tgt := 13) hC dX1_hasSpace_9 (by decide) ?_
    exact g_zret hC rfl rfl dX1_hasSpace_13 (⟨rB1 (by omega), rfl⟩)

set_option maxRecDepth 100000 in
set_option maxHeartbeats 4000000 in
theorem c_X1_isWalker (v : Vw) (rf : Nat) (go : Nat → Nat) (x : Int32) : ConF yX1_isWalker cX1_isWalker 2 (some .boolean) 0 [aR 0 0 0, aI (x)] [townG v rf go] (some (aI (bI (decide (0 ≤ x ∧ x < nI (vN v)))))) [townG v rf go] := by
  refine con_of RX1 pn_X1 rfl rfl (Nat.le_of_ble_eq_true rfl) (fun C hM0 hC => ?_)
  show G C 0 0 0 [aR 0 0 0, aI (x)] [] [townG v rf go]
  refine g_iload_n hC dX1_isWalker_0 rfl ?_
  refine g_if_lt (tgt := 16) hC dX1_isWalker_1 (by decide) (fun h_1 => ?_) (fun h_1 => ?_)
  · skip
    refine g_iconst (v := nI (0)) hC dX1_isWalker_16 (by decide) ?_
    exact g_zret hC rfl rfl dX1_isWalker_17 (⟨rB0 (by first | exact fun z => Int32.not_le.mpr h_1 z.1 | exact fun z => Int32.not_le.mpr z.2 h_9), rfl⟩)
  · skip
    refine g_iload_n hC dX1_isWalker_4 rfl ?_
    refine g_aload_n hC dX1_isWalker_5 rfl rfl ?_
    refine gf_X1_walkers hC dX1_isWalker_6 rfl rfl ?_
    refine g_icmp_ge (tgt := 16) hC dX1_isWalker_9 (by decide) (fun h_9 => ?_) (fun h_9 => ?_)
    · skip
      refine g_iconst (v := nI (0)) hC dX1_isWalker_16 (by decide) ?_
      exact g_zret hC rfl rfl dX1_isWalker_17 (⟨rB0 (by first | exact fun z => Int32.not_le.mpr h_1 z.1 | exact fun z => Int32.not_le.mpr z.2 h_9), rfl⟩)
    · skip
      refine g_iconst (v := nI (1)) hC dX1_isWalker_12 (by decide) ?_
      refine g_goto (tgt := 17) hC dX1_isWalker_13 (by decide) ?_
      exact g_zret hC rfl rfl dX1_isWalker_17 (⟨rB1 ⟨Int32.not_lt.mp h_1, Int32.not_le.mp h_9⟩, rfl⟩)

set_option maxRecDepth 100000 in
set_option maxHeartbeats 4000000 in
theorem c_X1_hasRoof (v : Vw) (rf : Nat) (go : Nat → Nat) (hrf : rf < 64) {r : Nat} (hr : r < 6) : ConF yX1_hasRoof cX1_hasRoof 2 (some .boolean) 0 [aR 0 0 0, aI (nI (r))] [townG v rf go] (some (aI (bI (rf.testBit r)))) [townG v rf go] := by
  refine con_of RX1 pn_X1 rfl rfl (Nat.le_of_ble_eq_true rfl) (fun C hM0 hC => ?_)
  show G C 0 0 0 [aR 0 0 0, aI (nI (r))] [] [townG v rf go]
  refine g_aload_n hC dX1_hasRoof_0 rfl rfl ?_
  refine gf_X1_roofs hC dX1_hasRoof_1 rfl rfl ?_
  refine g_iload_n hC dX1_hasRoof_4 rfl ?_
  refine g_ishr hC dX1_hasRoof_5 rfl ?_
  refine g_iconst (v := nI (1)) hC dX1_hasRoof_6 (by decide) ?_
  refine g_iand (v := nI (((rf).testBit (r)).toNat)) hC dX1_hasRoof_7 (shr_bit _ hrf _ hr) ?_
  refine g_iconst (v := nI (1)) hC dX1_hasRoof_8 (by decide) ?_
  refine g_icmp_neN (tgt := 16) hC dX1_hasRoof_9 (by decide) (bt_lt _) (by omega) (fun h_9 => ?_) (fun h_9 => ?_)
  · skip
    refine g_iconst (v := nI (0)) hC dX1_hasRoof_16 (by decide) ?_
    exact g_zret hC rfl rfl dX1_hasRoof_17 (⟨rV (by rw [b0 h_9]; rfl), rfl⟩)
  · skip
    refine g_iconst (v := nI (1)) hC dX1_hasRoof_12 (by decide) ?_
    refine g_goto (tgt := 17) hC dX1_hasRoof_13 (by decide) ?_
    exact g_zret hC rfl rfl dX1_hasRoof_17 (⟨rV (by rw [b1 h_9]; rfl), rfl⟩)

set_option maxRecDepth 100000 in
set_option maxHeartbeats 4000000 in
theorem c_X1_isPath (v : Vw) (rf : Nat) (go : Nat → Nat) {a b : Nat} (ha : a < 6) (hb : b < 6) (hp : vPa v a < 64) : ConF yX1_isPath cX1_isPath 3 (some .boolean) 0 [aR 0 0 0, aI (nI (a)), aI (nI (b))] [townG v rf go] (some (aI (bI (isP v a b)))) [townG v rf go] := by
  refine con_of RX1 pn_X1 rfl rfl (Nat.le_of_ble_eq_true rfl) (fun C hM0 hC => ?_)
  show G C 0 0 0 [aR 0 0 0, aI (nI (a)), aI (nI (b))] [] [townG v rf go]
  refine g_aload_n hC dX1_isPath_0 rfl rfl ?_
  refine gf_X1_paths hC dX1_isPath_1 rfl rfl ?_
  refine g_iload_n hC dX1_isPath_4 rfl ?_
  refine g_ialdN hC dX1_isPath_5 rfl (by omega) (by decide) ?_
  refine g_iload_n hC dX1_isPath_6 rfl ?_
  refine g_ishr hC dX1_isPath_7 rfl ?_
  refine g_iconst (v := nI (1)) hC dX1_isPath_8 (by decide) ?_
  refine g_iand (v := nI (((vPa v a).testBit (b)).toNat)) hC dX1_isPath_9 (shr_bit _ hp _ hb) ?_
  refine g_iconst (v := nI (1)) hC dX1_isPath_10 (by decide) ?_
  refine g_icmp_neN (tgt := 18) hC dX1_isPath_11 (by decide) (bt_lt _) (by omega) (fun h_11 => ?_) (fun h_11 => ?_)
  · skip
    refine g_iconst (v := nI (0)) hC dX1_isPath_18 (by decide) ?_
    exact g_zret hC rfl rfl dX1_isPath_19 (⟨rV (by rw [show isP v a b = false from b0 h_11]; rfl), rfl⟩)
  · skip
    refine g_iconst (v := nI (1)) hC dX1_isPath_14 (by decide) ?_
    refine g_goto (tgt := 19) hC dX1_isPath_15 (by decide) ?_
    exact g_zret hC rfl rfl dX1_isPath_19 (⟨rV (by rw [show isP v a b = true from b1 h_11]; rfl), rfl⟩)

set_option maxRecDepth 100000 in
set_option maxHeartbeats 4000000 in
theorem c_X1_turnRoof (v : Vw) (rf : Nat) (go : Nat → Nat) (hrf : rf < 64) {r : Nat} (hr : r < 6) : ConF yX1_turnRoof cX1_turnRoof 2 none 0 [aR 0 0 0, aI (nI (r))] [townG v rf go] none [townG v (rf ^^^ (1 <<< r)) go] := by
  refine con_of RX1 pn_X1 rfl rfl (Nat.le_of_ble_eq_true rfl) (fun C hM0 hC => ?_)
  show G C 0 0 0 [aR 0 0 0, aI (nI (r))] [] [townG v rf go]
  refine g_aload_n hC dX1_turnRoof_0 rfl rfl ?_
  refine g_dup hC dX1_turnRoof_1 rfl ?_
  refine gf_X1_roofs hC dX1_turnRoof_2 rfl rfl ?_
  refine g_iconst (v := nI (1)) hC dX1_turnRoof_5 (by decide) ?_
  refine g_iload_n hC dX1_turnRoof_6 rfl ?_
  refine g_ishl hC dX1_turnRoof_7 rfl ?_
  refine g_ixor (v := nI (rf ^^^ (1 <<< r))) hC dX1_turnRoof_8 (xor_bit _ hrf _ hr) ?_
  refine gp_X1_roofs hC dX1_turnRoof_9 rfl rfl ?_
  exact g_vret hC rfl dX1_turnRoof_12 (⟨rfl, rfl⟩)

set_option maxRecDepth 100000 in
set_option maxHeartbeats 4000000 in
theorem c_X1_turnPath (v : Vw) (rf : Nat) (go : Nat → Nat) {a b : Nat} (ha : a < 6) (hb : b < 6) (hab : a ≠ b) (hpa : vPa v a < 64) (hpb : vPa v b < 64) : ConF yX1_turnPath cX1_turnPath 3 none 0 [aR 0 0 0, aI (nI (a)), aI (nI (b))] [townG v rf go] none [townG (uPa v (updN (updN (vPa v) a (vPa v a ^^^ (1 <<< b))) b (vPa v b ^^^ (1 <<< a)))) rf go] := by
  refine con_of RX1 pn_X1 rfl rfl (Nat.le_of_ble_eq_true rfl) (fun C hM0 hC => ?_)
  show G C 0 0 0 [aR 0 0 0, aI (nI (a)), aI (nI (b))] [] [townG v rf go]
  refine g_aload_n hC dX1_turnPath_0 rfl rfl ?_
  refine gf_X1_paths hC dX1_turnPath_1 rfl rfl ?_
  refine g_iload_n hC dX1_turnPath_4 rfl ?_
  refine g_dup2 hC dX1_turnPath_5 rfl rfl ?_
  refine g_ialdN hC dX1_turnPath_6 rfl (by omega) (by decide) ?_
  refine g_iconst (v := nI (1)) hC dX1_turnPath_7 (by decide) ?_
  refine g_iload_n hC dX1_turnPath_8 rfl ?_
  refine g_ishl hC dX1_turnPath_9 rfl ?_
  refine g_ixor (v := nI (vPa v a ^^^ (1 <<< b))) hC dX1_turnPath_10 (xor_bit _ hpa _ hb) ?_
  refine g_iastN hC dX1_turnPath_11 rfl (by omega) (by decide) ?_
  refine g_aload_n hC dX1_turnPath_12 rfl rfl ?_
  refine gf_X1_paths hC dX1_turnPath_13 rfl rfl ?_
  refine g_iload_n hC dX1_turnPath_16 rfl ?_
  refine g_dup2 hC dX1_turnPath_17 rfl rfl ?_
  refine g_iald (v := nI (vPa v b)) hC dX1_turnPath_18 rfl rfl (by omega) (by decide) (by show nI (updN (vPa v) a _ b) = _; unfold updN; rw [if_neg (Ne.symm hab)]) ?_
  refine g_iconst (v := nI (1)) hC dX1_turnPath_19 (by decide) ?_
  refine g_iload_n hC dX1_turnPath_20 rfl ?_
  refine g_ishl hC dX1_turnPath_21 rfl ?_
  refine g_ixor (v := nI (vPa v b ^^^ (1 <<< a))) hC dX1_turnPath_22 (xor_bit _ hpb _ ha) ?_
  refine g_iastN hC dX1_turnPath_23 rfl (by omega) (by decide) ?_
  exact g_vret hC rfl dX1_turnPath_24 (⟨rfl, rfl⟩)

set_option maxRecDepth 100000 in
set_option maxHeartbeats 4000000 in
theorem c_X1_hasTrace (v : Vw) (rf : Nat) (go : Nat → Nat) {B : Nat} (hv : wf B v) (hB : B ≤ 200) {w r : Nat} (hw : w < vN v) (hr : r < 6) : ConF yX1_hasTrace cX1_hasTrace 3 (some .boolean) 0 [aR 0 0 0, aI (nI (w)), aI (nI (r))] [townG v rf go] (some (aI (bI (vLf v w r).isSome))) [townG v rf go] := by
  refine con_of RX1 pn_X1 rfl rfl (Nat.le_of_ble_eq_true rfl) (fun C hM0 hC => ?_)
  show G C 0 0 0 [aR 0 0 0, aI (nI (w)), aI (nI (r))] [] [townG v rf go]
  have hn := wf_n hv
  refine g_aload_n hC dX1_hasTrace_0 rfl rfl ?_
  refine gf_X1_left hC dX1_hasTrace_1 rfl rfl ?_
  refine g_iload_n hC dX1_hasTrace_4 rfl ?_
  refine g_aaldN hC dX1_hasTrace_5 rfl (by omega) (by decide) ?_
  refine g_iload_n hC dX1_hasTrace_6 rfl ?_
  refine g_iald2O hC dX1_hasTrace_7 rfl (by omega) (by omega) (by decide) ?_
  refine g_iconst (v := (-1)) hC dX1_hasTrace_8 (by decide) ?_
  refine g_icmp_eqO (tgt := 16) hC dX1_hasTrace_9 (by decide) (by decide) (fun m q => by have := wf_lf hv w hw r hr m q; have := wf_mi hv; omega) (fun h_9 => ?_) (fun m_9 h_9 => ?_)
  · skip
    refine g_iconst (v := nI (0)) hC dX1_hasTrace_16 (by decide) ?_
    exact g_zret hC rfl rfl dX1_hasTrace_17 (⟨rV (by rw [h_9]; rfl), rfl⟩)
  · skip
    refine g_iconst (v := nI (1)) hC dX1_hasTrace_12 (by decide) ?_
    refine g_goto (tgt := 17) hC dX1_hasTrace_13 (by decide) ?_
    exact g_zret hC rfl rfl dX1_hasTrace_17 (⟨rV (by rw [h_9]; rfl), rfl⟩)

set_option maxRecDepth 100000 in
set_option maxHeartbeats 4000000 in
theorem c_X1_ageOf (v : Vw) (rf : Nat) (go : Nat → Nat) {B : Nat} (hv : wf B v) (hB : B ≤ 200) {w r l : Nat} (hw : w < vN v) (hr : r < 6) (hl : l ≤ 50) : ConF yX1_ageOf cX1_ageOf 5 (some .int) 0 [aR 0 0 0, aI (nI (w)), aI (nI (r)), aI (nI (l))] [townG v rf go] (some (aI (oI (-9) (age v w r l)))) [townG v rf go] := by
  refine con_of RX1 pn_X1 rfl rfl (Nat.le_of_ble_eq_true rfl) (fun C hM0 hC => ?_)
  show G C 0 0 0 [aR 0 0 0, aI (nI (w)), aI (nI (r)), aI (nI (l)), aK 9] [] [townG v rf go]
  have hn := wf_n hv
  have hmi := wf_mi hv
  have hwi := wf_wi hv r hr
  have hki := wf_ki hv w hw
  refine g_aload_n hC dX1_ageOf_0 rfl rfl ?_
  refine gf_X1_left hC dX1_ageOf_1 rfl rfl ?_
  refine g_iload_n hC dX1_ageOf_4 rfl ?_
  refine g_aaldN hC dX1_ageOf_5 rfl (by omega) (by decide) ?_
  refine g_iload_n hC dX1_ageOf_6 rfl ?_
  refine g_iald2O hC dX1_ageOf_7 rfl (by omega) (by omega) (by decide) ?_
  refine g_iconst (v := (-1)) hC dX1_ageOf_8 (by decide) ?_
  refine g_icmp_neO (tgt := 15) hC dX1_ageOf_9 (by decide) (by decide) (fun m q => by have := wf_lf hv w hw r hr m q; omega) (fun m h_9 => ?_) (fun h_9 => ?_)
  · skip
    have hm := wf_lf hv w hw r hr m h_9
    have hmul : (vMi v + l - m) * (1 + vWi v r) ≤ 250 * 4 := Nat.mul_le_mul (by omega) (by omega)
    refine g_aload_n hC dX1_ageOf_15 rfl rfl ?_
    refine gf_X1_minute hC dX1_ageOf_16 rfl rfl ?_
    refine g_iload_n hC dX1_ageOf_19 rfl ?_
    refine g_iaddN hC dX1_ageOf_20 ?_
    refine g_aload_n hC dX1_ageOf_21 rfl rfl ?_
    refine gf_X1_left hC dX1_ageOf_22 rfl rfl ?_
    refine g_iload_n hC dX1_ageOf_25 rfl ?_
    refine g_aaldN hC dX1_ageOf_26 rfl (by omega) (by decide) ?_
    refine g_iload_n hC dX1_ageOf_27 rfl ?_
    refine g_iald2 (v := nI (m)) hC dX1_ageOf_28 rfl (by omega) rfl (by omega) (by decide) (by show oI (-1) (vLf v w r) = nI m; rw [h_9]; rfl) ?_
    refine g_isubN hC dX1_ageOf_29 (by omega) ?_
    refine g_iconst (v := nI (1)) hC dX1_ageOf_30 (by decide) ?_
    refine g_aload_n hC dX1_ageOf_31 rfl rfl ?_
    refine gf_X1_winds hC dX1_ageOf_32 rfl rfl ?_
    refine g_iload_n hC dX1_ageOf_35 rfl ?_
    refine g_ialdN hC dX1_ageOf_36 rfl (by omega) (by decide) ?_
    refine g_iaddN hC dX1_ageOf_37 ?_
    refine g_imulN hC dX1_ageOf_38 ?_
    refine g_istore hC dX1_ageOf_39 (by decide) rfl ?_
    refine g_aload_n hC dX1_ageOf_41 rfl rfl ?_
    refine gf_X1_kinds hC dX1_ageOf_42 rfl rfl ?_
    refine g_iload_n hC dX1_ageOf_45 rfl ?_
    refine g_ialdN hC dX1_ageOf_46 rfl (by omega) (by decide) ?_
    refine g_iconst (v := nI (3)) hC dX1_ageOf_47 (by decide) ?_
    refine g_icmp_neN (tgt := 58) hC dX1_ageOf_48 (by decide) (by omega) (by omega) (fun h_48 => ?_) (fun h_48 => ?_)
    · skip
      refine g_iload hC dX1_ageOf_58 rfl ?_
      exact g_iret hC rfl dX1_ageOf_60 (⟨rV (by rw [age_some h_9]; show _ = nI (ageIn v w r l m); unfold ageIn; rw [if_neg h_48]), rfl⟩)
    · skip
      refine g_iload hC dX1_ageOf_51 rfl ?_
      refine g_iconst (v := nI (2)) hC dX1_ageOf_53 (by decide) ?_
      refine g_idivN hC dX1_ageOf_54 (by omega) (by omega) (by omega) ?_
      refine g_goto (tgt := 60) hC dX1_ageOf_55 (by decide) ?_
      exact g_iret hC rfl dX1_ageOf_60 (⟨rV (by rw [age_some h_9]; show _ = nI (ageIn v w r l m); unfold ageIn; rw [if_pos h_48]), rfl⟩)
  · skip
    refine g_bipush (v := (-9)) hC dX1_ageOf_12 (by decide) ?_
    exact g_iret hC rfl dX1_ageOf_14 ⟨rV (by rw [age_none h_9]; rfl), rfl⟩

set_option maxRecDepth 100000 in
set_option maxHeartbeats 4000000 in
theorem c_X1_smellOf (v : Vw) (rf : Nat) (go : Nat → Nat) {B : Nat} (hv : wf B v) (hB : B ≤ 200) {w r l m : Nat} (hw : w < vN v) (hr : r < 6) (hl : l ≤ 50) (hm : vLf v w r = some m) : ConF yX1_smellOf cX1_smellOf 4 (some .int) 1 [aR 0 0 0, aI (nI (w)), aI (nI (r)), aI (nI (l))] [townG v rf go] (some (aI (nI (ageIn v w r l m / vNo v)))) [townG v rf go] := by
  refine con_of RX1 pn_X1 rfl rfl (Nat.le_of_ble_eq_true rfl) (fun C hM0 hC => ?_)
  show G C 0 0 0 [aR 0 0 0, aI (nI (w)), aI (nI (r)), aI (nI (l))] [] [townG v rf go]
  have hno := wf_no hv
  have hlt := age_lt hv hB hl hr _ (age_some hm)
  refine g_aload_n hC dX1_smellOf_0 rfl rfl ?_
  refine g_iload_n hC dX1_smellOf_1 rfl ?_
  refine g_iload_n hC dX1_smellOf_2 rfl ?_
  refine g_iload_n hC dX1_smellOf_3 rfl ?_
  refine gi_X1_106 hC (is := [0]) (st := []) (c_X1_ageOf v rf go hv hB hw hr hl) dX1_smellOf_4 rfl ⟨by decide, by decide⟩ ⟨by decide, by decide⟩ rfl (by decide) rfl rfl rfl ?_
  show G C 0 0 7 _ (aI (oI (-9) (age v w r l)) :: []) _
  rw [age_some hm]
  show G C 0 0 7 _ (aI (nI (ageIn v w r l m)) :: []) [townG v rf go]
  refine g_aload_n hC dX1_smellOf_7 rfl rfl ?_
  refine gf_X1_nose hC dX1_smellOf_8 rfl rfl ?_
  refine g_idivN hC dX1_smellOf_11 (by omega) (by omega) (by omega) ?_
  exact g_iret hC rfl dX1_smellOf_12 (⟨rfl, rfl⟩)

set_option maxRecDepth 100000 in
set_option maxHeartbeats 4000000 in
theorem c_X1_isBeyond {x y : Option Nat} (hx : ∀ m, x = some m → m < 2 ^ 31) (hy : ∀ m, y = some m → m < 2 ^ 31) (g : Bool) : ConF yX1_isBeyond cX1_isBeyond 3 (some .boolean) 0 [aI (oI (-9) (x)), aI (oI (-9) (y)), aI (bI (g))] [] (some (aI (bI (beyond g x y)))) [] := by
  refine con_of RX1 pn_X1 rfl rfl (Nat.le_of_ble_eq_true rfl) (fun C hM0 hC => ?_)
  show G C 0 0 0 [aI (oI (-9) (x)), aI (oI (-9) (y)), aI (bI (g))] [] []
  refine g_iload_n hC dX1_isBeyond_0 rfl ?_
  refine g_bipush (v := (-9)) hC dX1_isBeyond_1 (by decide) ?_
  refine g_icmp_eqO (tgt := 12) hC dX1_isBeyond_3 (by decide) (by decide) hx (fun h_3 => ?_) (fun m h_3 => ?_)
  · skip
    refine g_iload_n hC dX1_isBeyond_12 rfl ?_
    refine g_bipush (v := (-9)) hC dX1_isBeyond_13 (by decide) ?_
    refine g_icmp_eqO (tgt := 22) hC dX1_isBeyond_15 (by decide) (by decide) hx (fun h_15 => ?_) (fun m2 h_15 => ?_)
    · skip
      refine g_iconst (v := nI (0)) hC dX1_isBeyond_22 (by decide) ?_
      exact g_zret hC rfl rfl dX1_isBeyond_23 (⟨rV (by simp_all [beyond, beats, bI] <;> (intro h9; exfalso; omega)), rfl⟩)
    · skip
      refine g_iconst (v := nI (1)) hC dX1_isBeyond_18 (by decide) ?_
      refine g_goto (tgt := 23) hC dX1_isBeyond_19 (by decide) ?_
      exact g_zret hC rfl rfl dX1_isBeyond_23 (⟨rV (by simp_all [beyond, beats, bI] <;> (intro h9; exfalso; omega)), rfl⟩)
  · skip
    refine g_iload_n hC dX1_isBeyond_6 rfl ?_
    refine g_bipush (v := (-9)) hC dX1_isBeyond_7 (by decide) ?_
    refine g_icmp_neO (tgt := 24) hC dX1_isBeyond_9 (by decide) (by decide) hy (fun q h_9 => ?_) (fun h_9 => ?_)
    · skip
      refine g_iload_n hC dX1_isBeyond_24 rfl ?_
      refine g_if_eqB (tgt := 41) hC dX1_isBeyond_25 (by decide) (fun h_25 => ?_) (fun h_25 => ?_)
      · skip
        refine g_iload_n hC dX1_isBeyond_41 rfl ?_
        refine g_iload_n hC dX1_isBeyond_42 rfl ?_
        rw [h_3, h_9] ; show G C 0 0 43 _ (aI (nI q) :: aI (nI m) :: []) _
        have hm := hx m h_3
        have hq := hy q h_9
        refine g_icmp_geN (tgt := 50) hC dX1_isBeyond_43 (by decide) (by omega) (by omega) (fun h_43 => ?_) (fun h_43 => ?_)
        · skip
          refine g_iconst (v := nI (0)) hC dX1_isBeyond_50 (by decide) ?_
          exact g_zret hC rfl rfl dX1_isBeyond_51 (⟨rV (by simp_all [beyond, beats, bI] <;> (intro h9; exfalso; omega)), rfl⟩)
        · skip
          refine g_iconst (v := nI (1)) hC dX1_isBeyond_46 (by decide) ?_
          refine g_goto (tgt := 51) hC dX1_isBeyond_47 (by decide) ?_
          exact g_zret hC rfl rfl dX1_isBeyond_51 (⟨rV (by simp_all [beyond, beats, bI] <;> (intro h9; exfalso; omega)), rfl⟩)
      · skip
        refine g_iload_n hC dX1_isBeyond_28 rfl ?_
        refine g_iload_n hC dX1_isBeyond_29 rfl ?_
        rw [h_3, h_9] ; show G C 0 0 30 _ (aI (nI q) :: aI (nI m) :: []) _
        have hm := hx m h_3
        have hq := hy q h_9
        refine g_icmp_leN (tgt := 37) hC dX1_isBeyond_30 (by decide) (by omega) (by omega) (fun h_30 => ?_) (fun h_30 => ?_)
        · skip
          refine g_iconst (v := nI (0)) hC dX1_isBeyond_37 (by decide) ?_
          refine g_goto (tgt := 51) hC dX1_isBeyond_38 (by decide) ?_
          exact g_zret hC rfl rfl dX1_isBeyond_51 (⟨rV (by simp_all [beyond, beats, bI] <;> (intro h9; exfalso; omega)), rfl⟩)
        · skip
          refine g_iconst (v := nI (1)) hC dX1_isBeyond_33 (by decide) ?_
          refine g_goto (tgt := 51) hC dX1_isBeyond_34 (by decide) ?_
          exact g_zret hC rfl rfl dX1_isBeyond_51 (⟨rV (by simp_all [beyond, beats, bI] <;> (intro h9; exfalso; omega)), rfl⟩)
    · skip
      refine g_iload_n hC dX1_isBeyond_12 rfl ?_
      refine g_bipush (v := (-9)) hC dX1_isBeyond_13 (by decide) ?_
      refine g_icmp_eqO (tgt := 22) hC dX1_isBeyond_15 (by decide) (by decide) hx (fun h_15 => ?_) (fun m2 h_15 => ?_)
      · skip
        refine g_iconst (v := nI (0)) hC dX1_isBeyond_22 (by decide) ?_
        exact g_zret hC rfl rfl dX1_isBeyond_23 (⟨rV (by simp_all [beyond, beats, bI] <;> (intro h9; exfalso; omega)), rfl⟩)
      · skip
        refine g_iconst (v := nI (1)) hC dX1_isBeyond_18 (by decide) ?_
        refine g_goto (tgt := 23) hC dX1_isBeyond_19 (by decide) ?_
        exact g_zret hC rfl rfl dX1_isBeyond_23 (⟨rV (by simp_all [beyond, beats, bI] <;> (intro h9; exfalso; omega)), rfl⟩)

set_option maxRecDepth 100000 in
set_option maxHeartbeats 4000000 in
theorem c_X1_ageAmong (v : Vw) (rf : Nat) (go : Nat → Nat) {B : Nat} (hv : wf B v) (hB : B ≤ 200) {r : Nat} (hr : r < 6) {s : Nat} {as : Int32} (hs : ∀ k, k < 4 → (nI k = as ↔ k = s)) (g : Bool) : ConF yX1_ageAmong cX1_ageAmong 7 (some .int) 1 [aR 0 0 0, aI (nI (r)), aI (as), aI (bI (g))] [townG v rf go] (some (aI (oI (-9) (ends v r s g (vN v))))) [townG v rf go] := by
  refine con_of RX1 pn_X1 rfl rfl (Nat.le_of_ble_eq_true rfl) (fun C hM0 hC => ?_)
  show G C 0 0 0 [aR 0 0 0, aI (nI (r)), aI (as), aI (bI (g)), aK 9, aK 9, aK 9] [] [townG v rf go]
  have hn := wf_n hv
  have loop : ∀ d k, k + d = vN v → G C 0 0 7 [aR 0 0 0, aI (nI r), aI as, aI (bI g), aI (oI (-9) (ends v r s g k)), aI (nI k), aK 9] [] [townG v rf go] := by
    intro d
    induction d with
    | zero =>
      intro k hk
      refine g_iload hC dX1_ageAmong_7 rfl ?_
      refine g_aload_n hC dX1_ageAmong_9 rfl rfl ?_
      refine gf_X1_walkers hC dX1_ageAmong_10 rfl rfl ?_
      refine g_icmp_geN (tgt := 53) hC dX1_ageAmong_13 (by decide) (by omega) (by omega) (fun h_13 => ?_) (fun h_13 => ?_)
      · skip
        refine g_iload hC dX1_ageAmong_53 rfl ?_
        exact g_iret hC rfl dX1_ageAmong_55 (⟨rV (by rw [show k = vN v by omega]), rfl⟩)
      · skip
        omega
    | succ d ih =>
      intro k hk
      refine g_iload hC dX1_ageAmong_7 rfl ?_
      refine g_aload_n hC dX1_ageAmong_9 rfl rfl ?_
      refine gf_X1_walkers hC dX1_ageAmong_10 rfl rfl ?_
      refine g_icmp_geN (tgt := 53) hC dX1_ageAmong_13 (by decide) (by omega) (by omega) (fun h_13 => ?_) (fun h_13 => ?_)
      · skip
        omega
      · skip
        refine g_iload hC dX1_ageAmong_16 rfl ?_
        refine g_iload_n hC dX1_ageAmong_18 rfl ?_
        refine g_icmp_eq (tgt := 47) hC dX1_ageAmong_19 (by decide) (fun h_19 => ?_) (fun h_19 => ?_)
        · skip
          refine g_iincN hC dX1_ageAmong_47 rfl (by decide) rfl ?_
          refine g_goto (tgt := 7) hC dX1_ageAmong_50 (by decide) ?_
          refine g_mask [true, true, true, true, true, true, false] ?_
          have q := ih (k + 1) (by omega)
          rw [ends_at (hs k (by omega) |>.mp h_19)] at q
          exact q
        · skip
          refine g_aload_n hC dX1_ageAmong_22 rfl rfl ?_
          refine g_iload hC dX1_ageAmong_23 rfl ?_
          refine g_iload_n hC dX1_ageAmong_25 rfl ?_
          refine g_iconst (v := nI (0)) hC dX1_ageAmong_26 (by decide) ?_
          refine gi_X1_106 hC (is := [0]) (st := []) (c_X1_ageOf v rf go hv hB (show k < vN v by omega) hr (show 0 ≤ 50 by omega)) dX1_ageAmong_27 rfl ⟨by decide, by decide⟩ ⟨by decide, by decide⟩ rfl (by decide) rfl rfl rfl ?_
          refine g_istore hC dX1_ageAmong_30 (by decide) rfl ?_
          refine g_iload hC dX1_ageAmong_32 rfl ?_
          refine g_iload hC dX1_ageAmong_34 rfl ?_
          refine g_iload_n hC dX1_ageAmong_36 rfl ?_
          refine gi_X1_82 hC (is := []) (st := []) (c_X1_isBeyond (x := age v k r 0) (y := ends v r s g k) (fun m q => by have := age_lt hv hB (show 0 ≤ 50 by omega) hr m q; omega) (fun m q => by have := ends_lt hv hB hr k m q; omega) g) dX1_ageAmong_37 rfl ⟨by decide, by decide⟩ ⟨by decide, by decide⟩ rfl (by decide) rfl rfl ?_
          refine g_if_eqB (tgt := 47) hC dX1_ageAmong_40 (by decide) (fun h_40 => ?_) (fun h_40 => ?_)
          · skip
            refine g_iincN hC dX1_ageAmong_47 rfl (by decide) rfl ?_
            refine g_goto (tgt := 7) hC dX1_ageAmong_50 (by decide) ?_
            refine g_mask [true, true, true, true, true, true, false] ?_
            have q := ih (k + 1) (by omega)
            rw [ends_no h_40] at q
            exact q
          · skip
            refine g_iload hC dX1_ageAmong_43 rfl ?_
            refine g_istore hC dX1_ageAmong_45 (by decide) rfl ?_
            refine g_iincN hC dX1_ageAmong_47 rfl (by decide) rfl ?_
            refine g_goto (tgt := 7) hC dX1_ageAmong_50 (by decide) ?_
            refine g_mask [true, true, true, true, true, true, false] ?_
            have q := ih (k + 1) (by omega)
            rw [ends_up (fun z => h_19 ((hs k (by omega)).mpr z)) h_40] at q
            exact q
  refine g_bipush (v := (-9)) hC dX1_ageAmong_0 (by decide) ?_
  refine g_istore hC dX1_ageAmong_2 (by decide) rfl ?_
  refine g_iconst (v := nI (0)) hC dX1_ageAmong_4 (by decide) ?_
  refine g_istore hC dX1_ageAmong_5 (by decide) rfl ?_
  exact loop (vN v) 0 (by omega)
