set_option maxRecDepth 100000 in
set_option maxHeartbeats 4000000 in
theorem c_X1_walkersIn (v : Vw) (rf : Nat) (go : Nat → Nat) : ConF yX1_walkersIn cX1_walkersIn 1 (some .int) 0 [aR 0 0 0] [townG v rf go] (some (aI (nI (vN v)))) [townG v rf go] := by
  refine con_of RX1 pn_X1 rfl rfl (Nat.le_of_ble_eq_true rfl) (fun C hM0 hC => ?_)
  show G C 0 0 0 [aR 0 0 0] [] [townG v rf go]
  refine g_aload_n hC dX1_walkersIn_0 rfl rfl ?_
  refine gf_X1_walkers hC dX1_walkersIn_1 rfl rfl ?_
  exact g_iret hC rfl dX1_walkersIn_4 (⟨rfl, rfl⟩)

set_option maxRecDepth 100000 in
set_option maxHeartbeats 4000000 in
theorem c_X1_minuteNow (v : Vw) (rf : Nat) (go : Nat → Nat) : ConF yX1_minuteNow cX1_minuteNow 1 (some .int) 0 [aR 0 0 0] [townG v rf go] (some (aI (nI (vMi v)))) [townG v rf go] := by
  refine con_of RX1 pn_X1 rfl rfl (Nat.le_of_ble_eq_true rfl) (fun C hM0 hC => ?_)
  show G C 0 0 0 [aR 0 0 0] [] [townG v rf go]
  refine g_aload_n hC dX1_minuteNow_0 rfl rfl ?_
  refine gf_X1_minute hC dX1_minuteNow_1 rfl rfl ?_
  exact g_iret hC rfl dX1_minuteNow_4 (⟨rfl, rfl⟩)

set_option maxRecDepth 100000 in
set_option maxHeartbeats 4000000 in
theorem c_X1_noseNow (v : Vw) (rf : Nat) (go : Nat → Nat) : ConF yX1_noseNow cX1_noseNow 1 (some .int) 0 [aR 0 0 0] [townG v rf go] (some (aI (nI (vNo v)))) [townG v rf go] := by
  refine con_of RX1 pn_X1 rfl rfl (Nat.le_of_ble_eq_true rfl) (fun C hM0 hC => ?_)
  show G C 0 0 0 [aR 0 0 0] [] [townG v rf go]
  refine g_aload_n hC dX1_noseNow_0 rfl rfl ?_
  refine gf_X1_nose hC dX1_noseNow_1 rfl rfl ?_
  exact g_iret hC rfl dX1_noseNow_4 (⟨rfl, rfl⟩)

set_option maxRecDepth 100000 in
set_option maxHeartbeats 4000000 in
theorem c_X1_windIn (v : Vw) (rf : Nat) (go : Nat → Nat) {r : Nat} (hr : r < 6) : ConF yX1_windIn cX1_windIn 2 (some .int) 0 [aR 0 0 0, aI (nI (r))] [townG v rf go] (some (aI (nI (vWi v r)))) [townG v rf go] := by
  refine con_of RX1 pn_X1 rfl rfl (Nat.le_of_ble_eq_true rfl) (fun C hM0 hC => ?_)
  show G C 0 0 0 [aR 0 0 0, aI (nI (r))] [] [townG v rf go]
  refine g_aload_n hC dX1_windIn_0 rfl rfl ?_
  refine gf_X1_winds hC dX1_windIn_1 rfl rfl ?_
  refine g_iload_n hC dX1_windIn_4 rfl ?_
  refine g_ialdN hC dX1_windIn_5 rfl (by omega) (by decide) ?_
  exact g_iret hC rfl dX1_windIn_6 (⟨rfl, rfl⟩)

set_option maxRecDepth 100000 in
set_option maxHeartbeats 4000000 in
theorem c_X1_pathsFrom (v : Vw) (rf : Nat) (go : Nat → Nat) {r : Nat} (hr : r < 6) : ConF yX1_pathsFrom cX1_pathsFrom 2 (some .int) 0 [aR 0 0 0, aI (nI (r))] [townG v rf go] (some (aI (nI (vPa v r)))) [townG v rf go] := by
  refine con_of RX1 pn_X1 rfl rfl (Nat.le_of_ble_eq_true rfl) (fun C hM0 hC => ?_)
  show G C 0 0 0 [aR 0 0 0, aI (nI (r))] [] [townG v rf go]
  refine g_aload_n hC dX1_pathsFrom_0 rfl rfl ?_
  refine gf_X1_paths hC dX1_pathsFrom_1 rfl rfl ?_
  refine g_iload_n hC dX1_pathsFrom_4 rfl ?_
  refine g_ialdN hC dX1_pathsFrom_5 rfl (by omega) (by decide) ?_
  exact g_iret hC rfl dX1_pathsFrom_6 (⟨rfl, rfl⟩)

set_option maxRecDepth 100000 in
set_option maxHeartbeats 4000000 in
theorem c_X1_kindOf (v : Vw) (rf : Nat) (go : Nat → Nat) {w : Nat} (hw : w < 4) : ConF yX1_kindOf cX1_kindOf 2 (some .int) 0 [aR 0 0 0, aI (nI (w))] [townG v rf go] (some (aI (nI (vKi v w)))) [townG v rf go] := by
  refine con_of RX1 pn_X1 rfl rfl (Nat.le_of_ble_eq_true rfl) (fun C hM0 hC => ?_)
  show G C 0 0 0 [aR 0 0 0, aI (nI (w))] [] [townG v rf go]
  refine g_aload_n hC dX1_kindOf_0 rfl rfl ?_
  refine gf_X1_kinds hC dX1_kindOf_1 rfl rfl ?_
  refine g_iload_n hC dX1_kindOf_4 rfl ?_
  refine g_ialdN hC dX1_kindOf_5 rfl (by omega) (by decide) ?_
  exact g_iret hC rfl dX1_kindOf_6 (⟨rfl, rfl⟩)

set_option maxRecDepth 100000 in
set_option maxHeartbeats 4000000 in
theorem c_X1_placeOf (v : Vw) (rf : Nat) (go : Nat → Nat) {w : Nat} (hw : w < 4) : ConF yX1_placeOf cX1_placeOf 2 (some .int) 0 [aR 0 0 0, aI (nI (w))] [townG v rf go] (some (aI (nI (vPl v w)))) [townG v rf go] := by
  refine con_of RX1 pn_X1 rfl rfl (Nat.le_of_ble_eq_true rfl) (fun C hM0 hC => ?_)
  show G C 0 0 0 [aR 0 0 0, aI (nI (w))] [] [townG v rf go]
  refine g_aload_n hC dX1_placeOf_0 rfl rfl ?_
  refine gf_X1_places hC dX1_placeOf_1 rfl rfl ?_
  refine g_iload_n hC dX1_placeOf_4 rfl ?_
  refine g_ialdN hC dX1_placeOf_5 rfl (by omega) (by decide) ?_
  exact g_iret hC rfl dX1_placeOf_6 (⟨rfl, rfl⟩)

set_option maxRecDepth 100000 in
set_option maxHeartbeats 4000000 in
theorem c_X1_planLengthOf (v : Vw) (rf : Nat) (go : Nat → Nat) {w : Nat} (hw : w < 4) : ConF yX1_planLengthOf cX1_planLengthOf 2 (some .int) 0 [aR 0 0 0, aI (nI (w))] [townG v rf go] (some (aI (nI (vPL v w)))) [townG v rf go] := by
  refine con_of RX1 pn_X1 rfl rfl (Nat.le_of_ble_eq_true rfl) (fun C hM0 hC => ?_)
  show G C 0 0 0 [aR 0 0 0, aI (nI (w))] [] [townG v rf go]
  refine g_aload_n hC dX1_planLengthOf_0 rfl rfl ?_
  refine gf_X1_planLengths hC dX1_planLengthOf_1 rfl rfl ?_
  refine g_iload_n hC dX1_planLengthOf_4 rfl ?_
  refine g_ialdN hC dX1_planLengthOf_5 rfl (by omega) (by decide) ?_
  exact g_iret hC rfl dX1_planLengthOf_6 (⟨rfl, rfl⟩)

set_option maxRecDepth 100000 in
set_option maxHeartbeats 4000000 in
theorem c_X1_setNose (v : Vw) (rf : Nat) (go : Nat → Nat) (x : Nat) : ConF yX1_setNose cX1_setNose 2 none 0 [aR 0 0 0, aI (nI (x))] [townG v rf go] none [townG (uNo v x) rf go] := by
  refine con_of RX1 pn_X1 rfl rfl (Nat.le_of_ble_eq_true rfl) (fun C hM0 hC => ?_)
  show G C 0 0 0 [aR 0 0 0, aI (nI (x))] [] [townG v rf go]
  refine g_aload_n hC dX1_setNose_0 rfl rfl ?_
  refine g_iload_n hC dX1_setNose_1 rfl ?_
  refine gp_X1_nose hC dX1_setNose_2 rfl rfl ?_
  exact g_vret hC rfl dX1_setNose_5 (⟨rfl, rfl⟩)

set_option maxRecDepth 100000 in
set_option maxHeartbeats 4000000 in
theorem c_X1_setWind (v : Vw) (rf : Nat) (go : Nat → Nat) {r : Nat} (hr : r < 6) (x : Nat) : ConF yX1_setWind cX1_setWind 3 none 0 [aR 0 0 0, aI (nI (r)), aI (nI (x))] [townG v rf go] none [townG (uWi v (updN (vWi v) r x)) rf go] := by
  refine con_of RX1 pn_X1 rfl rfl (Nat.le_of_ble_eq_true rfl) (fun C hM0 hC => ?_)
  show G C 0 0 0 [aR 0 0 0, aI (nI (r)), aI (nI (x))] [] [townG v rf go]
  refine g_aload_n hC dX1_setWind_0 rfl rfl ?_
  refine gf_X1_winds hC dX1_setWind_1 rfl rfl ?_
  refine g_iload_n hC dX1_setWind_4 rfl ?_
  refine g_iload_n hC dX1_setWind_5 rfl ?_
  refine g_iastN hC dX1_setWind_6 rfl (by omega) (by decide) ?_
  exact g_vret hC rfl dX1_setWind_7 (⟨rfl, rfl⟩)

set_option maxRecDepth 100000 in
set_option maxHeartbeats 4000000 in
theorem c_X1_place (v : Vw) (rf : Nat) (go : Nat → Nat) {w : Nat} (hw : w < 4) (r : Nat) : ConF yX1_place cX1_place 3 none 0 [aR 0 0 0, aI (nI (w)), aI (nI (r))] [townG v rf go] none [townG (uPl v (updN (vPl v) w r)) rf go] := by
  refine con_of RX1 pn_X1 rfl rfl (Nat.le_of_ble_eq_true rfl) (fun C hM0 hC => ?_)
  show G C 0 0 0 [aR 0 0 0, aI (nI (w)), aI (nI (r))] [] [townG v rf go]
  refine g_aload_n hC dX1_place_0 rfl rfl ?_
  refine gf_X1_places hC dX1_place_1 rfl rfl ?_
  refine g_iload_n hC dX1_place_4 rfl ?_
  refine g_iload_n hC dX1_place_5 rfl ?_
  refine g_iastN hC dX1_place_6 rfl (by omega) (by decide) ?_
  exact g_vret hC rfl dX1_place_7 (⟨rfl, rfl⟩)

set_option maxRecDepth 100000 in
set_option maxHeartbeats 4000000 in
theorem c_X1_hasSpace (v : Vw) (rf : Nat) (go : Nat → Nat) (hn : vN v ≤ 4) : ConF yX1_hasSpace cX1_hasSpace 1 (some .boolean) 0 [aR 0 0 0] [townG v rf go] (some (aI (bI (decide (vN v < 4))))) [townG v rf go] := by
  refine con_of RX1 pn_X1 rfl rfl (Nat.le_of_ble_eq_true rfl) (fun C hM0 hC => ?_)
  show G C 0 0 0 [aR 0 0 0] [] [townG v rf go]
  refine g_aload_n hC dX1_hasSpace_0 rfl rfl ?_
  refine gf_X1_walkers hC dX1_hasSpace_1 rfl rfl ?_
  refine g_iconst (v := nI (4)) hC dX1_hasSpace_4 (by decide) ?_
  refine g_icmp_geN (tgt := 12) hC dX1_hasSpace_5 (by decide) (by omega) (by omega) (fun h_5 => ?_) (fun h_5 => ?_)
  · skip
    refine g_iconst (v := nI (0)) hC dX1_hasSpace_12 (by decide) ?_
    exact g_zret hC rfl rfl dX1_hasSpace_13 (⟨rB0 (by omega), rfl⟩)
  · skip
    refine g_iconst (v := nI (1)) hC dX1_hasSpace_8 (by decide) ?_
    refine g_goto (tgt := 13) hC dX1_hasSpace_9 (by decide) ?_
    exact g_zret hC rfl rfl dX1_hasSpace_13 (⟨rB1 (by omega), rfl⟩)

set_option maxRecDepth 100000 in
set_option maxHeartbeats 4000000 in
theorem c_X1_isWalker (v : Vw) (rf : Nat) (go : Nat → Nat) (hn : vN v ≤ 4) (x : Int32) : ConF yX1_isWalker cX1_isWalker 2 (some .boolean) 0 [aR 0 0 0, aI (x)] [townG v rf go] (some (aI (bI (decide (0 ≤ x ∧ x < nI (vN v)))))) [townG v rf go] := by
  refine con_of RX1 pn_X1 rfl rfl (Nat.le_of_ble_eq_true rfl) (fun C hM0 hC => ?_)
  show G C 0 0 0 [aR 0 0 0, aI (x)] [] [townG v rf go]
  refine g_iload_n hC dX1_isWalker_0 rfl ?_
  refine g_if_lt (tgt := 16) hC dX1_isWalker_1 (by decide) (fun h_1 => ?_) (fun h_1 => ?_)
  · skip
    refine g_iconst (v := nI (0)) hC dX1_isWalker_16 (by decide) ?_
    exact g_zret hC rfl rfl dX1_isWalker_17 (⟨rB0 (by first | exact fun z => Int32.not_le.mpr h_1 z.1 | exact fun z => Int32.not_le.mpr z.2 h_9), rfl⟩)
  · skip
    refine g_iload_n hC dX1_isWalker_4 rfl ?_
    refine g_aload_n hC dX1_isWalker_5 rfl rfl ?_
    refine gf_X1_walkers hC dX1_isWalker_6 rfl rfl ?_
    refine g_icmp_ge (tgt := 16) hC dX1_isWalker_9 (by decide) (fun h_9 => ?_) (fun h_9 => ?_)
    · skip
      refine g_iconst (v := nI (0)) hC dX1_isWalker_16 (by decide) ?_
      exact g_zret hC rfl rfl dX1_isWalker_17 (⟨rB0 (by first | exact fun z => Int32.not_le.mpr h_1 z.1 | exact fun z => Int32.not_le.mpr z.2 h_9), rfl⟩)
    · skip
      refine g_iconst (v := nI (1)) hC dX1_isWalker_12 (by decide) ?_
      refine g_goto (tgt := 17) hC dX1_isWalker_13 (by decide) ?_
      exact g_zret hC rfl rfl dX1_isWalker_17 (⟨rB1 ⟨Int32.not_lt.mp h_1, Int32.not_le.mp h_9⟩, rfl⟩)
