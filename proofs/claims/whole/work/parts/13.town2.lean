theorem arriveV_eq_n {v : Vw} {w g : Nat} (h : vKi v w = 1) (h2 : g ≠ vPl v w) : arriveV v w g = uPl v (updN (vPl v) w g) := by
  unfold arriveV
  rw [if_neg (by simp [h, h2])]
  rfl
theorem arriveV_eq_y {v : Vw} {w g : Nat} (h : vKi v w ≠ 1 ∨ g = vPl v w) : arriveV v w g = leaveV (uPl v (updN (vPl v) w g)) w := by
  unfold arriveV leaveV
  have e : vKi (uPl v (updN (vPl v) w g)) w = vKi v w := rfl
  have e2 : vPl (uPl v (updN (vPl v) w g)) w = g := by show updN (vPl v) w g w = g; unfold updN; rw [if_pos rfl]
  rw [e, e2]
  by_cases h5 : vKi v w = 5
  · rw [if_pos h5, if_neg (by simp [h5])]
    rfl
  · rw [if_neg h5, if_pos (by rcases h with h | h <;> simp [h5, h])]
    rfl
set_option maxRecDepth 100000 in
set_option maxHeartbeats 4000000 in
theorem c_X1_leastAge (v : Vw) (rf : Nat) (go : Nat → Nat) {B : Nat} (hv : wf B v) (hB : B ≤ 200) {r : Nat} (hr : r < 6) : ConF yX1_leastAge cX1_leastAge 2 (some .int) 2 [aR 0 0 0, aI (nI (r))] [townG v rf go] (some (aI (oI (-9) (ends v r 9 false (vN v))))) [townG v rf go] := by
  refine con_of RX1 pn_X1 rfl rfl (Nat.le_of_ble_eq_true rfl) (fun C hM0 hC => ?_)
  show G C 0 0 0 [aR 0 0 0, aI (nI (r))] [] [townG v rf go]
  refine g_aload_n hC dX1_leastAge_0 rfl rfl ?_
  refine g_iload_n hC dX1_leastAge_1 rfl ?_
  refine g_iconst (v := (-1)) hC dX1_leastAge_2 (by decide) ?_
  refine g_iconst (v := nI (0)) hC dX1_leastAge_3 (by decide) ?_
  refine gi_X1_78 hC (is := [0]) (st := []) (c_X1_ageAmong v rf go hv hB hr (s := 9) (as := -1) (by decide) false) dX1_leastAge_4 rfl ⟨by decide, by decide⟩ ⟨by decide, by decide⟩ rfl (by decide) rfl rfl rfl ?_
  exact g_iret hC rfl dX1_leastAge_7 (⟨rfl, rfl⟩)

set_option maxRecDepth 100000 in
set_option maxHeartbeats 4000000 in
theorem c_X1_greatestAge (v : Vw) (rf : Nat) (go : Nat → Nat) {B : Nat} (hv : wf B v) (hB : B ≤ 200) {r : Nat} (hr : r < 6) : ConF yX1_greatestAge cX1_greatestAge 2 (some .int) 2 [aR 0 0 0, aI (nI (r))] [townG v rf go] (some (aI (oI (-9) (ends v r 9 true (vN v))))) [townG v rf go] := by
  refine con_of RX1 pn_X1 rfl rfl (Nat.le_of_ble_eq_true rfl) (fun C hM0 hC => ?_)
  show G C 0 0 0 [aR 0 0 0, aI (nI (r))] [] [townG v rf go]
  refine g_aload_n hC dX1_greatestAge_0 rfl rfl ?_
  refine g_iload_n hC dX1_greatestAge_1 rfl ?_
  refine g_iconst (v := (-1)) hC dX1_greatestAge_2 (by decide) ?_
  refine g_iconst (v := nI (1)) hC dX1_greatestAge_3 (by decide) ?_
  refine gi_X1_78 hC (is := [0]) (st := []) (c_X1_ageAmong v rf go hv hB hr (s := 9) (as := -1) (by decide) true) dX1_greatestAge_4 rfl ⟨by decide, by decide⟩ ⟨by decide, by decide⟩ rfl (by decide) rfl rfl rfl ?_
  exact g_iret hC rfl dX1_greatestAge_7 (⟨rfl, rfl⟩)

set_option maxRecDepth 100000 in
set_option maxHeartbeats 4000000 in
theorem c_X1_tracesIn (v : Vw) (rf : Nat) (go : Nat → Nat) {B : Nat} (hv : wf B v) (hB : B ≤ 200) {r : Nat} (hr : r < 6) : ConF yX1_tracesIn cX1_tracesIn 4 (some .int) 1 [aR 0 0 0, aI (nI (r))] [townG v rf go] (some (aI (nI (traces v r)))) [townG v rf go] := by
  refine con_of RX1 pn_X1 rfl rfl (Nat.le_of_ble_eq_true rfl) (fun C hM0 hC => ?_)
  show G C 0 0 0 [aR 0 0 0, aI (nI (r)), aK 9, aK 9] [] [townG v rf go]
  have hn := wf_n hv
  have loop : ∀ d k, k + d = vN v → G C 0 0 4 [aR 0 0 0, aI (nI (r)), aI (nI (cnt (fun w => (vLf v w r).isSome) k)), aI (nI (k))] [] [townG v rf go] := by
    intro d
    induction d with
    | zero =>
      intro k hk
      refine g_iload_n hC dX1_tracesIn_4 rfl ?_
      refine g_aload_n hC dX1_tracesIn_5 rfl rfl ?_
      refine gf_X1_walkers hC dX1_tracesIn_6 rfl rfl ?_
      refine g_icmp_geN (tgt := 30) hC dX1_tracesIn_9 (by decide) (by omega) (by omega) (fun h_9 => ?_) (fun h_9 => ?_)
      · skip
        refine g_iload_n hC dX1_tracesIn_30 rfl ?_
        exact g_iret hC rfl dX1_tracesIn_31 (⟨rV (by rw [show k = vN v by omega]; rfl), rfl⟩)
      · skip
        omega
    | succ d ih =>
      intro k hk
      refine g_iload_n hC dX1_tracesIn_4 rfl ?_
      refine g_aload_n hC dX1_tracesIn_5 rfl rfl ?_
      refine gf_X1_walkers hC dX1_tracesIn_6 rfl rfl ?_
      refine g_icmp_geN (tgt := 30) hC dX1_tracesIn_9 (by decide) (by omega) (by omega) (fun h_9 => ?_) (fun h_9 => ?_)
      · skip
        omega
      · skip
        refine g_aload_n hC dX1_tracesIn_12 rfl rfl ?_
        refine g_iload_n hC dX1_tracesIn_13 rfl ?_
        refine g_iload_n hC dX1_tracesIn_14 rfl ?_
        refine gi_X1_110 hC (is := [0]) (st := []) (c_X1_hasTrace v rf go hv hB (show k < vN v by omega) hr) dX1_tracesIn_15 rfl ⟨by decide, by decide⟩ ⟨by decide, by decide⟩ rfl (by decide) rfl rfl rfl ?_
        refine g_if_eqB (tgt := 24) hC dX1_tracesIn_18 (by decide) (fun h_18 => ?_) (fun h_18 => ?_)
        · skip
          refine g_iincN hC dX1_tracesIn_24 rfl (by decide) rfl ?_
          refine g_goto (tgt := 4) hC dX1_tracesIn_27 (by decide) ?_
          refine g_mask [true, true, true, true] ?_
          have q := ih (k + 1) (by omega)
          rw [cnt_f (p := (fun w => (vLf v w r).isSome)) h_18] at q
          exact q
        · skip
          refine g_iincN hC dX1_tracesIn_21 rfl (by decide) rfl ?_
          refine g_iincN hC dX1_tracesIn_24 rfl (by decide) rfl ?_
          refine g_goto (tgt := 4) hC dX1_tracesIn_27 (by decide) ?_
          refine g_mask [true, true, true, true] ?_
          have q := ih (k + 1) (by omega)
          rw [cnt_t (p := (fun w => (vLf v w r).isSome)) h_18] at q
          exact q
  refine g_iconst (v := nI (0)) hC dX1_tracesIn_0 (by decide) ?_
  refine g_istore_n hC dX1_tracesIn_1 (by decide) rfl ?_
  refine g_iconst (v := nI (0)) hC dX1_tracesIn_2 (by decide) ?_
  refine g_istore_n hC dX1_tracesIn_3 (by decide) rfl ?_
  exact loop (vN v) 0 (by omega)

set_option maxRecDepth 100000 in
set_option maxHeartbeats 4000000 in
theorem c_X1_allTraces (v : Vw) (rf : Nat) (go : Nat → Nat) {B : Nat} (hv : wf B v) (hB : B ≤ 200) : ConF yX1_allTraces cX1_allTraces 3 (some .int) 2 [aR 0 0 0] [townG v rf go] (some (aI (nI (sumN (traces v) 6)))) [townG v rf go] := by
  refine con_of RX1 pn_X1 rfl rfl (Nat.le_of_ble_eq_true rfl) (fun C hM0 hC => ?_)
  show G C 0 0 0 [aR 0 0 0, aK 9, aK 9] [] [townG v rf go]
  have loop : ∀ d k, k + d = 6 → G C 0 0 4 [aR 0 0 0, aI (nI (sumN (traces v) k)), aI (nI (k))] [] [townG v rf go] := by
    intro d
    induction d with
    | zero =>
      intro k hk
      refine g_iload_n hC dX1_allTraces_4 rfl ?_
      refine g_bipush (v := nI (6)) hC dX1_allTraces_5 (by decide) ?_
      refine g_icmp_geN (tgt := 24) hC dX1_allTraces_7 (by decide) (by omega) (by omega) (fun h_7 => ?_) (fun h_7 => ?_)
      · skip
        refine g_iload_n hC dX1_allTraces_24 rfl ?_
        exact g_iret hC rfl dX1_allTraces_25 (⟨rV (by rw [show k = 6 by omega]), rfl⟩)
      · skip
        omega
    | succ d ih =>
      intro k hk
      refine g_iload_n hC dX1_allTraces_4 rfl ?_
      refine g_bipush (v := nI (6)) hC dX1_allTraces_5 (by decide) ?_
      refine g_icmp_geN (tgt := 24) hC dX1_allTraces_7 (by decide) (by omega) (by omega) (fun h_7 => ?_) (fun h_7 => ?_)
      · skip
        omega
      · skip
        refine g_iload_n hC dX1_allTraces_10 rfl ?_
        refine g_aload_n hC dX1_allTraces_11 rfl rfl ?_
        refine g_iload_n hC dX1_allTraces_12 rfl ?_
        refine gi_X1_100 hC (is := [0]) (st := [aI (nI (sumN (traces v) k))]) (c_X1_tracesIn v rf go hv hB (show k < 6 by omega)) dX1_allTraces_13 rfl ⟨by decide, by decide⟩ ⟨by decide, by decide⟩ rfl (by decide) rfl rfl rfl ?_
        refine g_iaddN hC dX1_allTraces_16 ?_
        refine g_istore_n hC dX1_allTraces_17 (by decide) rfl ?_
        refine g_iincN hC dX1_allTraces_18 rfl (by decide) rfl ?_
        refine g_goto (tgt := 4) hC dX1_allTraces_21 (by decide) ?_
        refine g_mask [true, true, true] ?_
        have q := ih (k + 1) (by omega)
        exact q
  refine g_iconst (v := nI (0)) hC dX1_allTraces_0 (by decide) ?_
  refine g_istore_n hC dX1_allTraces_1 (by decide) rfl ?_
  refine g_iconst (v := nI (0)) hC dX1_allTraces_2 (by decide) ?_
  refine g_istore_n hC dX1_allTraces_3 (by decide) rfl ?_
  exact loop 6 0 (by omega)

set_option maxRecDepth 100000 in
set_option maxHeartbeats 4000000 in
theorem c_X1_plannedGoal (v : Vw) (rf : Nat) (go : Nat → Nat) {B : Nat} (hv : wf B v) (hB : B ≤ 200) {w : Nat} (hw : w < vN v) : ConF yX1_plannedGoal cX1_plannedGoal 5 (some .int) 1 [aR 0 0 0, aI (nI (w))] [townG v rf go] (some (aI (nI (planned v w)))) [townG v rf go] := by
  refine con_of RX1 pn_X1 rfl rfl (Nat.le_of_ble_eq_true rfl) (fun C hM0 hC => ?_)
  show G C 0 0 0 [aR 0 0 0, aI (nI (w)), aK 9, aK 9, aK 9] [] [townG v rf go]
  have hn := wf_n hv
  have hpL := wf_pL hv w hw
  have hpl := wf_pl hv w hw
  have hmi := wf_mi hv
  refine g_aload_n hC dX1_plannedGoal_0 rfl rfl ?_
  refine gf_X1_places hC dX1_plannedGoal_1 rfl rfl ?_
  refine g_iload_n hC dX1_plannedGoal_4 rfl ?_
  refine g_ialdN hC dX1_plannedGoal_5 rfl (by omega) (by decide) ?_
  refine g_istore_n hC dX1_plannedGoal_6 (by decide) rfl ?_
  refine g_aload_n hC dX1_plannedGoal_7 rfl rfl ?_
  refine gf_X1_planLengths hC dX1_plannedGoal_8 rfl rfl ?_
  refine g_iload_n hC dX1_plannedGoal_11 rfl ?_
  refine g_ialdN hC dX1_plannedGoal_12 rfl (by omega) (by decide) ?_
  refine g_istore_n hC dX1_plannedGoal_13 (by decide) rfl ?_
  refine g_iload_n hC dX1_plannedGoal_14 rfl ?_
  refine g_if_neN (tgt := 20) hC dX1_plannedGoal_15 (by decide) (by omega) (fun h_15 => ?_) (fun h_15 => ?_)
  · skip
    have hmod : vMi v % vPL v w < vPL v w := Nat.mod_lt _ (by omega)
    have hpp := wf_pp hv w hw _ hmod
    refine g_aload_n hC dX1_plannedGoal_20 rfl rfl ?_
    refine gf_X1_plans hC dX1_plannedGoal_21 rfl rfl ?_
    refine g_iload_n hC dX1_plannedGoal_24 rfl ?_
    refine g_aaldN hC dX1_plannedGoal_25 rfl (by omega) (by decide) ?_
    refine g_aload_n hC dX1_plannedGoal_26 rfl rfl ?_
    refine gf_X1_minute hC dX1_plannedGoal_27 rfl rfl ?_
    refine g_iload_n hC dX1_plannedGoal_30 rfl ?_
    refine g_iremN hC dX1_plannedGoal_31 (by omega) (by omega) (by omega) ?_
    refine g_iald2N hC dX1_plannedGoal_32 rfl (by omega) (by omega) (by decide) ?_
    refine g_istore hC dX1_plannedGoal_33 (by decide) rfl ?_
    refine g_aload_n hC dX1_plannedGoal_35 rfl rfl ?_
    refine g_iload_n hC dX1_plannedGoal_36 rfl ?_
    refine g_iload hC dX1_plannedGoal_37 rfl ?_
    refine gi_X1_74 hC (is := [0]) (st := []) (c_X1_isPath v rf go hpl hpp (wf_pa hv _ hpl)) dX1_plannedGoal_39 rfl ⟨by decide, by decide⟩ ⟨by decide, by decide⟩ rfl (by decide) rfl rfl rfl ?_
    refine g_if_eqB (tgt := 50) hC dX1_plannedGoal_42 (by decide) (fun h_42 => ?_) (fun h_42 => ?_)
    · skip
      refine g_iload_n hC dX1_plannedGoal_50 rfl ?_
      exact g_iret hC rfl dX1_plannedGoal_51 (⟨rV (by unfold planned; rw [if_neg h_15, h_42]; simp), rfl⟩)
    · skip
      refine g_iload hC dX1_plannedGoal_45 rfl ?_
      refine g_goto (tgt := 51) hC dX1_plannedGoal_47 (by decide) ?_
      exact g_iret hC rfl dX1_plannedGoal_51 (⟨rV (by unfold planned; rw [if_neg h_15, h_42]; simp), rfl⟩)
  · skip
    refine g_iload_n hC dX1_plannedGoal_18 rfl ?_
    exact g_iret hC rfl dX1_plannedGoal_19 ⟨rV (by unfold planned; rw [if_pos h_15]), rfl⟩

set_option maxRecDepth 100000 in
set_option maxHeartbeats 4000000 in
theorem c_X1_smeltGoal (v : Vw) (rf : Nat) (go : Nat → Nat) {B : Nat} (hv : wf B v) (hB : B ≤ 200) {w : Nat} (hw : w < vN v) (g : Bool) : ConF yX1_smeltGoal cX1_smeltGoal 8 (some .int) 2 [aR 0 0 0, aI (nI (w)), aI (bI (g))] [townG v rf go] (some (aI (nI (fol v w g 6).1))) [townG v rf go] := by
  refine con_of RX1 pn_X1 rfl rfl (Nat.le_of_ble_eq_true rfl) (fun C hM0 hC => ?_)
  show G C 0 0 0 [aR 0 0 0, aI (nI (w)), aI (bI (g)), aK 9, aK 9, aK 9, aK 9, aK 9] [] [townG v rf go]
  have hn := wf_n hv
  have hpl := wf_pl hv w hw
  have loop : ∀ d k, k + d = 6 → G C 0 0 22 [aR 0 0 0, aI (nI (w)), aI (bI (g)), aI (nI (vPl v w)), aI (nI ((fol v w g k).1)), aI (oI (-9) ((fol v w g k).2)), aI (nI (k)), aK 9] [] [townG v rf go] := by
    intro d
    induction d with
    | zero =>
      intro k hk
      refine g_iload hC dX1_smeltGoal_22 rfl ?_
      refine g_bipush (v := nI (6)) hC dX1_smeltGoal_24 (by decide) ?_
      refine g_icmp_geN (tgt := 74) hC dX1_smeltGoal_26 (by decide) (by omega) (by omega) (fun h_26 => ?_) (fun h_26 => ?_)
      · skip
        refine g_iload hC dX1_smeltGoal_74 rfl ?_
        exact g_iret hC rfl dX1_smeltGoal_76 (⟨rV (by rw [show k = 6 by omega]), rfl⟩)
      · skip
        omega
    | succ d ih =>
      intro k hk
      refine g_iload hC dX1_smeltGoal_22 rfl ?_
      refine g_bipush (v := nI (6)) hC dX1_smeltGoal_24 (by decide) ?_
      refine g_icmp_geN (tgt := 74) hC dX1_smeltGoal_26 (by decide) (by omega) (by omega) (fun h_26 => ?_) (fun h_26 => ?_)
      · skip
        omega
      · skip
        refine g_aload_n hC dX1_smeltGoal_29 rfl rfl ?_
        refine g_iload_n hC dX1_smeltGoal_30 rfl ?_
        refine g_iload hC dX1_smeltGoal_31 rfl ?_
        refine gi_X1_74 hC (is := [0]) (st := []) (c_X1_isPath v rf go hpl (show k < 6 by omega) (wf_pa hv _ hpl)) dX1_smeltGoal_33 rfl ⟨by decide, by decide⟩ ⟨by decide, by decide⟩ rfl (by decide) rfl rfl rfl ?_
        refine g_if_eqB (tgt := 68) hC dX1_smeltGoal_36 (by decide) (fun h_36 => ?_) (fun h_36 => ?_)
        · skip
          refine g_iincN hC dX1_smeltGoal_68 rfl (by decide) rfl ?_
          refine g_goto (tgt := 22) hC dX1_smeltGoal_71 (by decide) ?_
          refine g_mask [true, true, true, true, true, true, true, false] ?_
          have q := ih (k + 1) (by omega)
          rw [fol_no1 h_36] at q
          exact q
        · skip
          refine g_aload_n hC dX1_smeltGoal_39 rfl rfl ?_
          refine g_iload hC dX1_smeltGoal_40 rfl ?_
          refine g_iload_n hC dX1_smeltGoal_42 rfl ?_
          refine g_iload_n hC dX1_smeltGoal_43 rfl ?_
          refine gi_X1_78 hC (is := [0]) (st := []) (c_X1_ageAmong v rf go hv hB (show k < 6 by omega) (s := w) (as := nI w) (fun k hk => nI_eq (by omega) (by omega)) g) dX1_smeltGoal_44 rfl ⟨by decide, by decide⟩ ⟨by decide, by decide⟩ rfl (by decide) rfl rfl rfl ?_
          refine g_istore hC dX1_smeltGoal_47 (by decide) rfl ?_
          refine g_iload hC dX1_smeltGoal_49 rfl ?_
          refine g_iload hC dX1_smeltGoal_51 rfl ?_
          refine g_iload_n hC dX1_smeltGoal_53 rfl ?_
          refine gi_X1_82 hC (is := []) (st := []) (c_X1_isBeyond (x := ends v k w g (vN v)) (y := (fol v w g k).2) (fun m q => by have := ends_lt hv hB (show k < 6 by omega) _ m q; omega) (fun m q => by have := fol2_lt hv hB hw k (by omega) m q; omega) g) dX1_smeltGoal_54 rfl ⟨by decide, by decide⟩ ⟨by decide, by decide⟩ rfl (by decide) rfl rfl ?_
          refine g_if_eqB (tgt := 68) hC dX1_smeltGoal_57 (by decide) (fun h_57 => ?_) (fun h_57 => ?_)
          · skip
            refine g_iincN hC dX1_smeltGoal_68 rfl (by decide) rfl ?_
            refine g_goto (tgt := 22) hC dX1_smeltGoal_71 (by decide) ?_
            refine g_mask [true, true, true, true, true, true, true, false] ?_
            have q := ih (k + 1) (by omega)
            rw [fol_no2 h_57] at q
            exact q
          · skip
            refine g_iload hC dX1_smeltGoal_60 rfl ?_
            refine g_istore hC dX1_smeltGoal_62 (by decide) rfl ?_
            refine g_iload hC dX1_smeltGoal_64 rfl ?_
            refine g_istore hC dX1_smeltGoal_66 (by decide) rfl ?_
            refine g_iincN hC dX1_smeltGoal_68 rfl (by decide) rfl ?_
            refine g_goto (tgt := 22) hC dX1_smeltGoal_71 (by decide) ?_
            refine g_mask [true, true, true, true, true, true, true, false] ?_
            have q := ih (k + 1) (by omega)
            rw [fol_up h_36 h_57] at q
            exact q
  refine g_aload_n hC dX1_smeltGoal_0 rfl rfl ?_
  refine gf_X1_places hC dX1_smeltGoal_1 rfl rfl ?_
  refine g_iload_n hC dX1_smeltGoal_4 rfl ?_
  refine g_ialdN hC dX1_smeltGoal_5 rfl (by omega) (by decide) ?_
  refine g_istore_n hC dX1_smeltGoal_6 (by decide) rfl ?_
  refine g_iload_n hC dX1_smeltGoal_7 rfl ?_
  refine g_istore hC dX1_smeltGoal_8 (by decide) rfl ?_
  refine g_aload_n hC dX1_smeltGoal_10 rfl rfl ?_
  refine g_iload_n hC dX1_smeltGoal_11 rfl ?_
  refine g_iload_n hC dX1_smeltGoal_12 rfl ?_
  refine g_iload_n hC dX1_smeltGoal_13 rfl ?_
  refine gi_X1_78 hC (is := [0]) (st := []) (c_X1_ageAmong v rf go hv hB hpl (s := w) (as := nI w) (fun k hk => nI_eq (by omega) (by omega)) g) dX1_smeltGoal_14 rfl ⟨by decide, by decide⟩ ⟨by decide, by decide⟩ rfl (by decide) rfl rfl rfl ?_
  refine g_istore hC dX1_smeltGoal_17 (by decide) rfl ?_
  refine g_iconst (v := nI (0)) hC dX1_smeltGoal_19 (by decide) ?_
  refine g_istore hC dX1_smeltGoal_20 (by decide) rfl ?_
  refine g_mask [true, true, true, true, true, true, true, false] ?_
  exact loop 6 0 (by omega)

set_option maxRecDepth 100000 in
set_option maxHeartbeats 4000000 in
theorem c_X1_goalOf (v : Vw) (rf : Nat) (go : Nat → Nat) {B : Nat} (hv : wf B v) (hB : B ≤ 200) {w : Nat} (hw : w < vN v) : ConF yX1_goalOf cX1_goalOf 2 (some .int) 3 [aR 0 0 0, aI (nI (w))] [townG v rf go] (some (aI (nI (goal v w)))) [townG v rf go] := by
  refine con_of RX1 pn_X1 rfl rfl (Nat.le_of_ble_eq_true rfl) (fun C hM0 hC => ?_)
  show G C 0 0 0 [aR 0 0 0, aI (nI (w))] [] [townG v rf go]
  have hn := wf_n hv
  refine g_aload_n hC dX1_goalOf_0 rfl rfl ?_
  refine gf_X1_kinds hC dX1_goalOf_1 rfl rfl ?_
  refine g_iload_n hC dX1_goalOf_4 rfl ?_
  refine g_ialdN hC dX1_goalOf_5 rfl (by omega) (by decide) ?_
  have hki := wf_ki hv w hw
  by_cases h2 : vKi v w = 2
  · rw [h2]
    refine g_lookup (off := 26) (tgt := 32) hC dX1_goalOf_6 (by decide) (by decide) (by decide) ?_
    refine g_aload_n hC dX1_goalOf_32 rfl rfl ?_
    refine g_iload_n hC dX1_goalOf_33 rfl ?_
    refine g_iconst (v := nI (0)) hC dX1_goalOf_34 (by decide) ?_
    refine gi_X1_67 hC (is := [0]) (st := []) (c_X1_smeltGoal v rf go hv hB hw false) dX1_goalOf_35 rfl ⟨by decide, by decide⟩ ⟨by decide, by decide⟩ rfl (by decide) rfl rfl rfl ?_
    exact g_iret hC rfl dX1_goalOf_38 (⟨rV (by unfold goal; rw [if_pos h2]), rfl⟩)
  by_cases h4 : vKi v w = 4
  · rw [h4]
    refine g_lookup (off := 33) (tgt := 39) hC dX1_goalOf_6 (by decide) (by decide) (by decide) ?_
    refine g_aload_n hC dX1_goalOf_39 rfl rfl ?_
    refine g_iload_n hC dX1_goalOf_40 rfl ?_
    refine g_iconst (v := nI (1)) hC dX1_goalOf_41 (by decide) ?_
    refine gi_X1_67 hC (is := [0]) (st := []) (c_X1_smeltGoal v rf go hv hB hw true) dX1_goalOf_42 rfl ⟨by decide, by decide⟩ ⟨by decide, by decide⟩ rfl (by decide) rfl rfl rfl ?_
    exact g_iret hC rfl dX1_goalOf_45 (⟨rV (by unfold goal; rw [if_neg h2, if_pos h4]), rfl⟩)
  refine g_lookup (off := 40) (tgt := 46) hC dX1_goalOf_6 (by decide) (by rw [nI_toInt (by omega)]; simp [Op.lookupswitch.offset, Op.lookupswitch.offset_cons]; omega) (by decide) ?_
  refine g_aload_n hC dX1_goalOf_46 rfl rfl ?_
  refine g_iload_n hC dX1_goalOf_47 rfl ?_
  refine gi_X1_71 hC (is := [0]) (st := []) (c_X1_plannedGoal v rf go hv hB hw) dX1_goalOf_48 rfl ⟨by decide, by decide⟩ ⟨by decide, by decide⟩ rfl (by decide) rfl rfl rfl ?_
  exact g_iret hC rfl dX1_goalOf_51 (⟨rV (by unfold goal; rw [if_neg h2, if_neg h4]), rfl⟩)

set_option maxRecDepth 100000 in
set_option maxHeartbeats 4000000 in
theorem c_X1_leaveTrace (v : Vw) (rf : Nat) (go : Nat → Nat) {w : Nat} (hw : w < 4) (hpl : vPl v w < 6) (hki : vKi v w ≤ 5) : ConF yX1_leaveTrace cX1_leaveTrace 2 none 0 [aR 0 0 0, aI (nI (w))] [townG v rf go] none [townG (leaveV v w) rf go] := by
  refine con_of RX1 pn_X1 rfl rfl (Nat.le_of_ble_eq_true rfl) (fun C hM0 hC => ?_)
  show G C 0 0 0 [aR 0 0 0, aI (nI (w))] [] [townG v rf go]
  refine g_aload_n hC dX1_leaveTrace_0 rfl rfl ?_
  refine gf_X1_kinds hC dX1_leaveTrace_1 rfl rfl ?_
  refine g_iload_n hC dX1_leaveTrace_4 rfl ?_
  refine g_ialdN hC dX1_leaveTrace_5 rfl (by omega) (by decide) ?_
  refine g_iconst (v := nI (5)) hC dX1_leaveTrace_6 (by decide) ?_
  refine g_icmp_eqN (tgt := 27) hC dX1_leaveTrace_7 (by decide) (by omega) (by omega) (fun h_7 => ?_) (fun h_7 => ?_)
  · skip
    exact g_vret hC rfl dX1_leaveTrace_27 (⟨rfl, by unfold leaveV; rw [if_pos h_7]; rfl⟩)
  · skip
    refine g_aload_n hC dX1_leaveTrace_10 rfl rfl ?_
    refine gf_X1_left hC dX1_leaveTrace_11 rfl rfl ?_
    refine g_iload_n hC dX1_leaveTrace_14 rfl ?_
    refine g_aaldN hC dX1_leaveTrace_15 rfl (by omega) (by decide) ?_
    refine g_aload_n hC dX1_leaveTrace_16 rfl rfl ?_
    refine gf_X1_places hC dX1_leaveTrace_17 rfl rfl ?_
    refine g_iload_n hC dX1_leaveTrace_20 rfl ?_
    refine g_ialdN hC dX1_leaveTrace_21 rfl (by omega) (by decide) ?_
    refine g_aload_n hC dX1_leaveTrace_22 rfl rfl ?_
    refine gf_X1_minute hC dX1_leaveTrace_23 rfl rfl ?_
    refine g_iast2O (x := some (vMi v)) hC dX1_leaveTrace_26 rfl (by omega) (by omega) (by decide) rfl ?_
    exact g_vret hC rfl dX1_leaveTrace_27 (⟨rfl, by unfold leaveV; rw [if_neg h_7]; rfl⟩)

set_option maxRecDepth 100000 in
set_option maxHeartbeats 4000000 in
theorem c_X1_arrive (v : Vw) (rf : Nat) (go : Nat → Nat) {w g : Nat} (hw : w < 4) (hg : g < 6) (hpl : vPl v w < 6) (hki : vKi v w ≤ 5) : ConF yX1_arrive cX1_arrive 4 none 1 [aR 0 0 0, aI (nI (w)), aI (nI (g))] [townG v rf go] none [townG (arriveV v w g) rf go] := by
  refine con_of RX1 pn_X1 rfl rfl (Nat.le_of_ble_eq_true rfl) (fun C hM0 hC => ?_)
  show G C 0 0 0 [aR 0 0 0, aI (nI (w)), aI (nI (g)), aK 9] [] [townG v rf go]
  refine g_iload_n hC dX1_arrive_0 rfl ?_
  refine g_aload_n hC dX1_arrive_1 rfl rfl ?_
  refine gf_X1_places hC dX1_arrive_2 rfl rfl ?_
  refine g_iload_n hC dX1_arrive_5 rfl ?_
  refine g_ialdN hC dX1_arrive_6 rfl (by omega) (by decide) ?_
  refine g_icmp_neN (tgt := 14) hC dX1_arrive_7 (by decide) (by omega) (by omega) (fun h_7 => ?_) (fun h_7 => ?_)
  · skip
    refine g_iconst (v := nI (0)) hC dX1_arrive_14 (by decide) ?_
    refine g_istore_n hC dX1_arrive_15 (by decide) rfl ?_
    refine g_aload_n hC dX1_arrive_16 rfl rfl ?_
    refine gf_X1_places hC dX1_arrive_17 rfl rfl ?_
    refine g_iload_n hC dX1_arrive_20 rfl ?_
    refine g_iload_n hC dX1_arrive_21 rfl ?_
    refine g_iastN hC dX1_arrive_22 rfl (by omega) (by decide) ?_
    refine g_iload_n hC dX1_arrive_23 rfl ?_
    refine g_if_neN (tgt := 37) hC dX1_arrive_24 (by decide) (by omega) (fun h_24 => ?_) (fun h_24 => ?_)
    · skip
      omega
    · skip
      refine g_aload_n hC dX1_arrive_27 rfl rfl ?_
      refine gf_X1_kinds hC dX1_arrive_28 rfl rfl ?_
      refine g_iload_n hC dX1_arrive_31 rfl ?_
      refine g_ialdN hC dX1_arrive_32 rfl (by omega) (by decide) ?_
      refine g_iconst (v := nI (1)) hC dX1_arrive_33 (by decide) ?_
      refine g_icmp_eqN (tgt := 42) hC dX1_arrive_34 (by decide) (by omega) (by omega) (fun h_34 => ?_) (fun h_34 => ?_)
      · skip
        exact g_vret hC rfl dX1_arrive_42 (⟨rfl, (congrArg (fun z => [townG z rf go]) (arriveV_eq_n h_34 h_7)).symm⟩)
      · skip
        refine g_aload_n hC dX1_arrive_37 rfl rfl ?_
        refine g_iload_n hC dX1_arrive_38 rfl ?_
        refine gi_X1_63 hC (is := [0]) (st := []) (c_X1_leaveTrace (uPl v (updN (vPl v) w g)) rf go hw (by show updN (vPl v) w g w < 6; unfold updN; rw [if_pos rfl]; exact hg) hki) dX1_arrive_39 rfl ⟨by decide, by decide⟩ ⟨by decide, by decide⟩ rfl (by decide) rfl rfl rfl ?_
        exact g_vret hC rfl dX1_arrive_42 (⟨rfl, by rw [arriveV_eq_y (by first | exact Or.inl (by omega) | exact Or.inr (by omega))]; rfl⟩)
  · skip
    refine g_iconst (v := nI (1)) hC dX1_arrive_10 (by decide) ?_
    refine g_goto (tgt := 15) hC dX1_arrive_11 (by decide) ?_
    refine g_istore_n hC dX1_arrive_15 (by decide) rfl ?_
    refine g_aload_n hC dX1_arrive_16 rfl rfl ?_
    refine gf_X1_places hC dX1_arrive_17 rfl rfl ?_
    refine g_iload_n hC dX1_arrive_20 rfl ?_
    refine g_iload_n hC dX1_arrive_21 rfl ?_
    refine g_iastN hC dX1_arrive_22 rfl (by omega) (by decide) ?_
    refine g_iload_n hC dX1_arrive_23 rfl ?_
    refine g_if_neN (tgt := 37) hC dX1_arrive_24 (by decide) (by omega) (fun h_24 => ?_) (fun h_24 => ?_)
    · skip
      refine g_aload_n hC dX1_arrive_37 rfl rfl ?_
      refine g_iload_n hC dX1_arrive_38 rfl ?_
      refine gi_X1_63 hC (is := [0]) (st := []) (c_X1_leaveTrace (uPl v (updN (vPl v) w g)) rf go hw (by show updN (vPl v) w g w < 6; unfold updN; rw [if_pos rfl]; exact hg) hki) dX1_arrive_39 rfl ⟨by decide, by decide⟩ ⟨by decide, by decide⟩ rfl (by decide) rfl rfl rfl ?_
      exact g_vret hC rfl dX1_arrive_42 (⟨rfl, by rw [arriveV_eq_y (by first | exact Or.inl (by omega) | exact Or.inr (by omega))]; rfl⟩)
    · skip
      omega

set_option maxRecDepth 100000 in
set_option maxHeartbeats 4000000 in
theorem c_X1_goOn (v : Vw) (rf : Nat) (go : Nat → Nat) {B n : Nat} (hv : wf B v) (hB : B + n ≤ 200) : ConF yX1_goOn cX1_goOn 4 none 4 [aR 0 0 0, aI (nI (n))] [townG v rf go] none [townG (goN v n) rf (goG v go n)] := by
  refine con_of RX1 pn_X1 rfl rfl (Nat.le_of_ble_eq_true rfl) (fun C hM0 hC => ?_)
  show G C 0 0 0 [aR 0 0 0, aI (nI (n)), aK 9, aK 9] [] [townG v rf go]
  have hn := wf_n hv
  have loop : ∀ d k, k + d = n → G C 0 0 2 [aR 0 0 0, aI (nI (n)), aI (nI (k)), aK 9] [] [townG (goN v k) rf (goG v go k)] := by
    intro d
    induction d with
    | zero =>
      intro k hk
      refine g_iload_n hC dX1_goOn_2 rfl ?_
      refine g_iload_n hC dX1_goOn_3 rfl ?_
      refine g_icmp_geN (tgt := 77) hC dX1_goOn_4 (by decide) (by omega) (by omega) (fun h_4 => ?_) (fun h_4 => ?_)
      · skip
        exact g_vret hC rfl dX1_goOn_77 (⟨rfl, by rw [show k = n by omega]⟩)
      · skip
        omega
    | succ d ih =>
      intro k hk
      have hvk := wf_goN hv k
      have hnk : vN (goN v k) = vN v := goN_n k
      have hmk : vMi (goN v k) = vMi v + k := goN_mi k
      have hmi := wf_mi hvk
      have loop3 : ∀ d i, i + d = vN (goN v k) → G C 0 0 46 [aR 0 0 0, aI (nI (n)), aI (nI (k)), aI (nI (i))] [] [townG (arr (goN v k) (goal (goN v k)) i) rf (gk (goG v go k) (goN v k) (vN (goN v k)))] := by
        intro d2
        induction d2 with
        | zero =>
          intro i hi
          refine g_iload_n hC dX1_goOn_46 rfl ?_
          refine g_aload_n hC dX1_goOn_47 rfl rfl ?_
          refine gf_X1_walkers hC dX1_goOn_48 rfl rfl ?_
          refine g_icmp_geN (tgt := 71) hC dX1_goOn_51 (by decide) (by omega) (by show vN (goN v k) < 2 ^ 31; omega) (fun h_51 => ?_) (fun h_51 => ?_)
          · skip
            have h_51 : vN (goN v k) ≤ i := h_51
            refine g_iincN hC dX1_goOn_71 rfl (by decide) rfl ?_
            refine g_goto (tgt := 2) hC dX1_goOn_74 (by decide) ?_
            refine g_mask [true, true, true, false] ?_
            have q := ih (k + 1) (by omega)
            have e1 : goN v (k + 1) = arr (goN v k) (goal (goN v k)) (vN (goN v k)) := rfl
            have e2 : goG v go (k + 1) = gk (goG v go k) (goN v k) (vN (goN v k)) := rfl
            rw [e1, e2] at q
            obtain rfl : i = vN (goN v k) := by omega
            exact q
          · skip
            have h_51 : i < vN (goN v k) := h_51; omega
        | succ d2 ih2 =>
          intro i hi
          have hgi : gk (goG v go k) (goN v k) (vN (goN v k)) i = goal (goN v k) i := by unfold gk; rw [if_pos (by omega)]
          have hgl := goal_lt (w := i) hvk (by omega)
          have hpi : vPl (arr (goN v k) (goal (goN v k)) i) i = vPl (goN v k) i := by show (if i < i then _ else vPl (goN v k) i) = _; simp
          refine g_iload_n hC dX1_goOn_46 rfl ?_
          refine g_aload_n hC dX1_goOn_47 rfl rfl ?_
          refine gf_X1_walkers hC dX1_goOn_48 rfl rfl ?_
          refine g_icmp_geN (tgt := 71) hC dX1_goOn_51 (by decide) (by omega) (by show vN (goN v k) < 2 ^ 31; omega) (fun h_51 => ?_) (fun h_51 => ?_)
          · skip
            have h_51 : vN (goN v k) ≤ i := h_51; omega
          · skip
            refine g_aload_n hC dX1_goOn_54 rfl rfl ?_
            refine g_iload_n hC dX1_goOn_55 rfl ?_
            refine g_aload_n hC dX1_goOn_56 rfl rfl ?_
            refine gf_X1_goals hC dX1_goOn_57 rfl rfl ?_
            refine g_iload_n hC dX1_goOn_60 rfl ?_
            refine g_iald (v := nI (goal (goN v k) i)) hC dX1_goOn_61 rfl rfl (by omega) (by decide) (by show nI (gk (goG v go k) (goN v k) (vN (goN v k)) i) = _; rw [hgi]) ?_
            refine gi_X1_89 hC (is := [0]) (st := []) (c_X1_arrive (arr (goN v k) (goal (goN v k)) i) rf (gk (goG v go k) (goN v k) (vN (goN v k))) (show i < 4 by omega) hgl (by rw [hpi]; exact wf_pl hvk i (by omega)) (wf_ki hvk i (by omega))) dX1_goOn_62 rfl ⟨by decide, by decide⟩ ⟨by decide, by decide⟩ rfl (by decide) rfl rfl rfl ?_
            refine g_iincN hC dX1_goOn_65 rfl (by decide) rfl ?_
            refine g_goto (tgt := 46) hC dX1_goOn_68 (by decide) ?_
            have q := ih2 (i + 1) (by omega)
            rw [← arv_succ] at q
            exact q
      have loop2 : ∀ d i, i + d = vN (goN v k) → G C 0 0 9 [aR 0 0 0, aI (nI (n)), aI (nI (k)), aI (nI (i))] [] [townG (goN v k) rf (gk (goG v go k) (goN v k) i)] := by
        intro d2
        induction d2 with
        | zero =>
          intro i hi
          refine g_iload_n hC dX1_goOn_9 rfl ?_
          refine g_aload_n hC dX1_goOn_10 rfl rfl ?_
          refine gf_X1_walkers hC dX1_goOn_11 rfl rfl ?_
          refine g_icmp_geN (tgt := 34) hC dX1_goOn_14 (by decide) (by omega) (by omega) (fun h_14 => ?_) (fun h_14 => ?_)
          · skip
            refine g_aload_n hC dX1_goOn_34 rfl rfl ?_
            refine g_dup hC dX1_goOn_35 rfl ?_
            refine gf_X1_minute hC dX1_goOn_36 rfl rfl ?_
            refine g_iconst (v := nI (1)) hC dX1_goOn_39 (by decide) ?_
            refine g_iaddN hC dX1_goOn_40 ?_
            refine gp_X1_minute hC dX1_goOn_41 rfl rfl ?_
            refine g_iconst (v := nI (0)) hC dX1_goOn_44 (by decide) ?_
            refine g_istore_n hC dX1_goOn_45 (by decide) rfl ?_
            have q := loop3 (vN (goN v k)) 0 (by omega)
            rw [arv_zero] at q
            rw [show i = vN (goN v k) by omega]
            exact q
          · skip
            omega
        | succ d2 ih2 =>
          intro i hi
          refine g_iload_n hC dX1_goOn_9 rfl ?_
          refine g_aload_n hC dX1_goOn_10 rfl rfl ?_
          refine gf_X1_walkers hC dX1_goOn_11 rfl rfl ?_
          refine g_icmp_geN (tgt := 34) hC dX1_goOn_14 (by decide) (by omega) (by omega) (fun h_14 => ?_) (fun h_14 => ?_)
          · skip
            omega
          · skip
            refine g_aload_n hC dX1_goOn_17 rfl rfl ?_
            refine gf_X1_goals hC dX1_goOn_18 rfl rfl ?_
            refine g_iload_n hC dX1_goOn_21 rfl ?_
            refine g_aload_n hC dX1_goOn_22 rfl rfl ?_
            refine g_iload_n hC dX1_goOn_23 rfl ?_
            refine gi_X1_86 hC (is := [0]) (st := [aI (nI (i)), aR 0 5 0]) (c_X1_goalOf (goN v k) rf (gk (goG v go k) (goN v k) i) hvk (by omega) (show i < vN (goN v k) by omega)) dX1_goOn_24 rfl ⟨by decide, by decide⟩ ⟨by decide, by decide⟩ rfl (by decide) rfl rfl rfl ?_
            refine g_iastN hC dX1_goOn_27 rfl (by omega) (by decide) ?_
            refine g_iincN hC dX1_goOn_28 rfl (by decide) rfl ?_
            refine g_goto (tgt := 9) hC dX1_goOn_31 (by decide) ?_
            have q := ih2 (i + 1) (by omega)
            rw [gk_succ] at q
            exact q
      refine g_iload_n hC dX1_goOn_2 rfl ?_
      refine g_iload_n hC dX1_goOn_3 rfl ?_
      refine g_icmp_geN (tgt := 77) hC dX1_goOn_4 (by decide) (by omega) (by omega) (fun h_4 => ?_) (fun h_4 => ?_)
      · skip
        omega
      · skip
        refine g_iconst (v := nI (0)) hC dX1_goOn_7 (by decide) ?_
        refine g_istore_n hC dX1_goOn_8 (by decide) rfl ?_
        have q := loop2 (vN (goN v k)) 0 (by omega)
        rw [gk_zero] at q
        exact q
  refine g_iconst (v := nI (0)) hC dX1_goOn_0 (by decide) ?_
  refine g_istore_n hC dX1_goOn_1 (by decide) rfl ?_
  exact loop n 0 (by omega)
