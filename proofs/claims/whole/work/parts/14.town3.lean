theorem forget_zero (v : Vw) (r : Nat) : forgetV v r 0 = v := by
  have : (fun a b => if a < 0 ∧ b = r then none else vLf v a b) = vLf v := by funext a b; simp
  unfold forgetV
  rw [this]
  rfl
theorem forget_succ (v : Vw) (r k : Nat) : forgetV v r (k + 1) = uLf (forgetV v r k) (upd2N (vLf (forgetV v r k)) k r none) := by
  have : (fun a b => if a < k + 1 ∧ b = r then none else vLf v a b) = upd2N (vLf (forgetV v r k)) k r none := by
    funext a b
    show _ = if a = k ∧ b = r then none else if a < k ∧ b = r then none else vLf v a b
    by_cases h1 : b = r
    · by_cases h2 : a = k
      · simp [h1, h2]
      · by_cases h3 : a < k
        · simp [h1, h3, Nat.lt_succ_of_lt h3]
        · have : ¬ a < k + 1 := by omega
          simp [h1, h2, h3, this]
    · simp [h1]
  show uLf v _ = _
  rw [this]
  rfl
theorem rain_zero (v : Vw) (p : Nat → Bool) : rainV v p 0 = v := by
  have : (fun a b => if (decide (a < vN v) && decide (b < 0) && !p b) = true then none else vLf v a b) = vLf v := by funext a b; simp
  unfold rainV
  rw [this]
  rfl
theorem rain_roof {v : Vw} {p : Nat → Bool} {k : Nat} (h : p k = true) : rainV v p (k + 1) = rainV v p k := by
  have : (fun a b => if (decide (a < vN v) && decide (b < k + 1) && !p b) = true then none else vLf v a b) = (fun a b => if (decide (a < vN v) && decide (b < k) && !p b) = true then none else vLf v a b) := by
    funext a b
    by_cases h1 : b = k
    · subst h1; simp [h]
    · have : decide (b < k + 1) = decide (b < k) := by simp; omega
      rw [this]
  show uLf v _ = uLf v _
  rw [this]
theorem rain_open {v : Vw} {p : Nat → Bool} {k : Nat} (h : p k = false) : rainV v p (k + 1) = forgetV (rainV v p k) k (vN v) := by
  have : (fun a b => if (decide (a < vN v) && decide (b < k + 1) && !p b) = true then none else vLf v a b) = (fun a b => if a < vN v ∧ b = k then none else vLf (rainV v p k) a b) := by
    funext a b
    show _ = if a < vN v ∧ b = k then none else if (decide (a < vN v) && decide (b < k) && !p b) = true then none else vLf v a b
    by_cases h1 : b = k
    · subst h1
      by_cases h2 : a < vN v
      · simp [h2, h]
      · simp [h2]
    · have : decide (b < k + 1) = decide (b < k) := by simp; omega
      rw [this]
      simp [h1]
  show uLf v _ = _
  rw [this]
  rfl
theorem rainC_roof {v : Vw} {p : Nat → Bool} {k : Nat} (h : p k = true) : rainC v p (k + 1) = rainC v p k := by
  show rainC v p k + (if p k then 0 else traces v k) = _
  rw [h]
  rfl
theorem rainC_open {v : Vw} {p : Nat → Bool} {k : Nat} (h : p k = false) : rainC v p (k + 1) = rainC v p k + traces v k := by
  show rainC v p k + (if p k then 0 else traces v k) = _
  rw [h]
  rfl
theorem traces_rain (v : Vw) (p : Nat → Bool) (k : Nat) : traces (rainV v p k) k = traces v k := by
  refine cnt_congr _ (fun w _ => ?_)
  show (if (decide (w < vN v) && decide (k < k) && !p k) = true then none else vLf v w k).isSome = _
  simp
theorem wf_rain {B : Nat} {v : Vw} (h : wf B v) (p : Nat → Bool) (k : Nat) : wf B (rainV v p k) := by
  refine ⟨wf_n (v := v) h, wf_mi (v := v) h, wf_no (v := v) h, wf_wi (v := v) h, wf_pa (v := v) h, wf_sym (v := v) h, wf_irr (v := v) h, wf_ki (v := v) h, wf_pl (v := v) h, wf_pL (v := v) h, fun w hw j hj => wf_pp (v := v) h w hw j hj, fun w hw r hr m hm => ?_⟩
  have hm : (if (decide (w < vN v) && decide (r < k) && !p r) = true then none else vLf v w r) = some m := hm
  split at hm
  · cases hm
  · exact wf_lf (v := v) h w hw r hr m hm
theorem clrR_zero (f : Nat → Nat → Option Nat) (w : Nat) : clrR f w 0 = f := by funext a b; simp [clrR]
theorem clrR_succ (f : Nat → Nat → Option Nat) (w k : Nat) : clrR f w (k + 1) = upd2N (clrR f w k) w k none := by
  funext a b
  show (if a = w ∧ b < k + 1 then none else f a b) = if a = w ∧ b = k then none else if a = w ∧ b < k then none else f a b
  by_cases h1 : a = w
  · by_cases h2 : b = k
    · simp [h1, h2]
    · by_cases h3 : b < k
      · simp [h1, h3, Nat.lt_succ_of_lt h3]
      · have : ¬ b < k + 1 := by omega
        simp [h1, h2, h3, this]
  · simp [h1]
set_option maxRecDepth 100000 in
set_option maxHeartbeats 4000000 in
theorem c_X1_forgetTraces (v : Vw) (rf : Nat) (go : Nat → Nat) {B : Nat} (hv : wf B v) (hB : B ≤ 200) {r : Nat} (hr : r < 6) : ConF yX1_forgetTraces cX1_forgetTraces 3 none 0 [aR 0 0 0, aI (nI (r))] [townG v rf go] none [townG (forgetV v r (vN v)) rf go] := by
  refine con_of RX1 pn_X1 rfl rfl (Nat.le_of_ble_eq_true rfl) (fun C hM0 hC => ?_)
  show G C 0 0 0 [aR 0 0 0, aI (nI (r)), aK 9] [] [townG v rf go]
  have hn := wf_n hv
  have loop : ∀ d k, k + d = vN v → G C 0 0 2 [aR 0 0 0, aI (nI (r)), aI (nI (k))] [] [townG (forgetV v r k) rf go] := by
    intro d
    induction d with
    | zero =>
      intro k hk
      have hfn : vN (forgetV v r k) = vN v := rfl
      refine g_iload_n hC dX1_forgetTraces_2 rfl ?_
      refine g_aload_n hC dX1_forgetTraces_3 rfl rfl ?_
      refine gf_X1_walkers hC dX1_forgetTraces_4 rfl rfl ?_
      refine g_icmp_geN (tgt := 25) hC dX1_forgetTraces_7 (by decide) (by omega) (by omega) (fun h_7 => ?_) (fun h_7 => ?_)
      · skip
        exact g_vret hC rfl dX1_forgetTraces_25 (⟨rfl, by rw [show k = vN v by omega]⟩)
      · skip
        omega
    | succ d ih =>
      intro k hk
      have hfn : vN (forgetV v r k) = vN v := rfl
      refine g_iload_n hC dX1_forgetTraces_2 rfl ?_
      refine g_aload_n hC dX1_forgetTraces_3 rfl rfl ?_
      refine gf_X1_walkers hC dX1_forgetTraces_4 rfl rfl ?_
      refine g_icmp_geN (tgt := 25) hC dX1_forgetTraces_7 (by decide) (by omega) (by omega) (fun h_7 => ?_) (fun h_7 => ?_)
      · skip
        omega
      · skip
        refine g_aload_n hC dX1_forgetTraces_10 rfl rfl ?_
        refine gf_X1_left hC dX1_forgetTraces_11 rfl rfl ?_
        refine g_iload_n hC dX1_forgetTraces_14 rfl ?_
        refine g_aaldN hC dX1_forgetTraces_15 rfl (by omega) (by decide) ?_
        refine g_iload_n hC dX1_forgetTraces_16 rfl ?_
        refine g_iconst (v := (-1)) hC dX1_forgetTraces_17 (by decide) ?_
        refine g_iast2O (x := none) hC dX1_forgetTraces_18 rfl (by omega) (by omega) (by decide) rfl ?_
        refine g_iincN hC dX1_forgetTraces_19 rfl (by decide) rfl ?_
        refine g_goto (tgt := 2) hC dX1_forgetTraces_22 (by decide) ?_
        refine g_mask [true, true, true] ?_
        have q := ih (k + 1) (by omega)
        rw [forget_succ] at q
        exact q
  refine g_iconst (v := nI (0)) hC dX1_forgetTraces_0 (by decide) ?_
  refine g_istore_n hC dX1_forgetTraces_1 (by decide) rfl ?_
  have q := loop (vN v) 0 (by omega)
  rw [forget_zero] at q
  exact q

set_option maxRecDepth 100000 in
set_option maxHeartbeats 4000000 in
theorem c_X1_washOut (v : Vw) (rf : Nat) (go : Nat → Nat) {B : Nat} (hv : wf B v) (hB : B ≤ 200) (hrf : rf < 64) : ConF yX1_washOut cX1_washOut 3 (some .int) 2 [aR 0 0 0] [townG v rf go] (some (aI (nI (rainC v (fun r => rf.testBit r) 6)))) [townG (rainV v (fun r => rf.testBit r) 6) rf go] := by
  refine con_of RX1 pn_X1 rfl rfl (Nat.le_of_ble_eq_true rfl) (fun C hM0 hC => ?_)
  show G C 0 0 0 [aR 0 0 0, aK 9, aK 9] [] [townG v rf go]
  have loop : ∀ d k, k + d = 6 → G C 0 0 4 [aR 0 0 0, aI (nI (rainC v (fun r => rf.testBit r) k)), aI (nI (k))] [] [townG (rainV v (fun r => rf.testBit r) k) rf go] := by
    intro d
    induction d with
    | zero =>
      intro k hk
      refine g_iload_n hC dX1_washOut_4 rfl ?_
      refine g_bipush (v := nI (6)) hC dX1_washOut_5 (by decide) ?_
      refine g_icmp_geN (tgt := 37) hC dX1_washOut_7 (by decide) (by omega) (by omega) (fun h_7 => ?_) (fun h_7 => ?_)
      · skip
        refine g_iload_n hC dX1_washOut_37 rfl ?_
        exact g_iret hC rfl dX1_washOut_38 (⟨rV (by rw [show k = 6 by omega]), by rw [show k = 6 by omega]⟩)
      · skip
        omega
    | succ d ih =>
      intro k hk
      refine g_iload_n hC dX1_washOut_4 rfl ?_
      refine g_bipush (v := nI (6)) hC dX1_washOut_5 (by decide) ?_
      refine g_icmp_geN (tgt := 37) hC dX1_washOut_7 (by decide) (by omega) (by omega) (fun h_7 => ?_) (fun h_7 => ?_)
      · skip
        omega
      · skip
        refine g_aload_n hC dX1_washOut_10 rfl rfl ?_
        refine g_iload_n hC dX1_washOut_11 rfl ?_
        refine gi_X1_96 hC (is := [0]) (st := []) (c_X1_hasRoof (rainV v (fun r => rf.testBit r) k) rf go hrf (show k < 6 by omega)) dX1_washOut_12 rfl ⟨by decide, by decide⟩ ⟨by decide, by decide⟩ rfl (by decide) rfl rfl rfl ?_
        refine g_if_neB (tgt := 31) hC dX1_washOut_15 (by decide) (fun h_15 => ?_) (fun h_15 => ?_)
        · skip
          refine g_iincN hC dX1_washOut_31 rfl (by decide) rfl ?_
          refine g_goto (tgt := 4) hC dX1_washOut_34 (by decide) ?_
          refine g_mask [true, true, true] ?_
          have q := ih (k + 1) (by omega)
          rw [rain_roof (p := fun r => rf.testBit r) h_15, rainC_roof (p := fun r => rf.testBit r) h_15] at q
          exact q
        · skip
          refine g_iload_n hC dX1_washOut_18 rfl ?_
          refine g_aload_n hC dX1_washOut_19 rfl rfl ?_
          refine g_iload_n hC dX1_washOut_20 rfl ?_
          refine gi_X1_100 hC (is := [0]) (st := [aI (nI (rainC v (fun r => rf.testBit r) k))]) (c_X1_tracesIn (rainV v (fun r => rf.testBit r) k) rf go (wf_rain hv _ k) hB (show k < 6 by omega)) dX1_washOut_21 rfl ⟨by decide, by decide⟩ ⟨by decide, by decide⟩ rfl (by decide) rfl rfl rfl ?_
          refine g_iaddN hC dX1_washOut_24 ?_
          refine g_istore_n hC dX1_washOut_25 (by decide) rfl ?_
          refine g_aload_n hC dX1_washOut_26 rfl rfl ?_
          refine g_iload_n hC dX1_washOut_27 rfl ?_
          refine gi_X1_103 hC (is := [0]) (st := []) (c_X1_forgetTraces (rainV v (fun r => rf.testBit r) k) rf go (wf_rain hv _ k) hB (show k < 6 by omega)) dX1_washOut_28 rfl ⟨by decide, by decide⟩ ⟨by decide, by decide⟩ rfl (by decide) rfl rfl rfl ?_
          refine g_iincN hC dX1_washOut_31 rfl (by decide) rfl ?_
          refine g_goto (tgt := 4) hC dX1_washOut_34 (by decide) ?_
          refine g_mask [true, true, true] ?_
          have q := ih (k + 1) (by omega)
          rw [rain_open (p := fun r => rf.testBit r) h_15, rainC_open (p := fun r => rf.testBit r) h_15, ← traces_rain v (fun r => rf.testBit r) k] at q
          exact q
  refine g_iconst (v := nI (0)) hC dX1_washOut_0 (by decide) ?_
  refine g_istore_n hC dX1_washOut_1 (by decide) rfl ?_
  refine g_iconst (v := nI (0)) hC dX1_washOut_2 (by decide) ?_
  refine g_istore_n hC dX1_washOut_3 (by decide) rfl ?_
  have q := loop 6 0 (by omega)
  rw [rain_zero] at q
  exact q

set_option maxRecDepth 100000 in
set_option maxHeartbeats 4000000 in
theorem c_X1_within (v : Vw) (rf : Nat) (go : Nat → Nat) {B : Nat} (hv : wf B v) (hB : B ≤ 200) {m : Nat} (hm : m < 64) : ConF yX1_within cX1_within 4 (some .int) 0 [aR 0 0 0, aI (nI (m))] [townG v rf go] (some (aI (nI (withinN v m 6)))) [townG v rf go] := by
  refine con_of RX1 pn_X1 rfl rfl (Nat.le_of_ble_eq_true rfl) (fun C hM0 hC => ?_)
  show G C 0 0 0 [aR 0 0 0, aI (nI (m)), aK 9, aK 9] [] [townG v rf go]
  have loop : ∀ d k, k + d = 6 → G C 0 0 4 [aR 0 0 0, aI (nI (m)), aI (nI (withinN v m k)), aI (nI (k))] [] [townG v rf go] := by
    intro d
    induction d with
    | zero =>
      intro k hk
      refine g_iload_n hC dX1_within_4 rfl ?_
      refine g_bipush (v := nI (6)) hC dX1_within_5 (by decide) ?_
      refine g_icmp_geN (tgt := 34) hC dX1_within_7 (by decide) (by omega) (by omega) (fun h_7 => ?_) (fun h_7 => ?_)
      · skip
        refine g_iload_n hC dX1_within_34 rfl ?_
        exact g_iret hC rfl dX1_within_35 (⟨rV (by rw [show k = 6 by omega]), rfl⟩)
      · skip
        omega
    | succ d ih =>
      intro k hk
      refine g_iload_n hC dX1_within_4 rfl ?_
      refine g_bipush (v := nI (6)) hC dX1_within_5 (by decide) ?_
      refine g_icmp_geN (tgt := 34) hC dX1_within_7 (by decide) (by omega) (by omega) (fun h_7 => ?_) (fun h_7 => ?_)
      · skip
        omega
      · skip
        refine g_iload_n hC dX1_within_10 rfl ?_
        refine g_iload_n hC dX1_within_11 rfl ?_
        refine g_ishr hC dX1_within_12 rfl ?_
        refine g_iconst (v := nI (1)) hC dX1_within_13 (by decide) ?_
        refine g_iand (v := nI ((m.testBit k).toNat)) hC dX1_within_14 (shr_bit _ hm _ (by omega)) ?_
        refine g_iconst (v := nI (1)) hC dX1_within_15 (by decide) ?_
        refine g_icmp_neN (tgt := 28) hC dX1_within_16 (by decide) (bt_lt _) (by omega) (fun h_16 => ?_) (fun h_16 => ?_)
        · skip
          refine g_iincN hC dX1_within_28 rfl (by decide) rfl ?_
          refine g_goto (tgt := 4) hC dX1_within_31 (by decide) ?_
          refine g_mask [true, true, true, true] ?_
          have q := ih (k + 1) (by omega)
          rw [within_f (b0 h_16)] at q
          exact q
        · skip
          refine g_iload_n hC dX1_within_19 rfl ?_
          refine g_aload_n hC dX1_within_20 rfl rfl ?_
          refine gf_X1_paths hC dX1_within_21 rfl rfl ?_
          refine g_iload_n hC dX1_within_24 rfl ?_
          refine g_ialdN hC dX1_within_25 rfl (by omega) (by decide) ?_
          refine g_ior (v := nI (withinN v m k ||| vPa v k)) hC dX1_within_26 (or_mask _ (within_lt hv hm k (by omega)) _ (wf_pa hv k (by omega))) ?_
          refine g_istore_n hC dX1_within_27 (by decide) rfl ?_
          refine g_iincN hC dX1_within_28 rfl (by decide) rfl ?_
          refine g_goto (tgt := 4) hC dX1_within_31 (by decide) ?_
          refine g_mask [true, true, true, true] ?_
          have q := ih (k + 1) (by omega)
          rw [within_t (b1 h_16)] at q
          exact q
  refine g_iload_n hC dX1_within_0 rfl ?_
  refine g_istore_n hC dX1_within_1 (by decide) rfl ?_
  refine g_iconst (v := nI (0)) hC dX1_within_2 (by decide) ?_
  refine g_istore_n hC dX1_within_3 (by decide) rfl ?_
  refine g_mask [true, true, true, true] ?_
  exact loop 6 0 (by omega)

set_option maxRecDepth 100000 in
set_option maxHeartbeats 4000000 in
theorem c_X1_emptyRooms (v : Vw) (rf : Nat) (go : Nat → Nat) {B : Nat} (hv : wf B v) (hB : B ≤ 200) : ConF yX1_emptyRooms cX1_emptyRooms 3 (some .int) 0 [aR 0 0 0] [townG v rf go] (some (aI (nI (emptyM v (vN v))))) [townG v rf go] := by
  refine con_of RX1 pn_X1 rfl rfl (Nat.le_of_ble_eq_true rfl) (fun C hM0 hC => ?_)
  show G C 0 0 0 [aR 0 0 0, aK 9, aK 9] [] [townG v rf go]
  have hn := wf_n hv
  have loop : ∀ d k, k + d = vN v → G C 0 0 5 [aR 0 0 0, aI (nI (emptyM v k)), aI (nI (k))] [] [townG v rf go] := by
    intro d
    induction d with
    | zero =>
      intro k hk
      refine g_iload_n hC dX1_emptyRooms_5 rfl ?_
      refine g_aload_n hC dX1_emptyRooms_6 rfl rfl ?_
      refine gf_X1_walkers hC dX1_emptyRooms_7 rfl rfl ?_
      refine g_icmp_geN (tgt := 32) hC dX1_emptyRooms_10 (by decide) (by omega) (by omega) (fun h_10 => ?_) (fun h_10 => ?_)
      · skip
        refine g_iload_n hC dX1_emptyRooms_32 rfl ?_
        exact g_iret hC rfl dX1_emptyRooms_33 (⟨rV (by rw [show k = vN v by omega]), rfl⟩)
      · skip
        omega
    | succ d ih =>
      intro k hk
      refine g_iload_n hC dX1_emptyRooms_5 rfl ?_
      refine g_aload_n hC dX1_emptyRooms_6 rfl rfl ?_
      refine gf_X1_walkers hC dX1_emptyRooms_7 rfl rfl ?_
      refine g_icmp_geN (tgt := 32) hC dX1_emptyRooms_10 (by decide) (by omega) (by omega) (fun h_10 => ?_) (fun h_10 => ?_)
      · skip
        omega
      · skip
        refine g_iload_n hC dX1_emptyRooms_13 rfl ?_
        refine g_iconst (v := nI (1)) hC dX1_emptyRooms_14 (by decide) ?_
        refine g_aload_n hC dX1_emptyRooms_15 rfl rfl ?_
        refine gf_X1_places hC dX1_emptyRooms_16 rfl rfl ?_
        refine g_iload_n hC dX1_emptyRooms_19 rfl ?_
        refine g_ialdN hC dX1_emptyRooms_20 rfl (by omega) (by decide) ?_
        refine g_ishl hC dX1_emptyRooms_21 rfl ?_
        refine g_iconst (v := (-1)) hC dX1_emptyRooms_22 (by decide) ?_
        refine g_ixor hC dX1_emptyRooms_23 rfl ?_
        refine g_iand (v := nI (emptyM v k &&& (63 ^^^ (1 <<< vPl v k)))) hC dX1_emptyRooms_24 (cl_bit _ (emptyM_lt hv k (by omega)) _ (wf_pl hv k (by omega))) ?_
        refine g_istore_n hC dX1_emptyRooms_25 (by decide) rfl ?_
        refine g_iincN hC dX1_emptyRooms_26 rfl (by decide) rfl ?_
        refine g_goto (tgt := 5) hC dX1_emptyRooms_29 (by decide) ?_
        refine g_mask [true, true, true] ?_
        have q := ih (k + 1) (by omega)
        exact q
  refine g_bipush (v := nI (63)) hC dX1_emptyRooms_0 (by decide) ?_
  refine g_istore_n hC dX1_emptyRooms_2 (by decide) rfl ?_
  refine g_iconst (v := nI (0)) hC dX1_emptyRooms_3 (by decide) ?_
  refine g_istore_n hC dX1_emptyRooms_4 (by decide) rfl ?_
  refine g_mask [true, true, true] ?_
  exact loop (vN v) 0 (by omega)

set_option maxRecDepth 100000 in
set_option maxHeartbeats 4000000 in
theorem c_X1_roomsWithTraceUpTo (v : Vw) (rf : Nat) (go : Nat → Nat) {B : Nat} (hv : wf B v) (hB : B ≤ 200) {most : Nat} (hmo : most < 2000) : ConF yX1_roomsWithTraceUpTo cX1_roomsWithTraceUpTo 5 (some .int) 3 [aR 0 0 0, aI (nI (most))] [townG v rf go] (some (aI (nI (maskOf (upTo3 v most) 6)))) [townG v rf go] := by
  refine con_of RX1 pn_X1 rfl rfl (Nat.le_of_ble_eq_true rfl) (fun C hM0 hC => ?_)
  show G C 0 0 0 [aR 0 0 0, aI (nI (most)), aK 9, aK 9, aK 9] [] [townG v rf go]
  have loop : ∀ d k, k + d = 6 → G C 0 0 4 [aR 0 0 0, aI (nI (most)), aI (nI (maskOf (upTo3 v most) k)), aI (nI (k)), aK 9] [] [townG v rf go] := by
    intro d
    induction d with
    | zero =>
      intro k hk
      refine g_iload_n hC dX1_roomsWithTraceUpTo_4 rfl ?_
      refine g_bipush (v := nI (6)) hC dX1_roomsWithTraceUpTo_5 (by decide) ?_
      refine g_icmp_geN (tgt := 42) hC dX1_roomsWithTraceUpTo_7 (by decide) (by omega) (by omega) (fun h_7 => ?_) (fun h_7 => ?_)
      · skip
        refine g_iload_n hC dX1_roomsWithTraceUpTo_42 rfl ?_
        exact g_iret hC rfl dX1_roomsWithTraceUpTo_43 (⟨rV (by rw [show k = 6 by omega]), rfl⟩)
      · skip
        omega
    | succ d ih =>
      intro k hk
      refine g_iload_n hC dX1_roomsWithTraceUpTo_4 rfl ?_
      refine g_bipush (v := nI (6)) hC dX1_roomsWithTraceUpTo_5 (by decide) ?_
      refine g_icmp_geN (tgt := 42) hC dX1_roomsWithTraceUpTo_7 (by decide) (by omega) (by omega) (fun h_7 => ?_) (fun h_7 => ?_)
      · skip
        omega
      · skip
        refine g_aload_n hC dX1_roomsWithTraceUpTo_10 rfl rfl ?_
        refine g_iload_n hC dX1_roomsWithTraceUpTo_11 rfl ?_
        refine gi_X1_119 hC (is := [0]) (st := []) (c_X1_leastAge v rf go hv hB (show k < 6 by omega)) dX1_roomsWithTraceUpTo_12 rfl ⟨by decide, by decide⟩ ⟨by decide, by decide⟩ rfl (by decide) rfl rfl rfl ?_
        refine g_istore hC dX1_roomsWithTraceUpTo_15 (by decide) rfl ?_
        refine g_iload hC dX1_roomsWithTraceUpTo_17 rfl ?_
        refine g_bipush (v := (-9)) hC dX1_roomsWithTraceUpTo_19 (by decide) ?_
        refine g_icmp_eqO (tgt := 36) hC dX1_roomsWithTraceUpTo_21 (by decide) (by decide) (fun m q => by have := ends_lt hv hB (show k < 6 by omega) _ m q; omega) (fun h_21 => ?_) (fun a h_21 => ?_)
        · skip
          refine g_iincN hC dX1_roomsWithTraceUpTo_36 rfl (by decide) rfl ?_
          refine g_goto (tgt := 4) hC dX1_roomsWithTraceUpTo_39 (by decide) ?_
          refine g_mask [true, true, true, true, false] ?_
          have q := ih (k + 1) (by omega)
          rw [maskOf_f (p := upTo3 v most) (by unfold upTo3; rw [h_21])] at q
          exact q
        · skip
          have ha := ends_lt hv hB (show k < 6 by omega) _ a h_21
          have hu : upTo3 v most k = decide (a ≤ most) := by unfold upTo3; rw [h_21]
          rw [h_21]
          show G C 0 0 24 [aR 0 0 0, aI (nI most), aI (nI (maskOf (upTo3 v most) k)), aI (nI k), aI (nI a)] [] [townG v rf go]
          refine g_iload hC dX1_roomsWithTraceUpTo_24 rfl ?_
          refine g_iload_n hC dX1_roomsWithTraceUpTo_26 rfl ?_
          refine g_icmp_gtN (tgt := 36) hC dX1_roomsWithTraceUpTo_27 (by decide) (by omega) (by omega) (fun h_27 => ?_) (fun h_27 => ?_)
          · skip
            refine g_iincN hC dX1_roomsWithTraceUpTo_36 rfl (by decide) rfl ?_
            refine g_goto (tgt := 4) hC dX1_roomsWithTraceUpTo_39 (by decide) ?_
            refine g_mask [true, true, true, true, false] ?_
            have q := ih (k + 1) (by omega)
            rw [maskOf_f (p := upTo3 v most) (by rw [hu]; simp; omega)] at q
            exact q
          · skip
            refine g_iload_n hC dX1_roomsWithTraceUpTo_30 rfl ?_
            refine g_iconst (v := nI (1)) hC dX1_roomsWithTraceUpTo_31 (by decide) ?_
            refine g_iload_n hC dX1_roomsWithTraceUpTo_32 rfl ?_
            refine g_ishl hC dX1_roomsWithTraceUpTo_33 rfl ?_
            refine g_ior (v := nI (maskOf (upTo3 v most) k ||| (1 <<< k))) hC dX1_roomsWithTraceUpTo_34 (or_bit _ (maskOf_lt k (by omega)) _ (by omega)) ?_
            refine g_istore_n hC dX1_roomsWithTraceUpTo_35 (by decide) rfl ?_
            refine g_iincN hC dX1_roomsWithTraceUpTo_36 rfl (by decide) rfl ?_
            refine g_goto (tgt := 4) hC dX1_roomsWithTraceUpTo_39 (by decide) ?_
            refine g_mask [true, true, true, true, false] ?_
            have q := ih (k + 1) (by omega)
            rw [maskOf_t (p := upTo3 v most) (by rw [hu]; simp; omega)] at q
            exact q
  refine g_iconst (v := nI (0)) hC dX1_roomsWithTraceUpTo_0 (by decide) ?_
  refine g_istore_n hC dX1_roomsWithTraceUpTo_1 (by decide) rfl ?_
  refine g_iconst (v := nI (0)) hC dX1_roomsWithTraceUpTo_2 (by decide) ?_
  refine g_istore_n hC dX1_roomsWithTraceUpTo_3 (by decide) rfl ?_
  refine g_mask [true, true, true, true, false] ?_
  exact loop 6 0 (by omega)

set_option maxRecDepth 100000 in
set_option maxHeartbeats 4000000 in
theorem c_X1_walkersAmongOthersTraces (v : Vw) (rf : Nat) (go : Nat → Nat) {B : Nat} (hv : wf B v) (hB : B ≤ 200) : ConF yX1_walkersAmongOthersTraces cX1_walkersAmongOthersTraces 3 (some .int) 2 [aR 0 0 0] [townG v rf go] (some (aI (nI (maskOf (among v) (vN v))))) [townG v rf go] := by
  refine con_of RX1 pn_X1 rfl rfl (Nat.le_of_ble_eq_true rfl) (fun C hM0 hC => ?_)
  show G C 0 0 0 [aR 0 0 0, aK 9, aK 9] [] [townG v rf go]
  have hn := wf_n hv
  have loop : ∀ d k, k + d = vN v → G C 0 0 4 [aR 0 0 0, aI (nI (maskOf (among v) k)), aI (nI (k))] [] [townG v rf go] := by
    intro d
    induction d with
    | zero =>
      intro k hk
      refine g_iload_n hC dX1_walkersAmongOthersTraces_4 rfl ?_
      refine g_aload_n hC dX1_walkersAmongOthersTraces_5 rfl rfl ?_
      refine gf_X1_walkers hC dX1_walkersAmongOthersTraces_6 rfl rfl ?_
      refine g_icmp_geN (tgt := 41) hC dX1_walkersAmongOthersTraces_9 (by decide) (by omega) (by omega) (fun h_9 => ?_) (fun h_9 => ?_)
      · skip
        refine g_iload_n hC dX1_walkersAmongOthersTraces_41 rfl ?_
        exact g_iret hC rfl dX1_walkersAmongOthersTraces_42 (⟨rV (by rw [show k = vN v by omega]), rfl⟩)
      · skip
        omega
    | succ d ih =>
      intro k hk
      refine g_iload_n hC dX1_walkersAmongOthersTraces_4 rfl ?_
      refine g_aload_n hC dX1_walkersAmongOthersTraces_5 rfl rfl ?_
      refine gf_X1_walkers hC dX1_walkersAmongOthersTraces_6 rfl rfl ?_
      refine g_icmp_geN (tgt := 41) hC dX1_walkersAmongOthersTraces_9 (by decide) (by omega) (by omega) (fun h_9 => ?_) (fun h_9 => ?_)
      · skip
        omega
      · skip
        refine g_aload_n hC dX1_walkersAmongOthersTraces_12 rfl rfl ?_
        refine g_aload_n hC dX1_walkersAmongOthersTraces_13 rfl rfl ?_
        refine gf_X1_places hC dX1_walkersAmongOthersTraces_14 rfl rfl ?_
        refine g_iload_n hC dX1_walkersAmongOthersTraces_17 rfl ?_
        refine g_ialdN hC dX1_walkersAmongOthersTraces_18 rfl (by omega) (by decide) ?_
        refine g_iload_n hC dX1_walkersAmongOthersTraces_19 rfl ?_
        refine g_iconst (v := nI (0)) hC dX1_walkersAmongOthersTraces_20 (by decide) ?_
        refine gi_X1_78 hC (is := [0]) (st := []) (c_X1_ageAmong v rf go hv hB (wf_pl hv k (by omega)) (s := k) (as := nI k) (fun j hj => nI_eq (by omega) (by omega)) false) dX1_walkersAmongOthersTraces_21 rfl ⟨by decide, by decide⟩ ⟨by decide, by decide⟩ rfl (by decide) rfl rfl rfl ?_
        refine g_bipush (v := (-9)) hC dX1_walkersAmongOthersTraces_24 (by decide) ?_
        refine g_icmp_eqO (tgt := 35) hC dX1_walkersAmongOthersTraces_26 (by decide) (by decide) (fun m q => by have := ends_lt hv hB (wf_pl hv k (by omega)) _ m q; omega) (fun h_26 => ?_) (fun a h_26 => ?_)
        · skip
          refine g_iincN hC dX1_walkersAmongOthersTraces_35 rfl (by decide) rfl ?_
          refine g_goto (tgt := 4) hC dX1_walkersAmongOthersTraces_38 (by decide) ?_
          refine g_mask [true, true, true] ?_
          have q := ih (k + 1) (by omega)
          rw [maskOf_f (p := among v) (by unfold among; rw [h_26]; rfl)] at q
          exact q
        · skip
          refine g_iload_n hC dX1_walkersAmongOthersTraces_29 rfl ?_
          refine g_iconst (v := nI (1)) hC dX1_walkersAmongOthersTraces_30 (by decide) ?_
          refine g_iload_n hC dX1_walkersAmongOthersTraces_31 rfl ?_
          refine g_ishl hC dX1_walkersAmongOthersTraces_32 rfl ?_
          refine g_ior (v := nI (maskOf (among v) k ||| (1 <<< k))) hC dX1_walkersAmongOthersTraces_33 (or_bit _ (maskOf_lt k (by omega)) _ (by omega)) ?_
          refine g_istore_n hC dX1_walkersAmongOthersTraces_34 (by decide) rfl ?_
          refine g_iincN hC dX1_walkersAmongOthersTraces_35 rfl (by decide) rfl ?_
          refine g_goto (tgt := 4) hC dX1_walkersAmongOthersTraces_38 (by decide) ?_
          refine g_mask [true, true, true] ?_
          have q := ih (k + 1) (by omega)
          rw [maskOf_t (p := among v) (by unfold among; rw [h_26]; rfl)] at q
          exact q
  refine g_iconst (v := nI (0)) hC dX1_walkersAmongOthersTraces_0 (by decide) ?_
  refine g_istore_n hC dX1_walkersAmongOthersTraces_1 (by decide) rfl ?_
  refine g_iconst (v := nI (0)) hC dX1_walkersAmongOthersTraces_2 (by decide) ?_
  refine g_istore_n hC dX1_walkersAmongOthersTraces_3 (by decide) rfl ?_
  refine g_mask [true, true, true] ?_
  exact loop (vN v) 0 (by omega)

set_option maxRecDepth 100000 in
set_option maxHeartbeats 4000000 in
theorem c_X1_smellsAsOneBefore (v : Vw) (rf : Nat) (go : Nat → Nat) {B : Nat} (hv : wf B v) (hB : B ≤ 200) {w r m : Nat} (hw : w < vN v) (hr : r < 6) (hm : vLf v w r = some m) : ConF yX1_smellsAsOneBefore cX1_smellsAsOneBefore 5 (some .boolean) 2 [aR 0 0 0, aI (nI (w)), aI (nI (r))] [townG v rf go] (some (aI (bI (anyB (sameB v r w) w)))) [townG v rf go] := by
  refine con_of RX1 pn_X1 rfl rfl (Nat.le_of_ble_eq_true rfl) (fun C hM0 hC => ?_)
  show G C 0 0 0 [aR 0 0 0, aI (nI (w)), aI (nI (r)), aK 9, aK 9] [] [townG v rf go]
  have hn := wf_n hv
  have hsw := smell_lt (w := w) hv hB (show 0 ≤ 50 by omega) hr
  have loop : ∀ d k, k + d = w → anyB (sameB v r w) k = false → G C 0 0 11 [aR 0 0 0, aI (nI (w)), aI (nI (r)), aI (nI (smell v r 0 w)), aI (nI (k))] [] [townG v rf go] := by
    intro d
    induction d with
    | zero =>
      intro k hk hany
      refine g_iload hC dX1_smellsAsOneBefore_11 rfl ?_
      refine g_iload_n hC dX1_smellsAsOneBefore_13 rfl ?_
      refine g_icmp_geN (tgt := 47) hC dX1_smellsAsOneBefore_14 (by decide) (by omega) (by omega) (fun h_14 => ?_) (fun h_14 => ?_)
      · skip
        refine g_iconst (v := nI (0)) hC dX1_smellsAsOneBefore_47 (by decide) ?_
        obtain rfl : k = w := by omega
        exact g_zret hC rfl rfl dX1_smellsAsOneBefore_48 (⟨rV (by rw [hany]; rfl), rfl⟩)
      · skip
        omega
    | succ d ih =>
      intro k hk hany
      have hsk := smell_lt (w := k) hv hB (show 0 ≤ 50 by omega) hr
      refine g_iload hC dX1_smellsAsOneBefore_11 rfl ?_
      refine g_iload_n hC dX1_smellsAsOneBefore_13 rfl ?_
      refine g_icmp_geN (tgt := 47) hC dX1_smellsAsOneBefore_14 (by decide) (by omega) (by omega) (fun h_14 => ?_) (fun h_14 => ?_)
      · skip
        omega
      · skip
        refine g_aload_n hC dX1_smellsAsOneBefore_17 rfl rfl ?_
        refine g_iload hC dX1_smellsAsOneBefore_18 rfl ?_
        refine g_iload_n hC dX1_smellsAsOneBefore_20 rfl ?_
        refine gi_X1_110 hC (is := [0]) (st := []) (c_X1_hasTrace v rf go hv hB (show k < vN v by omega) hr) dX1_smellsAsOneBefore_21 rfl ⟨by decide, by decide⟩ ⟨by decide, by decide⟩ rfl (by decide) rfl rfl rfl ?_
        refine g_if_eqB (tgt := 41) hC dX1_smellsAsOneBefore_24 (by decide) (fun h_24 => ?_) (fun h_24 => ?_)
        · skip
          refine g_iincN hC dX1_smellsAsOneBefore_41 rfl (by decide) rfl ?_
          refine g_goto (tgt := 11) hC dX1_smellsAsOneBefore_44 (by decide) ?_
          exact ih (k + 1) (by omega) (anyB_f hany (by unfold sameB; rw [h_24, Bool.false_and]))
        · skip
          obtain ⟨mk, hmk⟩ := Option.isSome_iff_exists.mp h_24
          refine g_aload_n hC dX1_smellsAsOneBefore_27 rfl rfl ?_
          refine g_iload hC dX1_smellsAsOneBefore_28 rfl ?_
          refine g_iload_n hC dX1_smellsAsOneBefore_30 rfl ?_
          refine g_iconst (v := nI (0)) hC dX1_smellsAsOneBefore_31 (by decide) ?_
          refine gi_X1_116 hC (is := [0]) (st := []) (c_X1_smellOf v rf go hv hB (show k < vN v by omega) hr (show 0 ≤ 50 by omega) hmk) dX1_smellsAsOneBefore_32 rfl ⟨by decide, by decide⟩ ⟨by decide, by decide⟩ rfl (by decide) rfl rfl rfl ?_
          rw [← smell_some hmk] ; show G C 0 0 35 _ (aI (nI (smell v r 0 k)) :: []) [townG v rf go]
          refine g_iload_n hC dX1_smellsAsOneBefore_35 rfl ?_
          refine g_icmp_neN (tgt := 41) hC dX1_smellsAsOneBefore_36 (by decide) (by omega) (by omega) (fun h_36 => ?_) (fun h_36 => ?_)
          · skip
            refine g_iincN hC dX1_smellsAsOneBefore_41 rfl (by decide) rfl ?_
            refine g_goto (tgt := 11) hC dX1_smellsAsOneBefore_44 (by decide) ?_
            exact ih (k + 1) (by omega) (anyB_f hany (by unfold sameB; rw [decide_eq_false h_36, Bool.and_false]))
          · skip
            refine g_iconst (v := nI (1)) hC dX1_smellsAsOneBefore_39 (by decide) ?_
            exact g_zret hC rfl rfl dX1_smellsAsOneBefore_40 (⟨rV (by rw [anyB_t (k := k) (by unfold sameB; rw [h_24, decide_eq_true h_36]; rfl) w (by omega)]; rfl), rfl⟩)
  refine g_aload_n hC dX1_smellsAsOneBefore_0 rfl rfl ?_
  refine g_iload_n hC dX1_smellsAsOneBefore_1 rfl ?_
  refine g_iload_n hC dX1_smellsAsOneBefore_2 rfl ?_
  refine g_iconst (v := nI (0)) hC dX1_smellsAsOneBefore_3 (by decide) ?_
  refine gi_X1_116 hC (is := [0]) (st := []) (c_X1_smellOf v rf go hv hB hw hr (show 0 ≤ 50 by omega) hm) dX1_smellsAsOneBefore_4 rfl ⟨by decide, by decide⟩ ⟨by decide, by decide⟩ rfl (by decide) rfl rfl rfl ?_
  rw [← smell_some hm] ; show G C 0 0 7 _ (aI (nI (smell v r 0 w)) :: []) [townG v rf go]
  refine g_istore_n hC dX1_smellsAsOneBefore_7 (by decide) rfl ?_
  refine g_iconst (v := nI (0)) hC dX1_smellsAsOneBefore_8 (by decide) ?_
  refine g_istore hC dX1_smellsAsOneBefore_9 (by decide) rfl ?_
  exact loop w 0 (by omega) rfl

set_option maxRecDepth 100000 in
set_option maxHeartbeats 4000000 in
theorem c_X1_toldApartIn (v : Vw) (rf : Nat) (go : Nat → Nat) {B : Nat} (hv : wf B v) (hB : B ≤ 200) {r : Nat} (hr : r < 6) : ConF yX1_toldApartIn cX1_toldApartIn 4 (some .int) 3 [aR 0 0 0, aI (nI (r))] [townG v rf go] (some (aI (nI (apart v r)))) [townG v rf go] := by
  refine con_of RX1 pn_X1 rfl rfl (Nat.le_of_ble_eq_true rfl) (fun C hM0 hC => ?_)
  show G C 0 0 0 [aR 0 0 0, aI (nI (r)), aK 9, aK 9] [] [townG v rf go]
  have hn := wf_n hv
  have loop : ∀ d k, k + d = vN v → G C 0 0 4 [aR 0 0 0, aI (nI (r)), aI (nI (cnt (isNew v r) k)), aI (nI (k))] [] [townG v rf go] := by
    intro d
    induction d with
    | zero =>
      intro k hk
      refine g_iload_n hC dX1_toldApartIn_4 rfl ?_
      refine g_aload_n hC dX1_toldApartIn_5 rfl rfl ?_
      refine gf_X1_walkers hC dX1_toldApartIn_6 rfl rfl ?_
      refine g_icmp_geN (tgt := 39) hC dX1_toldApartIn_9 (by decide) (by omega) (by omega) (fun h_9 => ?_) (fun h_9 => ?_)
      · skip
        refine g_iload_n hC dX1_toldApartIn_39 rfl ?_
        exact g_iret hC rfl dX1_toldApartIn_40 (⟨rV (by rw [show k = vN v by omega]; rfl), rfl⟩)
      · skip
        omega
    | succ d ih =>
      intro k hk
      refine g_iload_n hC dX1_toldApartIn_4 rfl ?_
      refine g_aload_n hC dX1_toldApartIn_5 rfl rfl ?_
      refine gf_X1_walkers hC dX1_toldApartIn_6 rfl rfl ?_
      refine g_icmp_geN (tgt := 39) hC dX1_toldApartIn_9 (by decide) (by omega) (by omega) (fun h_9 => ?_) (fun h_9 => ?_)
      · skip
        omega
      · skip
        refine g_aload_n hC dX1_toldApartIn_12 rfl rfl ?_
        refine g_iload_n hC dX1_toldApartIn_13 rfl ?_
        refine g_iload_n hC dX1_toldApartIn_14 rfl ?_
        refine gi_X1_110 hC (is := [0]) (st := []) (c_X1_hasTrace v rf go hv hB (show k < vN v by omega) hr) dX1_toldApartIn_15 rfl ⟨by decide, by decide⟩ ⟨by decide, by decide⟩ rfl (by decide) rfl rfl rfl ?_
        refine g_if_eqB (tgt := 33) hC dX1_toldApartIn_18 (by decide) (fun h_18 => ?_) (fun h_18 => ?_)
        · skip
          refine g_iincN hC dX1_toldApartIn_33 rfl (by decide) rfl ?_
          refine g_goto (tgt := 4) hC dX1_toldApartIn_36 (by decide) ?_
          refine g_mask [true, true, true, true] ?_
          have q := ih (k + 1) (by omega)
          rw [cnt_f (p := isNew v r) (by unfold isNew; rw [h_18]; rfl)] at q
          exact q
        · skip
          obtain ⟨mk, hmk⟩ := Option.isSome_iff_exists.mp h_18
          refine g_aload_n hC dX1_toldApartIn_21 rfl rfl ?_
          refine g_iload_n hC dX1_toldApartIn_22 rfl ?_
          refine g_iload_n hC dX1_toldApartIn_23 rfl ?_
          refine gi_X1_113 hC (is := [0]) (st := []) (c_X1_smellsAsOneBefore v rf go hv hB (show k < vN v by omega) hr hmk) dX1_toldApartIn_24 rfl ⟨by decide, by decide⟩ ⟨by decide, by decide⟩ rfl (by decide) rfl rfl rfl ?_
          refine g_if_neB (tgt := 33) hC dX1_toldApartIn_27 (by decide) (fun h_27 => ?_) (fun h_27 => ?_)
          · skip
            refine g_iincN hC dX1_toldApartIn_33 rfl (by decide) rfl ?_
            refine g_goto (tgt := 4) hC dX1_toldApartIn_36 (by decide) ?_
            refine g_mask [true, true, true, true] ?_
            have q := ih (k + 1) (by omega)
            rw [cnt_f (p := isNew v r) (by unfold isNew; rw [h_18, h_27]; rfl)] at q
            exact q
          · skip
            refine g_iincN hC dX1_toldApartIn_30 rfl (by decide) rfl ?_
            refine g_iincN hC dX1_toldApartIn_33 rfl (by decide) rfl ?_
            refine g_goto (tgt := 4) hC dX1_toldApartIn_36 (by decide) ?_
            refine g_mask [true, true, true, true] ?_
            have q := ih (k + 1) (by omega)
            rw [cnt_t (p := isNew v r) (by unfold isNew; rw [h_18, h_27]; rfl)] at q
            exact q
  refine g_iconst (v := nI (0)) hC dX1_toldApartIn_0 (by decide) ?_
  refine g_istore_n hC dX1_toldApartIn_1 (by decide) rfl ?_
  refine g_iconst (v := nI (0)) hC dX1_toldApartIn_2 (by decide) ?_
  refine g_istore_n hC dX1_toldApartIn_3 (by decide) rfl ?_
  refine g_mask [true, true, true, true] ?_
  exact loop (vN v) 0 (by omega)

set_option maxRecDepth 100000 in
set_option maxHeartbeats 4000000 in
theorem c_X1_isFreshestApart (v : Vw) (rf : Nat) (go : Nat → Nat) {B : Nat} (hv : wf B v) (hB : B ≤ 200) {r l : Nat} (hr : r < 6) (hl : l ≤ 50) : ConF yX1_isFreshestApart cX1_isFreshestApart 7 (some .boolean) 2 [aR 0 0 0, aI (nI (r)), aI (nI (l))] [townG v rf go] (some (aI (bI (decide ((frs v r l (vN v)).2 < 2))))) [townG v rf go] := by
  refine con_of RX1 pn_X1 rfl rfl (Nat.le_of_ble_eq_true rfl) (fun C hM0 hC => ?_)
  show G C 0 0 0 [aR 0 0 0, aI (nI (r)), aI (nI (l)), aK 9, aK 9, aK 9, aK 9] [] [townG v rf go]
  have hn := wf_n hv
  have loop : ∀ d k, k + d = vN v → G C 0 0 8 [aR 0 0 0, aI (nI (r)), aI (nI (l)), aI (nI ((frs v r l k).1)), aI (nI ((frs v r l k).2)), aI (nI (k)), aK 9] [] [townG v rf go] := by
    intro d
    induction d with
    | zero =>
      intro k hk
      have hfr := frs_lt hv hB hl hr k
      refine g_iload hC dX1_isFreshestApart_8 rfl ?_
      refine g_aload_n hC dX1_isFreshestApart_10 rfl rfl ?_
      refine gf_X1_walkers hC dX1_isFreshestApart_11 rfl rfl ?_
      refine g_icmp_geN (tgt := 72) hC dX1_isFreshestApart_14 (by decide) (by omega) (by omega) (fun h_14 => ?_) (fun h_14 => ?_)
      · skip
        refine g_iload hC dX1_isFreshestApart_72 rfl ?_
        refine g_iconst (v := nI (2)) hC dX1_isFreshestApart_74 (by decide) ?_
        refine g_icmp_geN (tgt := 82) hC dX1_isFreshestApart_75 (by decide) (by omega) (by omega) (fun h_75 => ?_) (fun h_75 => ?_)
        · skip
          refine g_iconst (v := nI (0)) hC dX1_isFreshestApart_82 (by decide) ?_
          exact g_zret hC rfl rfl dX1_isFreshestApart_83 (⟨rB0 (by rw [← show k = vN v by omega]; omega), rfl⟩)
        · skip
          refine g_iconst (v := nI (1)) hC dX1_isFreshestApart_78 (by decide) ?_
          refine g_goto (tgt := 83) hC dX1_isFreshestApart_79 (by decide) ?_
          exact g_zret hC rfl rfl dX1_isFreshestApart_83 (⟨rB1 (by rw [← show k = vN v by omega]; omega), rfl⟩)
      · skip
        omega
    | succ d ih =>
      intro k hk
      have hfr := frs_lt hv hB hl hr k
      have hsk := smell_lt (w := k) hv hB hl hr
      refine g_iload hC dX1_isFreshestApart_8 rfl ?_
      refine g_aload_n hC dX1_isFreshestApart_10 rfl rfl ?_
      refine gf_X1_walkers hC dX1_isFreshestApart_11 rfl rfl ?_
      refine g_icmp_geN (tgt := 72) hC dX1_isFreshestApart_14 (by decide) (by omega) (by omega) (fun h_14 => ?_) (fun h_14 => ?_)
      · skip
        omega
      · skip
        refine g_aload_n hC dX1_isFreshestApart_17 rfl rfl ?_
        refine g_iload hC dX1_isFreshestApart_18 rfl ?_
        refine g_iload_n hC dX1_isFreshestApart_20 rfl ?_
        refine gi_X1_110 hC (is := [0]) (st := []) (c_X1_hasTrace v rf go hv hB (show k < vN v by omega) hr) dX1_isFreshestApart_21 rfl ⟨by decide, by decide⟩ ⟨by decide, by decide⟩ rfl (by decide) rfl rfl rfl ?_
        refine g_if_eqB (tgt := 66) hC dX1_isFreshestApart_24 (by decide) (fun h_24 => ?_) (fun h_24 => ?_)
        · skip
          refine g_iincN hC dX1_isFreshestApart_66 rfl (by decide) rfl ?_
          refine g_goto (tgt := 8) hC dX1_isFreshestApart_69 (by decide) ?_
          refine g_mask [true, true, true, true, true, true, false] ?_
          have q := ih (k + 1) (by omega)
          rw [frs_no h_24] at q
          exact q
        · skip
          obtain ⟨mk, hmk⟩ := Option.isSome_iff_exists.mp h_24
          refine g_aload_n hC dX1_isFreshestApart_27 rfl rfl ?_
          refine g_iload hC dX1_isFreshestApart_28 rfl ?_
          refine g_iload_n hC dX1_isFreshestApart_30 rfl ?_
          refine g_iload_n hC dX1_isFreshestApart_31 rfl ?_
          refine gi_X1_116 hC (is := [0]) (st := []) (c_X1_smellOf v rf go hv hB (show k < vN v by omega) hr hl hmk) dX1_isFreshestApart_32 rfl ⟨by decide, by decide⟩ ⟨by decide, by decide⟩ rfl (by decide) rfl rfl rfl ?_
          rw [← smell_some hmk] ; show G C 0 0 35 _ (aI (nI (smell v r l k)) :: []) [townG v rf go]
          refine g_istore hC dX1_isFreshestApart_35 (by decide) rfl ?_
          refine g_iload hC dX1_isFreshestApart_37 rfl ?_
          refine g_if_eqN (tgt := 48) hC dX1_isFreshestApart_39 (by decide) (by omega) (fun h_39 => ?_) (fun h_39 => ?_)
          · skip
            refine g_iload hC dX1_isFreshestApart_48 rfl ?_
            refine g_istore_n hC dX1_isFreshestApart_50 (by decide) rfl ?_
            refine g_iconst (v := nI (1)) hC dX1_isFreshestApart_51 (by decide) ?_
            refine g_istore hC dX1_isFreshestApart_52 (by decide) rfl ?_
            refine g_goto (tgt := 66) hC dX1_isFreshestApart_54 (by decide) ?_
            refine g_iincN hC dX1_isFreshestApart_66 rfl (by decide) rfl ?_
            refine g_goto (tgt := 8) hC dX1_isFreshestApart_69 (by decide) ?_
            refine g_mask [true, true, true, true, true, true, false] ?_
            have q := ih (k + 1) (by omega)
            rw [frs_new h_24 (Or.inl h_39)] at q
            exact q
          · skip
            refine g_iload hC dX1_isFreshestApart_42 rfl ?_
            refine g_iload_n hC dX1_isFreshestApart_44 rfl ?_
            refine g_icmp_geN (tgt := 57) hC dX1_isFreshestApart_45 (by decide) (by omega) (by omega) (fun h_45 => ?_) (fun h_45 => ?_)
            · skip
              refine g_iload hC dX1_isFreshestApart_57 rfl ?_
              refine g_iload_n hC dX1_isFreshestApart_59 rfl ?_
              refine g_icmp_neN (tgt := 66) hC dX1_isFreshestApart_60 (by decide) (by omega) (by omega) (fun h_60 => ?_) (fun h_60 => ?_)
              · skip
                refine g_iincN hC dX1_isFreshestApart_66 rfl (by decide) rfl ?_
                refine g_goto (tgt := 8) hC dX1_isFreshestApart_69 (by decide) ?_
                refine g_mask [true, true, true, true, true, true, false] ?_
                have q := ih (k + 1) (by omega)
                rw [frs_more (by omega) h_60] at q
                exact q
              · skip
                refine g_iincN hC dX1_isFreshestApart_63 rfl (by decide) rfl ?_
                refine g_iincN hC dX1_isFreshestApart_66 rfl (by decide) rfl ?_
                refine g_goto (tgt := 8) hC dX1_isFreshestApart_69 (by decide) ?_
                refine g_mask [true, true, true, true, true, true, false] ?_
                have q := ih (k + 1) (by omega)
                rw [frs_same h_24 (by omega) h_60] at q
                exact q
            · skip
              refine g_iload hC dX1_isFreshestApart_48 rfl ?_
              refine g_istore_n hC dX1_isFreshestApart_50 (by decide) rfl ?_
              refine g_iconst (v := nI (1)) hC dX1_isFreshestApart_51 (by decide) ?_
              refine g_istore hC dX1_isFreshestApart_52 (by decide) rfl ?_
              refine g_goto (tgt := 66) hC dX1_isFreshestApart_54 (by decide) ?_
              refine g_iincN hC dX1_isFreshestApart_66 rfl (by decide) rfl ?_
              refine g_goto (tgt := 8) hC dX1_isFreshestApart_69 (by decide) ?_
              refine g_mask [true, true, true, true, true, true, false] ?_
              have q := ih (k + 1) (by omega)
              rw [frs_new h_24 (Or.inr h_45)] at q
              exact q
  refine g_iconst (v := nI (0)) hC dX1_isFreshestApart_0 (by decide) ?_
  refine g_istore_n hC dX1_isFreshestApart_1 (by decide) rfl ?_
  refine g_iconst (v := nI (0)) hC dX1_isFreshestApart_2 (by decide) ?_
  refine g_istore hC dX1_isFreshestApart_3 (by decide) rfl ?_
  refine g_iconst (v := nI (0)) hC dX1_isFreshestApart_5 (by decide) ?_
  refine g_istore hC dX1_isFreshestApart_6 (by decide) rfl ?_
  refine g_mask [true, true, true, true, true, true, false] ?_
  exact loop (vN v) 0 (by omega)

set_option maxRecDepth 100000 in
set_option maxHeartbeats 4000000 in
theorem c_X1_scatter (v : Vw) (rf : Nat) (go : Nat → Nat) {B : Nat} (hv : wf B v) (hB : B ≤ 200) (z : Int32) : ConF yX1_scatter cX1_scatter 4 (some .int) 0 [aR 0 0 0, aI (z)] [townG v rf go] (some (aI (sd z (vN v)))) [townG (scatV v z (vN v)) rf go] := by
  refine con_of RX1 pn_X1 rfl rfl (Nat.le_of_ble_eq_true rfl) (fun C hM0 hC => ?_)
  show G C 0 0 0 [aR 0 0 0, aI (z), aK 9, aK 9] [] [townG v rf go]
  have hn := wf_n hv
  have loop : ∀ d k, k + d = vN v → G C 0 0 4 [aR 0 0 0, aI (z), aI (sd z k), aI (nI (k))] [] [townG (scatV v z k) rf go] := by
    intro d
    induction d with
    | zero =>
      intro k hk
      have hfn : vN (scatV v z k) = vN v := rfl
      refine g_iload_n hC dX1_scatter_4 rfl ?_
      refine g_aload_n hC dX1_scatter_5 rfl rfl ?_
      refine gf_X1_walkers hC dX1_scatter_6 rfl rfl ?_
      refine g_icmp_geN (tgt := 43) hC dX1_scatter_9 (by decide) (by omega) (by omega) (fun h_9 => ?_) (fun h_9 => ?_)
      · skip
        refine g_iload_n hC dX1_scatter_43 rfl ?_
        exact g_iret hC rfl dX1_scatter_44 (⟨rV (by rw [show k = vN v by omega]), by rw [show k = vN v by omega]⟩)
      · skip
        omega
    | succ d ih =>
      intro k hk
      have hfn : vN (scatV v z k) = vN v := rfl
      refine g_iload_n hC dX1_scatter_4 rfl ?_
      refine g_aload_n hC dX1_scatter_5 rfl rfl ?_
      refine gf_X1_walkers hC dX1_scatter_6 rfl rfl ?_
      refine g_icmp_geN (tgt := 43) hC dX1_scatter_9 (by decide) (by omega) (by omega) (fun h_9 => ?_) (fun h_9 => ?_)
      · skip
        omega
      · skip
        refine g_iload_n hC dX1_scatter_12 rfl ?_
        refine g_ldc (v := nI (1664525)) hC dX1_scatter_13 tw_3_159 ?_
        refine g_imul hC dX1_scatter_15 rfl ?_
        refine g_ldc (v := nI (1013904223)) hC dX1_scatter_16 tw_3_160 ?_
        refine g_iadd (v := sd z (k + 1)) hC dX1_scatter_18 (rfl) ?_
        refine g_istore_n hC dX1_scatter_19 (by decide) rfl ?_
        refine g_aload_n hC dX1_scatter_20 rfl rfl ?_
        refine gf_X1_places hC dX1_scatter_21 rfl rfl ?_
        refine g_iload_n hC dX1_scatter_24 rfl ?_
        refine g_iload_n hC dX1_scatter_25 rfl ?_
        refine g_ldc (v := nI (2147483647)) hC dX1_scatter_26 tw_3_161 ?_
        refine g_iand (v := nI ((sd z (k + 1)).toBitVec.toNat % 2 ^ 31)) hC dX1_scatter_28 (pk_and _ 31 (by decide)) ?_
        refine g_sipush (v := nI (256)) hC dX1_scatter_29 (by decide) ?_
        refine g_idivN hC dX1_scatter_32 (Nat.mod_lt _ (by decide)) (by omega) (by omega) ?_
        refine g_bipush (v := nI (6)) hC dX1_scatter_33 (by decide) ?_
        refine g_iremN hC dX1_scatter_35 (Nat.lt_of_le_of_lt (Nat.div_le_self _ _) (Nat.mod_lt _ (by decide))) (by omega) (by omega) ?_
        refine g_iastN hC dX1_scatter_36 rfl (by omega) (by decide) ?_
        refine g_iincN hC dX1_scatter_37 rfl (by decide) rfl ?_
        refine g_goto (tgt := 4) hC dX1_scatter_40 (by decide) ?_
        refine g_mask [true, true, true, true] ?_
        have q := ih (k + 1) (by omega)
        rw [scat_succ] at q
        exact q
  refine g_iload_n hC dX1_scatter_0 rfl ?_
  refine g_istore_n hC dX1_scatter_1 (by decide) rfl ?_
  refine g_iconst (v := nI (0)) hC dX1_scatter_2 (by decide) ?_
  refine g_istore_n hC dX1_scatter_3 (by decide) rfl ?_
  have q := loop (vN v) 0 (by omega)
  rw [scat_zero] at q
  exact q

set_option maxRecDepth 100000 in
set_option maxHeartbeats 4000000 in
theorem c_X1_addToLastPlan (v : Vw) (rf : Nat) (go : Nat → Nat) {B : Nat} (hv : wf B v) (hB : B ≤ 200) {r : Nat} (h0 : 0 < vN v) (hL : vPL v (vN v - 1) < 6) : ConF yX1_addToLastPlan cX1_addToLastPlan 3 none 0 [aR 0 0 0, aI (nI (r))] [townG v rf go] none [townG (planV v (vN v - 1) r) rf go] := by
  refine con_of RX1 pn_X1 rfl rfl (Nat.le_of_ble_eq_true rfl) (fun C hM0 hC => ?_)
  show G C 0 0 0 [aR 0 0 0, aI (nI (r)), aK 9] [] [townG v rf go]
  have hn := wf_n hv
  refine g_aload_n hC dX1_addToLastPlan_0 rfl rfl ?_
  refine gf_X1_walkers hC dX1_addToLastPlan_1 rfl rfl ?_
  refine g_iconst (v := nI (1)) hC dX1_addToLastPlan_4 (by decide) ?_
  refine g_isubN hC dX1_addToLastPlan_5 (by omega) ?_
  refine g_istore_n hC dX1_addToLastPlan_6 (by decide) rfl ?_
  refine g_iload_n hC dX1_addToLastPlan_7 rfl ?_
  refine g_if_ltN (tgt := 46) hC dX1_addToLastPlan_8 (by decide) (by omega) (fun h_8 => ?_) (fun h_8 => ?_)
  · skip
    omega
  · skip
    refine g_aload_n hC dX1_addToLastPlan_11 rfl rfl ?_
    refine gf_X1_planLengths hC dX1_addToLastPlan_12 rfl rfl ?_
    refine g_iload_n hC dX1_addToLastPlan_15 rfl ?_
    refine g_ialdN hC dX1_addToLastPlan_16 rfl (by omega) (by decide) ?_
    refine g_bipush (v := nI (6)) hC dX1_addToLastPlan_17 (by decide) ?_
    refine g_icmp_geN (tgt := 46) hC dX1_addToLastPlan_19 (by decide) (by omega) (by omega) (fun h_19 => ?_) (fun h_19 => ?_)
    · skip
      omega
    · skip
      refine g_aload_n hC dX1_addToLastPlan_22 rfl rfl ?_
      refine gf_X1_plans hC dX1_addToLastPlan_23 rfl rfl ?_
      refine g_iload_n hC dX1_addToLastPlan_26 rfl ?_
      refine g_aaldN hC dX1_addToLastPlan_27 rfl (by omega) (by decide) ?_
      refine g_aload_n hC dX1_addToLastPlan_28 rfl rfl ?_
      refine gf_X1_planLengths hC dX1_addToLastPlan_29 rfl rfl ?_
      refine g_iload_n hC dX1_addToLastPlan_32 rfl ?_
      refine g_ialdN hC dX1_addToLastPlan_33 rfl (by omega) (by decide) ?_
      refine g_iload_n hC dX1_addToLastPlan_34 rfl ?_
      refine g_iast2N hC dX1_addToLastPlan_35 rfl (by omega) (by omega) (by decide) ?_
      refine g_aload_n hC dX1_addToLastPlan_36 rfl rfl ?_
      refine gf_X1_planLengths hC dX1_addToLastPlan_37 rfl rfl ?_
      refine g_iload_n hC dX1_addToLastPlan_40 rfl ?_
      refine g_dup2 hC dX1_addToLastPlan_41 rfl rfl ?_
      refine g_ialdN hC dX1_addToLastPlan_42 rfl (by omega) (by decide) ?_
      refine g_iconst (v := nI (1)) hC dX1_addToLastPlan_43 (by decide) ?_
      refine g_iaddN hC dX1_addToLastPlan_44 ?_
      refine g_iastN hC dX1_addToLastPlan_45 rfl (by omega) (by decide) ?_
      exact g_vret hC rfl dX1_addToLastPlan_46 (⟨rfl, rfl⟩)

set_option maxRecDepth 100000 in
set_option maxHeartbeats 4000000 in
theorem c_X1_addWalker (v : Vw) (rf : Nat) (go : Nat → Nat) {ki r : Nat} (hn : vN v < 4) (hki : ki ≤ 5) (hr : r < 6) : ConF yX1_addWalker cX1_addWalker 5 none 1 [aR 0 0 0, aI (nI (ki)), aI (nI (r))] [townG v rf go] none [townG (addV v ki r) rf go] := by
  refine con_of RX1 pn_X1 rfl rfl (Nat.le_of_ble_eq_true rfl) (fun C hM0 hC => ?_)
  show G C 0 0 0 [aR 0 0 0, aI (nI (ki)), aI (nI (r)), aK 9, aK 9] [] [townG v rf go]
  have loop : ∀ d k, k + d = 6 → G C 0 0 39 [aR 0 0 0, aI (nI (ki)), aI (nI (r)), aI (nI (vN v)), aI (nI (k))] [] [townG (uLf (uPL (uPl (uKi (uN v (vN v + 1)) (updN (vKi v) (vN v) ki)) (updN (vPl v) (vN v) r)) (updN (vPL v) (vN v) 0)) (clrR (vLf v) (vN v) k)) rf go] := by
    intro d
    induction d with
    | zero =>
      intro k hk
      refine g_iload hC dX1_addWalker_39 rfl ?_
      refine g_bipush (v := nI (6)) hC dX1_addWalker_41 (by decide) ?_
      refine g_icmp_geN (tgt := 62) hC dX1_addWalker_43 (by decide) (by omega) (by omega) (fun h_43 => ?_) (fun h_43 => ?_)
      · skip
        refine g_aload_n hC dX1_addWalker_62 rfl rfl ?_
        refine g_iload_n hC dX1_addWalker_63 rfl ?_
        refine gi_X1_63 hC (is := [0]) (st := []) (c_X1_leaveTrace (uLf (uPL (uPl (uKi (uN v (vN v + 1)) (updN (vKi v) (vN v) ki)) (updN (vPl v) (vN v) r)) (updN (vPL v) (vN v) 0)) (clrR (vLf v) (vN v) k)) rf go (show vN v < 4 by omega) (by show updN (vPl v) (vN v) r (vN v) < 6; unfold updN; rw [if_pos rfl]; exact hr) (by show updN (vKi v) (vN v) ki (vN v) ≤ 5; unfold updN; rw [if_pos rfl]; exact hki)) dX1_addWalker_64 rfl ⟨by decide, by decide⟩ ⟨by decide, by decide⟩ rfl (by decide) rfl rfl rfl ?_
        exact g_vret hC rfl dX1_addWalker_67 (⟨rfl, by rw [show k = 6 by omega]; rfl⟩)
      · skip
        omega
    | succ d ih =>
      intro k hk
      refine g_iload hC dX1_addWalker_39 rfl ?_
      refine g_bipush (v := nI (6)) hC dX1_addWalker_41 (by decide) ?_
      refine g_icmp_geN (tgt := 62) hC dX1_addWalker_43 (by decide) (by omega) (by omega) (fun h_43 => ?_) (fun h_43 => ?_)
      · skip
        omega
      · skip
        refine g_aload_n hC dX1_addWalker_46 rfl rfl ?_
        refine gf_X1_left hC dX1_addWalker_47 rfl rfl ?_
        refine g_iload_n hC dX1_addWalker_50 rfl ?_
        refine g_aaldN hC dX1_addWalker_51 rfl (by omega) (by decide) ?_
        refine g_iload hC dX1_addWalker_52 rfl ?_
        refine g_iconst (v := (-1)) hC dX1_addWalker_54 (by decide) ?_
        refine g_iast2O (x := none) hC dX1_addWalker_55 rfl (by omega) (by omega) (by decide) rfl ?_
        refine g_iincN hC dX1_addWalker_56 rfl (by decide) rfl ?_
        refine g_goto (tgt := 39) hC dX1_addWalker_59 (by decide) ?_
        refine g_mask [true, true, true, true, true] ?_
        have q := ih (k + 1) (by omega)
        rw [clrR_succ] at q
        exact q
  refine g_aload_n hC dX1_addWalker_0 rfl rfl ?_
  refine gf_X1_walkers hC dX1_addWalker_1 rfl rfl ?_
  refine g_istore_n hC dX1_addWalker_4 (by decide) rfl ?_
  refine g_aload_n hC dX1_addWalker_5 rfl rfl ?_
  refine g_dup hC dX1_addWalker_6 rfl ?_
  refine gf_X1_walkers hC dX1_addWalker_7 rfl rfl ?_
  refine g_iconst (v := nI (1)) hC dX1_addWalker_10 (by decide) ?_
  refine g_iaddN hC dX1_addWalker_11 ?_
  refine gp_X1_walkers hC dX1_addWalker_12 rfl rfl ?_
  refine g_aload_n hC dX1_addWalker_15 rfl rfl ?_
  refine gf_X1_kinds hC dX1_addWalker_16 rfl rfl ?_
  refine g_iload_n hC dX1_addWalker_19 rfl ?_
  refine g_iload_n hC dX1_addWalker_20 rfl ?_
  refine g_iastN hC dX1_addWalker_21 rfl (by omega) (by decide) ?_
  refine g_aload_n hC dX1_addWalker_22 rfl rfl ?_
  refine gf_X1_places hC dX1_addWalker_23 rfl rfl ?_
  refine g_iload_n hC dX1_addWalker_26 rfl ?_
  refine g_iload_n hC dX1_addWalker_27 rfl ?_
  refine g_iastN hC dX1_addWalker_28 rfl (by omega) (by decide) ?_
  refine g_aload_n hC dX1_addWalker_29 rfl rfl ?_
  refine gf_X1_planLengths hC dX1_addWalker_30 rfl rfl ?_
  refine g_iload_n hC dX1_addWalker_33 rfl ?_
  refine g_iconst (v := nI (0)) hC dX1_addWalker_34 (by decide) ?_
  refine g_iastN hC dX1_addWalker_35 rfl (by omega) (by decide) ?_
  refine g_iconst (v := nI (0)) hC dX1_addWalker_36 (by decide) ?_
  refine g_istore hC dX1_addWalker_37 (by decide) rfl ?_
  have q := loop 6 0 (by omega)
  rw [clrR_zero] at q
  exact q
