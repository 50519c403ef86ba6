theorem opF_lt (num : Nat → Nat) (n : Nat) (op : Nat → Nat) {k : Nat} (hk : k ≤ n) : opF num n op (n + 1) k < 64 := by
  unfold opF
  rw [if_pos (by omega)]
  exact opn_lt num n _
set_option maxRecDepth 100000 in
set_option maxHeartbeats 4000000 in
theorem c_X2_openRooms (op : Nat → Nat) (to on : Nat → Nat → Nat) (last : Nat) (num : Nat → Nat) {ago : Nat} (hnum : ∀ r, r < 6 → num r < 2 ^ 31) (hla : last < 2 ^ 31) (hag : ago < 2 ^ 31) : ConF yX2_openRooms cX2_openRooms 7 (some .int) 1 [aR 0 0 0, aR 1 0 0, aI (nI (ago))] [walksG op to on last, [cA 12 (fun j => nI (num j))]] (some (aI (nI (opn num last ago)))) [walksG op to on last, [cA 12 (fun j => nI (num j))]] := by
  refine con_of RX2 pn_X2 rfl rfl (Nat.le_of_ble_eq_true rfl) (fun C hM0 hC => ?_)
  show G C 0 0 0 [aR 0 0 0, aR 1 0 0, aI (nI (ago)), aK 9, aK 9, aK 9, aK 9] [] [walksG op to on last, [cA 12 (fun j => nI (num j))]]
  have loop : ∀ d k, k + d = 6 → anyB (badN num last) k = false → G C 0 0 8 [aR 0 0 0, aR 1 0 0, aI (nI (ago)), aI (nI (maskOf (leN num ago) k)), aI (nI (maskOf (eqN num ago) k)), aI (nI (k)), aK 9] [] [walksG op to on last, [cA 12 (fun j => nI (num j))]] := by
    intro d
    induction d with
    | zero =>
      intro k hk hany
      obtain rfl : k = 6 := by omega
      have hlt := maskOf_lt (p := eqN num ago) 6 (Nat.le_refl _)
      have hpo := pop_le _ hlt
      refine g_iload hC dX2_openRooms_8 rfl ?_
      refine g_bipush (v := nI (6)) hC dX2_openRooms_10 (by decide) ?_
      refine g_icmp_geN (tgt := 73) hC dX2_openRooms_12 (by decide) (by omega) (by omega) (fun h_12 => ?_) (fun h_12 => ?_)
      · skip
        refine g_iload hC dX2_openRooms_73 rfl ?_
        refine g_if_neN (tgt := 80) hC dX2_openRooms_75 (by decide) (by omega) (fun h_75 => ?_) (fun h_75 => ?_)
        · skip
          refine g_iload hC dX2_openRooms_80 rfl ?_
          refine gi_X2_39 hC (is := []) (st := []) (c_J6_bitCount_0f7a4 hlt) dX2_openRooms_82 rfl ⟨by decide, by decide⟩ ⟨by decide, by decide⟩ rfl (by decide) rfl rfl ?_
          refine g_iconst (v := nI (1)) hC dX2_openRooms_85 (by decide) ?_
          refine g_icmp_neN (tgt := 94) hC dX2_openRooms_86 (by decide) (by omega) (by omega) (fun h_86 => ?_) (fun h_86 => ?_)
          · skip
            refine g_iconst (v := nI (0)) hC dX2_openRooms_94 (by decide) ?_
            exact g_iret hC rfl dX2_openRooms_95 (⟨rV (by unfold opn; rw [hany, if_neg (by decide), if_neg h_75, if_neg h_86]), rfl⟩)
          · skip
            refine g_iload hC dX2_openRooms_89 rfl ?_
            refine g_goto (tgt := 95) hC dX2_openRooms_91 (by decide) ?_
            exact g_iret hC rfl dX2_openRooms_95 (⟨rV (by unfold opn; rw [hany, if_neg (by decide), if_neg h_75, if_pos h_86]), rfl⟩)
        · skip
          refine g_iload_n hC dX2_openRooms_78 rfl ?_
          exact g_iret hC rfl dX2_openRooms_79 (⟨rV (by unfold opn; rw [hany, if_neg (by decide), if_pos h_75]), rfl⟩)
      · skip
        omega
    | succ d ih =>
      intro k hk hany
      have hnk := hnum k (by omega)
      have hle := maskOf_lt (p := leN num ago) k (by omega)
      have heq := maskOf_lt (p := eqN num ago) k (by omega)
      refine g_iload hC dX2_openRooms_8 rfl ?_
      refine g_bipush (v := nI (6)) hC dX2_openRooms_10 (by decide) ?_
      refine g_icmp_geN (tgt := 73) hC dX2_openRooms_12 (by decide) (by omega) (by omega) (fun h_12 => ?_) (fun h_12 => ?_)
      · skip
        omega
      · skip
        refine g_aload_n hC dX2_openRooms_15 rfl rfl ?_
        refine g_iload hC dX2_openRooms_16 rfl ?_
        refine g_ialdN hC dX2_openRooms_18 rfl (by omega) (by decide) ?_
        refine g_istore hC dX2_openRooms_19 (by decide) rfl ?_
        refine g_iload hC dX2_openRooms_21 rfl ?_
        refine g_bipush (v := nI (30)) hC dX2_openRooms_23 (by decide) ?_
        refine g_icmp_eqN (tgt := 39) hC dX2_openRooms_25 (by decide) (by omega) (by omega) (fun h_25 => ?_) (fun h_25 => ?_)
        · skip
          refine g_iload hC dX2_openRooms_39 rfl ?_
          refine g_iload_n hC dX2_openRooms_41 rfl ?_
          refine g_icmp_neN (tgt := 54) hC dX2_openRooms_42 (by decide) (by omega) (by omega) (fun h_42 => ?_) (fun h_42 => ?_)
          · skip
            refine g_iload hC dX2_openRooms_54 rfl ?_
            refine g_iload_n hC dX2_openRooms_56 rfl ?_
            refine g_icmp_gtN (tgt := 67) hC dX2_openRooms_57 (by decide) (by omega) (by omega) (fun h_57 => ?_) (fun h_57 => ?_)
            · skip
              refine g_iincN hC dX2_openRooms_67 rfl (by decide) rfl ?_
              refine g_goto (tgt := 8) hC dX2_openRooms_70 (by decide) ?_
              refine g_mask [true, true, true, true, true, true, false] ?_
              have q := ih (k + 1) (by omega) (anyB_f hany (by unfold badN; rw [decide_eq_false (show ¬ num k ≠ 30 from fun z => z h_25), Bool.false_and]))
              rw [maskOf_f (p := eqN num ago) (decide_eq_false h_42), maskOf_f (p := leN num ago) (decide_eq_false (Nat.not_le.mpr h_57))] at q
              exact q
            · skip
              refine g_iload_n hC dX2_openRooms_60 rfl ?_
              refine g_iconst (v := nI (1)) hC dX2_openRooms_61 (by decide) ?_
              refine g_iload hC dX2_openRooms_62 rfl ?_
              refine g_ishl hC dX2_openRooms_64 rfl ?_
              refine g_ior (v := nI (maskOf (leN num ago) k ||| (1 <<< k))) hC dX2_openRooms_65 (or_bit _ hle _ (by omega)) ?_
              refine g_istore_n hC dX2_openRooms_66 (by decide) rfl ?_
              refine g_iincN hC dX2_openRooms_67 rfl (by decide) rfl ?_
              refine g_goto (tgt := 8) hC dX2_openRooms_70 (by decide) ?_
              refine g_mask [true, true, true, true, true, true, false] ?_
              have q := ih (k + 1) (by omega) (anyB_f hany (by unfold badN; rw [decide_eq_false (show ¬ num k ≠ 30 from fun z => z h_25), Bool.false_and]))
              rw [maskOf_f (p := eqN num ago) (decide_eq_false h_42), maskOf_t (p := leN num ago) (decide_eq_true h_57)] at q
              exact q
          · skip
            refine g_iload hC dX2_openRooms_45 rfl ?_
            refine g_iconst (v := nI (1)) hC dX2_openRooms_47 (by decide) ?_
            refine g_iload hC dX2_openRooms_48 rfl ?_
            refine g_ishl hC dX2_openRooms_50 rfl ?_
            refine g_ior (v := nI (maskOf (eqN num ago) k ||| (1 <<< k))) hC dX2_openRooms_51 (or_bit _ heq _ (by omega)) ?_
            refine g_istore hC dX2_openRooms_52 (by decide) rfl ?_
            refine g_iload hC dX2_openRooms_54 rfl ?_
            refine g_iload_n hC dX2_openRooms_56 rfl ?_
            refine g_icmp_gtN (tgt := 67) hC dX2_openRooms_57 (by decide) (by omega) (by omega) (fun h_57 => ?_) (fun h_57 => ?_)
            · skip
              refine g_iincN hC dX2_openRooms_67 rfl (by decide) rfl ?_
              refine g_goto (tgt := 8) hC dX2_openRooms_70 (by decide) ?_
              refine g_mask [true, true, true, true, true, true, false] ?_
              have q := ih (k + 1) (by omega) (anyB_f hany (by unfold badN; rw [decide_eq_false (show ¬ num k ≠ 30 from fun z => z h_25), Bool.false_and]))
              rw [maskOf_t (p := eqN num ago) (decide_eq_true h_42), maskOf_f (p := leN num ago) (decide_eq_false (Nat.not_le.mpr h_57))] at q
              exact q
            · skip
              refine g_iload_n hC dX2_openRooms_60 rfl ?_
              refine g_iconst (v := nI (1)) hC dX2_openRooms_61 (by decide) ?_
              refine g_iload hC dX2_openRooms_62 rfl ?_
              refine g_ishl hC dX2_openRooms_64 rfl ?_
              refine g_ior (v := nI (maskOf (leN num ago) k ||| (1 <<< k))) hC dX2_openRooms_65 (or_bit _ hle _ (by omega)) ?_
              refine g_istore_n hC dX2_openRooms_66 (by decide) rfl ?_
              refine g_iincN hC dX2_openRooms_67 rfl (by decide) rfl ?_
              refine g_goto (tgt := 8) hC dX2_openRooms_70 (by decide) ?_
              refine g_mask [true, true, true, true, true, true, false] ?_
              have q := ih (k + 1) (by omega) (anyB_f hany (by unfold badN; rw [decide_eq_false (show ¬ num k ≠ 30 from fun z => z h_25), Bool.false_and]))
              rw [maskOf_t (p := eqN num ago) (decide_eq_true h_42), maskOf_t (p := leN num ago) (decide_eq_true h_57)] at q
              exact q
        · skip
          refine g_iload hC dX2_openRooms_28 rfl ?_
          refine g_aload_n hC dX2_openRooms_30 rfl rfl ?_
          refine gf_X2_last hC dX2_openRooms_31 rfl rfl ?_
          refine g_icmp_leN (tgt := 39) hC dX2_openRooms_34 (by decide) (by omega) (by omega) (fun h_34 => ?_) (fun h_34 => ?_)
          · skip
            refine g_iload hC dX2_openRooms_39 rfl ?_
            refine g_iload_n hC dX2_openRooms_41 rfl ?_
            refine g_icmp_neN (tgt := 54) hC dX2_openRooms_42 (by decide) (by omega) (by omega) (fun h_42 => ?_) (fun h_42 => ?_)
            · skip
              refine g_iload hC dX2_openRooms_54 rfl ?_
              refine g_iload_n hC dX2_openRooms_56 rfl ?_
              refine g_icmp_gtN (tgt := 67) hC dX2_openRooms_57 (by decide) (by omega) (by omega) (fun h_57 => ?_) (fun h_57 => ?_)
              · skip
                refine g_iincN hC dX2_openRooms_67 rfl (by decide) rfl ?_
                refine g_goto (tgt := 8) hC dX2_openRooms_70 (by decide) ?_
                refine g_mask [true, true, true, true, true, true, false] ?_
                have q := ih (k + 1) (by omega) (anyB_f hany (by unfold badN; rw [decide_eq_false (Nat.not_lt.mpr h_34), Bool.and_false]))
                rw [maskOf_f (p := eqN num ago) (decide_eq_false h_42), maskOf_f (p := leN num ago) (decide_eq_false (Nat.not_le.mpr h_57))] at q
                exact q
              · skip
                refine g_iload_n hC dX2_openRooms_60 rfl ?_
                refine g_iconst (v := nI (1)) hC dX2_openRooms_61 (by decide) ?_
                refine g_iload hC dX2_openRooms_62 rfl ?_
                refine g_ishl hC dX2_openRooms_64 rfl ?_
                refine g_ior (v := nI (maskOf (leN num ago) k ||| (1 <<< k))) hC dX2_openRooms_65 (or_bit _ hle _ (by omega)) ?_
                refine g_istore_n hC dX2_openRooms_66 (by decide) rfl ?_
                refine g_iincN hC dX2_openRooms_67 rfl (by decide) rfl ?_
                refine g_goto (tgt := 8) hC dX2_openRooms_70 (by decide) ?_
                refine g_mask [true, true, true, true, true, true, false] ?_
                have q := ih (k + 1) (by omega) (anyB_f hany (by unfold badN; rw [decide_eq_false (Nat.not_lt.mpr h_34), Bool.and_false]))
                rw [maskOf_f (p := eqN num ago) (decide_eq_false h_42), maskOf_t (p := leN num ago) (decide_eq_true h_57)] at q
                exact q
            · skip
              refine g_iload hC dX2_openRooms_45 rfl ?_
              refine g_iconst (v := nI (1)) hC dX2_openRooms_47 (by decide) ?_
              refine g_iload hC dX2_openRooms_48 rfl ?_
              refine g_ishl hC dX2_openRooms_50 rfl ?_
              refine g_ior (v := nI (maskOf (eqN num ago) k ||| (1 <<< k))) hC dX2_openRooms_51 (or_bit _ heq _ (by omega)) ?_
              refine g_istore hC dX2_openRooms_52 (by decide) rfl ?_
              refine g_iload hC dX2_openRooms_54 rfl ?_
              refine g_iload_n hC dX2_openRooms_56 rfl ?_
              refine g_icmp_gtN (tgt := 67) hC dX2_openRooms_57 (by decide) (by omega) (by omega) (fun h_57 => ?_) (fun h_57 => ?_)
              · skip
                refine g_iincN hC dX2_openRooms_67 rfl (by decide) rfl ?_
                refine g_goto (tgt := 8) hC dX2_openRooms_70 (by decide) ?_
                refine g_mask [true, true, true, true, true, true, false] ?_
                have q := ih (k + 1) (by omega) (anyB_f hany (by unfold badN; rw [decide_eq_false (Nat.not_lt.mpr h_34), Bool.and_false]))
                rw [maskOf_t (p := eqN num ago) (decide_eq_true h_42), maskOf_f (p := leN num ago) (decide_eq_false (Nat.not_le.mpr h_57))] at q
                exact q
              · skip
                refine g_iload_n hC dX2_openRooms_60 rfl ?_
                refine g_iconst (v := nI (1)) hC dX2_openRooms_61 (by decide) ?_
                refine g_iload hC dX2_openRooms_62 rfl ?_
                refine g_ishl hC dX2_openRooms_64 rfl ?_
                refine g_ior (v := nI (maskOf (leN num ago) k ||| (1 <<< k))) hC dX2_openRooms_65 (or_bit _ hle _ (by omega)) ?_
                refine g_istore_n hC dX2_openRooms_66 (by decide) rfl ?_
                refine g_iincN hC dX2_openRooms_67 rfl (by decide) rfl ?_
                refine g_goto (tgt := 8) hC dX2_openRooms_70 (by decide) ?_
                refine g_mask [true, true, true, true, true, true, false] ?_
                have q := ih (k + 1) (by omega) (anyB_f hany (by unfold badN; rw [decide_eq_false (Nat.not_lt.mpr h_34), Bool.and_false]))
                rw [maskOf_t (p := eqN num ago) (decide_eq_true h_42), maskOf_t (p := leN num ago) (decide_eq_true h_57)] at q
                exact q
          · skip
            refine g_iconst (v := nI (0)) hC dX2_openRooms_37 (by decide) ?_
            exact g_iret hC rfl dX2_openRooms_38 (⟨rV (by unfold opn; rw [anyB_t (p := badN num last) (k := k) (by unfold badN; rw [decide_eq_true h_25, decide_eq_true h_34]; rfl) 6 (by omega), if_pos rfl]), rfl⟩)
  refine g_iconst (v := nI (0)) hC dX2_openRooms_0 (by decide) ?_
  refine g_istore_n hC dX2_openRooms_1 (by decide) rfl ?_
  refine g_iconst (v := nI (0)) hC dX2_openRooms_2 (by decide) ?_
  refine g_istore hC dX2_openRooms_3 (by decide) rfl ?_
  refine g_iconst (v := nI (0)) hC dX2_openRooms_5 (by decide) ?_
  refine g_istore hC dX2_openRooms_6 (by decide) rfl ?_
  exact loop 6 0 (by omega) rfl

set_option maxRecDepth 100000 in
set_option maxHeartbeats 4000000 in
theorem c_X2_openWays (op : Nat → Nat) (to on : Nat → Nat → Nat) (last : Nat) {m r : Nat} (hm : m < 9) (hop : op m < 64) (hr : r < 6) (x : Nat) : ConF yX2_openWays cX2_openWays 4 (some .int) 0 [aR 0 0 0, aI (nI (m)), aI (nI (r)), aI (nI (x))] [walksG op to on last] (some (aI (nI (if (op m).testBit r then x else 0)))) [walksG op to on last] := by
  refine con_of RX2 pn_X2 rfl rfl (Nat.le_of_ble_eq_true rfl) (fun C hM0 hC => ?_)
  show G C 0 0 0 [aR 0 0 0, aI (nI (m)), aI (nI (r)), aI (nI (x))] [] [walksG op to on last]
  refine g_aload_n hC dX2_openWays_0 rfl rfl ?_
  refine gf_X2_open hC dX2_openWays_1 rfl rfl ?_
  refine g_iload_n hC dX2_openWays_4 rfl ?_
  refine g_ialdN hC dX2_openWays_5 rfl (by omega) (by decide) ?_
  refine g_iload_n hC dX2_openWays_6 rfl ?_
  refine g_ishr hC dX2_openWays_7 rfl ?_
  refine g_iconst (v := nI (1)) hC dX2_openWays_8 (by decide) ?_
  refine g_iand (v := nI (((op m).testBit r).toNat)) hC dX2_openWays_9 (shr_bit _ hop _ hr) ?_
  refine g_iconst (v := nI (1)) hC dX2_openWays_10 (by decide) ?_
  refine g_icmp_neN (tgt := 18) hC dX2_openWays_11 (by decide) (bt_lt _) (by omega) (fun h_11 => ?_) (fun h_11 => ?_)
  · skip
    refine g_iconst (v := nI (0)) hC dX2_openWays_18 (by decide) ?_
    exact g_iret hC rfl dX2_openWays_19 (⟨rV (by rw [b0 h_11]; rfl), rfl⟩)
  · skip
    refine g_iload_n hC dX2_openWays_14 rfl ?_
    refine g_goto (tgt := 19) hC dX2_openWays_15 (by decide) ?_
    exact g_iret hC rfl dX2_openWays_19 (⟨rV (by rw [b1 h_11]; rfl), rfl⟩)

set_option maxRecDepth 100000 in
set_option maxHeartbeats 4000000 in
theorem c_X2_sumWithin (v : Vw) (rf : Nat) (go : Nat → Nat) {B : Nat} (hv : wf B v) (hB : B ≤ 200) (op : Nat → Nat) (to on : Nat → Nat → Nat) (last : Nat) {m r : Nat} (hm : m < 9) (hr : r < 6) : ConF yX2_sumWithin cX2_sumWithin 5 (some .int) 1 [aR 0 2 (m + 1), aI (nI (r)), aR 1 0 0] [walksG op to on last, townG v rf go] (some (aI (nI (sw v (to m) r 6)))) [walksG op to on last, townG v rf go] := by
  refine con_of RX2 pn_X2 rfl rfl (Nat.le_of_ble_eq_true rfl) (fun C hM0 hC => ?_)
  show G C 0 0 0 [aR 0 2 (m + 1), aI (nI (r)), aR 1 0 0, aK 9, aK 9] [] [walksG op to on last, townG v rf go]
  have loop : ∀ d k, k + d = 6 → G C 0 0 7 [aR 0 2 (m + 1), aI (nI (r)), aR 1 0 0, aI (nI (sw v (to m) r k)), aI (nI (k))] [] [walksG op to on last, townG v rf go] := by
    intro d
    induction d with
    | zero =>
      intro k hk
      refine g_iload hC dX2_sumWithin_7 rfl ?_
      refine g_bipush (v := nI (6)) hC dX2_sumWithin_9 (by decide) ?_
      refine g_icmp_geN (tgt := 37) hC dX2_sumWithin_11 (by decide) (by omega) (by omega) (fun h_11 => ?_) (fun h_11 => ?_)
      · skip
        refine g_iload_n hC dX2_sumWithin_37 rfl ?_
        exact g_iret hC rfl dX2_sumWithin_38 (⟨rV (by rw [show k = 6 by omega]), rfl⟩)
      · skip
        omega
    | succ d ih =>
      intro k hk
      refine g_iload hC dX2_sumWithin_7 rfl ?_
      refine g_bipush (v := nI (6)) hC dX2_sumWithin_9 (by decide) ?_
      refine g_icmp_geN (tgt := 37) hC dX2_sumWithin_11 (by decide) (by omega) (by omega) (fun h_11 => ?_) (fun h_11 => ?_)
      · skip
        omega
      · skip
        refine g_aload_n hC dX2_sumWithin_14 rfl rfl ?_
        refine g_iload_n hC dX2_sumWithin_15 rfl ?_
        refine g_iload hC dX2_sumWithin_16 rfl ?_
        refine gi_X2_45 hC (is := [1]) (st := []) (c_X1_isPath v rf go hr (show k < 6 by omega) (wf_pa hv _ hr)) dX2_sumWithin_18 rfl ⟨by decide, by decide⟩ ⟨by decide, by decide⟩ rfl (by decide) rfl rfl rfl ?_
        refine g_if_eqB (tgt := 31) hC dX2_sumWithin_21 (by decide) (fun h_21 => ?_) (fun h_21 => ?_)
        · skip
          refine g_iincN hC dX2_sumWithin_31 rfl (by decide) rfl ?_
          refine g_goto (tgt := 7) hC dX2_sumWithin_34 (by decide) ?_
          refine g_mask [true, true, true, true, true] ?_
          have q := ih (k + 1) (by omega)
          rw [sw_f h_21] at q
          exact q
        · skip
          refine g_iload_n hC dX2_sumWithin_24 rfl ?_
          refine g_aload_n hC dX2_sumWithin_25 rfl rfl ?_
          refine g_iload hC dX2_sumWithin_26 rfl ?_
          refine g_iald2N hC dX2_sumWithin_28 rfl (by omega) (by omega) (by decide) ?_
          refine g_iaddN hC dX2_sumWithin_29 ?_
          refine g_istore_n hC dX2_sumWithin_30 (by decide) rfl ?_
          refine g_iincN hC dX2_sumWithin_31 rfl (by decide) rfl ?_
          refine g_goto (tgt := 7) hC dX2_sumWithin_34 (by decide) ?_
          refine g_mask [true, true, true, true, true] ?_
          have q := ih (k + 1) (by omega)
          rw [sw_t h_21] at q
          exact q
  refine g_aload_n hC dX2_sumWithin_0 rfl rfl ?_
  refine g_iload_n hC dX2_sumWithin_1 rfl ?_
  refine g_iald2N hC dX2_sumWithin_2 rfl (by omega) (by omega) (by decide) ?_
  refine g_istore_n hC dX2_sumWithin_3 (by decide) rfl ?_
  refine g_iconst (v := nI (0)) hC dX2_sumWithin_4 (by decide) ?_
  refine g_istore hC dX2_sumWithin_5 (by decide) rfl ?_
  exact loop 6 0 (by omega)

set_option maxRecDepth 100000 in
set_option maxHeartbeats 4000000 in
theorem c_X2_sumWithinOn (v : Vw) (rf : Nat) (go : Nat → Nat) {B : Nat} (hv : wf B v) (hB : B ≤ 200) (op : Nat → Nat) (to on : Nat → Nat → Nat) (last : Nat) {m r : Nat} (hm : m < 9) (hr : r < 6) : ConF yX2_sumWithin cX2_sumWithin 5 (some .int) 1 [aR 0 3 (m + 1), aI (nI (r)), aR 1 0 0] [walksG op to on last, townG v rf go] (some (aI (nI (sw v (on m) r 6)))) [walksG op to on last, townG v rf go] := by
  refine con_of RX2 pn_X2 rfl rfl (Nat.le_of_ble_eq_true rfl) (fun C hM0 hC => ?_)
  show G C 0 0 0 [aR 0 3 (m + 1), aI (nI (r)), aR 1 0 0, aK 9, aK 9] [] [walksG op to on last, townG v rf go]
  have loop : ∀ d k, k + d = 6 → G C 0 0 7 [aR 0 3 (m + 1), aI (nI (r)), aR 1 0 0, aI (nI (sw v (on m) r k)), aI (nI (k))] [] [walksG op to on last, townG v rf go] := by
    intro d
    induction d with
    | zero =>
      intro k hk
      refine g_iload hC dX2_sumWithin_7 rfl ?_
      refine g_bipush (v := nI (6)) hC dX2_sumWithin_9 (by decide) ?_
      refine g_icmp_geN (tgt := 37) hC dX2_sumWithin_11 (by decide) (by omega) (by omega) (fun h_11 => ?_) (fun h_11 => ?_)
      · skip
        refine g_iload_n hC dX2_sumWithin_37 rfl ?_
        exact g_iret hC rfl dX2_sumWithin_38 (⟨rV (by rw [show k = 6 by omega]), rfl⟩)
      · skip
        omega
    | succ d ih =>
      intro k hk
      refine g_iload hC dX2_sumWithin_7 rfl ?_
      refine g_bipush (v := nI (6)) hC dX2_sumWithin_9 (by decide) ?_
      refine g_icmp_geN (tgt := 37) hC dX2_sumWithin_11 (by decide) (by omega) (by omega) (fun h_11 => ?_) (fun h_11 => ?_)
      · skip
        omega
      · skip
        refine g_aload_n hC dX2_sumWithin_14 rfl rfl ?_
        refine g_iload_n hC dX2_sumWithin_15 rfl ?_
        refine g_iload hC dX2_sumWithin_16 rfl ?_
        refine gi_X2_45 hC (is := [1]) (st := []) (c_X1_isPath v rf go hr (show k < 6 by omega) (wf_pa hv _ hr)) dX2_sumWithin_18 rfl ⟨by decide, by decide⟩ ⟨by decide, by decide⟩ rfl (by decide) rfl rfl rfl ?_
        refine g_if_eqB (tgt := 31) hC dX2_sumWithin_21 (by decide) (fun h_21 => ?_) (fun h_21 => ?_)
        · skip
          refine g_iincN hC dX2_sumWithin_31 rfl (by decide) rfl ?_
          refine g_goto (tgt := 7) hC dX2_sumWithin_34 (by decide) ?_
          refine g_mask [true, true, true, true, true] ?_
          have q := ih (k + 1) (by omega)
          rw [sw_f h_21] at q
          exact q
        · skip
          refine g_iload_n hC dX2_sumWithin_24 rfl ?_
          refine g_aload_n hC dX2_sumWithin_25 rfl rfl ?_
          refine g_iload hC dX2_sumWithin_26 rfl ?_
          refine g_iald2N hC dX2_sumWithin_28 rfl (by omega) (by omega) (by decide) ?_
          refine g_iaddN hC dX2_sumWithin_29 ?_
          refine g_istore_n hC dX2_sumWithin_30 (by decide) rfl ?_
          refine g_iincN hC dX2_sumWithin_31 rfl (by decide) rfl ?_
          refine g_goto (tgt := 7) hC dX2_sumWithin_34 (by decide) ?_
          refine g_mask [true, true, true, true, true] ?_
          have q := ih (k + 1) (by omega)
          rw [sw_t h_21] at q
          exact q
  refine g_aload_n hC dX2_sumWithin_0 rfl rfl ?_
  refine g_iload_n hC dX2_sumWithin_1 rfl ?_
  refine g_iald2N hC dX2_sumWithin_2 rfl (by omega) (by omega) (by decide) ?_
  refine g_istore_n hC dX2_sumWithin_3 (by decide) rfl ?_
  refine g_iconst (v := nI (0)) hC dX2_sumWithin_4 (by decide) ?_
  refine g_istore hC dX2_sumWithin_5 (by decide) rfl ?_
  exact loop 6 0 (by omega)

set_option maxRecDepth 100000 in
set_option maxHeartbeats 4000000 in
theorem c_X2_waysThrough (op : Nat → Nat) (to on : Nat → Nat → Nat) (last : Nat) {m r : Nat} (hm : m < 9) (hr : r < 6) : ConF yX2_waysThrough cX2_waysThrough 3 (some .int) 0 [aR 0 0 0, aI (nI (m)), aI (nI (r))] [walksG op to on last] (some (aI (nI (to m r * on m r)))) [walksG op to on last] := by
  refine con_of RX2 pn_X2 rfl rfl (Nat.le_of_ble_eq_true rfl) (fun C hM0 hC => ?_)
  show G C 0 0 0 [aR 0 0 0, aI (nI (m)), aI (nI (r))] [] [walksG op to on last]
  refine g_aload_n hC dX2_waysThrough_0 rfl rfl ?_
  refine gf_X2_waysTo hC dX2_waysThrough_1 rfl rfl ?_
  refine g_iload_n hC dX2_waysThrough_4 rfl ?_
  refine g_aaldN hC dX2_waysThrough_5 rfl (by omega) (by decide) ?_
  refine g_iload_n hC dX2_waysThrough_6 rfl ?_
  refine g_iald2N hC dX2_waysThrough_7 rfl (by omega) (by omega) (by decide) ?_
  refine g_aload_n hC dX2_waysThrough_8 rfl rfl ?_
  refine gf_X2_waysOn hC dX2_waysThrough_9 rfl rfl ?_
  refine g_iload_n hC dX2_waysThrough_12 rfl ?_
  refine g_aaldN hC dX2_waysThrough_13 rfl (by omega) (by decide) ?_
  refine g_iload_n hC dX2_waysThrough_14 rfl ?_
  refine g_iald2N hC dX2_waysThrough_15 rfl (by omega) (by omega) (by decide) ?_
  refine g_imulN hC dX2_waysThrough_16 ?_
  exact g_iret hC rfl dX2_waysThrough_17 (⟨rfl, rfl⟩)

set_option maxRecDepth 100000 in
set_option maxHeartbeats 4000000 in
theorem c_X2_ways (op : Nat → Nat) (to on : Nat → Nat → Nat) (last : Nat) (hla : last < 9) : ConF yX2_ways cX2_ways 3 (some .int) 0 [aR 0 0 0] [walksG op to on last] (some (aI (nI (sumN (to last) 6)))) [walksG op to on last] := by
  refine con_of RX2 pn_X2 rfl rfl (Nat.le_of_ble_eq_true rfl) (fun C hM0 hC => ?_)
  show G C 0 0 0 [aR 0 0 0, aK 9, aK 9] [] [walksG op to on last]
  have loop : ∀ d k, k + d = 6 → G C 0 0 4 [aR 0 0 0, aI (nI (sumN (to last) k)), aI (nI (k))] [] [walksG op to on last] := by
    intro d
    induction d with
    | zero =>
      intro k hk
      refine g_iload_n hC dX2_ways_4 rfl ?_
      refine g_bipush (v := nI (6)) hC dX2_ways_5 (by decide) ?_
      refine g_icmp_geN (tgt := 30) hC dX2_ways_7 (by decide) (by omega) (by omega) (fun h_7 => ?_) (fun h_7 => ?_)
      · skip
        refine g_iload_n hC dX2_ways_30 rfl ?_
        exact g_iret hC rfl dX2_ways_31 (⟨rV (by rw [show k = 6 by omega]), rfl⟩)
      · skip
        omega
    | succ d ih =>
      intro k hk
      refine g_iload_n hC dX2_ways_4 rfl ?_
      refine g_bipush (v := nI (6)) hC dX2_ways_5 (by decide) ?_
      refine g_icmp_geN (tgt := 30) hC dX2_ways_7 (by decide) (by omega) (by omega) (fun h_7 => ?_) (fun h_7 => ?_)
      · skip
        omega
      · skip
        refine g_iload_n hC dX2_ways_10 rfl ?_
        refine g_aload_n hC dX2_ways_11 rfl rfl ?_
        refine gf_X2_waysTo hC dX2_ways_12 rfl rfl ?_
        refine g_aload_n hC dX2_ways_15 rfl rfl ?_
        refine gf_X2_last hC dX2_ways_16 rfl rfl ?_
        refine g_aaldN hC dX2_ways_19 rfl (by omega) (by decide) ?_
        refine g_iload_n hC dX2_ways_20 rfl ?_
        refine g_iald2N hC dX2_ways_21 rfl (by omega) (by omega) (by decide) ?_
        refine g_iaddN hC dX2_ways_22 ?_
        refine g_istore_n hC dX2_ways_23 (by decide) rfl ?_
        refine g_iincN hC dX2_ways_24 rfl (by decide) rfl ?_
        refine g_goto (tgt := 4) hC dX2_ways_27 (by decide) ?_
        refine g_mask [true, true, true] ?_
        have q := ih (k + 1) (by omega)
        exact q
  refine g_iconst (v := nI (0)) hC dX2_ways_0 (by decide) ?_
  refine g_istore_n hC dX2_ways_1 (by decide) rfl ?_
  refine g_iconst (v := nI (0)) hC dX2_ways_2 (by decide) ?_
  refine g_istore_n hC dX2_ways_3 (by decide) rfl ?_
  refine g_mask [true, true, true] ?_
  exact loop 6 0 (by omega)

set_option maxRecDepth 100000 in
set_option maxHeartbeats 4000000 in
theorem c_X2_commonestRoom (op : Nat → Nat) (to on : Nat → Nat → Nat) (last : Nat) {m : Nat} (hm : m < 9) (hlt : ∀ r, r < 6 → to m r * on m r < 2 ^ 31) : ConF yX2_commonestRoom cX2_commonestRoom 6 (some .int) 1 [aR 0 0 0, aI (nI (m))] [walksG op to on last] (some (aI (oI (-9) (com (fun r => to m r * on m r) 6).1))) [walksG op to on last] := by
  refine con_of RX2 pn_X2 rfl rfl (Nat.le_of_ble_eq_true rfl) (fun C hM0 hC => ?_)
  show G C 0 0 0 [aR 0 0 0, aI (nI (m)), aK 9, aK 9, aK 9, aK 9] [] [walksG op to on last]
  have loop : ∀ d k, k + d = 6 → G C 0 0 8 [aR 0 0 0, aI (nI (m)), aI (oI (-9) ((com (fun r => to m r * on m r) k).1)), aI (nI ((com (fun r => to m r * on m r) k).2)), aI (nI (k)), aK 9] [] [walksG op to on last] := by
    intro d
    induction d with
    | zero =>
      intro k hk
      refine g_iload hC dX2_commonestRoom_8 rfl ?_
      refine g_bipush (v := nI (6)) hC dX2_commonestRoom_10 (by decide) ?_
      refine g_icmp_geN (tgt := 42) hC dX2_commonestRoom_12 (by decide) (by omega) (by omega) (fun h_12 => ?_) (fun h_12 => ?_)
      · skip
        refine g_iload_n hC dX2_commonestRoom_42 rfl ?_
        exact g_iret hC rfl dX2_commonestRoom_43 (⟨rV (by rw [show k = 6 by omega]), rfl⟩)
      · skip
        omega
    | succ d ih =>
      intro k hk
      refine g_iload hC dX2_commonestRoom_8 rfl ?_
      refine g_bipush (v := nI (6)) hC dX2_commonestRoom_10 (by decide) ?_
      refine g_icmp_geN (tgt := 42) hC dX2_commonestRoom_12 (by decide) (by omega) (by omega) (fun h_12 => ?_) (fun h_12 => ?_)
      · skip
        omega
      · skip
        refine g_aload_n hC dX2_commonestRoom_15 rfl rfl ?_
        refine g_iload_n hC dX2_commonestRoom_16 rfl ?_
        refine g_iload hC dX2_commonestRoom_17 rfl ?_
        refine gi_X2_51 hC (is := [0]) (st := []) (c_X2_waysThrough op to on last hm (show k < 6 by omega)) dX2_commonestRoom_19 rfl ⟨by decide, by decide⟩ ⟨by decide, by decide⟩ rfl (by decide) rfl rfl rfl ?_
        refine g_istore hC dX2_commonestRoom_22 (by decide) rfl ?_
        refine g_iload hC dX2_commonestRoom_24 rfl ?_
        refine g_iload_n hC dX2_commonestRoom_26 rfl ?_
        refine g_icmp_leN (tgt := 36) hC dX2_commonestRoom_27 (by decide) (hlt k (by omega)) (com_lt (f := (fun r => to m r * on m r)) (by decide) k (fun i hi => hlt i (by omega))) (fun h_27 => ?_) (fun h_27 => ?_)
        · skip
          refine g_iincN hC dX2_commonestRoom_36 rfl (by decide) rfl ?_
          refine g_goto (tgt := 8) hC dX2_commonestRoom_39 (by decide) ?_
          refine g_mask [true, true, true, true, true, false] ?_
          have q := ih (k + 1) (by omega)
          rw [com_f (f := (fun r => to m r * on m r)) h_27] at q
          exact q
        · skip
          refine g_iload hC dX2_commonestRoom_30 rfl ?_
          refine g_istore_n hC dX2_commonestRoom_32 (by decide) rfl ?_
          refine g_iload hC dX2_commonestRoom_33 rfl ?_
          refine g_istore_n hC dX2_commonestRoom_35 (by decide) rfl ?_
          refine g_iincN hC dX2_commonestRoom_36 rfl (by decide) rfl ?_
          refine g_goto (tgt := 8) hC dX2_commonestRoom_39 (by decide) ?_
          refine g_mask [true, true, true, true, true, false] ?_
          have q := ih (k + 1) (by omega)
          rw [com_t (f := (fun r => to m r * on m r)) h_27] at q
          exact q
  refine g_bipush (v := (-9)) hC dX2_commonestRoom_0 (by decide) ?_
  refine g_istore_n hC dX2_commonestRoom_2 (by decide) rfl ?_
  refine g_iconst (v := nI (0)) hC dX2_commonestRoom_3 (by decide) ?_
  refine g_istore_n hC dX2_commonestRoom_4 (by decide) rfl ?_
  refine g_iconst (v := nI (0)) hC dX2_commonestRoom_5 (by decide) ?_
  refine g_istore hC dX2_commonestRoom_6 (by decide) rfl ?_
  refine g_mask [true, true, true, true, true, false] ?_
  exact loop 6 0 (by omega)

set_option maxRecDepth 100000 in
set_option maxHeartbeats 4000000 in
theorem c_X2_roomsThen (op : Nat → Nat) (to on : Nat → Nat → Nat) (last : Nat) {m : Nat} (hm : m < 9) (hlt : ∀ r, r < 6 → to m r * on m r < 2 ^ 31) : ConF yX2_roomsThen cX2_roomsThen 4 (some .int) 1 [aR 0 0 0, aI (nI (m))] [walksG op to on last] (some (aI (nI (maskOf (fun r => decide (0 < to m r * on m r)) 6)))) [walksG op to on last] := by
  refine con_of RX2 pn_X2 rfl rfl (Nat.le_of_ble_eq_true rfl) (fun C hM0 hC => ?_)
  show G C 0 0 0 [aR 0 0 0, aI (nI (m)), aK 9, aK 9] [] [walksG op to on last]
  have loop : ∀ d k, k + d = 6 → G C 0 0 4 [aR 0 0 0, aI (nI (m)), aI (nI (maskOf (fun r => decide (0 < to m r * on m r)) k)), aI (nI (k))] [] [walksG op to on last] := by
    intro d
    induction d with
    | zero =>
      intro k hk
      refine g_iload_n hC dX2_roomsThen_4 rfl ?_
      refine g_bipush (v := nI (6)) hC dX2_roomsThen_5 (by decide) ?_
      refine g_icmp_geN (tgt := 31) hC dX2_roomsThen_7 (by decide) (by omega) (by omega) (fun h_7 => ?_) (fun h_7 => ?_)
      · skip
        refine g_iload_n hC dX2_roomsThen_31 rfl ?_
        exact g_iret hC rfl dX2_roomsThen_32 (⟨rV (by rw [show k = 6 by omega]), rfl⟩)
      · skip
        omega
    | succ d ih =>
      intro k hk
      refine g_iload_n hC dX2_roomsThen_4 rfl ?_
      refine g_bipush (v := nI (6)) hC dX2_roomsThen_5 (by decide) ?_
      refine g_icmp_geN (tgt := 31) hC dX2_roomsThen_7 (by decide) (by omega) (by omega) (fun h_7 => ?_) (fun h_7 => ?_)
      · skip
        omega
      · skip
        refine g_aload_n hC dX2_roomsThen_10 rfl rfl ?_
        refine g_iload_n hC dX2_roomsThen_11 rfl ?_
        refine g_iload_n hC dX2_roomsThen_12 rfl ?_
        refine gi_X2_51 hC (is := [0]) (st := []) (c_X2_waysThrough op to on last hm (show k < 6 by omega)) dX2_roomsThen_13 rfl ⟨by decide, by decide⟩ ⟨by decide, by decide⟩ rfl (by decide) rfl rfl rfl ?_
        refine g_if_leN (tgt := 25) hC dX2_roomsThen_16 (by decide) (hlt k (by omega)) (fun h_16 => ?_) (fun h_16 => ?_)
        · skip
          refine g_iincN hC dX2_roomsThen_25 rfl (by decide) rfl ?_
          refine g_goto (tgt := 4) hC dX2_roomsThen_28 (by decide) ?_
          refine g_mask [true, true, true, true] ?_
          have q := ih (k + 1) (by omega)
          rw [maskOf_f (p := (fun r => decide (0 < to m r * on m r))) (decide_eq_false (by omega))] at q
          exact q
        · skip
          refine g_iload_n hC dX2_roomsThen_19 rfl ?_
          refine g_iconst (v := nI (1)) hC dX2_roomsThen_20 (by decide) ?_
          refine g_iload_n hC dX2_roomsThen_21 rfl ?_
          refine g_ishl hC dX2_roomsThen_22 rfl ?_
          refine g_ior (v := nI (maskOf (fun r => decide (0 < to m r * on m r)) k ||| (1 <<< k))) hC dX2_roomsThen_23 (or_bit _ (maskOf_lt k (by omega)) _ (by omega)) ?_
          refine g_istore_n hC dX2_roomsThen_24 (by decide) rfl ?_
          refine g_iincN hC dX2_roomsThen_25 rfl (by decide) rfl ?_
          refine g_goto (tgt := 4) hC dX2_roomsThen_28 (by decide) ?_
          refine g_mask [true, true, true, true] ?_
          have q := ih (k + 1) (by omega)
          rw [maskOf_t (p := (fun r => decide (0 < to m r * on m r))) (decide_eq_true h_16)] at q
          exact q
  refine g_iconst (v := nI (0)) hC dX2_roomsThen_0 (by decide) ?_
  refine g_istore_n hC dX2_roomsThen_1 (by decide) rfl ?_
  refine g_iconst (v := nI (0)) hC dX2_roomsThen_2 (by decide) ?_
  refine g_istore_n hC dX2_roomsThen_3 (by decide) rfl ?_
  refine g_mask [true, true, true, true] ?_
  exact loop 6 0 (by omega)

set_option maxRecDepth 100000 in
set_option maxHeartbeats 4000000 in
theorem c_X2_find (v : Vw) (rf : Nat) (go : Nat → Nat) {B : Nat} (hv : wf B v) (hB : B ≤ 200) (op : Nat → Nat) (to on : Nat → Nat → Nat) (last : Nat) (num : Nat → Nat) (hnum : ∀ r, r < 6 → num r < 2 ^ 31) {n : Nat} (hn : n ≤ 8) : ConF yX2_find cX2_find 6 none 2 [aR 0 0 0, aR 1 0 0, aI (nI (n)), aR 2 0 0] [walksG op to on last, [cA 12 (fun j => nI (num j))], townG v rf go] none [walksG (opF num n op (n + 1)) (toF v num n to (n + 1) 0) (onR v num n on 0) n, [cA 12 (fun j => nI (num j))], townG v rf go] := by
  refine con_of RX2 pn_X2 rfl rfl (Nat.le_of_ble_eq_true rfl) (fun C hM0 hC => ?_)
  show G C 0 0 0 [aR 0 0 0, aR 1 0 0, aI (nI (n)), aR 2 0 0, aK 9, aK 9] [] [walksG op to on last, [cA 12 (fun j => nI (num j))], townG v rf go]
  have loopC : ∀ m, m ≤ n + 1 → G C 0 0 119 [aR 0 0 0, aR 1 0 0, aI (nI n), aR 2 0 0, aI (dec m), aK 9] [] [walksG (opF num n op (n + 1)) (toF v num n to (n + 1) 0) (onR v num n on m) n, [cA 12 (fun j => nI (num j))], townG v rf go] := by
    intro m
    induction m with
    | zero =>
      intro hm
      show G C 0 0 119 [aR 0 0 0, aR 1 0 0, aI (nI n), aR 2 0 0, aI (-1), aK 9] [] _
      refine g_iload hC dX2_find_119 rfl ?_
      refine g_if_lt (tgt := 196) hC dX2_find_121 (by decide) (fun h_121 => ?_) (fun h_121 => ?_)
      · skip
        exact g_vret hC rfl dX2_find_196 (⟨rfl, rfl⟩)
      · skip
        exact absurd h_121 (by decide)
    | succ m ih =>
      intro hm
      show G C 0 0 119 [aR 0 0 0, aR 1 0 0, aI (nI n), aR 2 0 0, aI (nI m), aK 9] [] _
      have hop := opF_lt num n op (show m ≤ n by omega)
      have inner : ∀ dj j, j + dj = 6 → G C 0 0 127 [aR 0 0 0, aR 1 0 0, aI (nI (n)), aR 2 0 0, aI (nI (m)), aI (nI (j))] [] [walksG (opF num n op (n + 1)) (toF v num n to (n + 1) 0) (onP v num n on m j) n, [cA 12 (fun j => nI (num j))], townG v rf go] := by
        intro dj
        induction dj with
        | zero =>
          intro j hj
          obtain rfl : j = 6 := by omega
          refine g_iload hC dX2_find_127 rfl ?_
          refine g_bipush (v := nI (6)) hC dX2_find_129 (by decide) ?_
          refine g_icmp_geN (tgt := 190) hC dX2_find_131 (by decide) (by omega) (by omega) (fun h_131 => ?_) (fun h_131 => ?_)
          · skip
            refine g_iinc (v := dec m) hC dX2_find_190 rfl (dec_eq m) (by decide) rfl ?_
            refine g_goto (tgt := 119) hC dX2_find_193 (by decide) ?_
            refine g_mask [true, true, true, true, true, false] ?_
            rw [onP_row v num n on (by omega)]
            exact ih (by omega)
          · skip
            omega
        | succ dj ihj =>
          intro j hj
          refine g_iload hC dX2_find_127 rfl ?_
          refine g_bipush (v := nI (6)) hC dX2_find_129 (by decide) ?_
          refine g_icmp_geN (tgt := 190) hC dX2_find_131 (by decide) (by omega) (by omega) (fun h_131 => ?_) (fun h_131 => ?_)
          · skip
            omega
          · skip
            refine g_aload_n hC dX2_find_134 rfl rfl ?_
            refine gf_X2_waysOn hC dX2_find_135 rfl rfl ?_
            refine g_iload hC dX2_find_138 rfl ?_
            refine g_aaldN hC dX2_find_140 rfl (by omega) (by decide) ?_
            refine g_iload hC dX2_find_141 rfl ?_
            refine g_iload hC dX2_find_143 rfl ?_
            refine g_iload_n hC dX2_find_145 rfl ?_
            refine g_icmp_neN (tgt := 160) hC dX2_find_146 (by decide) (by omega) (by omega) (fun h_146 => ?_) (fun h_146 => ?_)
            · skip
              refine g_aload_n hC dX2_find_160 rfl rfl ?_
              refine g_iload hC dX2_find_161 rfl ?_
              refine g_iload hC dX2_find_163 rfl ?_
              refine g_aload_n hC dX2_find_165 rfl rfl ?_
              refine gf_X2_waysOn hC dX2_find_166 rfl rfl ?_
              refine g_iload hC dX2_find_169 rfl ?_
              refine g_iconst (v := nI (1)) hC dX2_find_171 (by decide) ?_
              refine g_iaddN hC dX2_find_172 ?_
              refine g_aaldN hC dX2_find_173 rfl (by omega) (by decide) ?_
              refine g_iload hC dX2_find_174 rfl ?_
              refine g_aload_n hC dX2_find_176 rfl rfl ?_
              refine gi_X2_35 hC (is := [0, 2]) (st := [aI (nI (j)), aI (nI (m)), aR 0 0 0, aI (nI (j)), aR 0 3 (m + 1)]) (c_X2_sumWithinOn v rf go hv hB (opF num n op (n + 1)) (toF v num n to (n + 1) 0) (onP v num n on m j) n (show m + 1 < 9 by omega) (show j < 6 by omega)) dX2_find_177 rfl ⟨by decide, by decide⟩ ⟨by decide, by decide⟩ rfl (by decide) rfl rfl ?_
              refine gi_X2_31 hC (is := [0]) (st := [aI (nI (j)), aR 0 3 (m + 1)]) (c_X2_openWays (opF num n op (n + 1)) (toF v num n to (n + 1) 0) (onP v num n on m j) n (show m < 9 by omega) hop (show j < 6 by omega) (sw v ((onP v num n on m j) (m + 1)) j 6)) dX2_find_180 rfl ⟨by decide, by decide⟩ ⟨by decide, by decide⟩ rfl (by decide) rfl rfl rfl ?_
              refine g_iast2N hC dX2_find_183 rfl (by omega) (by omega) (by decide) ?_
              refine g_iincN hC dX2_find_184 rfl (by decide) rfl ?_
              refine g_goto (tgt := 127) hC dX2_find_187 (by decide) ?_
              have e : (if ((opF num n op (n + 1)) m).testBit j then sw v ((onP v num n on m j) (m + 1)) j 6 else 0) = onW v num n (n - m) j := onW_s v num n op on h_146 (by omega) (by omega)
              have q := ihj (j + 1) (by omega)
              rw [onP_succ v num n on (show j < 6 by omega), ← e] at q
              exact q
            · skip
              refine g_aload_n hC dX2_find_149 rfl rfl ?_
              refine g_iload_n hC dX2_find_150 rfl ?_
              refine g_iload hC dX2_find_151 rfl ?_
              refine g_iconst (v := nI (1)) hC dX2_find_153 (by decide) ?_
              refine gi_X2_31 hC (is := [0]) (st := [aI (nI (j)), aR 0 3 (m + 1)]) (c_X2_openWays (opF num n op (n + 1)) (toF v num n to (n + 1) 0) (onP v num n on m j) n (show n < 9 by omega) (opF_lt num n op (Nat.le_refl n)) (show j < 6 by omega) 1) dX2_find_154 rfl ⟨by decide, by decide⟩ ⟨by decide, by decide⟩ rfl (by decide) rfl rfl rfl ?_
              refine g_goto (tgt := 183) hC dX2_find_157 (by decide) ?_
              refine g_iast2N hC dX2_find_183 rfl (by omega) (by omega) (by decide) ?_
              refine g_iincN hC dX2_find_184 rfl (by decide) rfl ?_
              refine g_goto (tgt := 127) hC dX2_find_187 (by decide) ?_
              have e : (if ((opF num n op (n + 1)) n).testBit j then 1 else 0) = onW v num n (n - m) j := by rw [h_146]; exact onW_0 v num n op j
              have q := ihj (j + 1) (by omega)
              rw [onP_succ v num n on (show j < 6 by omega), ← e] at q
              exact q
      refine g_iload hC dX2_find_119 rfl ?_
      refine g_if_ltN (tgt := 196) hC dX2_find_121 (by decide) (by omega) (fun h_121 => ?_) (fun h_121 => ?_)
      · skip
        omega
      · skip
        refine g_iconst (v := nI (0)) hC dX2_find_124 (by decide) ?_
        refine g_istore hC dX2_find_125 (by decide) rfl ?_
        have q := inner 6 0 (by omega)
        rw [onP_zero] at q
        exact q
  have loopB : ∀ dk k, k + dk = n + 1 → G C 0 0 39 [aR 0 0 0, aR 1 0 0, aI (nI (n)), aR 2 0 0, aI (nI (k)), aK 9] [] [walksG (opF num n op (n + 1)) (toF v num n to k 0) on n, [cA 12 (fun j => nI (num j))], townG v rf go] := by
    intro dk
    induction dk with
    | zero =>
      intro k hk
      obtain rfl : k = n + 1 := by omega
      refine g_iload hC dX2_find_39 rfl ?_
      refine g_iload_n hC dX2_find_41 rfl ?_
      refine g_icmp_gtN (tgt := 116) hC dX2_find_42 (by decide) (by omega) (by omega) (fun h_42 => ?_) (fun h_42 => ?_)
      · skip
        refine g_iload_n hC dX2_find_116 rfl ?_
        refine g_istore hC dX2_find_117 (by decide) rfl ?_
        refine g_mask [true, true, true, true, true, false] ?_
        have q := loopC (n + 1) (by omega)
        rw [onR_top] at q
        exact q
      · skip
        omega
    | succ dk ihk =>
      intro k hk
      have hop := opF_lt num n op (show k ≤ n by omega)
      have inner : ∀ dj j, j + dj = 6 → G C 0 0 48 [aR 0 0 0, aR 1 0 0, aI (nI (n)), aR 2 0 0, aI (nI (k)), aI (nI (j))] [] [walksG (opF num n op (n + 1)) (toF v num n to k j) on n, [cA 12 (fun j => nI (num j))], townG v rf go] := by
        intro dj
        induction dj with
        | zero =>
          intro j hj
          obtain rfl : j = 6 := by omega
          refine g_iload hC dX2_find_48 rfl ?_
          refine g_bipush (v := nI (6)) hC dX2_find_50 (by decide) ?_
          refine g_icmp_geN (tgt := 110) hC dX2_find_52 (by decide) (by omega) (by omega) (fun h_52 => ?_) (fun h_52 => ?_)
          · skip
            refine g_iincN hC dX2_find_110 rfl (by decide) rfl ?_
            refine g_goto (tgt := 39) hC dX2_find_113 (by decide) ?_
            refine g_mask [true, true, true, true, true, false] ?_
            have q := ihk (k + 1) (by omega)
            rw [← toF_row] at q
            exact q
          · skip
            omega
        | succ dj ihj =>
          intro j hj
          refine g_iload hC dX2_find_48 rfl ?_
          refine g_bipush (v := nI (6)) hC dX2_find_50 (by decide) ?_
          refine g_icmp_geN (tgt := 110) hC dX2_find_52 (by decide) (by omega) (by omega) (fun h_52 => ?_) (fun h_52 => ?_)
          · skip
            omega
          · skip
            refine g_aload_n hC dX2_find_55 rfl rfl ?_
            refine gf_X2_waysTo hC dX2_find_56 rfl rfl ?_
            refine g_iload hC dX2_find_59 rfl ?_
            refine g_aaldN hC dX2_find_61 rfl (by omega) (by decide) ?_
            refine g_iload hC dX2_find_62 rfl ?_
            refine g_iload hC dX2_find_64 rfl ?_
            refine g_if_neN (tgt := 80) hC dX2_find_66 (by decide) (by omega) (fun h_66 => ?_) (fun h_66 => ?_)
            · skip
              refine g_aload_n hC dX2_find_80 rfl rfl ?_
              refine g_iload hC dX2_find_81 rfl ?_
              refine g_iload hC dX2_find_83 rfl ?_
              refine g_aload_n hC dX2_find_85 rfl rfl ?_
              refine gf_X2_waysTo hC dX2_find_86 rfl rfl ?_
              refine g_iload hC dX2_find_89 rfl ?_
              refine g_iconst (v := nI (1)) hC dX2_find_91 (by decide) ?_
              refine g_isubN hC dX2_find_92 (by omega) ?_
              refine g_aaldN hC dX2_find_93 rfl (by omega) (by decide) ?_
              refine g_iload hC dX2_find_94 rfl ?_
              refine g_aload_n hC dX2_find_96 rfl rfl ?_
              refine gi_X2_35 hC (is := [0, 2]) (st := [aI (nI (j)), aI (nI (k)), aR 0 0 0, aI (nI (j)), aR 0 2 (k + 1)]) (c_X2_sumWithin v rf go hv hB (opF num n op (n + 1)) (toF v num n to k j) on n (show k - 1 < 9 by omega) (show j < 6 by omega)) dX2_find_97 rfl ⟨by decide, by decide⟩ ⟨by decide, by decide⟩ rfl (by decide) rfl rfl ?_
              refine gi_X2_31 hC (is := [0]) (st := [aI (nI (j)), aR 0 2 (k + 1)]) (c_X2_openWays (opF num n op (n + 1)) (toF v num n to k j) on n (show k < 9 by omega) hop (show j < 6 by omega) (sw v ((toF v num n to k j) (k - 1)) j 6)) dX2_find_100 rfl ⟨by decide, by decide⟩ ⟨by decide, by decide⟩ rfl (by decide) rfl rfl rfl ?_
              refine g_iast2N hC dX2_find_103 rfl (by omega) (by omega) (by decide) ?_
              refine g_iincN hC dX2_find_104 rfl (by decide) rfl ?_
              refine g_goto (tgt := 48) hC dX2_find_107 (by decide) ?_
              have e : (if ((opF num n op (n + 1)) k).testBit j then sw v ((toF v num n to k j) (k - 1)) j 6 else 0) = toW v num n k j := toW_s v num n op to h_66 (by omega) (by omega)
              have q := ihj (j + 1) (by omega)
              rw [toF_succ v num n to (show j < 6 by omega), ← e] at q
              exact q
            · skip
              refine g_aload_n hC dX2_find_69 rfl rfl ?_
              refine g_iconst (v := nI (0)) hC dX2_find_70 (by decide) ?_
              refine g_iload hC dX2_find_71 rfl ?_
              refine g_iconst (v := nI (1)) hC dX2_find_73 (by decide) ?_
              refine gi_X2_31 hC (is := [0]) (st := [aI (nI (j)), aR 0 2 (k + 1)]) (c_X2_openWays (opF num n op (n + 1)) (toF v num n to k j) on n (show 0 < 9 by omega) (opF_lt num n op (Nat.zero_le n)) (show j < 6 by omega) 1) dX2_find_74 rfl ⟨by decide, by decide⟩ ⟨by decide, by decide⟩ rfl (by decide) rfl rfl rfl ?_
              refine g_goto (tgt := 103) hC dX2_find_77 (by decide) ?_
              refine g_iast2N hC dX2_find_103 rfl (by omega) (by omega) (by decide) ?_
              refine g_iincN hC dX2_find_104 rfl (by decide) rfl ?_
              refine g_goto (tgt := 48) hC dX2_find_107 (by decide) ?_
              have e : (if ((opF num n op (n + 1)) 0).testBit j then 1 else 0) = toW v num n k j := by rw [h_66]; exact toW_0 v num n op j
              have q := ihj (j + 1) (by omega)
              rw [toF_succ v num n to (show j < 6 by omega), ← e] at q
              exact q
      refine g_iload hC dX2_find_39 rfl ?_
      refine g_iload_n hC dX2_find_41 rfl ?_
      refine g_icmp_gtN (tgt := 116) hC dX2_find_42 (by decide) (by omega) (by omega) (fun h_42 => ?_) (fun h_42 => ?_)
      · skip
        omega
      · skip
        refine g_iconst (v := nI (0)) hC dX2_find_45 (by decide) ?_
        refine g_istore hC dX2_find_46 (by decide) rfl ?_
        exact inner 6 0 (by omega)
  have loopA : ∀ dk k, k + dk = n + 1 → G C 0 0 8 [aR 0 0 0, aR 1 0 0, aI (nI (n)), aR 2 0 0, aI (nI (k)), aK 9] [] [walksG (opF num n op k) to on n, [cA 12 (fun j => nI (num j))], townG v rf go] := by
    intro dk
    induction dk with
    | zero =>
      intro k hk
      obtain rfl : k = n + 1 := by omega
      refine g_iload hC dX2_find_8 rfl ?_
      refine g_iload_n hC dX2_find_10 rfl ?_
      refine g_icmp_gtN (tgt := 36) hC dX2_find_11 (by decide) (by omega) (by omega) (fun h_11 => ?_) (fun h_11 => ?_)
      · skip
        refine g_iconst (v := nI (0)) hC dX2_find_36 (by decide) ?_
        refine g_istore hC dX2_find_37 (by decide) rfl ?_
        refine g_mask [true, true, true, true, true, false] ?_
        have q := loopB (n + 1) 0 (by omega)
        rw [toF_zero] at q
        exact q
      · skip
        omega
    | succ dk ihk =>
      intro k hk
      refine g_iload hC dX2_find_8 rfl ?_
      refine g_iload_n hC dX2_find_10 rfl ?_
      refine g_icmp_gtN (tgt := 36) hC dX2_find_11 (by decide) (by omega) (by omega) (fun h_11 => ?_) (fun h_11 => ?_)
      · skip
        omega
      · skip
        refine g_aload_n hC dX2_find_14 rfl rfl ?_
        refine gf_X2_open hC dX2_find_15 rfl rfl ?_
        refine g_iload hC dX2_find_18 rfl ?_
        refine g_aload_n hC dX2_find_20 rfl rfl ?_
        refine g_aload_n hC dX2_find_21 rfl rfl ?_
        refine g_iload_n hC dX2_find_22 rfl ?_
        refine g_iload hC dX2_find_23 rfl ?_
        refine g_isubN hC dX2_find_25 (by omega) ?_
        refine gi_X2_27 hC (is := [0, 1]) (st := [aI (nI (k)), aR 0 1 0]) (c_X2_openRooms (opF num n op k) to on n num hnum (show n < 2 ^ 31 by omega) (show n - k < 2 ^ 31 by omega)) dX2_find_26 rfl ⟨by decide, by decide⟩ ⟨by decide, by decide⟩ rfl (by decide) rfl rfl rfl ?_
        refine g_iastN hC dX2_find_29 rfl (by omega) (by decide) ?_
        refine g_iincN hC dX2_find_30 rfl (by decide) rfl ?_
        refine g_goto (tgt := 8) hC dX2_find_33 (by decide) ?_
        have q := ihk (k + 1) (by omega)
        rw [opF_succ] at q
        exact q
  refine g_aload_n hC dX2_find_0 rfl rfl ?_
  refine g_iload_n hC dX2_find_1 rfl ?_
  refine gp_X2_last hC dX2_find_2 rfl rfl ?_
  refine g_iconst (v := nI (0)) hC dX2_find_5 (by decide) ?_
  refine g_istore hC dX2_find_6 (by decide) rfl ?_
  have q := loopA (n + 1) 0 (by omega)
  rw [opF_zero] at q
  exact q
