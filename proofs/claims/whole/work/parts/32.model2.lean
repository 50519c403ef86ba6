theorem c_X4_isTraceN (u : Vw) (ro re lt : Nat → Nat) (len : Nat) (le la : Nat → Nat) (td : Nat → Int32) (fr ti : Nat → Nat) (pt st : Nat) (ke : Nat → Int32) (hi ik : Bool) (cu : Nat) (go num : Nat → Nat) (nin : Nat) (up fo : Nat → Nat) {B : Nat} (hu : wf B u) (hB : B ≤ 200) {w r : Nat} (hw : w < vN u) (hr : r < 6) : ConF yX4_isTrace cX4_isTrace 3 (some .boolean) 0 [aR 0 0 0, aI (nI w), aI (nI r)] [modW u ro re lt len le la td fr ti pt st ke hi ik cu go num nin up fo] (some (aI (bI (vLf u w r).isSome))) [modW u ro re lt len le la td fr ti pt st ke hi ik cu go num nin up fo] := by
  have h := c_X4_isTrace u ro re lt len le la td fr ti pt st ke hi ik cu go num nin up fo hu hB (w := w) (by have := wf_n hu; omega) hr
  rw [decide_eq_true hw] at h
  exact h

set_option maxRecDepth 100000 in
set_option maxHeartbeats 4000000 in
theorem c_X4_tracesIn (u : Vw) (ro re lt : Nat → Nat) (len : Nat) (le la : Nat → Nat) (td : Nat → Int32) (fr ti : Nat → Nat) (pt st : Nat) (ke : Nat → Int32) (hi ik : Bool) (cu : Nat) (go num : Nat → Nat) (nin : Nat) (up fo : Nat → Nat) {B : Nat} (hu : wf B u) (hB : B ≤ 200) {r : Nat} (hr : r < 6) : ConF yX4_tracesIn cX4_tracesIn 4 (some .int) 1 [aR 0 0 0, aI (nI (r))] [modW u ro re lt len le la td fr ti pt st ke hi ik cu go num nin up fo] (some (aI (nI (traces u r)))) [modW u ro re lt len le la td fr ti pt st ke hi ik cu go num nin up fo] := by
  refine con_of RX4 pn_X4 rfl rfl (Nat.le_of_ble_eq_true rfl) (fun C hM0 hC => ?_)
  show G C 0 0 0 [aR 0 0 0, aI (nI (r)), aK 9, aK 9] [] [modW u ro re lt len le la td fr ti pt st ke hi ik cu go num nin up fo]
  have hn := wf_n hu
  have loop : ∀ d k, k + d = vN u → G C 0 0 4 [aR 0 0 0, aI (nI (r)), aI (nI (cnt (fun w => (vLf u w r).isSome) k)), aI (nI (k))] [] [modW u ro re lt len le la td fr ti pt st ke hi ik cu go num nin up fo] := by
    intro d
    induction d with
    | zero =>
      intro k hk
      refine g_iload_n hC dX4_tracesIn_4 rfl ?_
      refine g_aload_n hC dX4_tracesIn_5 rfl rfl ?_
      refine gf_X4_walkers hC dX4_tracesIn_6 rfl rfl ?_
      refine g_icmp_geN (tgt := 35) hC dX4_tracesIn_9 (by decide) (by omega) (by omega) (fun h_9 => ?_) (fun h_9 => ?_)
      · skip
        refine g_iload_n hC dX4_tracesIn_35 rfl ?_
        exact g_iret hC rfl dX4_tracesIn_36 (⟨rV (by rw [show k = vN u by omega]; rfl), rfl⟩)
      · skip
        omega
    | succ d ih =>
      intro k hk
      refine g_iload_n hC dX4_tracesIn_4 rfl ?_
      refine g_aload_n hC dX4_tracesIn_5 rfl rfl ?_
      refine gf_X4_walkers hC dX4_tracesIn_6 rfl rfl ?_
      refine g_icmp_geN (tgt := 35) hC dX4_tracesIn_9 (by decide) (by omega) (by omega) (fun h_9 => ?_) (fun h_9 => ?_)
      · skip
        omega
      · skip
        refine g_iload_n hC dX4_tracesIn_12 rfl ?_
        refine g_aload_n hC dX4_tracesIn_13 rfl rfl ?_
        refine g_iload_n hC dX4_tracesIn_14 rfl ?_
        refine g_iload_n hC dX4_tracesIn_15 rfl ?_
        refine gi_X4_153 hC (is := [0]) (st := [aI (nI (cnt (fun w => (vLf u w r).isSome) k))]) (c_X4_isTraceN u ro re lt len le la td fr ti pt st ke hi ik cu go num nin up fo hu hB (w := k) (by omega) hr) dX4_tracesIn_16 rfl ⟨by decide, by decide⟩ ⟨by decide, by decide⟩ rfl (by decide) rfl rfl rfl ?_
        refine g_if_eqB (tgt := 26) hC dX4_tracesIn_19 (by decide) (fun h_19 => ?_) (fun h_19 => ?_)
        · skip
          refine g_iconst (v := nI (0)) hC dX4_tracesIn_26 (by decide) ?_
          refine g_iaddN hC dX4_tracesIn_27 ?_
          refine g_istore_n hC dX4_tracesIn_28 (by decide) rfl ?_
          refine g_iincN hC dX4_tracesIn_29 rfl (by decide) rfl ?_
          refine g_goto (tgt := 4) hC dX4_tracesIn_32 (by decide) ?_
          refine g_mask [true, true, true, true] ?_
          have q := ih (k + 1) (by omega)
          rw [cnt_f (p := (fun w => (vLf u w r).isSome)) h_19] at q
          exact q
        · skip
          refine g_iconst (v := nI (1)) hC dX4_tracesIn_22 (by decide) ?_
          refine g_goto (tgt := 27) hC dX4_tracesIn_23 (by decide) ?_
          refine g_iaddN hC dX4_tracesIn_27 ?_
          refine g_istore_n hC dX4_tracesIn_28 (by decide) rfl ?_
          refine g_iincN hC dX4_tracesIn_29 rfl (by decide) rfl ?_
          refine g_goto (tgt := 4) hC dX4_tracesIn_32 (by decide) ?_
          refine g_mask [true, true, true, true] ?_
          have q := ih (k + 1) (by omega)
          rw [cnt_t (p := (fun w => (vLf u w r).isSome)) h_19] at q
          exact q
  refine g_iconst (v := nI (0)) hC dX4_tracesIn_0 (by decide) ?_
  refine g_istore_n hC dX4_tracesIn_1 (by decide) rfl ?_
  refine g_iconst (v := nI (0)) hC dX4_tracesIn_2 (by decide) ?_
  refine g_istore_n hC dX4_tracesIn_3 (by decide) rfl ?_
  refine g_mask [true, true, true, true] ?_
  exact loop (vN u) 0 (by omega)

set_option maxRecDepth 100000 in
set_option maxHeartbeats 4000000 in
theorem c_X4_endAge (u : Vw) (ro re lt : Nat → Nat) (len : Nat) (le la : Nat → Nat) (td : Nat → Int32) (fr ti : Nat → Nat) (pt st : Nat) (ke : Nat → Int32) (hi ik : Bool) (cu : Nat) (go num : Nat → Nat) (nin : Nat) (up fo : Nat → Nat) {B : Nat} (hu : wf B u) (hB : B ≤ 200) {r s : Nat} {as : Int32} (hr : r < 6) (has : ∀ k, k < 4 → (nI k = as ↔ k = s)) (g : Bool) : ConF yX4_endAge cX4_endAge 7 (some .int) 1 [aR 0 0 0, aI (nI (r)), aI (as), aI (bI (g))] [modW u ro re lt len le la td fr ti pt st ke hi ik cu go num nin up fo] (some (aI (oI (-9) (ends u r s g (vN u))))) [modW u ro re lt len le la td fr ti pt st ke hi ik cu go num nin up fo] := by
  refine con_of RX4 pn_X4 rfl rfl (Nat.le_of_ble_eq_true rfl) (fun C hM0 hC => ?_)
  show G C 0 0 0 [aR 0 0 0, aI (nI (r)), aI (as), aI (bI (g)), aK 9, aK 9, aK 9] [] [modW u ro re lt len le la td fr ti pt st ke hi ik cu go num nin up fo]
  have hn := wf_n hu
  have loop : ∀ d k, k + d = vN u → G C 0 0 7 [aR 0 0 0, aI (nI (r)), aI (as), aI (bI (g)), aI (oI (-9) (ends u r s g k)), aI (nI (k)), aK 9] [] [modW u ro re lt len le la td fr ti pt st ke hi ik cu go num nin up fo] := by
    intro d
    induction d with
    | zero =>
      intro k hk
      refine g_iload hC dX4_endAge_7 rfl ?_
      refine g_aload_n hC dX4_endAge_9 rfl rfl ?_
      refine gf_X4_walkers hC dX4_endAge_10 rfl rfl ?_
      refine g_icmp_geN (tgt := 80) hC dX4_endAge_13 (by decide) (by omega) (by omega) (fun h_13 => ?_) (fun h_13 => ?_)
      · skip
        refine g_iload hC dX4_endAge_80 rfl ?_
        exact g_iret hC rfl dX4_endAge_82 (⟨rV (by rw [show k = vN u by omega]), rfl⟩)
      · skip
        omega
    | succ d ih =>
      intro k hk
      refine g_iload hC dX4_endAge_7 rfl ?_
      refine g_aload_n hC dX4_endAge_9 rfl rfl ?_
      refine gf_X4_walkers hC dX4_endAge_10 rfl rfl ?_
      refine g_icmp_geN (tgt := 80) hC dX4_endAge_13 (by decide) (by omega) (by omega) (fun h_13 => ?_) (fun h_13 => ?_)
      · skip
        omega
      · skip
        refine g_iload hC dX4_endAge_16 rfl ?_
        refine g_iload_n hC dX4_endAge_18 rfl ?_
        refine g_icmp_eq (tgt := 74) hC dX4_endAge_19 (by decide) (fun h_19 => ?_) (fun h_19 => ?_)
        · skip
          refine g_iincN hC dX4_endAge_74 rfl (by decide) rfl ?_
          refine g_goto (tgt := 7) hC dX4_endAge_77 (by decide) ?_
          refine g_mask [true, true, true, true, true, true, false] ?_
          have q := ih (k + 1) (by omega)
          rw [ends_at ((has k (by omega)).mp h_19)] at q
          exact q
        · skip
          have hne : k ≠ s := fun z => h_19 ((has k (by omega)).mpr z)
          refine g_aload_n hC dX4_endAge_22 rfl rfl ?_
          refine g_iload hC dX4_endAge_23 rfl ?_
          refine g_iload_n hC dX4_endAge_25 rfl ?_
          refine gi_X4_153 hC (is := [0]) (st := []) (c_X4_isTraceN u ro re lt len le la td fr ti pt st ke hi ik cu go num nin up fo hu hB (w := k) (by omega) hr) dX4_endAge_26 rfl ⟨by decide, by decide⟩ ⟨by decide, by decide⟩ rfl (by decide) rfl rfl rfl ?_
          refine g_if_neB (tgt := 35) hC dX4_endAge_29 (by decide) (fun h_29 => ?_) (fun h_29 => ?_)
          · skip
            obtain ⟨m, hm⟩ := Option.isSome_iff_exists.mp h_29
            have hage := age_some (l := 0) hm
            have hla := age_lt hu hB (show 0 ≤ 50 by omega) hr _ hage
            refine g_aload_n hC dX4_endAge_35 rfl rfl ?_
            refine g_iload hC dX4_endAge_36 rfl ?_
            refine g_iload_n hC dX4_endAge_38 rfl ?_
            refine gi_X4_157 hC (is := [0]) (st := []) (c_X4_ageOf u ro re lt len le la td fr ti pt st ke hi ik cu go num nin up fo hu hB (show k < vN u by omega) hr hm) dX4_endAge_39 rfl ⟨by decide, by decide⟩ ⟨by decide, by decide⟩ rfl (by decide) rfl rfl rfl ?_
            refine g_istore hC dX4_endAge_42 (by decide) rfl ?_
            refine g_iload hC dX4_endAge_44 rfl ?_
            refine g_if_ltO (tgt := 70) hC dX4_endAge_46 (by decide) (by decide) (fun m q => by have := ends_lt hu hB hr _ m q; omega) (fun h_46 => ?_) (fun b h_46 => ?_)
            · skip
              refine g_iload hC dX4_endAge_70 rfl ?_
              refine g_istore hC dX4_endAge_72 (by decide) rfl ?_
              refine g_iincN hC dX4_endAge_74 rfl (by decide) rfl ?_
              refine g_goto (tgt := 7) hC dX4_endAge_77 (by decide) ?_
              refine g_mask [true, true, true, true, true, true, false] ?_
              have q := ih (k + 1) (by omega)
              rw [ends_up hne (by rw [hage, h_46]; rfl), hage] at q
              exact q
            · skip
              have hlb := ends_lt hu hB hr _ b h_46
              rw [h_46]
              show G C 0 0 49 [aR 0 0 0, aI (nI r), aI as, aI (bI g), aI (nI b), aI (nI k), aI (nI (ageIn u k r 0 m))] [] [modW u ro re lt len le la td fr ti pt st ke hi ik cu go num nin up fo]
              refine g_iload_n hC dX4_endAge_49 rfl ?_
              refine g_if_eqB (tgt := 63) hC dX4_endAge_50 (by decide) (fun h_50 => ?_) (fun h_50 => ?_)
              · skip
                refine g_iload hC dX4_endAge_63 rfl ?_
                refine g_iload hC dX4_endAge_65 rfl ?_
                refine g_icmp_geN (tgt := 74) hC dX4_endAge_67 (by decide) (by omega) (by omega) (fun h_67 => ?_) (fun h_67 => ?_)
                · skip
                  refine g_iincN hC dX4_endAge_74 rfl (by decide) rfl ?_
                  refine g_goto (tgt := 7) hC dX4_endAge_77 (by decide) ?_
                  refine g_mask [true, true, true, true, true, true, false] ?_
                  have q := ih (k + 1) (by omega)
                  rw [ends_no (by rw [hage, h_46, h_50]; exact decide_eq_false (by omega)), h_46] at q
                  exact q
                · skip
                  refine g_iload hC dX4_endAge_70 rfl ?_
                  refine g_istore hC dX4_endAge_72 (by decide) rfl ?_
                  refine g_iincN hC dX4_endAge_74 rfl (by decide) rfl ?_
                  refine g_goto (tgt := 7) hC dX4_endAge_77 (by decide) ?_
                  refine g_mask [true, true, true, true, true, true, false] ?_
                  have q := ih (k + 1) (by omega)
                  rw [ends_up hne (by rw [hage, h_46, h_50]; exact decide_eq_true (by omega)), hage] at q
                  exact q
              · skip
                refine g_iload hC dX4_endAge_53 rfl ?_
                refine g_iload hC dX4_endAge_55 rfl ?_
                refine g_icmp_leN (tgt := 74) hC dX4_endAge_57 (by decide) (by omega) (by omega) (fun h_57 => ?_) (fun h_57 => ?_)
                · skip
                  refine g_iincN hC dX4_endAge_74 rfl (by decide) rfl ?_
                  refine g_goto (tgt := 7) hC dX4_endAge_77 (by decide) ?_
                  refine g_mask [true, true, true, true, true, true, false] ?_
                  have q := ih (k + 1) (by omega)
                  rw [ends_no (by rw [hage, h_46, h_50]; exact decide_eq_false (by omega)), h_46] at q
                  exact q
                · skip
                  refine g_goto (tgt := 70) hC dX4_endAge_60 (by decide) ?_
                  refine g_iload hC dX4_endAge_70 rfl ?_
                  refine g_istore hC dX4_endAge_72 (by decide) rfl ?_
                  refine g_iincN hC dX4_endAge_74 rfl (by decide) rfl ?_
                  refine g_goto (tgt := 7) hC dX4_endAge_77 (by decide) ?_
                  refine g_mask [true, true, true, true, true, true, false] ?_
                  have q := ih (k + 1) (by omega)
                  rw [ends_up hne (by rw [hage, h_46, h_50]; exact decide_eq_true (by omega)), hage] at q
                  exact q
          · skip
            have hage : age u k r 0 = none := age_none (by simpa using h_29)
            refine g_goto (tgt := 74) hC dX4_endAge_32 (by decide) ?_
            refine g_iincN hC dX4_endAge_74 rfl (by decide) rfl ?_
            refine g_goto (tgt := 7) hC dX4_endAge_77 (by decide) ?_
            refine g_mask [true, true, true, true, true, true, false] ?_
            have q := ih (k + 1) (by omega)
            rw [ends_no (by rw [hage]; rfl)] at q
            exact q
  refine g_bipush (v := (-9)) hC dX4_endAge_0 (by decide) ?_
  refine g_istore hC dX4_endAge_2 (by decide) rfl ?_
  refine g_iconst (v := nI (0)) hC dX4_endAge_4 (by decide) ?_
  refine g_istore hC dX4_endAge_5 (by decide) rfl ?_
  refine g_mask [true, true, true, true, true, true, false] ?_
  exact loop (vN u) 0 (by omega)

