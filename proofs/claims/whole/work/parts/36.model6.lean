set_option maxRecDepth 100000 in
set_option maxHeartbeats 4000000 in
theorem c_X4_walker (u : Vw) (ro re lt : Nat → Nat) (len : Nat) (le la : Nat → Nat) (td : Nat → Int32) (fr ti : Nat → Nat) (pt st : Nat) (ke : Nat → Int32) (hi ik : Bool) (cu : Nat) (go num : Nat → Nat) (nin : Nat) (up fo : Nat → Nat) {B : Nat} (hu : wf B u) (hB : B ≤ 200) (x w : Int32) : Con yX4_walker cX4_walker 3 (some .int) 4 0 0 [aR 0 0 0, aI (x), aI (w)] [modW u ro re lt len le la td fr ti pt st ke hi ik cu go num nin up fo] (fun r M => r = some (aI (ansOf (oWalker u x w))) ∧ PM u ro (bump re (oWalker u x w)) lt len ke hi num nin M) := by
  refine con_of RX4 pn_X4 rfl rfl (Nat.le_of_ble_eq_true rfl) (fun C hM0 hC => ?_)
  show G C 0 0 0 [aR 0 0 0, aI (x), aI (w)] [] [modW u ro re lt len le la td fr ti pt st ke hi ik cu go num nin up fo]
  have hn4 := wf_n hu
  refine g_aload_n hC dX4_walker_0 rfl rfl ?_
  refine g_iload_n hC dX4_walker_1 rfl ?_
  refine gi_X4_174 hC (is := [0]) (st := []) (c_X4_isWalker u ro re lt len le la td fr ti pt st ke hi ik cu go num nin up fo x) dX4_walker_2 rfl ⟨by decide, by decide⟩ ⟨by decide, by decide⟩ rfl (by decide) rfl rfl rfl ?_
  refine g_if_neB (tgt := 14) hC dX4_walker_5 (by decide) (fun h_5 => ?_) (fun h_5 => ?_)
  · skip
    have hw := of_decide_eq_true h_5
    obtain ⟨a, ha0, rfl⟩ := wk_of hn4 hw
    refine g_iload_n hC dX4_walker_14 rfl ?_
    rcases tab_cases w 3 (by decide) with ⟨i, hi9, rfl⟩ | hout
    · rcases (by omega : i = 0 ∨ i = 1 ∨ i = 2 ∨ i = 3) with rfl | rfl | rfl | rfl
      · refine g_tabIn (off := 29) (tgt := 44) hC dX4_walker_15 (by decide) (by decide) (by decide) (by decide) ?_
        refine g_aload_n hC dX4_walker_44 rfl rfl ?_
        refine gf_X4_kind hC dX4_walker_45 rfl rfl ?_
        refine g_iload_n hC dX4_walker_48 rfl ?_
        refine g_ialdN hC dX4_walker_49 rfl (by omega) (by decide) ?_
        exact g_iret hC rfl dX4_walker_50 (⟨rV (by rw [oWalker_0 hw ha0 hn4]; rfl), by rw [oWalker_0 hw ha0 hn4]; exact ⟨_, _, _, _, _, _, _, _, _, _, _, _, _, fun _ _ => rfl, rfl⟩⟩)
      · refine g_tabIn (off := 36) (tgt := 51) hC dX4_walker_15 (by decide) (by decide) (by decide) (by decide) ?_
        refine g_aload_n hC dX4_walker_51 rfl rfl ?_
        refine gf_X4_place hC dX4_walker_52 rfl rfl ?_
        refine g_iload_n hC dX4_walker_55 rfl ?_
        refine g_ialdN hC dX4_walker_56 rfl (by omega) (by decide) ?_
        exact g_iret hC rfl dX4_walker_57 (⟨rV (by rw [oWalker_1 hw ha0 hn4]; rfl), by rw [oWalker_1 hw ha0 hn4]; exact ⟨_, _, _, _, _, _, _, _, _, _, _, _, _, fun _ _ => rfl, rfl⟩⟩)
      · refine g_tabIn (off := 43) (tgt := 58) hC dX4_walker_15 (by decide) (by decide) (by decide) (by decide) ?_
        refine g_aload_n hC dX4_walker_58 rfl rfl ?_
        refine gf_X4_planLong hC dX4_walker_59 rfl rfl ?_
        refine g_iload_n hC dX4_walker_62 rfl ?_
        refine g_ialdN hC dX4_walker_63 rfl (by omega) (by decide) ?_
        exact g_iret hC rfl dX4_walker_64 (⟨rV (by rw [oWalker_2 hw ha0 hn4]; rfl), by rw [oWalker_2 hw ha0 hn4]; exact ⟨_, _, _, _, _, _, _, _, _, _, _, _, _, fun _ _ => rfl, rfl⟩⟩)
      · refine g_tabIn (off := 50) (tgt := 65) hC dX4_walker_15 (by decide) (by decide) (by decide) (by decide) ?_
        refine g_aload_n hC dX4_walker_65 rfl rfl ?_
        refine g_iload_n hC dX4_walker_66 rfl ?_
        refine gi_X4_171 hC (is := [0]) (st := []) (c_X4_wouldGo u ro re lt len le la td fr ti pt st ke hi ik cu go num nin up fo hu hB ha0) dX4_walker_67 rfl ⟨by decide, by decide⟩ ⟨by decide, by decide⟩ rfl (by decide) rfl rfl rfl ?_
        exact g_iret hC rfl dX4_walker_70 (⟨rV (by rw [oWalker_3 hw ha0 hn4]; rfl), by rw [oWalker_3 hw ha0 hn4]; exact ⟨_, _, _, _, _, _, _, _, _, _, _, _, _, fun _ _ => rfl, rfl⟩⟩)
    · refine g_tabOut (tgt := 71) hC dX4_walker_15 hout (by decide) ?_
      refine g_aload_n hC dX4_walker_71 rfl rfl ?_
      refine g_bipush (v := (-2)) hC dX4_walker_72 (by decide) ?_
      refine gi_X4_85 hC (is := [0]) (st := []) (c_X4_no u ro re lt len le la td fr ti pt st ke hi ik cu go num nin up fo (k := 2) (by decide)) dX4_walker_74 rfl ⟨by decide, by decide⟩ ⟨by decide, by decide⟩ rfl (by decide) rfl rfl rfl ?_
      exact g_iret hC rfl dX4_walker_77 (⟨rV (by rw [oWalker_out hw hout]; rfl), by rw [oWalker_out hw hout]; exact ⟨_, _, _, _, _, _, _, _, _, _, _, _, _, fun _ _ => rfl, rfl⟩⟩)
  · skip
    have hno := of_decide_eq_false h_5
    refine g_aload_n hC dX4_walker_8 rfl rfl ?_
    refine g_iconst (v := (-1)) hC dX4_walker_9 (by decide) ?_
    refine gi_X4_85 hC (is := [0]) (st := []) (c_X4_no u ro re lt len le la td fr ti pt st ke hi ik cu go num nin up fo (k := 1) (by decide)) dX4_walker_10 rfl ⟨by decide, by decide⟩ ⟨by decide, by decide⟩ rfl (by decide) rfl rfl rfl ?_
    exact g_iret hC rfl dX4_walker_13 (⟨rV (by rw [oWalker_no hno]; rfl), by rw [oWalker_no hno]; exact ⟨_, _, _, _, _, _, _, _, _, _, _, _, _, fun _ _ => rfl, rfl⟩⟩)

set_option maxRecDepth 100000 in
set_option maxHeartbeats 4000000 in
theorem c_X4_put (u : Vw) (ro re lt : Nat → Nat) (len : Nat) (le la : Nat → Nat) (td : Nat → Int32) (fr ti : Nat → Nat) (pt st : Nat) (ke : Nat → Int32) (hi ik : Bool) (cu : Nat) (go num : Nat → Nat) (nin : Nat) (up fo : Nat → Nat) {B : Nat} (hu : wf B u) (hB : B ≤ 200) (x y : Int32) : Con yX4_put cX4_put 4 (some .int) 1 0 0 [aR 0 0 0, aI (x), aI (y)] [modW u ro re lt len le la td fr ti pt st ke hi ik cu go num nin up fo] (fun r M => r = some (aI (ansOf (oPut u x y))) ∧ PM (nPut u x y) ro (bump re (oPut u x y)) lt len ke hi num nin M) := by
  refine con_of RX4 pn_X4 rfl rfl (Nat.le_of_ble_eq_true rfl) (fun C hM0 hC => ?_)
  show G C 0 0 0 [aR 0 0 0, aI (x), aI (y), aK 9] [] [modW u ro re lt len le la td fr ti pt st ke hi ik cu go num nin up fo]
  have hn4 := wf_n hu
  refine g_aload_n hC dX4_put_0 rfl rfl ?_
  refine g_iload_n hC dX4_put_1 rfl ?_
  refine gi_X4_174 hC (is := [0]) (st := []) (c_X4_isWalker u ro re lt len le la td fr ti pt st ke hi ik cu go num nin up fo x) dX4_put_2 rfl ⟨by decide, by decide⟩ ⟨by decide, by decide⟩ rfl (by decide) rfl rfl rfl ?_
  refine g_if_eqB (tgt := 15) hC dX4_put_5 (by decide) (fun h_5 => ?_) (fun h_5 => ?_)
  · skip
    have hno := of_decide_eq_false h_5
    refine g_aload_n hC dX4_put_15 rfl rfl ?_
    refine g_iconst (v := (-1)) hC dX4_put_16 (by decide) ?_
    refine gi_X4_85 hC (is := [0]) (st := []) (c_X4_no u ro re lt len le la td fr ti pt st ke hi ik cu go num nin up fo (k := 1) (by decide)) dX4_put_17 rfl ⟨by decide, by decide⟩ ⟨by decide, by decide⟩ rfl (by decide) rfl rfl rfl ?_
    exact g_iret hC rfl dX4_put_20 (by first | exact ⟨rV (by rw [(put_no (fun z => hno z.1)).1]; rfl), by rw [(put_no (fun z => hno z.1)).1, (put_no (fun z => hno z.1)).2]; exact ⟨_, _, _, _, _, _, _, _, _, _, _, _, _, fun _ _ => rfl, rfl⟩⟩ | exact ⟨rV (by rw [(put_no (fun z => hno z.2)).1]; rfl), by rw [(put_no (fun z => hno z.2)).1, (put_no (fun z => hno z.2)).2]; exact ⟨_, _, _, _, _, _, _, _, _, _, _, _, _, fun _ _ => rfl, rfl⟩⟩)
  · skip
    have hw := of_decide_eq_true h_5
    obtain ⟨a, ha0, rfl⟩ := wk_of hn4 hw
    refine g_iload_n hC dX4_put_8 rfl ?_
    refine gi_X4_117 hC (is := []) (st := []) (c_X4_isRoom y) dX4_put_9 rfl ⟨by decide, by decide⟩ ⟨by decide, by decide⟩ rfl (by decide) rfl rfl ?_
    refine g_if_neB (tgt := 21) hC dX4_put_12 (by decide) (fun h_12 => ?_) (fun h_12 => ?_)
    · skip
      have hr := of_decide_eq_true h_12
      obtain ⟨r, hr0, rfl⟩ := rm_of hr
      refine g_aload_n hC dX4_put_21 rfl rfl ?_
      refine gf_X4_place hC dX4_put_22 rfl rfl ?_
      refine g_iload_n hC dX4_put_25 rfl ?_
      refine g_ialdN hC dX4_put_26 rfl (by omega) (by decide) ?_
      refine g_istore_n hC dX4_put_27 (by decide) rfl ?_
      refine g_aload_n hC dX4_put_28 rfl rfl ?_
      refine gf_X4_place hC dX4_put_29 rfl rfl ?_
      refine g_iload_n hC dX4_put_32 rfl ?_
      refine g_iload_n hC dX4_put_33 rfl ?_
      refine g_iastN hC dX4_put_34 rfl (by omega) (by decide) ?_
      refine g_iload_n hC dX4_put_35 rfl ?_
      exact g_iret hC rfl dX4_put_36 (⟨rV (by rw [(put_ok hn4 hw hr ha0 hr0).1]; rfl), by rw [(put_ok hn4 hw hr ha0 hr0).1, (put_ok hn4 hw hr ha0 hr0).2]; exact ⟨_, _, _, _, _, _, _, _, _, _, _, _, _, fun _ _ => rfl, rfl⟩⟩)
    · skip
      have hno := of_decide_eq_false h_12
      refine g_aload_n hC dX4_put_15 rfl rfl ?_
      refine g_iconst (v := (-1)) hC dX4_put_16 (by decide) ?_
      refine gi_X4_85 hC (is := [0]) (st := []) (c_X4_no u ro re lt len le la td fr ti pt st ke hi ik cu go num nin up fo (k := 1) (by decide)) dX4_put_17 rfl ⟨by decide, by decide⟩ ⟨by decide, by decide⟩ rfl (by decide) rfl rfl rfl ?_
      exact g_iret hC rfl dX4_put_20 (by first | exact ⟨rV (by rw [(put_no (fun z => hno z.1)).1]; rfl), by rw [(put_no (fun z => hno z.1)).1, (put_no (fun z => hno z.1)).2]; exact ⟨_, _, _, _, _, _, _, _, _, _, _, _, _, fun _ _ => rfl, rfl⟩⟩ | exact ⟨rV (by rw [(put_no (fun z => hno z.2)).1]; rfl), by rw [(put_no (fun z => hno z.2)).1, (put_no (fun z => hno z.2)).2]; exact ⟨_, _, _, _, _, _, _, _, _, _, _, _, _, fun _ _ => rfl, rfl⟩⟩)

set_option maxRecDepth 100000 in
set_option maxHeartbeats 4000000 in
theorem c_X4_wind (u : Vw) (ro re lt : Nat → Nat) (len : Nat) (le la : Nat → Nat) (td : Nat → Int32) (fr ti : Nat → Nat) (pt st : Nat) (ke : Nat → Int32) (hi ik : Bool) (cu : Nat) (go num : Nat → Nat) (nin : Nat) (up fo : Nat → Nat) {B : Nat} (hu : wf B u) (hB : B ≤ 200) (x y : Int32) : Con yX4_wind cX4_wind 5 (some .int) 1 0 0 [aR 0 0 0, aI (x), aI (y)] [modW u ro re lt len le la td fr ti pt st ke hi ik cu go num nin up fo] (fun r M => r = some (aI (ansOf (oWind u x y))) ∧ PM (nWind u x y) ro (bump re (oWind u x y)) lt len ke hi num nin M) := by
  refine con_of RX4 pn_X4 rfl rfl (Nat.le_of_ble_eq_true rfl) (fun C hM0 hC => ?_)
  show G C 0 0 0 [aR 0 0 0, aI (x), aI (y), aK 9, aK 9] [] [modW u ro re lt len le la td fr ti pt st ke hi ik cu go num nin up fo]
  have hn4 := wf_n hu
  refine g_iload_n hC dX4_wind_0 rfl ?_
  refine gi_X4_117 hC (is := []) (st := []) (c_X4_isRoom x) dX4_wind_1 rfl ⟨by decide, by decide⟩ ⟨by decide, by decide⟩ rfl (by decide) rfl rfl ?_
  refine g_if_neB (tgt := 11) hC dX4_wind_4 (by decide) (fun h_4 => ?_) (fun h_4 => ?_)
  · skip
    have hr := of_decide_eq_true h_4
    refine g_iload_n hC dX4_wind_11 rfl ?_
    refine g_iconst (v := nI (0)) hC dX4_wind_12 (by decide) ?_
    refine g_iconst (v := nI (3)) hC dX4_wind_13 (by decide) ?_
    refine gi_X4_78 hC (is := []) (st := []) (c_X4_bound y (nI 0) (nI 3)) dX4_wind_14 rfl ⟨by decide, by decide⟩ ⟨by decide, by decide⟩ rfl (by decide) rfl rfl ?_
    have hK : kWind x y = outN y (nI 0) (nI 3) := if_pos hr
    rw [show -(nI (outN y (nI 0) (nI 3))) = -(nI (kWind x y)) from by rw [hK]]
    refine g_istore_n hC dX4_wind_17 (by decide) rfl ?_
    refine g_iload_n hC dX4_wind_18 rfl ?_
    refine g_if_eq (tgt := 28) hC dX4_wind_19 (by decide) (fun h_19 => ?_) (fun h_19 => ?_)
    · skip
      have hk := (neg_0 (kWind x y) (kWind_lt x y)).mp h_19
      have hy : outN y (nI 0) (nI 3) = 0 := by rw [← hK]; exact hk
      obtain ⟨r, hr0, rfl⟩ := rm_of hr
      obtain ⟨n, rfl, hn0, hn1⟩ := out_0 (by decide) (by decide) hy
      refine g_aload_n hC dX4_wind_28 rfl rfl ?_
      refine gf_X4_windOf hC dX4_wind_29 rfl rfl ?_
      refine g_iload_n hC dX4_wind_32 rfl ?_
      refine g_ialdN hC dX4_wind_33 rfl (by omega) (by decide) ?_
      refine g_istore hC dX4_wind_34 (by decide) rfl ?_
      refine g_aload_n hC dX4_wind_36 rfl rfl ?_
      refine gf_X4_windOf hC dX4_wind_37 rfl rfl ?_
      refine g_iload_n hC dX4_wind_40 rfl ?_
      refine g_iload_n hC dX4_wind_41 rfl ?_
      refine g_iastN hC dX4_wind_42 rfl (by omega) (by decide) ?_
      refine g_iload hC dX4_wind_43 rfl ?_
      have e1 : tn (nI r) = r := tn_n (by omega)
      have e2 : tn (nI n) = n := tn_n (by omega)
      have ho := Wind_ok (v := u) hk
      rw [e1, e2] at ho
      exact g_iret hC rfl dX4_wind_45 (⟨rV (by rw [(ho).1]; rfl), by rw [(ho).1, (ho).2]; exact ⟨_, _, _, _, _, _, _, _, _, _, _, _, _, fun _ _ => rfl, rfl⟩⟩)
    · skip
      have hk : kWind x y ≠ 0 := fun z => h_19 ((neg_0 (kWind x y) (kWind_lt x y)).mpr z)
      refine g_aload_n hC dX4_wind_22 rfl rfl ?_
      refine g_iload_n hC dX4_wind_23 rfl ?_
      refine gi_X4_85 hC (is := [0]) (st := []) (c_X4_no u ro re lt len le la td fr ti pt st ke hi ik cu go num nin up fo (k := (kWind x y)) (kWind_lt x y)) dX4_wind_24 rfl ⟨by decide, by decide⟩ ⟨by decide, by decide⟩ rfl (by decide) rfl rfl rfl ?_
      exact g_iret hC rfl dX4_wind_27 (⟨rV (by rw [(Wind_no hk).1]; rfl), by rw [(Wind_no hk).1, (Wind_no hk).2]; exact ⟨_, _, _, _, _, _, _, _, _, _, _, _, _, fun _ _ => rfl, rfl⟩⟩)
  · skip
    have hr := of_decide_eq_false h_4
    refine g_iconst (v := (-1)) hC dX4_wind_7 (by decide) ?_
    refine g_goto (tgt := 17) hC dX4_wind_8 (by decide) ?_
    have hK : kWind x y = 1 := if_neg hr
    show G C 0 0 _ _ (aI (-(nI 1)) :: []) _
    rw [show -(nI 1) = -(nI (kWind x y)) from by rw [hK]]
    refine g_istore_n hC dX4_wind_17 (by decide) rfl ?_
    refine g_iload_n hC dX4_wind_18 rfl ?_
    refine g_if_eq (tgt := 28) hC dX4_wind_19 (by decide) (fun h_19 => ?_) (fun h_19 => ?_)
    · skip
      have hk := (neg_0 (kWind x y) (kWind_lt x y)).mp h_19
      rw [hK] at hk
      cases hk
    · skip
      have hk : kWind x y ≠ 0 := fun z => h_19 ((neg_0 (kWind x y) (kWind_lt x y)).mpr z)
      refine g_aload_n hC dX4_wind_22 rfl rfl ?_
      refine g_iload_n hC dX4_wind_23 rfl ?_
      refine gi_X4_85 hC (is := [0]) (st := []) (c_X4_no u ro re lt len le la td fr ti pt st ke hi ik cu go num nin up fo (k := (kWind x y)) (kWind_lt x y)) dX4_wind_24 rfl ⟨by decide, by decide⟩ ⟨by decide, by decide⟩ rfl (by decide) rfl rfl rfl ?_
      exact g_iret hC rfl dX4_wind_27 (⟨rV (by rw [(Wind_no hk).1]; rfl), by rw [(Wind_no hk).1, (Wind_no hk).2]; exact ⟨_, _, _, _, _, _, _, _, _, _, _, _, _, fun _ _ => rfl, rfl⟩⟩)

set_option maxRecDepth 100000 in
set_option maxHeartbeats 4000000 in
theorem c_X4_nose (u : Vw) (ro re lt : Nat → Nat) (len : Nat) (le la : Nat → Nat) (td : Nat → Int32) (fr ti : Nat → Nat) (pt st : Nat) (ke : Nat → Int32) (hi ik : Bool) (cu : Nat) (go num : Nat → Nat) (nin : Nat) (up fo : Nat → Nat) {B : Nat} (hu : wf B u) (hB : B ≤ 200) (x : Int32) : Con yX4_nose cX4_nose 4 (some .int) 1 0 0 [aR 0 0 0, aI (x)] [modW u ro re lt len le la td fr ti pt st ke hi ik cu go num nin up fo] (fun r M => r = some (aI (ansOf (oNose u x))) ∧ PM (nNose u x) ro (bump re (oNose u x)) lt len ke hi num nin M) := by
  refine con_of RX4 pn_X4 rfl rfl (Nat.le_of_ble_eq_true rfl) (fun C hM0 hC => ?_)
  show G C 0 0 0 [aR 0 0 0, aI (x), aK 9, aK 9] [] [modW u ro re lt len le la td fr ti pt st ke hi ik cu go num nin up fo]
  have hn4 := wf_n hu
  refine g_iload_n hC dX4_nose_0 rfl ?_
  refine g_iconst (v := nI (1)) hC dX4_nose_1 (by decide) ?_
  refine g_bipush (v := nI (9)) hC dX4_nose_2 (by decide) ?_
  refine gi_X4_78 hC (is := []) (st := []) (c_X4_bound x (nI 1) (nI 9)) dX4_nose_4 rfl ⟨by decide, by decide⟩ ⟨by decide, by decide⟩ rfl (by decide) rfl rfl ?_
  refine g_istore_n hC dX4_nose_7 (by decide) rfl ?_
  refine g_iload_n hC dX4_nose_8 rfl ?_
  refine g_if_eq (tgt := 18) hC dX4_nose_9 (by decide) (fun h_9 => ?_) (fun h_9 => ?_)
  · skip
    have hk := (neg_0 (kNose x) (outN_lt _ _ _)).mp h_9
    obtain ⟨n, rfl, hn0, hn1⟩ := out_0 (by decide) (by decide) hk
    refine g_aload_n hC dX4_nose_18 rfl rfl ?_
    refine gf_X4_nose hC dX4_nose_19 rfl rfl ?_
    refine g_istore_n hC dX4_nose_22 (by decide) rfl ?_
    refine g_aload_n hC dX4_nose_23 rfl rfl ?_
    refine g_iload_n hC dX4_nose_24 rfl ?_
    refine gp_X4_nose hC dX4_nose_25 rfl rfl ?_
    refine g_iload_n hC dX4_nose_28 rfl ?_
    have ho := Nose_ok (v := u) hk
    rw [tn_n (show n < 2 ^ 31 by omega)] at ho
    exact g_iret hC rfl dX4_nose_29 (⟨rV (by rw [(ho).1]; rfl), by rw [(ho).1, (ho).2]; exact ⟨_, _, _, _, _, _, _, _, _, _, _, _, _, fun _ _ => rfl, rfl⟩⟩)
  · skip
    have hk : kNose x ≠ 0 := fun z => h_9 ((neg_0 (kNose x) (outN_lt _ _ _)).mpr z)
    refine g_aload_n hC dX4_nose_12 rfl rfl ?_
    refine g_iload_n hC dX4_nose_13 rfl ?_
    refine gi_X4_85 hC (is := [0]) (st := []) (c_X4_no u ro re lt len le la td fr ti pt st ke hi ik cu go num nin up fo (k := (kNose x)) (outN_lt _ _ _)) dX4_nose_14 rfl ⟨by decide, by decide⟩ ⟨by decide, by decide⟩ rfl (by decide) rfl rfl rfl ?_
    exact g_iret hC rfl dX4_nose_17 (⟨rV (by rw [(Nose_no hk).1]; rfl), by rw [(Nose_no hk).1, (Nose_no hk).2]; exact ⟨_, _, _, _, _, _, _, _, _, _, _, _, _, fun _ _ => rfl, rfl⟩⟩)

set_option maxRecDepth 100000 in
set_option maxHeartbeats 4000000 in
theorem c_X4_age (u : Vw) (ro re lt : Nat → Nat) (len : Nat) (le la : Nat → Nat) (td : Nat → Int32) (fr ti : Nat → Nat) (pt st : Nat) (ke : Nat → Int32) (hi ik : Bool) (cu : Nat) (go num : Nat → Nat) (nin : Nat) (up fo : Nat → Nat) {B : Nat} (hu : wf B u) (hB : B ≤ 200) (x y : Int32) : Con yX4_age cX4_age 3 (some .int) 1 0 0 [aR 0 0 0, aI (x), aI (y)] [modW u ro re lt len le la td fr ti pt st ke hi ik cu go num nin up fo] (fun r M => r = some (aI (ansOf (oAge u x y))) ∧ PM u ro (bump re (oAge u x y)) lt len ke hi num nin M) := by
  refine con_of RX4 pn_X4 rfl rfl (Nat.le_of_ble_eq_true rfl) (fun C hM0 hC => ?_)
  show G C 0 0 0 [aR 0 0 0, aI (x), aI (y)] [] [modW u ro re lt len le la td fr ti pt st ke hi ik cu go num nin up fo]
  have hn4 := wf_n hu
  refine g_aload_n hC dX4_age_0 rfl rfl ?_
  refine g_iload_n hC dX4_age_1 rfl ?_
  refine gi_X4_174 hC (is := [0]) (st := []) (c_X4_isWalker u ro re lt len le la td fr ti pt st ke hi ik cu go num nin up fo x) dX4_age_2 rfl ⟨by decide, by decide⟩ ⟨by decide, by decide⟩ rfl (by decide) rfl rfl rfl ?_
  refine g_if_eqB (tgt := 15) hC dX4_age_5 (by decide) (fun h_5 => ?_) (fun h_5 => ?_)
  · skip
    have hno := of_decide_eq_false h_5
    refine g_aload_n hC dX4_age_15 rfl rfl ?_
    refine g_iconst (v := (-1)) hC dX4_age_16 (by decide) ?_
    refine gi_X4_85 hC (is := [0]) (st := []) (c_X4_no u ro re lt len le la td fr ti pt st ke hi ik cu go num nin up fo (k := 1) (by decide)) dX4_age_17 rfl ⟨by decide, by decide⟩ ⟨by decide, by decide⟩ rfl (by decide) rfl rfl rfl ?_
    exact g_iret hC rfl dX4_age_20 (by first | exact ⟨rV (by rw [oAge_no (fun z => hno z.1)]; rfl), by rw [oAge_no (fun z => hno z.1)]; exact ⟨_, _, _, _, _, _, _, _, _, _, _, _, _, fun _ _ => rfl, rfl⟩⟩ | exact ⟨rV (by rw [oAge_no (fun z => hno z.2)]; rfl), by rw [oAge_no (fun z => hno z.2)]; exact ⟨_, _, _, _, _, _, _, _, _, _, _, _, _, fun _ _ => rfl, rfl⟩⟩)
  · skip
    have hw := of_decide_eq_true h_5
    obtain ⟨a, ha0, rfl⟩ := wk_of hn4 hw
    refine g_iload_n hC dX4_age_8 rfl ?_
    refine gi_X4_117 hC (is := []) (st := []) (c_X4_isRoom y) dX4_age_9 rfl ⟨by decide, by decide⟩ ⟨by decide, by decide⟩ rfl (by decide) rfl rfl ?_
    refine g_if_neB (tgt := 21) hC dX4_age_12 (by decide) (fun h_12 => ?_) (fun h_12 => ?_)
    · skip
      have hr := of_decide_eq_true h_12
      obtain ⟨r, hr0, rfl⟩ := rm_of hr
      refine g_aload_n hC dX4_age_21 rfl rfl ?_
      refine g_iload_n hC dX4_age_22 rfl ?_
      refine g_iload_n hC dX4_age_23 rfl ?_
      refine gi_X4_153 hC (is := [0]) (st := []) (c_X4_isTraceN u ro re lt len le la td fr ti pt st ke hi ik cu go num nin up fo hu hB ha0 hr0) dX4_age_24 rfl ⟨by decide, by decide⟩ ⟨by decide, by decide⟩ rfl (by decide) rfl rfl rfl ?_
      refine g_if_eqB (tgt := 39) hC dX4_age_27 (by decide) (fun h_27 => ?_) (fun h_27 => ?_)
      · skip
        have ho := oAge_ok hn4 hw hr ha0 hr0
        rw [age_none (by simpa using h_27)] at ho
        refine g_bipush (v := (-9)) hC dX4_age_39 (by decide) ?_
        exact g_iret hC rfl dX4_age_41 (⟨rV (by rw [ho]; rfl), by rw [ho]; exact ⟨_, _, _, _, _, _, _, _, _, _, _, _, _, fun _ _ => rfl, rfl⟩⟩)
      · skip
        obtain ⟨m, hm⟩ := Option.isSome_iff_exists.mp h_27
        have ho := oAge_ok hn4 hw hr ha0 hr0
        rw [age_some hm] at ho
        refine g_aload_n hC dX4_age_30 rfl rfl ?_
        refine g_iload_n hC dX4_age_31 rfl ?_
        refine g_iload_n hC dX4_age_32 rfl ?_
        refine gi_X4_157 hC (is := [0]) (st := []) (c_X4_ageOf u ro re lt len le la td fr ti pt st ke hi ik cu go num nin up fo hu hB ha0 hr0 hm) dX4_age_33 rfl ⟨by decide, by decide⟩ ⟨by decide, by decide⟩ rfl (by decide) rfl rfl rfl ?_
        refine g_goto (tgt := 41) hC dX4_age_36 (by decide) ?_
        exact g_iret hC rfl dX4_age_41 (⟨rV (by rw [ho]; rfl), by rw [ho]; exact ⟨_, _, _, _, _, _, _, _, _, _, _, _, _, fun _ _ => rfl, rfl⟩⟩)
    · skip
      have hno := of_decide_eq_false h_12
      refine g_aload_n hC dX4_age_15 rfl rfl ?_
      refine g_iconst (v := (-1)) hC dX4_age_16 (by decide) ?_
      refine gi_X4_85 hC (is := [0]) (st := []) (c_X4_no u ro re lt len le la td fr ti pt st ke hi ik cu go num nin up fo (k := 1) (by decide)) dX4_age_17 rfl ⟨by decide, by decide⟩ ⟨by decide, by decide⟩ rfl (by decide) rfl rfl rfl ?_
      exact g_iret hC rfl dX4_age_20 (by first | exact ⟨rV (by rw [oAge_no (fun z => hno z.1)]; rfl), by rw [oAge_no (fun z => hno z.1)]; exact ⟨_, _, _, _, _, _, _, _, _, _, _, _, _, fun _ _ => rfl, rfl⟩⟩ | exact ⟨rV (by rw [oAge_no (fun z => hno z.2)]; rfl), by rw [oAge_no (fun z => hno z.2)]; exact ⟨_, _, _, _, _, _, _, _, _, _, _, _, _, fun _ _ => rfl, rfl⟩⟩)

set_option maxRecDepth 100000 in
set_option maxHeartbeats 4000000 in
theorem c_X4_clear (u : Vw) (ro re lt : Nat → Nat) (len : Nat) (le la : Nat → Nat) (td : Nat → Int32) (fr ti : Nat → Nat) (pt st : Nat) (ke : Nat → Int32) (hi ik : Bool) (cu : Nat) (go num : Nat → Nat) (nin : Nat) (up fo : Nat → Nat)  : Con yX4_clear cX4_clear 2 (some .int) 0 0 0 [aR 0 0 0] [modW u ro re lt len le la td fr ti pt st ke hi ik cu go num nin up fo] (fun r M => r = some (aI (ansOf (oClear nin))) ∧ PM u ro (bump re (oClear nin)) lt len ke hi num 0 M) := by
  refine con_of RX4 pn_X4 rfl rfl (Nat.le_of_ble_eq_true rfl) (fun C hM0 hC => ?_)
  show G C 0 0 0 [aR 0 0 0, aK 9] [] [modW u ro re lt len le la td fr ti pt st ke hi ik cu go num nin up fo]
  refine g_aload_n hC dX4_clear_0 rfl rfl ?_
  refine gf_X4_rowMany hC dX4_clear_1 rfl rfl ?_
  refine g_istore_n hC dX4_clear_4 (by decide) rfl ?_
  refine g_aload_n hC dX4_clear_5 rfl rfl ?_
  refine g_iconst (v := nI (0)) hC dX4_clear_6 (by decide) ?_
  refine gp_X4_rowMany hC dX4_clear_7 rfl rfl ?_
  refine g_iload_n hC dX4_clear_10 rfl ?_
  exact g_iret hC rfl dX4_clear_11 (⟨rfl, ⟨_, _, _, _, _, _, _, _, _, _, _, _, _, fun _ _ => rfl, rfl⟩⟩)

