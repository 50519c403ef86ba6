def meetB (v : Vw) (a b n : Nat) : Bool := decide (vPl (goN v n) a = vPl (goN v n) b)
def oMeet (v : Vw) (x y : Int32) : Ans := if (0 ≤ x ∧ x < nI (vN v)) ∧ (0 ≤ y ∧ y < nI (vN v)) ∧ x ≠ y then .inr (oI (-9) (fstB (meetB v (tn x) (tn y)) 41)) else .inl 1
theorem oMeet_no {v : Vw} {x y : Int32} (h : ¬ ((0 ≤ x ∧ x < nI (vN v)) ∧ (0 ≤ y ∧ y < nI (vN v)) ∧ x ≠ y)) : oMeet v x y = .inl 1 := if_neg h
theorem oMeet_ok {v : Vw} {a b : Nat} (hn : vN v ≤ 4) (h : (0 ≤ nI a ∧ nI a < nI (vN v))) (h2 : (0 ≤ nI b ∧ nI b < nI (vN v))) (h3 : nI a ≠ nI b) (ha : a < vN v) (hb : b < vN v) : oMeet v (nI a) (nI b) = .inr (oI (-9) (fstB (meetB v a b) 41)) := by
  unfold oMeet
  rw [if_pos ⟨h, h2, h3⟩, tn_n (by omega), tn_n (by omega)]
def aloneB (v : Vw) (r l : Nat) : Bool := decide ((frs v r l (vN v)).2 < 2)
def toldI (v : Vw) (r : Nat) : Int32 := if traces v r < 2 then -9 else match fstB (fun l => !aloneB v r l) 41 with
  | some l => nI l
  | none => nI 41
theorem told_1 {v : Vw} {r : Nat} (h : traces v r < 2) : toldI v r = -9 := if_pos h
theorem told_2 {v : Vw} {r l : Nat} (h : ¬ traces v r < 2) (h2 : fstB (fun l => !aloneB v r l) 41 = some l) : toldI v r = nI l := by
  unfold toldI
  rw [if_neg h, h2]
theorem told_3 {v : Vw} {r : Nat} (h : ¬ traces v r < 2) (h2 : fstB (fun l => !aloneB v r l) 41 = none) : toldI v r = nI 41 := by
  unfold toldI
  rw [if_neg h, h2]
def oTold (v : Vw) (x : Int32) : Ans := if (0 ≤ x ∧ x < nI 6) then .inr (toldI v (tn x)) else .inl 1
theorem oTold_no {v : Vw} {x : Int32} (h : ¬ (0 ≤ x ∧ x < nI 6)) : oTold v x = .inl 1 := if_neg h
theorem oTold_ok {v : Vw} {r : Nat} (h : (0 ≤ nI r ∧ nI r < nI 6)) (hr : r < 6) : oTold v (nI r) = .inr (toldI v r) := by
  unfold oTold
  rw [if_pos h, tn_n (by omega)]
/-- the rooms reached in minute k -/
def reach (v : Vw) (f : Bool) (a : Nat) : Nat → Nat
  | 0 => 1 <<< a
  | k + 1 => withinN (goN v (k + 1)) (reach v f a k) 6 &&& (if f = true then maskOf (upTo3 (goN v (k + 1)) 3) 6 else emptyM (goN v (k + 1)) (vN (goN v (k + 1))))
theorem one_lt : ∀ a, a < 6 → 1 <<< a < 64 := by decide
theorem sh_one : ∀ a, a < 6 → nI 1 <<< (nI a &&& 31) = nI (1 <<< a) := by decide
theorem reach_lt {B : Nat} {v : Vw} (h : wf B v) {f : Bool} {a : Nat} (ha : a < 6) : ∀ k, reach v f a k < 64
  | 0 => one_lt a ha
  | k + 1 => by
    unfold reach
    refine and2_lt _ (within_lt (wf_goN h (k + 1)) (reach_lt h ha k) 6 (Nat.le_refl _)) _ ?_
    split
    · exact maskOf_lt 6 (Nat.le_refl _)
    · exact emptyM_lt (wf_goN h (k + 1)) _ (Nat.le_refl _)
theorem sm_reach {B : Nat} {v u : Vw} (h : Sm v u) (hv : wf B v) {f : Bool} {a : Nat} : ∀ k, reach v f a k = reach u f a k
  | 0 => rfl
  | k + 1 => by
    have hs := sm_goN h hv (k + 1)
    unfold reach
    rw [sm_reach h hv k, sm_within hs 6 (Nat.le_refl _), sm_upToM hs, ← sm_n hs, sm_emptyM hs _ (Nat.le_refl _)]
set_option maxRecDepth 100000 in
set_option maxHeartbeats 4000000 in
theorem c_X3_meet (v : Vw) (rf : Nat) (go : Nat → Nat) (vm : Vw) (rm : Nat) (gm : Nat → Nat) (vt : Vw) (rt : Nat) (gt : Nat → Nat) (tk : Bool) (lt : Nat → Nat) (len : Nat) (op : Nat → Nat) (to on : Nat → Nat → Nat) (last : Nat) (num : Nat → Nat) (nin : Nat) (re : Nat → Nat) (x y : Int32) (hv : wf 99 v) : Con yX3_meet cX3_meet 4 (some .int) 5 0 0 [aR 0 0 0, aI (x), aI (y)] (mainW v rf go vm rm gm vt rt gt tk lt len op to on last num nin re) (fun r M => r = some (aI (ansOf (oMeet v x y))) ∧ PX v rf vt rt tk lt len num nin (bump re (oMeet v x y)) M) := by
  refine con_of RX3 pn_X3 rfl rfl (Nat.le_of_ble_eq_true rfl) (fun C hM0 hC => ?_)
  show G C 0 0 0 [aR 0 0 0, aI (x), aI (y), aK 9] [] (mainW v rf go vm rm gm vt rt gt tk lt len op to on last num nin re)
  have hn4 := wf_n hv
  refine g_aload_n hC dX3_meet_0 rfl rfl ?_
  refine gf_X3_now hC dX3_meet_1 rfl rfl ?_
  refine g_iload_n hC dX3_meet_4 rfl ?_
  refine gi_X3_82 hC (is := [1]) (st := []) (c_X1_isWalker v rf go x) dX3_meet_5 rfl ⟨by decide, by decide⟩ ⟨by decide, by decide⟩ rfl (by decide) rfl rfl rfl ?_
  refine g_if_eqB (tgt := 27) hC dX3_meet_8 (by decide) (fun h_8 => ?_) (fun h_8 => ?_)
  · skip
    have hno := of_decide_eq_false h_8
    refine g_aload_n hC dX3_meet_27 rfl rfl ?_
    refine g_iconst (v := (-1)) hC dX3_meet_28 (by decide) ?_
    refine gi_X3_51 hC (is := [0, 1, 2, 3, 4, 5, 6, 7]) (st := []) (c_X3_refuse v rf go vm rm gm vt rt gt tk lt len op to on last num nin re (k := 1) (by decide)) dX3_meet_29 rfl ⟨by decide, by decide⟩ ⟨by decide, by decide⟩ rfl (by decide) rfl rfl rfl ?_
    exact g_iret hC rfl dX3_meet_32 (by first | exact ⟨rV (by rw [oMeet_no (fun z => hno z.1)]; rfl), by rw [oMeet_no (fun z => hno z.1)]; exact ⟨_, _, _, _, _, _, _, _, _, rfl⟩⟩ | exact ⟨rV (by rw [oMeet_no (fun z => hno z.2.1)]; rfl), by rw [oMeet_no (fun z => hno z.2.1)]; exact ⟨_, _, _, _, _, _, _, _, _, rfl⟩⟩ | exact ⟨rV (by rw [oMeet_no (fun z => z.2.2 h_24)]; rfl), by rw [oMeet_no (fun z => z.2.2 h_24)]; exact ⟨_, _, _, _, _, _, _, _, _, rfl⟩⟩)
  · skip
    have hw := of_decide_eq_true h_8
    obtain ⟨a, ha0, rfl⟩ := wk_of hn4 hw
    refine g_aload_n hC dX3_meet_11 rfl rfl ?_
    refine gf_X3_now hC dX3_meet_12 rfl rfl ?_
    refine g_iload_n hC dX3_meet_15 rfl ?_
    refine gi_X3_82 hC (is := [1]) (st := []) (c_X1_isWalker v rf go y) dX3_meet_16 rfl ⟨by decide, by decide⟩ ⟨by decide, by decide⟩ rfl (by decide) rfl rfl rfl ?_
    refine g_if_eqB (tgt := 27) hC dX3_meet_19 (by decide) (fun h_19 => ?_) (fun h_19 => ?_)
    · skip
      have hno := of_decide_eq_false h_19
      refine g_aload_n hC dX3_meet_27 rfl rfl ?_
      refine g_iconst (v := (-1)) hC dX3_meet_28 (by decide) ?_
      refine gi_X3_51 hC (is := [0, 1, 2, 3, 4, 5, 6, 7]) (st := []) (c_X3_refuse v rf go vm rm gm vt rt gt tk lt len op to on last num nin re (k := 1) (by decide)) dX3_meet_29 rfl ⟨by decide, by decide⟩ ⟨by decide, by decide⟩ rfl (by decide) rfl rfl rfl ?_
      exact g_iret hC rfl dX3_meet_32 (by first | exact ⟨rV (by rw [oMeet_no (fun z => hno z.1)]; rfl), by rw [oMeet_no (fun z => hno z.1)]; exact ⟨_, _, _, _, _, _, _, _, _, rfl⟩⟩ | exact ⟨rV (by rw [oMeet_no (fun z => hno z.2.1)]; rfl), by rw [oMeet_no (fun z => hno z.2.1)]; exact ⟨_, _, _, _, _, _, _, _, _, rfl⟩⟩ | exact ⟨rV (by rw [oMeet_no (fun z => z.2.2 h_24)]; rfl), by rw [oMeet_no (fun z => z.2.2 h_24)]; exact ⟨_, _, _, _, _, _, _, _, _, rfl⟩⟩)
    · skip
      have hw2 := of_decide_eq_true h_19
      obtain ⟨b, hb0, rfl⟩ := wk_of hn4 hw2
      refine g_iload_n hC dX3_meet_22 rfl ?_
      refine g_iload_n hC dX3_meet_23 rfl ?_
      refine g_icmp_ne (tgt := 33) hC dX3_meet_24 (by decide) (fun h_24 => ?_) (fun h_24 => ?_)
      · skip
        refine g_aload_n hC dX3_meet_33 rfl rfl ?_
        refine gf_X3_mind hC dX3_meet_34 rfl rfl ?_
        refine g_aload_n hC dX3_meet_37 rfl rfl ?_
        refine gf_X3_now hC dX3_meet_38 rfl rfl ?_
        refine gi_X3_148 hC (is := [2, 1]) (st := []) (c_X1_become vm v rm rf gm go hn4) dX3_meet_41 rfl ⟨by decide, by decide⟩ ⟨by decide, by decide⟩ rfl (by decide) rfl rfl rfl ?_
        refine g_iconst (v := nI (0)) hC dX3_meet_44 (by decide) ?_
        refine g_istore_n hC dX3_meet_45 (by decide) rfl ?_
        have loop : ∀ d k, k + d = 41 → fstB (meetB v a b) k = none → G C 0 0 46 [aR 0 0 0, aI (nI (a)), aI (nI (b)), aI (nI (k))] [] (mainW v rf go (goN (becm vm v) k) rf (goG (becm vm v) gm k) vt rt gt tk lt len op to on last num nin re) := by
          intro d
          induction d with
          | zero =>
            intro k hk hf
            obtain rfl : k = 41 := by omega
            refine g_iload_n hC dX3_meet_46 rfl ?_
            refine g_bipush (v := nI (40)) hC dX3_meet_47 (by decide) ?_
            refine g_icmp_gtN (tgt := 87) hC dX3_meet_49 (by decide) (by omega) (by omega) (fun h_49 => ?_) (fun h_49 => ?_)
            · skip
              refine g_bipush (v := (-9)) hC dX3_meet_87 (by decide) ?_
              exact g_iret hC rfl dX3_meet_89 (⟨rV (by rw [oMeet_ok hn4 hw hw2 h_24 ha0 hb0, hf]; rfl), by rw [oMeet_ok hn4 hw hw2 h_24 ha0 hb0]; exact ⟨_, _, _, _, _, _, _, _, _, rfl⟩⟩)
            · skip
              omega
          | succ d ih =>
            intro k hk hf
            have hsm := sm_goN (sm_bec vm hv) (wf_becm vm hv) k
            have hwm : wf 200 (goN (becm vm v) k) := wf_up (wf_goN (wf_becm vm hv) k) (by omega)
            have hpa := wf_pl hwm a (by rw [goN_n]; exact ha0)
            have hpb := wf_pl hwm b (by rw [goN_n]; exact hb0)
            have ea := sm_pl hsm a (by rw [goN_n]; exact ha0)
            have eb := sm_pl hsm b (by rw [goN_n]; exact hb0)
            refine g_iload_n hC dX3_meet_46 rfl ?_
            refine g_bipush (v := nI (40)) hC dX3_meet_47 (by decide) ?_
            refine g_icmp_gtN (tgt := 87) hC dX3_meet_49 (by decide) (by omega) (by omega) (fun h_49 => ?_) (fun h_49 => ?_)
            · skip
              omega
            · skip
              refine g_aload_n hC dX3_meet_52 rfl rfl ?_
              refine gf_X3_mind hC dX3_meet_53 rfl rfl ?_
              refine g_iload_n hC dX3_meet_56 rfl ?_
              refine gi_X3_88 hC (is := [2]) (st := []) (c_X1_placeOf (goN (becm vm v) k) rf (goG (becm vm v) gm k) (show a < 4 by omega)) dX3_meet_57 rfl ⟨by decide, by decide⟩ ⟨by decide, by decide⟩ rfl (by decide) rfl rfl rfl ?_
              refine g_aload_n hC dX3_meet_60 rfl rfl ?_
              refine gf_X3_mind hC dX3_meet_61 rfl rfl ?_
              refine g_iload_n hC dX3_meet_64 rfl ?_
              refine gi_X3_88 hC (is := [2]) (st := [aI (nI (vPl (goN (becm vm v) k) a))]) (c_X1_placeOf (goN (becm vm v) k) rf (goG (becm vm v) gm k) (show b < 4 by omega)) dX3_meet_65 rfl ⟨by decide, by decide⟩ ⟨by decide, by decide⟩ rfl (by decide) rfl rfl rfl ?_
              refine g_icmp_neN (tgt := 73) hC dX3_meet_68 (by decide) (by omega) (by omega) (fun h_68 => ?_) (fun h_68 => ?_)
              · skip
                refine g_aload_n hC dX3_meet_73 rfl rfl ?_
                refine gf_X3_mind hC dX3_meet_74 rfl rfl ?_
                refine g_iconst (v := nI (1)) hC dX3_meet_77 (by decide) ?_
                refine gi_X3_124 hC (is := [2]) (st := []) (c_X1_goOn (goN (becm vm v) k) rf (goG (becm vm v) gm k) (wf_goN (wf_becm vm hv) k) (show 99 + k + 1 ≤ 200 by omega)) dX3_meet_78 rfl ⟨by decide, by decide⟩ ⟨by decide, by decide⟩ rfl (by decide) rfl rfl rfl ?_
                refine g_iincN hC dX3_meet_81 rfl (by decide) rfl ?_
                refine g_goto (tgt := 46) hC dX3_meet_84 (by decide) ?_
                exact ih (k + 1) (by omega) (fst_no hf (decide_eq_false (by rw [← ea, ← eb]; exact h_68)))
              · skip
                refine g_iload_n hC dX3_meet_71 rfl ?_
                have hx := fst_at hf (decide_eq_true (by rw [← ea, ← eb]; exact h_68)) 41 (by omega)
                exact g_iret hC rfl dX3_meet_72 (⟨rV (by rw [oMeet_ok hn4 hw hw2 h_24 ha0 hb0, hx]; rfl), by rw [oMeet_ok hn4 hw hw2 h_24 ha0 hb0]; exact ⟨_, _, _, _, _, _, _, _, _, rfl⟩⟩)
        exact loop 41 0 (by omega) rfl
      · skip
        refine g_aload_n hC dX3_meet_27 rfl rfl ?_
        refine g_iconst (v := (-1)) hC dX3_meet_28 (by decide) ?_
        refine gi_X3_51 hC (is := [0, 1, 2, 3, 4, 5, 6, 7]) (st := []) (c_X3_refuse v rf go vm rm gm vt rt gt tk lt len op to on last num nin re (k := 1) (by decide)) dX3_meet_29 rfl ⟨by decide, by decide⟩ ⟨by decide, by decide⟩ rfl (by decide) rfl rfl rfl ?_
        exact g_iret hC rfl dX3_meet_32 (by first | exact ⟨rV (by rw [oMeet_no (fun z => hno z.1)]; rfl), by rw [oMeet_no (fun z => hno z.1)]; exact ⟨_, _, _, _, _, _, _, _, _, rfl⟩⟩ | exact ⟨rV (by rw [oMeet_no (fun z => hno z.2.1)]; rfl), by rw [oMeet_no (fun z => hno z.2.1)]; exact ⟨_, _, _, _, _, _, _, _, _, rfl⟩⟩ | exact ⟨rV (by rw [oMeet_no (fun z => z.2.2 h_24)]; rfl), by rw [oMeet_no (fun z => z.2.2 h_24)]; exact ⟨_, _, _, _, _, _, _, _, _, rfl⟩⟩)

set_option maxRecDepth 100000 in
set_option maxHeartbeats 4000000 in
theorem c_X3_told (v : Vw) (rf : Nat) (go : Nat → Nat) (vm : Vw) (rm : Nat) (gm : Nat → Nat) (vt : Vw) (rt : Nat) (gt : Nat → Nat) (tk : Bool) (lt : Nat → Nat) (len : Nat) (op : Nat → Nat) (to on : Nat → Nat → Nat) (last : Nat) (num : Nat → Nat) (nin : Nat) (re : Nat → Nat) (x : Int32) (hv : wf 99 v) : Con yX3_told cX3_told 3 (some .int) 3 0 0 [aR 0 0 0, aI (x)] (mainW v rf go vm rm gm vt rt gt tk lt len op to on last num nin re) (fun r M => r = some (aI (ansOf (oTold v x))) ∧ PX v rf vt rt tk lt len num nin (bump re (oTold v x)) M) := by
  refine con_of RX3 pn_X3 rfl rfl (Nat.le_of_ble_eq_true rfl) (fun C hM0 hC => ?_)
  show G C 0 0 0 [aR 0 0 0, aI (x), aK 9] [] (mainW v rf go vm rm gm vt rt gt tk lt len op to on last num nin re)
  have hn4 := wf_n hv
  refine g_iload_n hC dX3_told_0 rfl ?_
  refine gi_X3_69 hC (is := []) (st := []) (c_X3_isRoom x) dX3_told_1 rfl ⟨by decide, by decide⟩ ⟨by decide, by decide⟩ rfl (by decide) rfl rfl ?_
  refine g_if_neB (tgt := 13) hC dX3_told_4 (by decide) (fun h_4 => ?_) (fun h_4 => ?_)
  · skip
    have hr := of_decide_eq_true h_4
    obtain ⟨r, hr0, rfl⟩ := rm_of hr
    refine g_aload_n hC dX3_told_13 rfl rfl ?_
    refine gf_X3_now hC dX3_told_14 rfl rfl ?_
    refine g_iload_n hC dX3_told_17 rfl ?_
    refine gi_X3_133 hC (is := [1]) (st := []) (c_X1_tracesIn v rf go hv (by decide) hr0) dX3_told_18 rfl ⟨by decide, by decide⟩ ⟨by decide, by decide⟩ rfl (by decide) rfl rfl rfl ?_
    refine g_iconst (v := nI (2)) hC dX3_told_21 (by decide) ?_
    refine g_icmp_geN (tgt := 28) hC dX3_told_22 (by decide) (by have := cnt_le (fun w => (vLf v w r).isSome) (vN v); show traces v r < 2 ^ 31; unfold traces; omega) (by omega) (fun h_22 => ?_) (fun h_22 => ?_)
    · skip
      refine g_iconst (v := nI (0)) hC dX3_told_28 (by decide) ?_
      refine g_istore_n hC dX3_told_29 (by decide) rfl ?_
      have loop : ∀ d k, k + d = 41 → fstB (fun l => !aloneB v r l) k = none → G C 0 0 30 [aR 0 0 0, aI (nI (r)), aI (nI (k))] [] (mainW v rf go vm rm gm vt rt gt tk lt len op to on last num nin re) := by
        intro d
        induction d with
        | zero =>
          intro k hk hf
          obtain rfl : k = 41 := by omega
          refine g_iload_n hC dX3_told_30 rfl ?_
          refine g_bipush (v := nI (40)) hC dX3_told_31 (by decide) ?_
          refine g_icmp_gtN (tgt := 56) hC dX3_told_33 (by decide) (by omega) (by omega) (fun h_33 => ?_) (fun h_33 => ?_)
          · skip
            refine g_bipush (v := nI (41)) hC dX3_told_56 (by decide) ?_
            exact g_iret hC rfl dX3_told_58 (⟨rV (by rw [oTold_ok hr hr0, told_3 (by omega) hf]; rfl), by rw [oTold_ok hr hr0]; exact ⟨_, _, _, _, _, _, _, _, _, rfl⟩⟩)
          · skip
            omega
        | succ d ih =>
          intro k hk hf
          refine g_iload_n hC dX3_told_30 rfl ?_
          refine g_bipush (v := nI (40)) hC dX3_told_31 (by decide) ?_
          refine g_icmp_gtN (tgt := 56) hC dX3_told_33 (by decide) (by omega) (by omega) (fun h_33 => ?_) (fun h_33 => ?_)
          · skip
            omega
          · skip
            refine g_aload_n hC dX3_told_36 rfl rfl ?_
            refine gf_X3_now hC dX3_told_37 rfl rfl ?_
            refine g_iload_n hC dX3_told_40 rfl ?_
            refine g_iload_n hC dX3_told_41 rfl ?_
            refine gi_X3_175 hC (is := [1]) (st := []) (c_X1_isFreshestApart v rf go hv (by decide) hr0 (show k ≤ 50 by omega)) dX3_told_42 rfl ⟨by decide, by decide⟩ ⟨by decide, by decide⟩ rfl (by decide) rfl rfl rfl ?_
            refine g_if_neB (tgt := 50) hC dX3_told_45 (by decide) (fun h_45 => ?_) (fun h_45 => ?_)
            · skip
              refine g_iincN hC dX3_told_50 rfl (by decide) rfl ?_
              refine g_goto (tgt := 30) hC dX3_told_53 (by decide) ?_
              exact ih (k + 1) (by omega) (fst_no hf (by show (!aloneB v r k) = false; rw [show aloneB v r k = true from h_45]; rfl))
            · skip
              refine g_iload_n hC dX3_told_48 rfl ?_
              exact g_iret hC rfl dX3_told_49 (⟨rV (by rw [oTold_ok hr hr0, told_2 (by omega) (fst_at hf (by show (!aloneB v r k) = true; rw [show aloneB v r k = false from h_45]; rfl) 41 (by omega))]; rfl), by rw [oTold_ok hr hr0]; exact ⟨_, _, _, _, _, _, _, _, _, rfl⟩⟩)
      exact loop 41 0 (by omega) rfl
    · skip
      refine g_bipush (v := (-9)) hC dX3_told_25 (by decide) ?_
      exact g_iret hC rfl dX3_told_27 (⟨rV (by rw [oTold_ok hr hr0, told_1 (by omega)]; rfl), by rw [oTold_ok hr hr0]; exact ⟨_, _, _, _, _, _, _, _, _, rfl⟩⟩)
  · skip
    have hno := of_decide_eq_false h_4
    refine g_aload_n hC dX3_told_7 rfl rfl ?_
    refine g_iconst (v := (-1)) hC dX3_told_8 (by decide) ?_
    refine gi_X3_51 hC (is := [0, 1, 2, 3, 4, 5, 6, 7]) (st := []) (c_X3_refuse v rf go vm rm gm vt rt gt tk lt len op to on last num nin re (k := 1) (by decide)) dX3_told_9 rfl ⟨by decide, by decide⟩ ⟨by decide, by decide⟩ rfl (by decide) rfl rfl rfl ?_
    exact g_iret hC rfl dX3_told_12 (⟨rV (by rw [oTold_no hno]; rfl), by rw [oTold_no hno]; exact ⟨_, _, _, _, _, _, _, _, _, rfl⟩⟩)

set_option maxRecDepth 100000 in
set_option maxHeartbeats 4000000 in
theorem c_X3_soonest (v : Vw) (rf : Nat) (go : Nat → Nat) (vm : Vw) (rm : Nat) (gm : Nat → Nat) (vt : Vw) (rt : Nat) (gt : Nat → Nat) (tk : Bool) (lt : Nat → Nat) (len : Nat) (op : Nat → Nat) (to on : Nat → Nat → Nat) (last : Nat) (num : Nat → Nat) (nin : Nat) (re : Nat → Nat) {a b : Nat} (ha : a < 6) (hb : b < 6) (f : Bool) (hv : wf 99 v) : Con yX3_soonest cX3_soonest 7 (some .int) 5 0 0 [aR 0 0 0, aI (nI (a)), aI (nI (b)), aI (bI (f))] (mainW v rf go vm rm gm vt rt gt tk lt len op to on last num nin re) (fun r M => r = some (aI (oI (-9) (fstB (fun k => (reach (becm vm v) f a k).testBit b) 41))) ∧ ∃ (vm1 : Vw) (rm1 : Nat) (gm1 : Nat → Nat), M = mainW v rf go vm1 rm1 gm1 vt rt gt tk lt len op to on last num nin re) := by
  refine con_of RX3 pn_X3 rfl rfl (Nat.le_of_ble_eq_true rfl) (fun C hM0 hC => ?_)
  show G C 0 0 0 [aR 0 0 0, aI (nI (a)), aI (nI (b)), aI (bI (f)), aK 9, aK 9, aK 9] [] (mainW v rf go vm rm gm vt rt gt tk lt len op to on last num nin re)
  have hn4 := wf_n hv
  have hwb := wf_becm vm hv
  have loop : ∀ d k, k + d = 41 → fstB (fun k => (reach (becm vm v) f a k).testBit b) k = none → G C 0 0 19 [aR 0 0 0, aI (nI (a)), aI (nI (b)), aI (bI (f)), aI (nI (reach (becm vm v) f a k)), aI (nI (k)), aK 9] [] (mainW v rf go (goN (becm vm v) k) rf (goG (becm vm v) gm k) vt rt gt tk lt len op to on last num nin re) := by
    intro d
    induction d with
    | zero =>
      intro k hk hf
      obtain rfl : k = 41 := by omega
      refine g_iload hC dX3_soonest_19 rfl ?_
      refine g_bipush (v := nI (40)) hC dX3_soonest_21 (by decide) ?_
      refine g_icmp_gtN (tgt := 91) hC dX3_soonest_23 (by decide) (by omega) (by omega) (fun h_23 => ?_) (fun h_23 => ?_)
      · skip
        refine g_bipush (v := (-9)) hC dX3_soonest_91 (by decide) ?_
        exact g_iret hC rfl dX3_soonest_93 (⟨rV (by rw [hf]; rfl), _, _, _, rfl⟩)
      · skip
        omega
    | succ d ih =>
      intro k hk hf
      have hrl := reach_lt hwb (f := f) ha k
      have hwm : wf 200 (goN (becm vm v) (k + 1)) := wf_up (wf_goN hwb (k + 1)) (by omega)
      have hwl := within_lt hwm hrl 6 (Nat.le_refl _)
      refine g_iload hC dX3_soonest_19 rfl ?_
      refine g_bipush (v := nI (40)) hC dX3_soonest_21 (by decide) ?_
      refine g_icmp_gtN (tgt := 91) hC dX3_soonest_23 (by decide) (by omega) (by omega) (fun h_23 => ?_) (fun h_23 => ?_)
      · skip
        omega
      · skip
        refine g_iload hC dX3_soonest_26 rfl ?_
        refine g_iload_n hC dX3_soonest_28 rfl ?_
        refine g_ishr hC dX3_soonest_29 rfl ?_
        refine g_iconst (v := nI (1)) hC dX3_soonest_30 (by decide) ?_
        refine g_iand (v := nI (((reach (becm vm v) f a k).testBit b).toNat)) hC dX3_soonest_31 (shr_bit _ hrl _ hb) ?_
        refine g_iconst (v := nI (1)) hC dX3_soonest_32 (by decide) ?_
        refine g_icmp_neN (tgt := 39) hC dX3_soonest_33 (by decide) (bt_lt _) (by omega) (fun h_33 => ?_) (fun h_33 => ?_)
        · skip
          refine g_aload_n hC dX3_soonest_39 rfl rfl ?_
          refine gf_X3_mind hC dX3_soonest_40 rfl rfl ?_
          refine g_iconst (v := nI (1)) hC dX3_soonest_43 (by decide) ?_
          refine gi_X3_124 hC (is := [2]) (st := []) (c_X1_goOn (goN (becm vm v) k) rf (goG (becm vm v) gm k) (wf_goN (wf_becm vm hv) k) (show 99 + k + 1 ≤ 200 by omega)) dX3_soonest_44 rfl ⟨by decide, by decide⟩ ⟨by decide, by decide⟩ rfl (by decide) rfl rfl rfl ?_
          refine g_iload_n hC dX3_soonest_47 rfl ?_
          refine g_if_eqB (tgt := 62) hC dX3_soonest_48 (by decide) (fun h_48 => ?_) (fun h_48 => ?_)
          · skip
            refine g_aload_n hC dX3_soonest_62 rfl rfl ?_
            refine gf_X3_mind hC dX3_soonest_63 rfl rfl ?_
            refine gi_X3_207 hC (is := [2]) (st := []) (c_X1_emptyRooms (goN (becm vm v) (k + 1)) rf (goG (becm vm v) gm (k + 1)) hwm (by decide)) dX3_soonest_66 rfl ⟨by decide, by decide⟩ ⟨by decide, by decide⟩ rfl (by decide) rfl rfl rfl ?_
            refine g_istore hC dX3_soonest_69 (by decide) rfl ?_
            refine g_aload_n hC dX3_soonest_71 rfl rfl ?_
            refine gf_X3_mind hC dX3_soonest_72 rfl rfl ?_
            refine g_iload hC dX3_soonest_75 rfl ?_
            refine gi_X3_210 hC (is := [2]) (st := []) (c_X1_within (goN (becm vm v) (k + 1)) rf (goG (becm vm v) gm (k + 1)) hwm (by decide) hrl) dX3_soonest_77 rfl ⟨by decide, by decide⟩ ⟨by decide, by decide⟩ rfl (by decide) rfl rfl rfl ?_
            refine g_iload hC dX3_soonest_80 rfl ?_
            refine g_iand (v := nI (reach (becm vm v) f a (k + 1))) hC dX3_soonest_82 (by rw [and_mask _ hwl _ (emptyM_lt hwm _ (Nat.le_refl _))]; show _ = nI (withinN _ _ 6 &&& (if f = true then _ else _)); rw [h_48]; rfl) ?_
            refine g_istore hC dX3_soonest_83 (by decide) rfl ?_
            refine g_iincN hC dX3_soonest_85 rfl (by decide) rfl ?_
            refine g_goto (tgt := 19) hC dX3_soonest_88 (by decide) ?_
            refine g_mask [true, true, true, true, true, true, false] ?_
            exact ih (k + 1) (by omega) (fst_no hf (b0 h_33))
          · skip
            refine g_aload_n hC dX3_soonest_51 rfl rfl ?_
            refine gf_X3_mind hC dX3_soonest_52 rfl rfl ?_
            refine g_iconst (v := nI (3)) hC dX3_soonest_55 (by decide) ?_
            refine gi_X3_204 hC (is := [2]) (st := []) (c_X1_roomsWithTraceUpTo (goN (becm vm v) (k + 1)) rf (goG (becm vm v) gm (k + 1)) hwm (by decide) (show 3 < 2000 by decide)) dX3_soonest_56 rfl ⟨by decide, by decide⟩ ⟨by decide, by decide⟩ rfl (by decide) rfl rfl rfl ?_
            refine g_goto (tgt := 69) hC dX3_soonest_59 (by decide) ?_
            refine g_istore hC dX3_soonest_69 (by decide) rfl ?_
            refine g_aload_n hC dX3_soonest_71 rfl rfl ?_
            refine gf_X3_mind hC dX3_soonest_72 rfl rfl ?_
            refine g_iload hC dX3_soonest_75 rfl ?_
            refine gi_X3_210 hC (is := [2]) (st := []) (c_X1_within (goN (becm vm v) (k + 1)) rf (goG (becm vm v) gm (k + 1)) hwm (by decide) hrl) dX3_soonest_77 rfl ⟨by decide, by decide⟩ ⟨by decide, by decide⟩ rfl (by decide) rfl rfl rfl ?_
            refine g_iload hC dX3_soonest_80 rfl ?_
            refine g_iand (v := nI (reach (becm vm v) f a (k + 1))) hC dX3_soonest_82 (by rw [and_mask _ hwl _ (maskOf_lt 6 (Nat.le_refl _))]; show _ = nI (withinN _ _ 6 &&& (if f = true then _ else _)); rw [h_48]; rfl) ?_
            refine g_istore hC dX3_soonest_83 (by decide) rfl ?_
            refine g_iincN hC dX3_soonest_85 rfl (by decide) rfl ?_
            refine g_goto (tgt := 19) hC dX3_soonest_88 (by decide) ?_
            refine g_mask [true, true, true, true, true, true, false] ?_
            exact ih (k + 1) (by omega) (fst_no hf (b0 h_33))
        · skip
          refine g_iload hC dX3_soonest_36 rfl ?_
          exact g_iret hC rfl dX3_soonest_38 (⟨rV (by rw [fst_at hf (b1 h_33) 41 (by omega)]; rfl), _, _, _, rfl⟩)
  refine g_iconst (v := nI (1)) hC dX3_soonest_0 (by decide) ?_
  refine g_iload_n hC dX3_soonest_1 rfl ?_
  refine g_ishl (v := nI (1 <<< a)) hC dX3_soonest_2 (sh_one _ ha) ?_
  refine g_istore hC dX3_soonest_3 (by decide) rfl ?_
  refine g_aload_n hC dX3_soonest_5 rfl rfl ?_
  refine gf_X3_mind hC dX3_soonest_6 rfl rfl ?_
  refine g_aload_n hC dX3_soonest_9 rfl rfl ?_
  refine gf_X3_now hC dX3_soonest_10 rfl rfl ?_
  refine gi_X3_148 hC (is := [2, 1]) (st := []) (c_X1_become vm v rm rf gm go hn4) dX3_soonest_13 rfl ⟨by decide, by decide⟩ ⟨by decide, by decide⟩ rfl (by decide) rfl rfl rfl ?_
  refine g_iconst (v := nI (0)) hC dX3_soonest_16 (by decide) ?_
  refine g_istore hC dX3_soonest_17 (by decide) rfl ?_
  exact loop 41 0 (by omega) rfl

