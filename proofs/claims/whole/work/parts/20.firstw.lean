/-! ===== the statements of a text ===== -/
def rN (lt : Nat → Nat) (len b m : Nat) : Nat := rn (fun i => dig (ltr lt len (b + i))) m
theorem rN_le (lt : Nat → Nat) (len b m : Nat) : rN lt len b m ≤ m := (rn_spec _ m).1
theorem rN_dig {lt : Nat → Nat} {len b m : Nat} : ∀ i, i < rN lt len b m → dig (ltr lt len (b + i)) = true := (rn_spec _ m).2.1
theorem c_X0_digitsFromN (lt : Nat → Nat) (len : Nat) (hlen : len ≤ 96) (hlt : ∀ j, j < len → lt j < 256) {p m : Nat} (hp : p < 190) (hm : m ≤ 7) : ConF yX0_digitsFrom cX0_digitsFrom 4 (some .int) 2 [aR 0 0 0, aI (nI p), aI (nI m)] [tellG lt len] (some (aI (nI (rN lt len p m)))) [tellG lt len] := c_X0_digitsFrom lt len hlen hlt hp hm
/-- where the statement from s stops, and whether it is right -/
def gd (lt : Nat → Nat) (len least b r : Nat) : Bool := decide (least ≤ r) && decide (ltr lt len (b + r) = some 59)
theorem gd_1 {lt : Nat → Nat} {len least b r : Nat} (h : r < least) : gd lt len least b r = false := by unfold gd; rw [decide_eq_false (by omega), Bool.false_and]
theorem gd_2 {lt : Nat → Nat} {len least b r : Nat} (h : ltr lt len (b + r) ≠ some 59) : gd lt len least b r = false := by unfold gd; rw [decide_eq_false h, Bool.and_false]
theorem gd_3 {lt : Nat → Nat} {len least b r : Nat} (h1 : least ≤ r) (h : ltr lt len (b + r) = some 59) : gd lt len least b r = true := by unfold gd; rw [decide_eq_true h1, decide_eq_true h]; rfl
def stp (lt : Nat → Nat) (len s : Nat) : Nat × Bool :=
  if ld (ltr lt len s) = 0 then (s, false)
  else if ltr lt len s = some 97 then (if kin (ltr lt len (s + 1)) = none then (s + 1, false) else (s + 1 + 1 + rN lt len (s + 1 + 1) (md (ltr lt len s)), gd lt len (ld (ltr lt len s)) (s + 1 + 1) (rN lt len (s + 1 + 1) (md (ltr lt len s)))))
  else (s + 1 + rN lt len (s + 1) (md (ltr lt len s)), gd lt len (ld (ltr lt len s)) (s + 1) (rN lt len (s + 1) (md (ltr lt len s))))
theorem stp_0 {lt : Nat → Nat} {len s : Nat} (h : ld (ltr lt len s) = 0) : stp lt len s = (s, false) := if_pos h
theorem ld_97 {o : Option Nat} (h : o = some 97) : ld o = 1 := by rw [h]; rfl
theorem stp_k {lt : Nat → Nat} {len s : Nat} (h : ltr lt len s = some 97) (h2 : kin (ltr lt len (s + 1)) = none) : stp lt len s = (s + 1, false) := by
  unfold stp
  rw [if_neg (by rw [ld_97 h]; decide), if_pos h, if_pos h2]
theorem stp_a {lt : Nat → Nat} {len s ki : Nat} (h : ltr lt len s = some 97) (h2 : kin (ltr lt len (s + 1)) = some ki) : stp lt len s = (s + 1 + 1 + rN lt len (s + 1 + 1) (md (ltr lt len s)), gd lt len (ld (ltr lt len s)) (s + 1 + 1) (rN lt len (s + 1 + 1) (md (ltr lt len s)))) := by
  unfold stp
  rw [if_neg (by rw [ld_97 h]; decide), if_pos h, if_neg (by rw [h2]; simp)]
theorem stp_d {lt : Nat → Nat} {len s : Nat} (h : ld (ltr lt len s) ≠ 0) (h2 : ltr lt len s ≠ some 97) : stp lt len s = (s + 1 + rN lt len (s + 1) (md (ltr lt len s)), gd lt len (ld (ltr lt len s)) (s + 1) (rN lt len (s + 1) (md (ltr lt len s)))) := by
  unfold stp
  rw [if_neg h, if_neg h2]
/-- where the first wrong letter is -/
def fw (lt : Nat → Nat) (len : Nat) : Nat → Nat → Option Nat
  | 0, _ => none
  | f + 1, s => if (stp lt len s).2 = true then (if (stp lt len s).1 + 1 < len then fw lt len f ((stp lt len s).1 + 1) else none) else some (stp lt len s).1
theorem fw_no {lt : Nat → Nat} {len f s : Nat} (h : (stp lt len s).2 = false) : fw lt len (f + 1) s = some (stp lt len s).1 := if_neg (by rw [h]; decide)
theorem fw_go {lt : Nat → Nat} {len f s : Nat} (h : (stp lt len s).2 = true) (h2 : (stp lt len s).1 + 1 < len) : fw lt len (f + 1) s = fw lt len f ((stp lt len s).1 + 1) := by
  show (if _ then _ else _) = _
  rw [if_pos h, if_pos h2]
theorem fw_end {lt : Nat → Nat} {len f s : Nat} (h : (stp lt len s).2 = true) (h2 : len ≤ (stp lt len s).1 + 1) : fw lt len (f + 1) s = none := by
  show (if _ then _ else _) = _
  rw [if_pos h, if_neg (by omega)]
set_option maxRecDepth 100000 in
set_option maxHeartbeats 4000000 in
theorem c_X3_isRoom (x : Int32) : ConF yX3_isRoom cX3_isRoom 1 (some .boolean) 0 [aI (x)] [] (some (aI (bI (decide (0 ≤ x ∧ x < nI 6))))) [] := by
  refine con_of RX3 pn_X3 rfl rfl (Nat.le_of_ble_eq_true rfl) (fun C hM0 hC => ?_)
  show G C 0 0 0 [aI (x)] [] []
  refine g_iload_n hC dX3_isRoom_0 rfl ?_
  refine g_if_lt (tgt := 14) hC dX3_isRoom_1 (by decide) (fun h_1 => ?_) (fun h_1 => ?_)
  · skip
    refine g_iconst (v := nI (0)) hC dX3_isRoom_14 (by decide) ?_
    exact g_zret hC rfl rfl dX3_isRoom_15 (⟨rB0 (by first | exact fun z => Int32.not_le.mpr h_1 z.1 | exact fun z => Int32.not_le.mpr z.2 h_7), rfl⟩)
  · skip
    refine g_iload_n hC dX3_isRoom_4 rfl ?_
    refine g_bipush (v := nI (6)) hC dX3_isRoom_5 (by decide) ?_
    refine g_icmp_ge (tgt := 14) hC dX3_isRoom_7 (by decide) (fun h_7 => ?_) (fun h_7 => ?_)
    · skip
      refine g_iconst (v := nI (0)) hC dX3_isRoom_14 (by decide) ?_
      exact g_zret hC rfl rfl dX3_isRoom_15 (⟨rB0 (by first | exact fun z => Int32.not_le.mpr h_1 z.1 | exact fun z => Int32.not_le.mpr z.2 h_7), rfl⟩)
    · skip
      refine g_iconst (v := nI (1)) hC dX3_isRoom_10 (by decide) ?_
      refine g_goto (tgt := 15) hC dX3_isRoom_11 (by decide) ?_
      exact g_zret hC rfl rfl dX3_isRoom_15 (⟨rB1 ⟨Int32.not_lt.mp h_1, Int32.not_le.mp h_7⟩, rfl⟩)

theorem rm_N {n : Nat} (hn : n < 2 ^ 31) : decide (0 ≤ nI n ∧ nI n < nI 6) = decide (n < 6) := by
  have e : (0 ≤ nI n ∧ nI n < nI 6) ↔ n < 6 := by
    rw [Int32.le_iff_toInt_le, Int32.lt_iff_toInt_lt, nI_toInt hn, nI_toInt (by omega)]
    have : (0 : Int32).toInt = 0 := by decide
    rw [this]
    omega
  exact decide_eq_decide.mpr e
theorem c_X3_isRoomN {n : Nat} (hn : n < 2 ^ 31) : ConF yX3_isRoom cX3_isRoom 1 (some .boolean) 0 [aI (nI n)] [] (some (aI (bI (decide (n < 6))))) [] := by
  have h := c_X3_isRoom (nI n)
  rw [rm_N hn] at h
  exact h
set_option maxRecDepth 100000 in
set_option maxHeartbeats 4000000 in
theorem c_X0_firstWrongLetter (lt : Nat → Nat) (len : Nat) (hlen : len ≤ 96) (hlt : ∀ j, j < len → lt j < 256) : ConF yX0_firstWrongLetter cX0_firstWrongLetter 5 (some .int) 5 [aR 0 0 0] [tellG lt len] (some (aI (oI (-1) (fw lt len (len + 1) 0)))) [tellG lt len] := by
  refine con_of RX0 pn_X0 rfl rfl (Nat.le_of_ble_eq_true rfl) (fun C hM0 hC => ?_)
  show G C 0 0 0 [aR 0 0 0, aK 9, aK 9, aK 9, aK 9] [] [tellG lt len]
  have loop : ∀ f s, s ≤ len → len < s + f → fw lt len f s = fw lt len (len + 1) 0 → G C 0 0 2 [aR 0 0 0, aI (nI (s)), aK 9, aK 9, aK 9] [] [tellG lt len] := by
    intro f
    induction f with
    | zero =>
      intro s hs hf hfw
      omega
    | succ f ih =>
      intro s hs hf hfw
      have hmd := md_le (ltr lt len s)
      have hld := ld_le (ltr lt len s)
      refine g_aload_n hC dX0_firstWrongLetter_2 rfl rfl ?_
      refine g_iload_n hC dX0_firstWrongLetter_3 rfl ?_
      refine gi_X0_23 hC (is := [0]) (st := []) (c_X0_letterAt lt len hlen hlt (p := s) (by omega)) dX0_firstWrongLetter_4 rfl ⟨by decide, by decide⟩ ⟨by decide, by decide⟩ rfl (by decide) rfl rfl rfl ?_
      refine g_istore_n hC dX0_firstWrongLetter_7 (by decide) rfl ?_
      refine g_iload_n hC dX0_firstWrongLetter_8 rfl ?_
      refine gi_X0_34 hC (is := []) (st := []) (c_X0_leastDigits (ltr_lt hlt)) dX0_firstWrongLetter_9 rfl ⟨by decide, by decide⟩ ⟨by decide, by decide⟩ rfl (by decide) rfl rfl ?_
      refine g_istore_n hC dX0_firstWrongLetter_12 (by decide) rfl ?_
      refine g_iload_n hC dX0_firstWrongLetter_13 rfl ?_
      refine g_if_neN (tgt := 19) hC dX0_firstWrongLetter_14 (by decide) (by omega) (fun h_14 => ?_) (fun h_14 => ?_)
      · skip
        refine g_iincN hC dX0_firstWrongLetter_19 rfl (by decide) rfl ?_
        refine g_iload_n hC dX0_firstWrongLetter_22 rfl ?_
        refine g_bipush (v := nI (97)) hC dX0_firstWrongLetter_23 (by decide) ?_
        refine g_icmp_neQ (tgt := 41) hC dX0_firstWrongLetter_25 (by decide) (fun c q => by have := ltr_lt hlt c q; omega) (by omega) (fun h_25 => ?_) (fun h_25 => ?_)
        · skip
          refine g_aload_n hC dX0_firstWrongLetter_41 rfl rfl ?_
          refine g_iload_n hC dX0_firstWrongLetter_42 rfl ?_
          refine g_iload_n hC dX0_firstWrongLetter_43 rfl ?_
          refine gi_X0_44 hC (is := []) (st := [aI (nI (s + 1)), aR 0 0 0]) (c_X0_mostDigits (ltr_lt hlt)) dX0_firstWrongLetter_44 rfl ⟨by decide, by decide⟩ ⟨by decide, by decide⟩ rfl (by decide) rfl rfl ?_
          refine gi_X0_47 hC (is := [0]) (st := []) (c_X0_digitsFromN lt len hlen hlt (p := s + 1) (by omega) hmd) dX0_firstWrongLetter_47 rfl ⟨by decide, by decide⟩ ⟨by decide, by decide⟩ rfl (by decide) rfl rfl rfl ?_
          have hr := rN_le lt len (s + 1) (md (ltr lt len s))
          have he := stp_d h_14 h_25
          refine g_istore hC dX0_firstWrongLetter_50 (by decide) rfl ?_
          refine g_iload_n hC dX0_firstWrongLetter_52 rfl ?_
          refine g_iload hC dX0_firstWrongLetter_53 rfl ?_
          refine g_iaddN hC dX0_firstWrongLetter_55 ?_
          refine g_istore_n hC dX0_firstWrongLetter_56 (by decide) rfl ?_
          refine g_iload hC dX0_firstWrongLetter_57 rfl ?_
          refine g_iload_n hC dX0_firstWrongLetter_59 rfl ?_
          refine g_icmp_ltN (tgt := 73) hC dX0_firstWrongLetter_60 (by decide) (by omega) (by omega) (fun h_60 => ?_) (fun h_60 => ?_)
          · skip
            refine g_iload_n hC dX0_firstWrongLetter_73 rfl ?_
            exact g_iret hC rfl dX0_firstWrongLetter_74 (⟨rV (by rw [← hfw, fw_no (by rw [he]; first | exact gd_1 h_60 | exact gd_2 h_70), he]; rfl), rfl⟩)
          · skip
            refine g_aload_n hC dX0_firstWrongLetter_63 rfl rfl ?_
            refine g_iload_n hC dX0_firstWrongLetter_64 rfl ?_
            refine gi_X0_23 hC (is := [0]) (st := []) (c_X0_letterAt lt len hlen hlt (p := (s + 1) + (rN lt len (s + 1) (md (ltr lt len s)))) (by omega)) dX0_firstWrongLetter_65 rfl ⟨by decide, by decide⟩ ⟨by decide, by decide⟩ rfl (by decide) rfl rfl rfl ?_
            refine g_bipush (v := nI (59)) hC dX0_firstWrongLetter_68 (by decide) ?_
            refine g_icmp_eqQ (tgt := 75) hC dX0_firstWrongLetter_70 (by decide) (fun c q => by have := ltr_lt hlt c q; omega) (by omega) (fun h_70 => ?_) (fun h_70 => ?_)
            · skip
              refine g_iincN hC dX0_firstWrongLetter_75 rfl (by decide) rfl ?_
              refine g_iload_n hC dX0_firstWrongLetter_78 rfl ?_
              refine g_aload_n hC dX0_firstWrongLetter_79 rfl rfl ?_
              refine gf_X0_length hC dX0_firstWrongLetter_80 rfl rfl ?_
              refine g_icmp_ltN (tgt := 2) hC dX0_firstWrongLetter_83 (by decide) (by omega) (by omega) (fun h_83 => ?_) (fun h_83 => ?_)
              · skip
                refine g_mask [true, true, false, false, false] ?_
                have hin := ltr_in h_70
                refine ih (((s + 1) + (rN lt len (s + 1) (md (ltr lt len s)))) + 1) (by omega) (by omega) ?_
                rw [← hfw, fw_go (by rw [he]; exact gd_3 (by omega) h_70) (by rw [he]; exact h_83), he]
              · skip
                refine g_iconst (v := (-1)) hC dX0_firstWrongLetter_86 (by decide) ?_
                have hin := ltr_in h_70
                exact g_iret hC rfl dX0_firstWrongLetter_87 (⟨rV (by rw [← hfw, fw_end (by rw [he]; exact gd_3 (by omega) h_70) (by rw [he]; exact h_83)]; rfl), rfl⟩)
            · skip
              refine g_iload_n hC dX0_firstWrongLetter_73 rfl ?_
              exact g_iret hC rfl dX0_firstWrongLetter_74 (⟨rV (by rw [← hfw, fw_no (by rw [he]; first | exact gd_1 h_60 | exact gd_2 h_70), he]; rfl), rfl⟩)
        · skip
          refine g_aload_n hC dX0_firstWrongLetter_28 rfl rfl ?_
          refine g_iload_n hC dX0_firstWrongLetter_29 rfl ?_
          refine gi_X0_41 hC (is := [0]) (st := []) (c_X0_kindAt lt len hlen hlt (p := s + 1) (by omega)) dX0_firstWrongLetter_30 rfl ⟨by decide, by decide⟩ ⟨by decide, by decide⟩ rfl (by decide) rfl rfl rfl ?_
          refine g_if_geO (tgt := 38) hC dX0_firstWrongLetter_33 (by decide) (by decide) (fun c q => by have := kin_lt c q; omega) (fun ki h_33 => ?_) (fun h_33 => ?_)
          · skip
            refine g_iincN hC dX0_firstWrongLetter_38 rfl (by decide) rfl ?_
            refine g_aload_n hC dX0_firstWrongLetter_41 rfl rfl ?_
            refine g_iload_n hC dX0_firstWrongLetter_42 rfl ?_
            refine g_iload_n hC dX0_firstWrongLetter_43 rfl ?_
            refine gi_X0_44 hC (is := []) (st := [aI (nI ((s + 1) + 1)), aR 0 0 0]) (c_X0_mostDigits (ltr_lt hlt)) dX0_firstWrongLetter_44 rfl ⟨by decide, by decide⟩ ⟨by decide, by decide⟩ rfl (by decide) rfl rfl ?_
            refine gi_X0_47 hC (is := [0]) (st := []) (c_X0_digitsFromN lt len hlen hlt (p := (s + 1) + 1) (by omega) hmd) dX0_firstWrongLetter_47 rfl ⟨by decide, by decide⟩ ⟨by decide, by decide⟩ rfl (by decide) rfl rfl rfl ?_
            have hr := rN_le lt len ((s + 1) + 1) (md (ltr lt len s))
            have he := stp_a h_25 h_33
            refine g_istore hC dX0_firstWrongLetter_50 (by decide) rfl ?_
            refine g_iload_n hC dX0_firstWrongLetter_52 rfl ?_
            refine g_iload hC dX0_firstWrongLetter_53 rfl ?_
            refine g_iaddN hC dX0_firstWrongLetter_55 ?_
            refine g_istore_n hC dX0_firstWrongLetter_56 (by decide) rfl ?_
            refine g_iload hC dX0_firstWrongLetter_57 rfl ?_
            refine g_iload_n hC dX0_firstWrongLetter_59 rfl ?_
            refine g_icmp_ltN (tgt := 73) hC dX0_firstWrongLetter_60 (by decide) (by omega) (by omega) (fun h_60 => ?_) (fun h_60 => ?_)
            · skip
              refine g_iload_n hC dX0_firstWrongLetter_73 rfl ?_
              exact g_iret hC rfl dX0_firstWrongLetter_74 (⟨rV (by rw [← hfw, fw_no (by rw [he]; first | exact gd_1 h_60 | exact gd_2 h_70), he]; rfl), rfl⟩)
            · skip
              refine g_aload_n hC dX0_firstWrongLetter_63 rfl rfl ?_
              refine g_iload_n hC dX0_firstWrongLetter_64 rfl ?_
              refine gi_X0_23 hC (is := [0]) (st := []) (c_X0_letterAt lt len hlen hlt (p := ((s + 1) + 1) + (rN lt len ((s + 1) + 1) (md (ltr lt len s)))) (by omega)) dX0_firstWrongLetter_65 rfl ⟨by decide, by decide⟩ ⟨by decide, by decide⟩ rfl (by decide) rfl rfl rfl ?_
              refine g_bipush (v := nI (59)) hC dX0_firstWrongLetter_68 (by decide) ?_
              refine g_icmp_eqQ (tgt := 75) hC dX0_firstWrongLetter_70 (by decide) (fun c q => by have := ltr_lt hlt c q; omega) (by omega) (fun h_70 => ?_) (fun h_70 => ?_)
              · skip
                refine g_iincN hC dX0_firstWrongLetter_75 rfl (by decide) rfl ?_
                refine g_iload_n hC dX0_firstWrongLetter_78 rfl ?_
                refine g_aload_n hC dX0_firstWrongLetter_79 rfl rfl ?_
                refine gf_X0_length hC dX0_firstWrongLetter_80 rfl rfl ?_
                refine g_icmp_ltN (tgt := 2) hC dX0_firstWrongLetter_83 (by decide) (by omega) (by omega) (fun h_83 => ?_) (fun h_83 => ?_)
                · skip
                  refine g_mask [true, true, false, false, false] ?_
                  have hin := ltr_in h_70
                  refine ih ((((s + 1) + 1) + (rN lt len ((s + 1) + 1) (md (ltr lt len s)))) + 1) (by omega) (by omega) ?_
                  rw [← hfw, fw_go (by rw [he]; exact gd_3 (by omega) h_70) (by rw [he]; exact h_83), he]
                · skip
                  refine g_iconst (v := (-1)) hC dX0_firstWrongLetter_86 (by decide) ?_
                  have hin := ltr_in h_70
                  exact g_iret hC rfl dX0_firstWrongLetter_87 (⟨rV (by rw [← hfw, fw_end (by rw [he]; exact gd_3 (by omega) h_70) (by rw [he]; exact h_83)]; rfl), rfl⟩)
              · skip
                refine g_iload_n hC dX0_firstWrongLetter_73 rfl ?_
                exact g_iret hC rfl dX0_firstWrongLetter_74 (⟨rV (by rw [← hfw, fw_no (by rw [he]; first | exact gd_1 h_60 | exact gd_2 h_70), he]; rfl), rfl⟩)
          · skip
            refine g_iload_n hC dX0_firstWrongLetter_36 rfl ?_
            exact g_iret hC rfl dX0_firstWrongLetter_37 (⟨rV (by rw [← hfw, fw_no (by rw [stp_k h_25 h_33]), stp_k h_25 h_33]; rfl), rfl⟩)
      · skip
        refine g_iload_n hC dX0_firstWrongLetter_17 rfl ?_
        exact g_iret hC rfl dX0_firstWrongLetter_18 (⟨rV (by rw [← hfw, fw_no (by rw [stp_0 h_14]), stp_0 h_14]; rfl), rfl⟩)
  refine g_iconst (v := nI (0)) hC dX0_firstWrongLetter_0 (by decide) ?_
  refine g_istore_n hC dX0_firstWrongLetter_1 (by decide) rfl ?_
  exact loop (len + 1) 0 (by omega) (by omega) rfl

