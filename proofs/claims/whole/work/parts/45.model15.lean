/-! ===== the statements, as the reference reads them ===== -/
theorem upd_self (f : Nat → Int32) (w : Nat) (x : Int32) : upd f w x w = x := by simp [upd]
theorem upd_ne {f : Nat → Int32} {w j : Nat} {x : Int32} (h : j ≠ w) : upd f w x j = f j := by simp [upd, h]
theorem updN_self (f : Nat → Nat) (w x : Nat) : updN f w x w = x := if_pos rfl
theorem updN_ne {f : Nat → Nat} {w j x : Nat} (h : j ≠ w) : updN f w x j = f j := if_neg h
theorem dig_in {o : Option Nat} (ho : ∀ c, o = some c → c < 256) : decide (nI 48 ≤ oI (-1) o ∧ oI (-1) o ≤ nI 57) = dig o := by
  by_cases h1 : oI (-1) o < nI 48
  · rw [dig_no1 ho h1]
    exact decide_eq_false (fun z => Int32.not_le.mpr h1 z.1)
  · by_cases h2 : nI 57 < oI (-1) o
    · rw [dig_no2 ho h2]
      exact decide_eq_false (fun z => Int32.not_le.mpr h2 z.2)
    · rw [dig_yes ho h1 h2]
      exact decide_eq_true ⟨Int32.not_lt.mp h1, Int32.not_lt.mp h2⟩
theorem dig_of {o : Option Nat} {d : Nat} (h : o = some (48 + d)) (hd : d < 10) : dig o = true := by
  rw [h]
  show (decide (48 ≤ 48 + d) && decide (48 + d ≤ 57)) = true
  rw [decide_eq_true (by omega), decide_eq_true (by omega)]
  rfl
theorem sub48 (d : Nat) : nI (48 + d) - nI 48 = nI d := by rw [pk_sub (by omega), Nat.add_sub_cancel_left]
theorem kix_0 {c : Nat} (h1 : c ≠ 119) (h2 : c ≠ 108) (h3 : c ≠ 102) (h4 : c ≠ 115) (h5 : c ≠ 98) (h6 : c ≠ 99) : kix c = none := by unfold kix; rw [if_neg h1, if_neg h2, if_neg h3, if_neg h4, if_neg h5, if_neg h6]
theorem kin_0 {o : Option Nat} (h1 : o ≠ some 119) (h2 : o ≠ some 108) (h3 : o ≠ some 102) (h4 : o ≠ some 115) (h5 : o ≠ some 98) (h6 : o ≠ some 99) : kin o = none := by
  cases o with
  | none => rfl
  | some c => exact kix_0 (fun z => h1 (by rw [z])) (fun z => h2 (by rw [z])) (fun z => h3 (by rw [z])) (fun z => h4 (by rw [z])) (fun z => h5 (by rw [z])) (fun z => h6 (by rw [z]))
theorem kof_off {o : Option Nat} (ho : ∀ c, o = some c → c < 256) (h1 : o ≠ some 119) (h2 : o ≠ some 108) (h3 : o ≠ some 102) (h4 : o ≠ some 115) (h5 : o ≠ some 98) (h6 : o ≠ some 99) : Op.lookupswitch.offset #[(98, 67), (99, 69), (102, 63), (108, 61), (115, 65), (119, 59)].toList 71 (oI (-1) o).toInt = 71 := by
  cases o with
  | none => decide
  | some c =>
    have hc := ho c rfl
    have e1 : c ≠ 119 := fun z => h1 (by rw [z])
    have e2 : c ≠ 108 := fun z => h2 (by rw [z])
    have e3 : c ≠ 102 := fun z => h3 (by rw [z])
    have e4 : c ≠ 115 := fun z => h4 (by rw [z])
    have e5 : c ≠ 98 := fun z => h5 (by rw [z])
    have e6 : c ≠ 99 := fun z => h6 (by rw [z])
    show Op.lookupswitch.offset _ 71 (nI c).toInt = 71
    rw [nI_toInt (by omega)]
    simp [Op.lookupswitch.offset, Op.lookupswitch.offset_cons]
    omega
theorem kin_in {lt : Nat → Nat} {len p ki : Nat} (h : kin (ltr lt len p) = some ki) : kix (lt p) = some ki := by
  cases q : ltr lt len p with
  | none => rw [q] at h; cases h
  | some c => rw [q] at h; rw [(ltr_in q).2]; exact h
section STP2
variable {lt : Nat → Nat} {len s ki : Nat}
theorem rN_shift {b m : Nat} (h : dig (ltr lt len b) = true) : rN lt len b (m + 1) = 1 + rN lt len (b + 1) m := by
  obtain ⟨q1, q2, q3⟩ := rn_spec (fun i => dig (ltr lt len (b + 1 + i))) m
  refine rn_eq (fun i hi => ?_) ?_
  · cases i with
    | zero => exact h
    | succ i =>
      show dig (ltr lt len (b + (i + 1))) = true
      rw [show b + (i + 1) = b + 1 + i by omega]
      exact q2 i (by unfold rN at hi; omega)
  · unfold rN
    by_cases e : rn (fun i => dig (ltr lt len (b + 1 + i))) m < m
    · refine Or.inr ⟨by omega, ?_⟩
      show dig (ltr lt len (b + (1 + rn (fun i => dig (ltr lt len (b + 1 + i))) m))) = false
      rw [show b + (1 + rn (fun i => dig (ltr lt len (b + 1 + i))) m) = b + 1 + rn (fun i => dig (ltr lt len (b + 1 + i))) m by omega]
      exact q3 e
    · exact Or.inl (by omega)
theorem rN_none {b m : Nat} (h : dig (ltr lt len b) = false) (hm : 0 < m) : rN lt len b m = 0 := rn_eq (fun i hi => absurd hi (Nat.not_lt_zero _)) (Or.inr ⟨hm, h⟩)
theorem rN_z {b : Nat} : rN lt len b 0 = 0 := rn_eq (fun i hi => absurd hi (Nat.not_lt_zero _)) (Or.inl rfl)
theorem gd_any {least b r : Nat} (h : least ≤ r) : gd lt len least b r = decide (ltr lt len (b + r) = some 59) := by unfold gd; rw [decide_eq_true h, Bool.true_and]
theorem stp_w0 (hs : ltr lt len s = some 97) (hk : kin (ltr lt len (s + 1)) = some ki) (h : dig (ltr lt len (s + 1 + 1)) = false) : stp lt len s = (s + 1 + 1, false) := by
  rw [stp_a hs hk, show md (ltr lt len s) = 7 by rw [hs]; rfl, rN_none h (by decide), gd_1 (by rw [ld_97 hs]; decide)]
theorem stp_w (hs : ltr lt len s = some 97) (hk : kin (ltr lt len (s + 1)) = some ki) (h : dig (ltr lt len (s + 1 + 1)) = true) : stp lt len s = (s + 1 + 1 + 1 + rN lt len (s + 1 + 1 + 1) 6, decide (ltr lt len (s + 1 + 1 + 1 + rN lt len (s + 1 + 1 + 1) 6) = some 59)) := by
  rw [stp_a hs hk, show md (ltr lt len s) = 6 + 1 by rw [hs]; rfl, rN_shift h, gd_any (by rw [ld_97 hs]; omega), ← Nat.add_assoc (s + 1 + 1) 1]
theorem stp_20 (hs : ltr lt len s = some 112 ∨ ltr lt len s = some 119) (h : dig (ltr lt len (s + 1)) = false) : stp lt len s = (s + 1, false) := by
  have h97 : ltr lt len s ≠ some 97 := by rcases hs with q | q <;> rw [q] <;> decide
  have l2 : ld (ltr lt len s) = 2 := if_pos hs
  rw [stp_d (by rw [l2]; decide) h97, md_ne h97, l2, rN_none h (by decide), gd_1 (by decide)]
theorem stp_21 (hs : ltr lt len s = some 112 ∨ ltr lt len s = some 119) (h : dig (ltr lt len (s + 1)) = true) (h2 : dig (ltr lt len (s + 1 + 1)) = false) : stp lt len s = (s + 1 + 1, false) := by
  have h97 : ltr lt len s ≠ some 97 := by rcases hs with q | q <;> rw [q] <;> decide
  have l2 : ld (ltr lt len s) = 1 + 1 := if_pos hs
  rw [stp_d (by rw [l2]; decide) h97, md_ne h97, l2, rN_shift h, rN_none h2 (by decide), gd_1 (by decide)]
theorem stp_22 (hs : ltr lt len s = some 112 ∨ ltr lt len s = some 119) (h : dig (ltr lt len (s + 1)) = true) (h2 : dig (ltr lt len (s + 1 + 1)) = true) : stp lt len s = (s + 1 + 1 + 1, decide (ltr lt len (s + 1 + 1 + 1) = some 59)) := by
  have h97 : ltr lt len s ≠ some 97 := by rcases hs with q | q <;> rw [q] <;> decide
  have l2 : ld (ltr lt len s) = 0 + 1 + 1 := if_pos hs
  rw [stp_d (by rw [l2]; decide) h97, md_ne h97, l2, rN_shift h, rN_shift h2, rN_z, gd_any (by decide)]
theorem ld_1 (hs : ltr lt len s = some 114 ∨ ltr lt len s = some 110) : ld (ltr lt len s) = 0 + 1 := by rcases hs with q | q <;> rw [q] <;> rfl
theorem stp_10 (hs : ltr lt len s = some 114 ∨ ltr lt len s = some 110) (h : dig (ltr lt len (s + 1)) = false) : stp lt len s = (s + 1, false) := by
  have h97 : ltr lt len s ≠ some 97 := by rcases hs with q | q <;> rw [q] <;> decide
  rw [stp_d (by rw [ld_1 hs]; decide) h97, md_ne h97, ld_1 hs, rN_none h (by decide), gd_1 (by decide)]
theorem stp_11 (hs : ltr lt len s = some 114 ∨ ltr lt len s = some 110) (h : dig (ltr lt len (s + 1)) = true) : stp lt len s = (s + 1 + 1, decide (ltr lt len (s + 1 + 1) = some 59)) := by
  have h97 : ltr lt len s ≠ some 97 := by rcases hs with q | q <;> rw [q] <;> decide
  rw [stp_d (by rw [ld_1 hs]; decide) h97, md_ne h97, ld_1 hs, rN_shift h, rN_z, gd_any (by decide)]
end STP2
/-- what is told of statement k, which begins at s -/
def Ent (lt : Nat → Nat) (len : Nat) (le la : Nat → Nat) (td : Nat → Int32) (fr ti : Nat → Nat) (k s : Nat) : Prop :=
  la k = s ∧ (stp lt len s).2 = true ∧ le k = lt s ∧ td (2 * k) = (if lt s = 97 then nI ((kix (lt (s + 1))).getD 0) else nI (lt (s + 1) - 48)) ∧ (lt s ≠ 114 → lt s ≠ 110 → td ((2 * k) + 1) = nI (lt (s + 1 + 1) - 48)) ∧ (lt s = 97 → fr k = s + 1 + 1 + 1 ∧ ti k = (stp lt len s).1)
def Kept (st : Nat) (le la : Nat → Nat) (td : Nat → Int32) (fr ti le1 la1 : Nat → Nat) (td1 : Nat → Int32) (fr1 ti1 : Nat → Nat) : Prop := ∀ j, j < st → le1 j = le j ∧ la1 j = la j ∧ td1 (2 * j) = td (2 * j) ∧ td1 ((2 * j) + 1) = td ((2 * j) + 1) ∧ fr1 j = fr j ∧ ti1 j = ti j
theorem Ent.kept {lt : Nat → Nat} {len st : Nat} {le la fr ti le1 la1 fr1 ti1 : Nat → Nat} {td td1 : Nat → Int32} {k s : Nat} (h : Ent lt len le la td fr ti k s) (hk : Kept st le la td fr ti le1 la1 td1 fr1 ti1) (hj : k < st) : Ent lt len le1 la1 td1 fr1 ti1 k s := by
  obtain ⟨e1, e2, e3, e4, e5, e6⟩ := hk k hj
  unfold Ent
  rw [e1, e2, e3, e4, e5, e6]
  exact h
set_option maxRecDepth 100000 in
set_option maxHeartbeats 4000000 in
theorem c_X4_next (u : Vw) (ro re lt : Nat → Nat) (len : Nat) (le la : Nat → Nat) (td : Nat → Int32) (fr ti : Nat → Nat) (pt st : Nat) (ke : Nat → Int32) (hi ik : Bool) (cu : Nat) (go num : Nat → Nat) (nin : Nat) (up fo : Nat → Nat) (hlen : len ≤ 96) (hpt : pt < 200) : ConF yX4_next cX4_next 1 (some .int) 0 [aR 0 0 0] [modW u ro re lt len le la td fr ti pt st ke hi ik cu go num nin up fo] (some (aI (oI (-1) (ltr lt len pt)))) [modW u ro re lt len le la td fr ti pt st ke hi ik cu go num nin up fo] := by
  refine con_of RX4 pn_X4 rfl rfl (Nat.le_of_ble_eq_true rfl) (fun C hM0 hC => ?_)
  show G C 0 0 0 [aR 0 0 0] [] [modW u ro re lt len le la td fr ti pt st ke hi ik cu go num nin up fo]
  refine g_aload_n hC dX4_next_0 rfl rfl ?_
  refine gf_X4_at hC dX4_next_1 rfl rfl ?_
  refine g_aload_n hC dX4_next_4 rfl rfl ?_
  refine gf_X4_taped hC dX4_next_5 rfl rfl ?_
  refine g_icmp_geN (tgt := 23) hC dX4_next_8 (by decide) (by omega) (by omega) (fun h_8 => ?_) (fun h_8 => ?_)
  · skip
    refine g_iconst (v := (-1)) hC dX4_next_23 (by decide) ?_
    exact g_iret hC rfl dX4_next_24 (⟨rV (by rw [ltr_none h_8]; rfl), rfl⟩)
  · skip
    refine g_aload_n hC dX4_next_11 rfl rfl ?_
    refine gf_X4_tape hC dX4_next_12 rfl rfl ?_
    refine g_aload_n hC dX4_next_15 rfl rfl ?_
    refine gf_X4_at hC dX4_next_16 rfl rfl ?_
    refine g_ialdN hC dX4_next_19 rfl (by omega) (by decide) ?_
    refine g_goto (tgt := 24) hC dX4_next_20 (by decide) ?_
    exact g_iret hC rfl dX4_next_24 (⟨rV (by rw [ltr_some h_8]; rfl), rfl⟩)

set_option maxRecDepth 100000 in
set_option maxHeartbeats 4000000 in
theorem c_X4_isDigit (u : Vw) (ro re lt : Nat → Nat) (len : Nat) (le la : Nat → Nat) (td : Nat → Int32) (fr ti : Nat → Nat) (pt st : Nat) (ke : Nat → Int32) (hi ik : Bool) (cu : Nat) (go num : Nat → Nat) (nin : Nat) (up fo : Nat → Nat) (hlen : len ≤ 96) (hlt : ∀ j, j < len → lt j < 256) (hpt : pt < 200) : ConF yX4_isDigit cX4_isDigit 1 (some .boolean) 1 [aR 0 0 0] [modW u ro re lt len le la td fr ti pt st ke hi ik cu go num nin up fo] (some (aI (bI (dig (ltr lt len pt))))) [modW u ro re lt len le la td fr ti pt st ke hi ik cu go num nin up fo] := by
  refine con_of RX4 pn_X4 rfl rfl (Nat.le_of_ble_eq_true rfl) (fun C hM0 hC => ?_)
  show G C 0 0 0 [aR 0 0 0] [] [modW u ro re lt len le la td fr ti pt st ke hi ik cu go num nin up fo]
  refine g_aload_n hC dX4_isDigit_0 rfl rfl ?_
  refine gi_X4_92 hC (is := [0]) (st := []) (c_X4_next u ro re lt len le la td fr ti pt st ke hi ik cu go num nin up fo hlen (by omega)) dX4_isDigit_1 rfl ⟨by decide, by decide⟩ ⟨by decide, by decide⟩ rfl (by decide) rfl rfl rfl ?_
  refine g_bipush (v := nI (48)) hC dX4_isDigit_4 (by decide) ?_
  refine g_bipush (v := nI (57)) hC dX4_isDigit_6 (by decide) ?_
  refine gi_X4_96 hC (is := []) (st := []) (c_X4_isIn (oI (-1) (ltr lt len pt)) (nI 48) (nI 57)) dX4_isDigit_8 rfl ⟨by decide, by decide⟩ ⟨by decide, by decide⟩ rfl (by decide) rfl rfl ?_
  exact g_zret hC rfl (bI_nar _) dX4_isDigit_11 (⟨rV (by rw [dig_in (ltr_lt hlt)]), rfl⟩)

set_option maxRecDepth 100000 in
set_option maxHeartbeats 4000000 in
theorem c_X4_readsDigit_t (u : Vw) (ro re lt : Nat → Nat) (len : Nat) (le la : Nat → Nat) (td : Nat → Int32) (fr ti : Nat → Nat) (pt st : Nat) (ke : Nat → Int32) (hi ik : Bool) (cu : Nat) (go num : Nat → Nat) (nin : Nat) (up fo : Nat → Nat) (hlen : len ≤ 96) (hlt : ∀ j, j < len → lt j < 256) (hpt : pt < 190) {p d : Nat} (hp : p < 96) (hd : ltr lt len pt = some (48 + d)) (hd10 : d < 10) : ConF yX4_readsDigit cX4_readsDigit 2 (some .boolean) 2 [aR 0 0 0, aI (nI (p))] [modW u ro re lt len le la td fr ti pt st ke hi ik cu go num nin up fo] (some (aI (bI true))) [modW u ro re lt len le la (upd td p (nI d)) fr ti (pt + 1) st ke hi ik cu go num nin up fo] := by
  refine con_of RX4 pn_X4 rfl rfl (Nat.le_of_ble_eq_true rfl) (fun C hM0 hC => ?_)
  show G C 0 0 0 [aR 0 0 0, aI (nI (p))] [] [modW u ro re lt len le la td fr ti pt st ke hi ik cu go num nin up fo]
  refine g_aload_n hC dX4_readsDigit_0 rfl rfl ?_
  refine gi_X4_100 hC (is := [0]) (st := []) (c_X4_isDigit u ro re lt len le la td fr ti pt st ke hi ik cu go num nin up fo hlen hlt (by omega)) dX4_readsDigit_1 rfl ⟨by decide, by decide⟩ ⟨by decide, by decide⟩ rfl (by decide) rfl rfl rfl ?_
  refine g_if_neB (tgt := 9) hC dX4_readsDigit_4 (by decide) (fun h_4 => ?_) (fun h_4 => ?_)
  · skip
    refine g_aload_n hC dX4_readsDigit_9 rfl rfl ?_
    refine gf_X4_told hC dX4_readsDigit_10 rfl rfl ?_
    refine g_iload_n hC dX4_readsDigit_13 rfl ?_
    refine g_aload_n hC dX4_readsDigit_14 rfl rfl ?_
    refine gi_X4_92 hC (is := [0]) (st := [aI (nI (p)), aR 0 13 0]) (c_X4_next u ro re lt len le la td fr ti pt st ke hi ik cu go num nin up fo hlen (by omega)) dX4_readsDigit_15 rfl ⟨by decide, by decide⟩ ⟨by decide, by decide⟩ rfl (by decide) rfl rfl rfl ?_
    rw [hd] ; show G C 0 0 18 _ (aI (nI (48 + d)) :: aI (nI p) :: aR 0 13 0 :: []) _
    refine g_bipush (v := nI (48)) hC dX4_readsDigit_18 (by decide) ?_
    refine g_isub (v := nI (d)) hC dX4_readsDigit_20 (sub48 d) ?_
    refine g_iast hC dX4_readsDigit_21 rfl rfl (by omega) (by decide) ?_
    refine g_aload_n hC dX4_readsDigit_22 rfl rfl ?_
    refine g_dup hC dX4_readsDigit_23 rfl ?_
    refine gf_X4_at hC dX4_readsDigit_24 rfl rfl ?_
    refine g_iconst (v := nI (1)) hC dX4_readsDigit_27 (by decide) ?_
    refine g_iaddN hC dX4_readsDigit_28 ?_
    refine gp_X4_at hC dX4_readsDigit_29 rfl rfl ?_
    refine g_iconst (v := nI (1)) hC dX4_readsDigit_32 (by decide) ?_
    exact g_zret hC rfl rfl dX4_readsDigit_33 (⟨rfl, rfl⟩)
  · skip
    rw [dig_of hd hd10] at h_4; cases h_4

set_option maxRecDepth 100000 in
set_option maxHeartbeats 4000000 in
theorem c_X4_readsDigit_f (u : Vw) (ro re lt : Nat → Nat) (len : Nat) (le la : Nat → Nat) (td : Nat → Int32) (fr ti : Nat → Nat) (pt st : Nat) (ke : Nat → Int32) (hi ik : Bool) (cu : Nat) (go num : Nat → Nat) (nin : Nat) (up fo : Nat → Nat) (hlen : len ≤ 96) (hlt : ∀ j, j < len → lt j < 256) (hpt : pt < 190) {p : Nat} (hd : dig (ltr lt len pt) = false) : ConF yX4_readsDigit cX4_readsDigit 2 (some .boolean) 2 [aR 0 0 0, aI (nI (p))] [modW u ro re lt len le la td fr ti pt st ke hi ik cu go num nin up fo] (some (aI (bI false))) [modW u ro re lt len le la td fr ti pt st ke hi ik cu go num nin up fo] := by
  refine con_of RX4 pn_X4 rfl rfl (Nat.le_of_ble_eq_true rfl) (fun C hM0 hC => ?_)
  show G C 0 0 0 [aR 0 0 0, aI (nI (p))] [] [modW u ro re lt len le la td fr ti pt st ke hi ik cu go num nin up fo]
  refine g_aload_n hC dX4_readsDigit_0 rfl rfl ?_
  refine gi_X4_100 hC (is := [0]) (st := []) (c_X4_isDigit u ro re lt len le la td fr ti pt st ke hi ik cu go num nin up fo hlen hlt (by omega)) dX4_readsDigit_1 rfl ⟨by decide, by decide⟩ ⟨by decide, by decide⟩ rfl (by decide) rfl rfl rfl ?_
  refine g_if_neB (tgt := 9) hC dX4_readsDigit_4 (by decide) (fun h_4 => ?_) (fun h_4 => ?_)
  · skip
    rw [hd] at h_4; cases h_4
  · skip
    refine g_iconst (v := nI (0)) hC dX4_readsDigit_7 (by decide) ?_
    exact g_zret hC rfl rfl dX4_readsDigit_8 (⟨rfl, rfl⟩)

set_option maxRecDepth 100000 in
set_option maxHeartbeats 4000000 in
theorem c_X4_kindOf {o : Option Nat} (ho : ∀ c, o = some c → c < 256) : ConF yX4_kindOf cX4_kindOf 1 (some .int) 0 [aI (oI (-1) (o))] [] (some (aI (oI (-1) (kin o)))) [] := by
  refine con_of RX4 pn_X4 rfl rfl (Nat.le_of_ble_eq_true rfl) (fun C hM0 hC => ?_)
  show G C 0 0 0 [aI (oI (-1) (o))] [] []
  refine g_iload_n hC dX4_kindOf_0 rfl ?_
  by_cases h119 : o = some 119
  · subst h119
    refine g_lookup (off := 59) (tgt := 60) hC dX4_kindOf_1 (by decide) (by decide) (by decide) ?_
    refine g_iconst (v := nI (0)) hC dX4_kindOf_60 (by decide) ?_
    exact g_iret hC rfl dX4_kindOf_61 (⟨rfl, rfl⟩)
  by_cases h108 : o = some 108
  · subst h108
    refine g_lookup (off := 61) (tgt := 62) hC dX4_kindOf_1 (by decide) (by decide) (by decide) ?_
    refine g_iconst (v := nI (1)) hC dX4_kindOf_62 (by decide) ?_
    exact g_iret hC rfl dX4_kindOf_63 (⟨rfl, rfl⟩)
  by_cases h102 : o = some 102
  · subst h102
    refine g_lookup (off := 63) (tgt := 64) hC dX4_kindOf_1 (by decide) (by decide) (by decide) ?_
    refine g_iconst (v := nI (2)) hC dX4_kindOf_64 (by decide) ?_
    exact g_iret hC rfl dX4_kindOf_65 (⟨rfl, rfl⟩)
  by_cases h115 : o = some 115
  · subst h115
    refine g_lookup (off := 65) (tgt := 66) hC dX4_kindOf_1 (by decide) (by decide) (by decide) ?_
    refine g_iconst (v := nI (3)) hC dX4_kindOf_66 (by decide) ?_
    exact g_iret hC rfl dX4_kindOf_67 (⟨rfl, rfl⟩)
  by_cases h98 : o = some 98
  · subst h98
    refine g_lookup (off := 67) (tgt := 68) hC dX4_kindOf_1 (by decide) (by decide) (by decide) ?_
    refine g_iconst (v := nI (4)) hC dX4_kindOf_68 (by decide) ?_
    exact g_iret hC rfl dX4_kindOf_69 (⟨rfl, rfl⟩)
  by_cases h99 : o = some 99
  · subst h99
    refine g_lookup (off := 69) (tgt := 70) hC dX4_kindOf_1 (by decide) (by decide) (by decide) ?_
    refine g_iconst (v := nI (5)) hC dX4_kindOf_70 (by decide) ?_
    exact g_iret hC rfl dX4_kindOf_71 (⟨rfl, rfl⟩)
  refine g_lookup (off := 71) (tgt := 72) hC dX4_kindOf_1 (by decide) (kof_off ho h119 h108 h102 h115 h98 h99) (by decide) ?_
  refine g_iconst (v := (-1)) hC dX4_kindOf_72 (by decide) ?_
  exact g_iret hC rfl dX4_kindOf_73 (⟨rV (by rw [kin_0 h119 h108 h102 h115 h98 h99]; rfl), rfl⟩)

set_option maxRecDepth 100000 in
set_option maxHeartbeats 4000000 in
theorem c_X4_readsWalker_0 (u : Vw) (ro re lt : Nat → Nat) (len : Nat) (le la : Nat → Nat) (td : Nat → Int32) (fr ti : Nat → Nat) (pt st : Nat) (ke : Nat → Int32) (hi ik : Bool) (cu : Nat) (go num : Nat → Nat) (nin : Nat) (up fo : Nat → Nat) (hlen : len ≤ 96) (hlt : ∀ j, j < len → lt j < 256) (hpt : pt < 100) (hst : st < 48) {p : Nat} (hp : p + 1 < 96) (hk : kin (ltr lt len pt) = none) : ConF yX4_readsWalker cX4_readsWalker 2 (some .boolean) 3 [aR 0 0 0, aI (nI (p))] [modW u ro re lt len le la td fr ti pt st ke hi ik cu go num nin up fo] (some (aI (bI false))) [modW u ro re lt len le la (upd td p (-1)) fr ti pt st ke hi ik cu go num nin up fo] := by
  refine con_of RX4 pn_X4 rfl rfl (Nat.le_of_ble_eq_true rfl) (fun C hM0 hC => ?_)
  show G C 0 0 0 [aR 0 0 0, aI (nI (p))] [] [modW u ro re lt len le la td fr ti pt st ke hi ik cu go num nin up fo]
  refine g_aload_n hC dX4_readsWalker_0 rfl rfl ?_
  refine gf_X4_told hC dX4_readsWalker_1 rfl rfl ?_
  refine g_iload_n hC dX4_readsWalker_4 rfl ?_
  refine g_aload_n hC dX4_readsWalker_5 rfl rfl ?_
  refine gi_X4_92 hC (is := [0]) (st := [aI (nI (p)), aR 0 13 0]) (c_X4_next u ro re lt len le la td fr ti pt st ke hi ik cu go num nin up fo hlen (by omega)) dX4_readsWalker_6 rfl ⟨by decide, by decide⟩ ⟨by decide, by decide⟩ rfl (by decide) rfl rfl rfl ?_
  refine gi_X4_104 hC (is := []) (st := [aI (nI (p)), aR 0 13 0]) (c_X4_kindOf (o := ltr lt len pt) (ltr_lt hlt)) dX4_readsWalker_9 rfl ⟨by decide, by decide⟩ ⟨by decide, by decide⟩ rfl (by decide) rfl rfl ?_
  rw [hk] ; show G C 0 0 12 _ (aI (-1) :: aI (nI p) :: aR 0 13 0 :: []) _
  refine g_iast hC dX4_readsWalker_12 rfl rfl (by omega) (by decide) ?_
  refine g_aload_n hC dX4_readsWalker_13 rfl rfl ?_
  refine gf_X4_told hC dX4_readsWalker_14 rfl rfl ?_
  refine g_iload_n hC dX4_readsWalker_17 rfl ?_
  refine g_iald (v := (-1)) hC dX4_readsWalker_18 rfl rfl (by omega) (by decide) (upd_self _ _ _) ?_
  refine g_if_ge (tgt := 24) hC dX4_readsWalker_19 (by decide) (fun h_19 => ?_) (fun h_19 => ?_)
  · skip
    exact absurd h_19 (by decide)
  · skip
    refine g_iconst (v := nI (0)) hC dX4_readsWalker_22 (by decide) ?_
    exact g_zret hC rfl rfl dX4_readsWalker_23 (⟨rfl, rfl⟩)

set_option maxRecDepth 100000 in
set_option maxHeartbeats 4000000 in
theorem c_X4_readsWalker_1 (u : Vw) (ro re lt : Nat → Nat) (len : Nat) (le la : Nat → Nat) (td : Nat → Int32) (fr ti : Nat → Nat) (pt st : Nat) (ke : Nat → Int32) (hi ik : Bool) (cu : Nat) (go num : Nat → Nat) (nin : Nat) (up fo : Nat → Nat) (hlen : len ≤ 96) (hlt : ∀ j, j < len → lt j < 256) (hpt : pt < 100) (hst : st < 48) {p : Nat} (hp : p + 1 < 96) {ki : Nat} (hk : kin (ltr lt len pt) = some ki) (hd : dig (ltr lt len (pt + 1)) = false) : ConF yX4_readsWalker cX4_readsWalker 2 (some .boolean) 3 [aR 0 0 0, aI (nI (p))] [modW u ro re lt len le la td fr ti pt st ke hi ik cu go num nin up fo] (some (aI (bI false))) [modW u ro re lt len le la (upd td p (nI ki)) fr ti (pt + 1) st ke hi ik cu go num nin up fo] := by
  refine con_of RX4 pn_X4 rfl rfl (Nat.le_of_ble_eq_true rfl) (fun C hM0 hC => ?_)
  show G C 0 0 0 [aR 0 0 0, aI (nI (p))] [] [modW u ro re lt len le la td fr ti pt st ke hi ik cu go num nin up fo]
  have hk6 := kin_lt _ hk
  refine g_aload_n hC dX4_readsWalker_0 rfl rfl ?_
  refine gf_X4_told hC dX4_readsWalker_1 rfl rfl ?_
  refine g_iload_n hC dX4_readsWalker_4 rfl ?_
  refine g_aload_n hC dX4_readsWalker_5 rfl rfl ?_
  refine gi_X4_92 hC (is := [0]) (st := [aI (nI (p)), aR 0 13 0]) (c_X4_next u ro re lt len le la td fr ti pt st ke hi ik cu go num nin up fo hlen (by omega)) dX4_readsWalker_6 rfl ⟨by decide, by decide⟩ ⟨by decide, by decide⟩ rfl (by decide) rfl rfl rfl ?_
  refine gi_X4_104 hC (is := []) (st := [aI (nI (p)), aR 0 13 0]) (c_X4_kindOf (o := ltr lt len pt) (ltr_lt hlt)) dX4_readsWalker_9 rfl ⟨by decide, by decide⟩ ⟨by decide, by decide⟩ rfl (by decide) rfl rfl ?_
  rw [hk] ; show G C 0 0 12 _ (aI (nI ki) :: aI (nI p) :: aR 0 13 0 :: []) _
  refine g_iast hC dX4_readsWalker_12 rfl rfl (by omega) (by decide) ?_
  refine g_aload_n hC dX4_readsWalker_13 rfl rfl ?_
  refine gf_X4_told hC dX4_readsWalker_14 rfl rfl ?_
  refine g_iload_n hC dX4_readsWalker_17 rfl ?_
  refine g_iald (v := nI (ki)) hC dX4_readsWalker_18 rfl rfl (by omega) (by decide) (upd_self _ _ _) ?_
  refine g_if_geN (tgt := 24) hC dX4_readsWalker_19 (by decide) (by omega) (fun h_19 => ?_) (fun h_19 => ?_)
  · skip
    refine g_aload_n hC dX4_readsWalker_24 rfl rfl ?_
    refine g_dup hC dX4_readsWalker_25 rfl ?_
    refine gf_X4_at hC dX4_readsWalker_26 rfl rfl ?_
    refine g_iconst (v := nI (1)) hC dX4_readsWalker_29 (by decide) ?_
    refine g_iaddN hC dX4_readsWalker_30 ?_
    refine gp_X4_at hC dX4_readsWalker_31 rfl rfl ?_
    refine g_aload_n hC dX4_readsWalker_34 rfl rfl ?_
    refine g_iload_n hC dX4_readsWalker_35 rfl ?_
    refine g_iconst (v := nI (1)) hC dX4_readsWalker_36 (by decide) ?_
    refine g_iaddN hC dX4_readsWalker_37 ?_
    refine gi_X4_107 hC (is := [0]) (st := []) (c_X4_readsDigit_f u ro re lt len le la (upd td p (nI ki)) fr ti (pt + 1) st ke hi ik cu go num nin up fo hlen hlt (by omega) (p := p + 1) hd) dX4_readsWalker_38 rfl ⟨by decide, by decide⟩ ⟨by decide, by decide⟩ rfl (by decide) rfl rfl rfl ?_
    refine g_if_neB (tgt := 46) hC dX4_readsWalker_41 (by decide) (fun h_41 => ?_) (fun h_41 => ?_)
    · skip
      cases h_41
    · skip
      refine g_iconst (v := nI (0)) hC dX4_readsWalker_44 (by decide) ?_
      exact g_zret hC rfl rfl dX4_readsWalker_45 (⟨rfl, rfl⟩)
  · skip
    omega

set_option maxRecDepth 100000 in
set_option maxHeartbeats 4000000 in
theorem c_X4_readsWalker_2 (u : Vw) (ro re lt : Nat → Nat) (len : Nat) (le la : Nat → Nat) (td : Nat → Int32) (fr ti : Nat → Nat) (pt st : Nat) (ke : Nat → Int32) (hi ik : Bool) (cu : Nat) (go num : Nat → Nat) (nin : Nat) (up fo : Nat → Nat) (hlen : len ≤ 96) (hlt : ∀ j, j < len → lt j < 256) (hpt : pt < 100) (hst : st < 48) {p : Nat} (hp : p + 1 < 96) {ki d : Nat} (hk : kin (ltr lt len pt) = some ki) (hd : ltr lt len (pt + 1) = some (48 + d)) (hd10 : d < 10) : ConF yX4_readsWalker cX4_readsWalker 2 (some .boolean) 3 [aR 0 0 0, aI (nI (p))] [modW u ro re lt len le la td fr ti pt st ke hi ik cu go num nin up fo] (some (aI (bI true))) [modW u ro re lt len le la (upd (upd td p (nI ki)) (p + 1) (nI d)) (updN fr st (pt + 1 + 1)) (updN ti st (pt + 1 + 1 + (rN lt len (pt + 1 + 1) 6))) (pt + 1 + 1 + (rN lt len (pt + 1 + 1) 6)) st ke hi ik cu go num nin up fo] := by
  refine con_of RX4 pn_X4 rfl rfl (Nat.le_of_ble_eq_true rfl) (fun C hM0 hC => ?_)
  show G C 0 0 0 [aR 0 0 0, aI (nI (p))] [] [modW u ro re lt len le la td fr ti pt st ke hi ik cu go num nin up fo]
  have hk6 := kin_lt _ hk
  refine g_aload_n hC dX4_readsWalker_0 rfl rfl ?_
  refine gf_X4_told hC dX4_readsWalker_1 rfl rfl ?_
  refine g_iload_n hC dX4_readsWalker_4 rfl ?_
  refine g_aload_n hC dX4_readsWalker_5 rfl rfl ?_
  refine gi_X4_92 hC (is := [0]) (st := [aI (nI (p)), aR 0 13 0]) (c_X4_next u ro re lt len le la td fr ti pt st ke hi ik cu go num nin up fo hlen (by omega)) dX4_readsWalker_6 rfl ⟨by decide, by decide⟩ ⟨by decide, by decide⟩ rfl (by decide) rfl rfl rfl ?_
  refine gi_X4_104 hC (is := []) (st := [aI (nI (p)), aR 0 13 0]) (c_X4_kindOf (o := ltr lt len pt) (ltr_lt hlt)) dX4_readsWalker_9 rfl ⟨by decide, by decide⟩ ⟨by decide, by decide⟩ rfl (by decide) rfl rfl ?_
  rw [hk] ; show G C 0 0 12 _ (aI (nI ki) :: aI (nI p) :: aR 0 13 0 :: []) _
  refine g_iast hC dX4_readsWalker_12 rfl rfl (by omega) (by decide) ?_
  refine g_aload_n hC dX4_readsWalker_13 rfl rfl ?_
  refine gf_X4_told hC dX4_readsWalker_14 rfl rfl ?_
  refine g_iload_n hC dX4_readsWalker_17 rfl ?_
  refine g_iald (v := nI (ki)) hC dX4_readsWalker_18 rfl rfl (by omega) (by decide) (upd_self _ _ _) ?_
  refine g_if_geN (tgt := 24) hC dX4_readsWalker_19 (by decide) (by omega) (fun h_19 => ?_) (fun h_19 => ?_)
  · skip
    refine g_aload_n hC dX4_readsWalker_24 rfl rfl ?_
    refine g_dup hC dX4_readsWalker_25 rfl ?_
    refine gf_X4_at hC dX4_readsWalker_26 rfl rfl ?_
    refine g_iconst (v := nI (1)) hC dX4_readsWalker_29 (by decide) ?_
    refine g_iaddN hC dX4_readsWalker_30 ?_
    refine gp_X4_at hC dX4_readsWalker_31 rfl rfl ?_
    refine g_aload_n hC dX4_readsWalker_34 rfl rfl ?_
    refine g_iload_n hC dX4_readsWalker_35 rfl ?_
    refine g_iconst (v := nI (1)) hC dX4_readsWalker_36 (by decide) ?_
    refine g_iaddN hC dX4_readsWalker_37 ?_
    refine gi_X4_107 hC (is := [0]) (st := []) (c_X4_readsDigit_t u ro re lt len le la (upd td p (nI ki)) fr ti (pt + 1) st ke hi ik cu go num nin up fo hlen hlt (by omega) (p := p + 1) (d := d) (by omega) hd hd10) dX4_readsWalker_38 rfl ⟨by decide, by decide⟩ ⟨by decide, by decide⟩ rfl (by decide) rfl rfl rfl ?_
    refine g_if_neB (tgt := 46) hC dX4_readsWalker_41 (by decide) (fun h_41 => ?_) (fun h_41 => ?_)
    · skip
      refine g_aload_n hC dX4_readsWalker_46 rfl rfl ?_
      refine gf_X4_from hC dX4_readsWalker_47 rfl rfl ?_
      refine g_aload_n hC dX4_readsWalker_50 rfl rfl ?_
      refine gf_X4_statements hC dX4_readsWalker_51 rfl rfl ?_
      refine g_aload_n hC dX4_readsWalker_54 rfl rfl ?_
      refine gf_X4_at hC dX4_readsWalker_55 rfl rfl ?_
      refine g_iastN hC dX4_readsWalker_58 rfl (by omega) (by decide) ?_
      have loop : ∀ e i, i + e = 6 → (∀ j, j < i → dig (ltr lt len (pt + 1 + 1 + j)) = true) → G C 0 0 59 [aR 0 0 0, aI (nI (p))] [] [modW u ro re lt len le la (upd (upd td p (nI ki)) (p + 1) (nI d)) (updN fr st (pt + 1 + 1)) ti (pt + 1 + 1 + i) st ke hi ik cu go num nin up fo] := by
        intro e
        induction e with
        | zero =>
          intro i hi9 hall
          refine g_aload_n hC dX4_readsWalker_59 rfl rfl ?_
          refine gf_X4_at hC dX4_readsWalker_60 rfl rfl ?_
          refine g_aload_n hC dX4_readsWalker_63 rfl rfl ?_
          refine gf_X4_from hC dX4_readsWalker_64 rfl rfl ?_
          refine g_aload_n hC dX4_readsWalker_67 rfl rfl ?_
          refine gf_X4_statements hC dX4_readsWalker_68 rfl rfl ?_
          refine g_iald (v := nI (pt + 1 + 1)) hC dX4_readsWalker_71 rfl rfl (by omega) (by decide) (by show nI (updN fr st (pt + 1 + 1) st) = _; rw [updN_self]) ?_
          refine g_isubN hC dX4_readsWalker_72 (by omega) ?_
          refine g_bipush (v := nI (6)) hC dX4_readsWalker_73 (by decide) ?_
          refine g_icmp_geN (tgt := 98) hC dX4_readsWalker_75 (by decide) (by omega) (by omega) (fun h_75 => ?_) (fun h_75 => ?_)
          · skip
            refine g_aload_n hC dX4_readsWalker_98 rfl rfl ?_
            refine gf_X4_till hC dX4_readsWalker_99 rfl rfl ?_
            refine g_aload_n hC dX4_readsWalker_102 rfl rfl ?_
            refine gf_X4_statements hC dX4_readsWalker_103 rfl rfl ?_
            refine g_aload_n hC dX4_readsWalker_106 rfl rfl ?_
            refine gf_X4_at hC dX4_readsWalker_107 rfl rfl ?_
            refine g_iastN hC dX4_readsWalker_110 rfl (by omega) (by decide) ?_
            refine g_iconst (v := nI (1)) hC dX4_readsWalker_111 (by decide) ?_
            exact g_zret hC rfl rfl dX4_readsWalker_112 (⟨rfl, by rw [show rN lt len (pt + 1 + 1) 6 = i from rn_eq hall (Or.inl (by omega))]; rfl⟩)
          · skip
            omega
        | succ e ih =>
          intro i hi9 hall
          refine g_aload_n hC dX4_readsWalker_59 rfl rfl ?_
          refine gf_X4_at hC dX4_readsWalker_60 rfl rfl ?_
          refine g_aload_n hC dX4_readsWalker_63 rfl rfl ?_
          refine gf_X4_from hC dX4_readsWalker_64 rfl rfl ?_
          refine g_aload_n hC dX4_readsWalker_67 rfl rfl ?_
          refine gf_X4_statements hC dX4_readsWalker_68 rfl rfl ?_
          refine g_iald (v := nI (pt + 1 + 1)) hC dX4_readsWalker_71 rfl rfl (by omega) (by decide) (by show nI (updN fr st (pt + 1 + 1) st) = _; rw [updN_self]) ?_
          refine g_isubN hC dX4_readsWalker_72 (by omega) ?_
          refine g_bipush (v := nI (6)) hC dX4_readsWalker_73 (by decide) ?_
          refine g_icmp_geN (tgt := 98) hC dX4_readsWalker_75 (by decide) (by omega) (by omega) (fun h_75 => ?_) (fun h_75 => ?_)
          · skip
            omega
          · skip
            refine g_aload_n hC dX4_readsWalker_78 rfl rfl ?_
            refine gi_X4_100 hC (is := [0]) (st := []) (c_X4_isDigit u ro re lt len le la (upd (upd td p (nI ki)) (p + 1) (nI d)) (updN fr st (pt + 1 + 1)) ti (pt + 1 + 1 + i) st ke hi ik cu go num nin up fo hlen hlt (by omega)) dX4_readsWalker_79 rfl ⟨by decide, by decide⟩ ⟨by decide, by decide⟩ rfl (by decide) rfl rfl rfl ?_
            refine g_if_eqB (tgt := 98) hC dX4_readsWalker_82 (by decide) (fun h_82 => ?_) (fun h_82 => ?_)
            · skip
              refine g_aload_n hC dX4_readsWalker_98 rfl rfl ?_
              refine gf_X4_till hC dX4_readsWalker_99 rfl rfl ?_
              refine g_aload_n hC dX4_readsWalker_102 rfl rfl ?_
              refine gf_X4_statements hC dX4_readsWalker_103 rfl rfl ?_
              refine g_aload_n hC dX4_readsWalker_106 rfl rfl ?_
              refine gf_X4_at hC dX4_readsWalker_107 rfl rfl ?_
              refine g_iastN hC dX4_readsWalker_110 rfl (by omega) (by decide) ?_
              refine g_iconst (v := nI (1)) hC dX4_readsWalker_111 (by decide) ?_
              exact g_zret hC rfl rfl dX4_readsWalker_112 (⟨rfl, by rw [show rN lt len (pt + 1 + 1) 6 = i from rn_eq hall (Or.inr ⟨by omega, h_82⟩)]; rfl⟩)
            · skip
              refine g_aload_n hC dX4_readsWalker_85 rfl rfl ?_
              refine g_dup hC dX4_readsWalker_86 rfl ?_
              refine gf_X4_at hC dX4_readsWalker_87 rfl rfl ?_
              refine g_iconst (v := nI (1)) hC dX4_readsWalker_90 (by decide) ?_
              refine g_iaddN hC dX4_readsWalker_91 ?_
              refine gp_X4_at hC dX4_readsWalker_92 rfl rfl ?_
              refine g_goto (tgt := 59) hC dX4_readsWalker_95 (by decide) ?_
              refine ih (i + 1) (by omega) (fun j hj => ?_)
              by_cases e2 : j = i
              · subst e2; exact h_82
              · exact hall j (by omega)
      exact loop 6 0 (by omega) (fun j hj => absurd hj (Nat.not_lt_zero _))
    · skip
      cases h_41
  · skip
    omega

set_option maxRecDepth 100000 in
set_option maxHeartbeats 4000000 in
theorem c_X4_statement (u : Vw) (ro re lt : Nat → Nat) (len : Nat) (le la : Nat → Nat) (td : Nat → Int32) (fr ti : Nat → Nat) (pt st : Nat) (ke : Nat → Int32) (hi ik : Bool) (cu : Nat) (go num : Nat → Nat) (nin : Nat) (up fo : Nat → Nat) (hlen : len ≤ 96) (hlt : ∀ j, j < len → lt j < 256) (hst : st < 48) (hpt : pt ≤ len) : Con yX4_statement cX4_statement 4 (some .boolean) 4 0 0 [aR 0 0 0] [modW u ro re lt len le la td fr ti pt st ke hi ik cu go num nin up fo] (fun r M => r = some (aI (bI (stp lt len pt).2)) ∧ ∃ (le1 la1 : Nat → Nat) (td1 : Nat → Int32) (fr1 ti1 : Nat → Nat), Kept st le la td fr ti le1 la1 td1 fr1 ti1 ∧ ((stp lt len pt).2 = true → Ent lt len le1 la1 td1 fr1 ti1 st pt) ∧ M = [modW u ro re lt len le1 la1 td1 fr1 ti1 (if (stp lt len pt).2 = true then (stp lt len pt).1 + 1 else (stp lt len pt).1) st ke hi ik cu go num nin up fo]) := by
  refine con_of RX4 pn_X4 rfl rfl (Nat.le_of_ble_eq_true rfl) (fun C hM0 hC => ?_)
  show G C 0 0 0 [aR 0 0 0, aK 9, aK 9, aK 9] [] [modW u ro re lt len le la td fr ti pt st ke hi ik cu go num nin up fo]
  refine g_aload_n hC dX4_statement_0 rfl rfl ?_
  refine gi_X4_92 hC (is := [0]) (st := []) (c_X4_next u ro re lt len le la td fr ti pt st ke hi ik cu go num nin up fo hlen (by omega)) dX4_statement_1 rfl ⟨by decide, by decide⟩ ⟨by decide, by decide⟩ rfl (by decide) rfl rfl rfl ?_
  refine g_istore_n hC dX4_statement_4 (by decide) rfl ?_
  refine g_iload_n hC dX4_statement_5 rfl ?_
  refine g_bipush (v := nI (112)) hC dX4_statement_6 (by decide) ?_
  refine g_icmp_eqQ (tgt := 37) hC dX4_statement_8 (by decide) (fun c q => by have := ltr_lt hlt c q; omega) (by omega) (fun h_8 => ?_) (fun h_8 => ?_)
  · skip
    have hs : ltr lt len pt = some 112 := h_8
    have hlt0 := (ltr_in hs).1
    rw [hs]
    show G C 0 0 37 [aR 0 0 0, aI (nI 112), aK 9, aK 9] [] [modW u ro re lt len le la td fr ti pt st ke hi ik cu go num nin up fo]
    refine g_aload_n hC dX4_statement_37 rfl rfl ?_
    refine gf_X4_letter hC dX4_statement_38 rfl rfl ?_
    refine g_aload_n hC dX4_statement_41 rfl rfl ?_
    refine gf_X4_statements hC dX4_statement_42 rfl rfl ?_
    refine g_iload_n hC dX4_statement_45 rfl ?_
    refine g_iastN hC dX4_statement_46 rfl (by omega) (by decide) ?_
    refine g_aload_n hC dX4_statement_47 rfl rfl ?_
    refine gf_X4_letterAt hC dX4_statement_48 rfl rfl ?_
    refine g_aload_n hC dX4_statement_51 rfl rfl ?_
    refine gf_X4_statements hC dX4_statement_52 rfl rfl ?_
    refine g_aload_n hC dX4_statement_55 rfl rfl ?_
    refine gf_X4_at hC dX4_statement_56 rfl rfl ?_
    refine g_iastN hC dX4_statement_59 rfl (by omega) (by decide) ?_
    refine g_aload_n hC dX4_statement_60 rfl rfl ?_
    refine g_dup hC dX4_statement_61 rfl ?_
    refine gf_X4_at hC dX4_statement_62 rfl rfl ?_
    refine g_iconst (v := nI (1)) hC dX4_statement_65 (by decide) ?_
    refine g_iaddN hC dX4_statement_66 ?_
    refine gp_X4_at hC dX4_statement_67 rfl rfl ?_
    refine g_iconst (v := nI (2)) hC dX4_statement_70 (by decide) ?_
    refine g_aload_n hC dX4_statement_71 rfl rfl ?_
    refine gf_X4_statements hC dX4_statement_72 rfl rfl ?_
    refine g_imulN hC dX4_statement_75 ?_
    refine g_istore_n hC dX4_statement_76 (by decide) rfl ?_
    refine g_iload_n hC dX4_statement_77 rfl ?_
    refine g_bipush (v := nI (97)) hC dX4_statement_78 (by decide) ?_
    refine g_icmp_neN (tgt := 91) hC dX4_statement_80 (by decide) (by omega) (by omega) (fun h_80 => ?_) (fun h_80 => ?_)
    · skip
      refine g_aload_n hC dX4_statement_91 rfl rfl ?_
      refine g_iload_n hC dX4_statement_92 rfl ?_
      cases hdd : dig (ltr lt len (pt + 1)) with
      | false =>
        have he := stp_20 (Or.inl hs) hdd
        refine gi_X4_107 hC (is := [0]) (st := []) (c_X4_readsDigit_f u ro re lt len (updN le st 112) (updN la st pt) td fr ti (pt + 1) st ke hi ik cu go num nin up fo hlen hlt (by omega) (p := 2 * st) hdd) dX4_statement_93 rfl ⟨by decide, by decide⟩ ⟨by decide, by decide⟩ rfl (by decide) rfl rfl rfl ?_
        refine g_if_eqB (tgt := 125) hC dX4_statement_96 (by decide) (fun h_96 => ?_) (fun h_96 => ?_)
        · skip
          refine g_iconst (v := nI (0)) hC dX4_statement_125 (by decide) ?_
          refine g_istore_n hC dX4_statement_126 (by decide) rfl ?_
          refine g_iload_n hC dX4_statement_127 rfl ?_
          refine g_if_eqN (tgt := 140) hC dX4_statement_128 (by decide) (by omega) (fun h_128 => ?_) (fun h_128 => ?_)
          · skip
            refine g_iconst (v := nI (0)) hC dX4_statement_140 (by decide) ?_
            exact g_zret hC rfl rfl dX4_statement_141 (⟨rV (by rw [he]; rfl), (updN le st 112), (updN la st pt), td, fr, ti, fun j hj => ⟨by first | rfl | exact updN_ne (by omega), by first | rfl | exact updN_ne (by omega), by first | rfl | exact upd_ne (by omega) | exact (upd_ne (by omega)).trans (upd_ne (by omega)), by first | rfl | exact upd_ne (by omega) | exact (upd_ne (by omega)).trans (upd_ne (by omega)), by first | rfl | exact updN_ne (by omega), by first | rfl | exact updN_ne (by omega)⟩, fun z => (by rw [he] at z; cases z), by rw [he]; rfl⟩)
          · skip
            exact absurd h_128 (by decide)
        · skip
          cases h_96
      | true =>
        obtain ⟨d1, hd10, hd1⟩ := dig_some hdd
        refine gi_X4_107 hC (is := [0]) (st := []) (c_X4_readsDigit_t u ro re lt len (updN le st 112) (updN la st pt) td fr ti (pt + 1) st ke hi ik cu go num nin up fo hlen hlt (by omega) (p := 2 * st) (d := d1) (by omega) hd1 hd10) dX4_statement_93 rfl ⟨by decide, by decide⟩ ⟨by decide, by decide⟩ rfl (by decide) rfl rfl rfl ?_
        refine g_if_eqB (tgt := 125) hC dX4_statement_96 (by decide) (fun h_96 => ?_) (fun h_96 => ?_)
        · skip
          cases h_96
        · skip
          refine g_iload_n hC dX4_statement_99 rfl ?_
          refine g_bipush (v := nI (114)) hC dX4_statement_100 (by decide) ?_
          refine g_icmp_eqN (tgt := 121) hC dX4_statement_102 (by decide) (by omega) (by omega) (fun h_102 => ?_) (fun h_102 => ?_)
          · skip
            omega
          · skip
            refine g_iload_n hC dX4_statement_105 rfl ?_
            refine g_bipush (v := nI (110)) hC dX4_statement_106 (by decide) ?_
            refine g_icmp_eqN (tgt := 121) hC dX4_statement_108 (by decide) (by omega) (by omega) (fun h_108 => ?_) (fun h_108 => ?_)
            · skip
              omega
            · skip
              refine g_aload_n hC dX4_statement_111 rfl rfl ?_
              refine g_iload_n hC dX4_statement_112 rfl ?_
              refine g_iconst (v := nI (1)) hC dX4_statement_113 (by decide) ?_
              refine g_iaddN hC dX4_statement_114 ?_
              cases hee : dig (ltr lt len (pt + 1 + 1)) with
              | false =>
                have he := stp_21 (Or.inl hs) hdd hee
                refine gi_X4_107 hC (is := [0]) (st := []) (c_X4_readsDigit_f u ro re lt len (updN le st 112) (updN la st pt) (upd td (2 * st) (nI d1)) fr ti (pt + 1 + 1) st ke hi ik cu go num nin up fo hlen hlt (by omega) (p := (2 * st) + 1) hee) dX4_statement_115 rfl ⟨by decide, by decide⟩ ⟨by decide, by decide⟩ rfl (by decide) rfl rfl rfl ?_
                refine g_if_eqB (tgt := 125) hC dX4_statement_118 (by decide) (fun h_118 => ?_) (fun h_118 => ?_)
                · skip
                  refine g_iconst (v := nI (0)) hC dX4_statement_125 (by decide) ?_
                  refine g_istore_n hC dX4_statement_126 (by decide) rfl ?_
                  refine g_iload_n hC dX4_statement_127 rfl ?_
                  refine g_if_eqN (tgt := 140) hC dX4_statement_128 (by decide) (by omega) (fun h_128 => ?_) (fun h_128 => ?_)
                  · skip
                    refine g_iconst (v := nI (0)) hC dX4_statement_140 (by decide) ?_
                    exact g_zret hC rfl rfl dX4_statement_141 (⟨rV (by rw [he]; rfl), (updN le st 112), (updN la st pt), (upd td (2 * st) (nI d1)), fr, ti, fun j hj => ⟨by first | rfl | exact updN_ne (by omega), by first | rfl | exact updN_ne (by omega), by first | rfl | exact upd_ne (by omega) | exact (upd_ne (by omega)).trans (upd_ne (by omega)), by first | rfl | exact upd_ne (by omega) | exact (upd_ne (by omega)).trans (upd_ne (by omega)), by first | rfl | exact updN_ne (by omega), by first | rfl | exact updN_ne (by omega)⟩, fun z => (by rw [he] at z; cases z), by rw [he]; rfl⟩)
                  · skip
                    exact absurd h_128 (by decide)
                · skip
                  cases h_118
              | true =>
                obtain ⟨d2, hd20, hd2⟩ := dig_some hee
                refine gi_X4_107 hC (is := [0]) (st := []) (c_X4_readsDigit_t u ro re lt len (updN le st 112) (updN la st pt) (upd td (2 * st) (nI d1)) fr ti (pt + 1 + 1) st ke hi ik cu go num nin up fo hlen hlt (by omega) (p := (2 * st) + 1) (d := d2) (by omega) hd2 hd20) dX4_statement_115 rfl ⟨by decide, by decide⟩ ⟨by decide, by decide⟩ rfl (by decide) rfl rfl rfl ?_
                refine g_if_eqB (tgt := 125) hC dX4_statement_118 (by decide) (fun h_118 => ?_) (fun h_118 => ?_)
                · skip
                  cases h_118
                · skip
                  refine g_iconst (v := nI (1)) hC dX4_statement_121 (by decide) ?_
                  refine g_goto (tgt := 126) hC dX4_statement_122 (by decide) ?_
                  refine g_istore_n hC dX4_statement_126 (by decide) rfl ?_
                  refine g_iload_n hC dX4_statement_127 rfl ?_
                  refine g_if_eqN (tgt := 140) hC dX4_statement_128 (by decide) (by omega) (fun h_128 => ?_) (fun h_128 => ?_)
                  · skip
                    exact absurd h_128 (by decide)
                  · skip
                    refine g_aload_n hC dX4_statement_131 rfl rfl ?_
                    refine gi_X4_92 hC (is := [0]) (st := []) (c_X4_next u ro re lt len (updN le st 112) (updN la st pt) (upd (upd td (2 * st) (nI d1)) ((2 * st) + 1) (nI d2)) fr ti (pt + 1 + 1 + 1) st ke hi ik cu go num nin up fo hlen (by have := rN_le lt len (pt + 1 + 1 + 1) 6; omega)) dX4_statement_132 rfl ⟨by decide, by decide⟩ ⟨by decide, by decide⟩ rfl (by decide) rfl rfl rfl ?_
                    refine g_bipush (v := nI (59)) hC dX4_statement_135 (by decide) ?_
                    refine g_icmp_eqQ (tgt := 142) hC dX4_statement_137 (by decide) (fun c q => by have := ltr_lt hlt c q; omega) (by omega) (fun h_137 => ?_) (fun h_137 => ?_)
                    · skip
                      have he := stp_22 (Or.inl hs) hdd hee
                      rw [decide_eq_true h_137] at he
                      refine g_aload_n hC dX4_statement_142 rfl rfl ?_
                      refine g_dup hC dX4_statement_143 rfl ?_
                      refine gf_X4_at hC dX4_statement_144 rfl rfl ?_
                      refine g_iconst (v := nI (1)) hC dX4_statement_147 (by decide) ?_
                      refine g_iaddN hC dX4_statement_148 ?_
                      refine gp_X4_at hC dX4_statement_149 rfl rfl ?_
                      refine g_iconst (v := nI (1)) hC dX4_statement_152 (by decide) ?_
                      exact g_zret hC rfl rfl dX4_statement_153 (⟨rV (by rw [he]; rfl), (updN le st 112), (updN la st pt), (upd (upd td (2 * st) (nI d1)) ((2 * st) + 1) (nI d2)), fr, ti, fun j hj => ⟨by first | rfl | exact updN_ne (by omega), by first | rfl | exact updN_ne (by omega), by first | rfl | exact upd_ne (by omega) | exact (upd_ne (by omega)).trans (upd_ne (by omega)), by first | rfl | exact upd_ne (by omega) | exact (upd_ne (by omega)).trans (upd_ne (by omega)), by first | rfl | exact updN_ne (by omega), by first | rfl | exact updN_ne (by omega)⟩, fun _ => ⟨updN_self _ _ _, by rw [he], (updN_self _ _ _).trans (ltr_in hs).2.symm, by rw [(ltr_in hs).2, if_neg (by decide), (ltr_in hd1).2, Nat.add_sub_cancel_left]; exact (upd_ne (by omega)).trans (upd_self _ _ _), fun _ _ => by rw [(ltr_in hd2).2, Nat.add_sub_cancel_left]; exact upd_self _ _ _, fun z => by rw [(ltr_in hs).2] at z; exact absurd z (by decide)⟩, by rw [he]; rfl⟩)
                    · skip
                      have he := stp_22 (Or.inl hs) hdd hee
                      rw [decide_eq_false h_137] at he
                      refine g_iconst (v := nI (0)) hC dX4_statement_140 (by decide) ?_
                      exact g_zret hC rfl rfl dX4_statement_141 (⟨rV (by rw [he]; rfl), (updN le st 112), (updN la st pt), (upd (upd td (2 * st) (nI d1)) ((2 * st) + 1) (nI d2)), fr, ti, fun j hj => ⟨by first | rfl | exact updN_ne (by omega), by first | rfl | exact updN_ne (by omega), by first | rfl | exact upd_ne (by omega) | exact (upd_ne (by omega)).trans (upd_ne (by omega)), by first | rfl | exact upd_ne (by omega) | exact (upd_ne (by omega)).trans (upd_ne (by omega)), by first | rfl | exact updN_ne (by omega), by first | rfl | exact updN_ne (by omega)⟩, fun z => (by rw [he] at z; cases z), by rw [he]; rfl⟩)
    · skip
      omega
  · skip
    refine g_iload_n hC dX4_statement_11 rfl ?_
    refine g_bipush (v := nI (119)) hC dX4_statement_12 (by decide) ?_
    refine g_icmp_eqQ (tgt := 37) hC dX4_statement_14 (by decide) (fun c q => by have := ltr_lt hlt c q; omega) (by omega) (fun h_14 => ?_) (fun h_14 => ?_)
    · skip
      have hs : ltr lt len pt = some 119 := h_14
      have hlt0 := (ltr_in hs).1
      rw [hs]
      show G C 0 0 37 [aR 0 0 0, aI (nI 119), aK 9, aK 9] [] [modW u ro re lt len le la td fr ti pt st ke hi ik cu go num nin up fo]
      refine g_aload_n hC dX4_statement_37 rfl rfl ?_
      refine gf_X4_letter hC dX4_statement_38 rfl rfl ?_
      refine g_aload_n hC dX4_statement_41 rfl rfl ?_
      refine gf_X4_statements hC dX4_statement_42 rfl rfl ?_
      refine g_iload_n hC dX4_statement_45 rfl ?_
      refine g_iastN hC dX4_statement_46 rfl (by omega) (by decide) ?_
      refine g_aload_n hC dX4_statement_47 rfl rfl ?_
      refine gf_X4_letterAt hC dX4_statement_48 rfl rfl ?_
      refine g_aload_n hC dX4_statement_51 rfl rfl ?_
      refine gf_X4_statements hC dX4_statement_52 rfl rfl ?_
      refine g_aload_n hC dX4_statement_55 rfl rfl ?_
      refine gf_X4_at hC dX4_statement_56 rfl rfl ?_
      refine g_iastN hC dX4_statement_59 rfl (by omega) (by decide) ?_
      refine g_aload_n hC dX4_statement_60 rfl rfl ?_
      refine g_dup hC dX4_statement_61 rfl ?_
      refine gf_X4_at hC dX4_statement_62 rfl rfl ?_
      refine g_iconst (v := nI (1)) hC dX4_statement_65 (by decide) ?_
      refine g_iaddN hC dX4_statement_66 ?_
      refine gp_X4_at hC dX4_statement_67 rfl rfl ?_
      refine g_iconst (v := nI (2)) hC dX4_statement_70 (by decide) ?_
      refine g_aload_n hC dX4_statement_71 rfl rfl ?_
      refine gf_X4_statements hC dX4_statement_72 rfl rfl ?_
      refine g_imulN hC dX4_statement_75 ?_
      refine g_istore_n hC dX4_statement_76 (by decide) rfl ?_
      refine g_iload_n hC dX4_statement_77 rfl ?_
      refine g_bipush (v := nI (97)) hC dX4_statement_78 (by decide) ?_
      refine g_icmp_neN (tgt := 91) hC dX4_statement_80 (by decide) (by omega) (by omega) (fun h_80 => ?_) (fun h_80 => ?_)
      · skip
        refine g_aload_n hC dX4_statement_91 rfl rfl ?_
        refine g_iload_n hC dX4_statement_92 rfl ?_
        cases hdd : dig (ltr lt len (pt + 1)) with
        | false =>
          have he := stp_20 (Or.inr hs) hdd
          refine gi_X4_107 hC (is := [0]) (st := []) (c_X4_readsDigit_f u ro re lt len (updN le st 119) (updN la st pt) td fr ti (pt + 1) st ke hi ik cu go num nin up fo hlen hlt (by omega) (p := 2 * st) hdd) dX4_statement_93 rfl ⟨by decide, by decide⟩ ⟨by decide, by decide⟩ rfl (by decide) rfl rfl rfl ?_
          refine g_if_eqB (tgt := 125) hC dX4_statement_96 (by decide) (fun h_96 => ?_) (fun h_96 => ?_)
          · skip
            refine g_iconst (v := nI (0)) hC dX4_statement_125 (by decide) ?_
            refine g_istore_n hC dX4_statement_126 (by decide) rfl ?_
            refine g_iload_n hC dX4_statement_127 rfl ?_
            refine g_if_eqN (tgt := 140) hC dX4_statement_128 (by decide) (by omega) (fun h_128 => ?_) (fun h_128 => ?_)
            · skip
              refine g_iconst (v := nI (0)) hC dX4_statement_140 (by decide) ?_
              exact g_zret hC rfl rfl dX4_statement_141 (⟨rV (by rw [he]; rfl), (updN le st 119), (updN la st pt), td, fr, ti, fun j hj => ⟨by first | rfl | exact updN_ne (by omega), by first | rfl | exact updN_ne (by omega), by first | rfl | exact upd_ne (by omega) | exact (upd_ne (by omega)).trans (upd_ne (by omega)), by first | rfl | exact upd_ne (by omega) | exact (upd_ne (by omega)).trans (upd_ne (by omega)), by first | rfl | exact updN_ne (by omega), by first | rfl | exact updN_ne (by omega)⟩, fun z => (by rw [he] at z; cases z), by rw [he]; rfl⟩)
            · skip
              exact absurd h_128 (by decide)
          · skip
            cases h_96
        | true =>
          obtain ⟨d1, hd10, hd1⟩ := dig_some hdd
          refine gi_X4_107 hC (is := [0]) (st := []) (c_X4_readsDigit_t u ro re lt len (updN le st 119) (updN la st pt) td fr ti (pt + 1) st ke hi ik cu go num nin up fo hlen hlt (by omega) (p := 2 * st) (d := d1) (by omega) hd1 hd10) dX4_statement_93 rfl ⟨by decide, by decide⟩ ⟨by decide, by decide⟩ rfl (by decide) rfl rfl rfl ?_
          refine g_if_eqB (tgt := 125) hC dX4_statement_96 (by decide) (fun h_96 => ?_) (fun h_96 => ?_)
          · skip
            cases h_96
          · skip
            refine g_iload_n hC dX4_statement_99 rfl ?_
            refine g_bipush (v := nI (114)) hC dX4_statement_100 (by decide) ?_
            refine g_icmp_eqN (tgt := 121) hC dX4_statement_102 (by decide) (by omega) (by omega) (fun h_102 => ?_) (fun h_102 => ?_)
            · skip
              omega
            · skip
              refine g_iload_n hC dX4_statement_105 rfl ?_
              refine g_bipush (v := nI (110)) hC dX4_statement_106 (by decide) ?_
              refine g_icmp_eqN (tgt := 121) hC dX4_statement_108 (by decide) (by omega) (by omega) (fun h_108 => ?_) (fun h_108 => ?_)
              · skip
                omega
              · skip
                refine g_aload_n hC dX4_statement_111 rfl rfl ?_
                refine g_iload_n hC dX4_statement_112 rfl ?_
                refine g_iconst (v := nI (1)) hC dX4_statement_113 (by decide) ?_
                refine g_iaddN hC dX4_statement_114 ?_
                cases hee : dig (ltr lt len (pt + 1 + 1)) with
                | false =>
                  have he := stp_21 (Or.inr hs) hdd hee
                  refine gi_X4_107 hC (is := [0]) (st := []) (c_X4_readsDigit_f u ro re lt len (updN le st 119) (updN la st pt) (upd td (2 * st) (nI d1)) fr ti (pt + 1 + 1) st ke hi ik cu go num nin up fo hlen hlt (by omega) (p := (2 * st) + 1) hee) dX4_statement_115 rfl ⟨by decide, by decide⟩ ⟨by decide, by decide⟩ rfl (by decide) rfl rfl rfl ?_
                  refine g_if_eqB (tgt := 125) hC dX4_statement_118 (by decide) (fun h_118 => ?_) (fun h_118 => ?_)
                  · skip
                    refine g_iconst (v := nI (0)) hC dX4_statement_125 (by decide) ?_
                    refine g_istore_n hC dX4_statement_126 (by decide) rfl ?_
                    refine g_iload_n hC dX4_statement_127 rfl ?_
                    refine g_if_eqN (tgt := 140) hC dX4_statement_128 (by decide) (by omega) (fun h_128 => ?_) (fun h_128 => ?_)
                    · skip
                      refine g_iconst (v := nI (0)) hC dX4_statement_140 (by decide) ?_
                      exact g_zret hC rfl rfl dX4_statement_141 (⟨rV (by rw [he]; rfl), (updN le st 119), (updN la st pt), (upd td (2 * st) (nI d1)), fr, ti, fun j hj => ⟨by first | rfl | exact updN_ne (by omega), by first | rfl | exact updN_ne (by omega), by first | rfl | exact upd_ne (by omega) | exact (upd_ne (by omega)).trans (upd_ne (by omega)), by first | rfl | exact upd_ne (by omega) | exact (upd_ne (by omega)).trans (upd_ne (by omega)), by first | rfl | exact updN_ne (by omega), by first | rfl | exact updN_ne (by omega)⟩, fun z => (by rw [he] at z; cases z), by rw [he]; rfl⟩)
                    · skip
                      exact absurd h_128 (by decide)
                  · skip
                    cases h_118
                | true =>
                  obtain ⟨d2, hd20, hd2⟩ := dig_some hee
                  refine gi_X4_107 hC (is := [0]) (st := []) (c_X4_readsDigit_t u ro re lt len (updN le st 119) (updN la st pt) (upd td (2 * st) (nI d1)) fr ti (pt + 1 + 1) st ke hi ik cu go num nin up fo hlen hlt (by omega) (p := (2 * st) + 1) (d := d2) (by omega) hd2 hd20) dX4_statement_115 rfl ⟨by decide, by decide⟩ ⟨by decide, by decide⟩ rfl (by decide) rfl rfl rfl ?_
                  refine g_if_eqB (tgt := 125) hC dX4_statement_118 (by decide) (fun h_118 => ?_) (fun h_118 => ?_)
                  · skip
                    cases h_118
                  · skip
                    refine g_iconst (v := nI (1)) hC dX4_statement_121 (by decide) ?_
                    refine g_goto (tgt := 126) hC dX4_statement_122 (by decide) ?_
                    refine g_istore_n hC dX4_statement_126 (by decide) rfl ?_
                    refine g_iload_n hC dX4_statement_127 rfl ?_
                    refine g_if_eqN (tgt := 140) hC dX4_statement_128 (by decide) (by omega) (fun h_128 => ?_) (fun h_128 => ?_)
                    · skip
                      exact absurd h_128 (by decide)
                    · skip
                      refine g_aload_n hC dX4_statement_131 rfl rfl ?_
                      refine gi_X4_92 hC (is := [0]) (st := []) (c_X4_next u ro re lt len (updN le st 119) (updN la st pt) (upd (upd td (2 * st) (nI d1)) ((2 * st) + 1) (nI d2)) fr ti (pt + 1 + 1 + 1) st ke hi ik cu go num nin up fo hlen (by have := rN_le lt len (pt + 1 + 1 + 1) 6; omega)) dX4_statement_132 rfl ⟨by decide, by decide⟩ ⟨by decide, by decide⟩ rfl (by decide) rfl rfl rfl ?_
                      refine g_bipush (v := nI (59)) hC dX4_statement_135 (by decide) ?_
                      refine g_icmp_eqQ (tgt := 142) hC dX4_statement_137 (by decide) (fun c q => by have := ltr_lt hlt c q; omega) (by omega) (fun h_137 => ?_) (fun h_137 => ?_)
                      · skip
                        have he := stp_22 (Or.inr hs) hdd hee
                        rw [decide_eq_true h_137] at he
                        refine g_aload_n hC dX4_statement_142 rfl rfl ?_
                        refine g_dup hC dX4_statement_143 rfl ?_
                        refine gf_X4_at hC dX4_statement_144 rfl rfl ?_
                        refine g_iconst (v := nI (1)) hC dX4_statement_147 (by decide) ?_
                        refine g_iaddN hC dX4_statement_148 ?_
                        refine gp_X4_at hC dX4_statement_149 rfl rfl ?_
                        refine g_iconst (v := nI (1)) hC dX4_statement_152 (by decide) ?_
                        exact g_zret hC rfl rfl dX4_statement_153 (⟨rV (by rw [he]; rfl), (updN le st 119), (updN la st pt), (upd (upd td (2 * st) (nI d1)) ((2 * st) + 1) (nI d2)), fr, ti, fun j hj => ⟨by first | rfl | exact updN_ne (by omega), by first | rfl | exact updN_ne (by omega), by first | rfl | exact upd_ne (by omega) | exact (upd_ne (by omega)).trans (upd_ne (by omega)), by first | rfl | exact upd_ne (by omega) | exact (upd_ne (by omega)).trans (upd_ne (by omega)), by first | rfl | exact updN_ne (by omega), by first | rfl | exact updN_ne (by omega)⟩, fun _ => ⟨updN_self _ _ _, by rw [he], (updN_self _ _ _).trans (ltr_in hs).2.symm, by rw [(ltr_in hs).2, if_neg (by decide), (ltr_in hd1).2, Nat.add_sub_cancel_left]; exact (upd_ne (by omega)).trans (upd_self _ _ _), fun _ _ => by rw [(ltr_in hd2).2, Nat.add_sub_cancel_left]; exact upd_self _ _ _, fun z => by rw [(ltr_in hs).2] at z; exact absurd z (by decide)⟩, by rw [he]; rfl⟩)
                      · skip
                        have he := stp_22 (Or.inr hs) hdd hee
                        rw [decide_eq_false h_137] at he
                        refine g_iconst (v := nI (0)) hC dX4_statement_140 (by decide) ?_
                        exact g_zret hC rfl rfl dX4_statement_141 (⟨rV (by rw [he]; rfl), (updN le st 119), (updN la st pt), (upd (upd td (2 * st) (nI d1)) ((2 * st) + 1) (nI d2)), fr, ti, fun j hj => ⟨by first | rfl | exact updN_ne (by omega), by first | rfl | exact updN_ne (by omega), by first | rfl | exact upd_ne (by omega) | exact (upd_ne (by omega)).trans (upd_ne (by omega)), by first | rfl | exact upd_ne (by omega) | exact (upd_ne (by omega)).trans (upd_ne (by omega)), by first | rfl | exact updN_ne (by omega), by first | rfl | exact updN_ne (by omega)⟩, fun z => (by rw [he] at z; cases z), by rw [he]; rfl⟩)
      · skip
        omega
    · skip
      refine g_iload_n hC dX4_statement_17 rfl ?_
      refine g_bipush (v := nI (114)) hC dX4_statement_18 (by decide) ?_
      refine g_icmp_eqQ (tgt := 37) hC dX4_statement_20 (by decide) (fun c q => by have := ltr_lt hlt c q; omega) (by omega) (fun h_20 => ?_) (fun h_20 => ?_)
      · skip
        have hs : ltr lt len pt = some 114 := h_20
        have hlt0 := (ltr_in hs).1
        rw [hs]
        show G C 0 0 37 [aR 0 0 0, aI (nI 114), aK 9, aK 9] [] [modW u ro re lt len le la td fr ti pt st ke hi ik cu go num nin up fo]
        refine g_aload_n hC dX4_statement_37 rfl rfl ?_
        refine gf_X4_letter hC dX4_statement_38 rfl rfl ?_
        refine g_aload_n hC dX4_statement_41 rfl rfl ?_
        refine gf_X4_statements hC dX4_statement_42 rfl rfl ?_
        refine g_iload_n hC dX4_statement_45 rfl ?_
        refine g_iastN hC dX4_statement_46 rfl (by omega) (by decide) ?_
        refine g_aload_n hC dX4_statement_47 rfl rfl ?_
        refine gf_X4_letterAt hC dX4_statement_48 rfl rfl ?_
        refine g_aload_n hC dX4_statement_51 rfl rfl ?_
        refine gf_X4_statements hC dX4_statement_52 rfl rfl ?_
        refine g_aload_n hC dX4_statement_55 rfl rfl ?_
        refine gf_X4_at hC dX4_statement_56 rfl rfl ?_
        refine g_iastN hC dX4_statement_59 rfl (by omega) (by decide) ?_
        refine g_aload_n hC dX4_statement_60 rfl rfl ?_
        refine g_dup hC dX4_statement_61 rfl ?_
        refine gf_X4_at hC dX4_statement_62 rfl rfl ?_
        refine g_iconst (v := nI (1)) hC dX4_statement_65 (by decide) ?_
        refine g_iaddN hC dX4_statement_66 ?_
        refine gp_X4_at hC dX4_statement_67 rfl rfl ?_
        refine g_iconst (v := nI (2)) hC dX4_statement_70 (by decide) ?_
        refine g_aload_n hC dX4_statement_71 rfl rfl ?_
        refine gf_X4_statements hC dX4_statement_72 rfl rfl ?_
        refine g_imulN hC dX4_statement_75 ?_
        refine g_istore_n hC dX4_statement_76 (by decide) rfl ?_
        refine g_iload_n hC dX4_statement_77 rfl ?_
        refine g_bipush (v := nI (97)) hC dX4_statement_78 (by decide) ?_
        refine g_icmp_neN (tgt := 91) hC dX4_statement_80 (by decide) (by omega) (by omega) (fun h_80 => ?_) (fun h_80 => ?_)
        · skip
          refine g_aload_n hC dX4_statement_91 rfl rfl ?_
          refine g_iload_n hC dX4_statement_92 rfl ?_
          cases hdd : dig (ltr lt len (pt + 1)) with
          | false =>
            have he := stp_10 (Or.inl hs) hdd
            refine gi_X4_107 hC (is := [0]) (st := []) (c_X4_readsDigit_f u ro re lt len (updN le st 114) (updN la st pt) td fr ti (pt + 1) st ke hi ik cu go num nin up fo hlen hlt (by omega) (p := 2 * st) hdd) dX4_statement_93 rfl ⟨by decide, by decide⟩ ⟨by decide, by decide⟩ rfl (by decide) rfl rfl rfl ?_
            refine g_if_eqB (tgt := 125) hC dX4_statement_96 (by decide) (fun h_96 => ?_) (fun h_96 => ?_)
            · skip
              refine g_iconst (v := nI (0)) hC dX4_statement_125 (by decide) ?_
              refine g_istore_n hC dX4_statement_126 (by decide) rfl ?_
              refine g_iload_n hC dX4_statement_127 rfl ?_
              refine g_if_eqN (tgt := 140) hC dX4_statement_128 (by decide) (by omega) (fun h_128 => ?_) (fun h_128 => ?_)
              · skip
                refine g_iconst (v := nI (0)) hC dX4_statement_140 (by decide) ?_
                exact g_zret hC rfl rfl dX4_statement_141 (⟨rV (by rw [he]; rfl), (updN le st 114), (updN la st pt), td, fr, ti, fun j hj => ⟨by first | rfl | exact updN_ne (by omega), by first | rfl | exact updN_ne (by omega), by first | rfl | exact upd_ne (by omega) | exact (upd_ne (by omega)).trans (upd_ne (by omega)), by first | rfl | exact upd_ne (by omega) | exact (upd_ne (by omega)).trans (upd_ne (by omega)), by first | rfl | exact updN_ne (by omega), by first | rfl | exact updN_ne (by omega)⟩, fun z => (by rw [he] at z; cases z), by rw [he]; rfl⟩)
              · skip
                exact absurd h_128 (by decide)
            · skip
              cases h_96
          | true =>
            obtain ⟨d1, hd10, hd1⟩ := dig_some hdd
            refine gi_X4_107 hC (is := [0]) (st := []) (c_X4_readsDigit_t u ro re lt len (updN le st 114) (updN la st pt) td fr ti (pt + 1) st ke hi ik cu go num nin up fo hlen hlt (by omega) (p := 2 * st) (d := d1) (by omega) hd1 hd10) dX4_statement_93 rfl ⟨by decide, by decide⟩ ⟨by decide, by decide⟩ rfl (by decide) rfl rfl rfl ?_
            refine g_if_eqB (tgt := 125) hC dX4_statement_96 (by decide) (fun h_96 => ?_) (fun h_96 => ?_)
            · skip
              cases h_96
            · skip
              refine g_iload_n hC dX4_statement_99 rfl ?_
              refine g_bipush (v := nI (114)) hC dX4_statement_100 (by decide) ?_
              refine g_icmp_eqN (tgt := 121) hC dX4_statement_102 (by decide) (by omega) (by omega) (fun h_102 => ?_) (fun h_102 => ?_)
              · skip
                refine g_iconst (v := nI (1)) hC dX4_statement_121 (by decide) ?_
                refine g_goto (tgt := 126) hC dX4_statement_122 (by decide) ?_
                refine g_istore_n hC dX4_statement_126 (by decide) rfl ?_
                refine g_iload_n hC dX4_statement_127 rfl ?_
                refine g_if_eqN (tgt := 140) hC dX4_statement_128 (by decide) (by omega) (fun h_128 => ?_) (fun h_128 => ?_)
                · skip
                  exact absurd h_128 (by decide)
                · skip
                  refine g_aload_n hC dX4_statement_131 rfl rfl ?_
                  refine gi_X4_92 hC (is := [0]) (st := []) (c_X4_next u ro re lt len (updN le st 114) (updN la st pt) (upd td (2 * st) (nI d1)) fr ti (pt + 1 + 1) st ke hi ik cu go num nin up fo hlen (by have := rN_le lt len (pt + 1 + 1 + 1) 6; omega)) dX4_statement_132 rfl ⟨by decide, by decide⟩ ⟨by decide, by decide⟩ rfl (by decide) rfl rfl rfl ?_
                  refine g_bipush (v := nI (59)) hC dX4_statement_135 (by decide) ?_
                  refine g_icmp_eqQ (tgt := 142) hC dX4_statement_137 (by decide) (fun c q => by have := ltr_lt hlt c q; omega) (by omega) (fun h_137 => ?_) (fun h_137 => ?_)
                  · skip
                    have he := stp_11 (Or.inl hs) hdd
                    rw [decide_eq_true h_137] at he
                    refine g_aload_n hC dX4_statement_142 rfl rfl ?_
                    refine g_dup hC dX4_statement_143 rfl ?_
                    refine gf_X4_at hC dX4_statement_144 rfl rfl ?_
                    refine g_iconst (v := nI (1)) hC dX4_statement_147 (by decide) ?_
                    refine g_iaddN hC dX4_statement_148 ?_
                    refine gp_X4_at hC dX4_statement_149 rfl rfl ?_
                    refine g_iconst (v := nI (1)) hC dX4_statement_152 (by decide) ?_
                    exact g_zret hC rfl rfl dX4_statement_153 (⟨rV (by rw [he]; rfl), (updN le st 114), (updN la st pt), (upd td (2 * st) (nI d1)), fr, ti, fun j hj => ⟨by first | rfl | exact updN_ne (by omega), by first | rfl | exact updN_ne (by omega), by first | rfl | exact upd_ne (by omega) | exact (upd_ne (by omega)).trans (upd_ne (by omega)), by first | rfl | exact upd_ne (by omega) | exact (upd_ne (by omega)).trans (upd_ne (by omega)), by first | rfl | exact updN_ne (by omega), by first | rfl | exact updN_ne (by omega)⟩, fun _ => ⟨updN_self _ _ _, by rw [he], (updN_self _ _ _).trans (ltr_in hs).2.symm, by rw [(ltr_in hs).2, if_neg (by decide), (ltr_in hd1).2, Nat.add_sub_cancel_left]; exact upd_self _ _ _, fun z _ => absurd (ltr_in hs).2 z, fun z => by rw [(ltr_in hs).2] at z; exact absurd z (by decide)⟩, by rw [he]; rfl⟩)
                  · skip
                    have he := stp_11 (Or.inl hs) hdd
                    rw [decide_eq_false h_137] at he
                    refine g_iconst (v := nI (0)) hC dX4_statement_140 (by decide) ?_
                    exact g_zret hC rfl rfl dX4_statement_141 (⟨rV (by rw [he]; rfl), (updN le st 114), (updN la st pt), (upd td (2 * st) (nI d1)), fr, ti, fun j hj => ⟨by first | rfl | exact updN_ne (by omega), by first | rfl | exact updN_ne (by omega), by first | rfl | exact upd_ne (by omega) | exact (upd_ne (by omega)).trans (upd_ne (by omega)), by first | rfl | exact upd_ne (by omega) | exact (upd_ne (by omega)).trans (upd_ne (by omega)), by first | rfl | exact updN_ne (by omega), by first | rfl | exact updN_ne (by omega)⟩, fun z => (by rw [he] at z; cases z), by rw [he]; rfl⟩)
              · skip
                omega
        · skip
          omega
      · skip
        refine g_iload_n hC dX4_statement_23 rfl ?_
        refine g_bipush (v := nI (97)) hC dX4_statement_24 (by decide) ?_
        refine g_icmp_eqQ (tgt := 37) hC dX4_statement_26 (by decide) (fun c q => by have := ltr_lt hlt c q; omega) (by omega) (fun h_26 => ?_) (fun h_26 => ?_)
        · skip
          have hs : ltr lt len pt = some 97 := h_26
          have hlt0 := (ltr_in hs).1
          rw [hs]
          show G C 0 0 37 [aR 0 0 0, aI (nI 97), aK 9, aK 9] [] [modW u ro re lt len le la td fr ti pt st ke hi ik cu go num nin up fo]
          refine g_aload_n hC dX4_statement_37 rfl rfl ?_
          refine gf_X4_letter hC dX4_statement_38 rfl rfl ?_
          refine g_aload_n hC dX4_statement_41 rfl rfl ?_
          refine gf_X4_statements hC dX4_statement_42 rfl rfl ?_
          refine g_iload_n hC dX4_statement_45 rfl ?_
          refine g_iastN hC dX4_statement_46 rfl (by omega) (by decide) ?_
          refine g_aload_n hC dX4_statement_47 rfl rfl ?_
          refine gf_X4_letterAt hC dX4_statement_48 rfl rfl ?_
          refine g_aload_n hC dX4_statement_51 rfl rfl ?_
          refine gf_X4_statements hC dX4_statement_52 rfl rfl ?_
          refine g_aload_n hC dX4_statement_55 rfl rfl ?_
          refine gf_X4_at hC dX4_statement_56 rfl rfl ?_
          refine g_iastN hC dX4_statement_59 rfl (by omega) (by decide) ?_
          refine g_aload_n hC dX4_statement_60 rfl rfl ?_
          refine g_dup hC dX4_statement_61 rfl ?_
          refine gf_X4_at hC dX4_statement_62 rfl rfl ?_
          refine g_iconst (v := nI (1)) hC dX4_statement_65 (by decide) ?_
          refine g_iaddN hC dX4_statement_66 ?_
          refine gp_X4_at hC dX4_statement_67 rfl rfl ?_
          refine g_iconst (v := nI (2)) hC dX4_statement_70 (by decide) ?_
          refine g_aload_n hC dX4_statement_71 rfl rfl ?_
          refine gf_X4_statements hC dX4_statement_72 rfl rfl ?_
          refine g_imulN hC dX4_statement_75 ?_
          refine g_istore_n hC dX4_statement_76 (by decide) rfl ?_
          refine g_iload_n hC dX4_statement_77 rfl ?_
          refine g_bipush (v := nI (97)) hC dX4_statement_78 (by decide) ?_
          refine g_icmp_neN (tgt := 91) hC dX4_statement_80 (by decide) (by omega) (by omega) (fun h_80 => ?_) (fun h_80 => ?_)
          · skip
            omega
          · skip
            refine g_aload_n hC dX4_statement_83 rfl rfl ?_
            refine g_iload_n hC dX4_statement_84 rfl ?_
            cases hk : kin (ltr lt len (pt + 1)) with
            | none =>
              have he := stp_k hs hk
              refine gi_X4_114 hC (is := [0]) (st := []) (c_X4_readsWalker_0 u ro re lt len (updN le st 97) (updN la st pt) td fr ti (pt + 1) st ke hi ik cu go num nin up fo hlen hlt (by omega) hst (p := 2 * st) (by omega) hk) dX4_statement_85 rfl ⟨by decide, by decide⟩ ⟨by decide, by decide⟩ rfl (by decide) rfl rfl rfl ?_
              refine g_goto (tgt := 126) hC dX4_statement_88 (by decide) ?_
              refine g_istore_n hC dX4_statement_126 (by decide) rfl ?_
              refine g_iload_n hC dX4_statement_127 rfl ?_
              refine g_if_eqB (tgt := 140) hC dX4_statement_128 (by decide) (fun h_128 => ?_) (fun h_128 => ?_)
              · skip
                refine g_iconst (v := nI (0)) hC dX4_statement_140 (by decide) ?_
                exact g_zret hC rfl rfl dX4_statement_141 (⟨rV (by rw [he]; rfl), (updN le st 97), (updN la st pt), (upd td (2 * st) (-1)), fr, ti, fun j hj => ⟨by first | rfl | exact updN_ne (by omega), by first | rfl | exact updN_ne (by omega), by first | rfl | exact upd_ne (by omega) | exact (upd_ne (by omega)).trans (upd_ne (by omega)), by first | rfl | exact upd_ne (by omega) | exact (upd_ne (by omega)).trans (upd_ne (by omega)), by first | rfl | exact updN_ne (by omega), by first | rfl | exact updN_ne (by omega)⟩, fun z => (by rw [he] at z; cases z), by rw [he]; rfl⟩)
              · skip
                cases h_128
            | some ki =>
              cases hdd : dig (ltr lt len (pt + 1 + 1)) with
              | false =>
                have he := stp_w0 hs hk hdd
                refine gi_X4_114 hC (is := [0]) (st := []) (c_X4_readsWalker_1 u ro re lt len (updN le st 97) (updN la st pt) td fr ti (pt + 1) st ke hi ik cu go num nin up fo hlen hlt (by omega) hst (p := 2 * st) (by omega) hk hdd) dX4_statement_85 rfl ⟨by decide, by decide⟩ ⟨by decide, by decide⟩ rfl (by decide) rfl rfl rfl ?_
                refine g_goto (tgt := 126) hC dX4_statement_88 (by decide) ?_
                refine g_istore_n hC dX4_statement_126 (by decide) rfl ?_
                refine g_iload_n hC dX4_statement_127 rfl ?_
                refine g_if_eqB (tgt := 140) hC dX4_statement_128 (by decide) (fun h_128 => ?_) (fun h_128 => ?_)
                · skip
                  refine g_iconst (v := nI (0)) hC dX4_statement_140 (by decide) ?_
                  exact g_zret hC rfl rfl dX4_statement_141 (⟨rV (by rw [he]; rfl), (updN le st 97), (updN la st pt), (upd td (2 * st) (nI ki)), fr, ti, fun j hj => ⟨by first | rfl | exact updN_ne (by omega), by first | rfl | exact updN_ne (by omega), by first | rfl | exact upd_ne (by omega) | exact (upd_ne (by omega)).trans (upd_ne (by omega)), by first | rfl | exact upd_ne (by omega) | exact (upd_ne (by omega)).trans (upd_ne (by omega)), by first | rfl | exact updN_ne (by omega), by first | rfl | exact updN_ne (by omega)⟩, fun z => (by rw [he] at z; cases z), by rw [he]; rfl⟩)
                · skip
                  cases h_128
              | true =>
                obtain ⟨d, hd10, hd⟩ := dig_some hdd
                have hrn := rN_le lt len (pt + 1 + 1 + 1) 6
                refine gi_X4_114 hC (is := [0]) (st := []) (c_X4_readsWalker_2 u ro re lt len (updN le st 97) (updN la st pt) td fr ti (pt + 1) st ke hi ik cu go num nin up fo hlen hlt (by omega) hst (p := 2 * st) (by omega) hk hd hd10) dX4_statement_85 rfl ⟨by decide, by decide⟩ ⟨by decide, by decide⟩ rfl (by decide) rfl rfl rfl ?_
                refine g_goto (tgt := 126) hC dX4_statement_88 (by decide) ?_
                refine g_istore_n hC dX4_statement_126 (by decide) rfl ?_
                refine g_iload_n hC dX4_statement_127 rfl ?_
                refine g_if_eqB (tgt := 140) hC dX4_statement_128 (by decide) (fun h_128 => ?_) (fun h_128 => ?_)
                · skip
                  cases h_128
                · skip
                  refine g_aload_n hC dX4_statement_131 rfl rfl ?_
                  refine gi_X4_92 hC (is := [0]) (st := []) (c_X4_next u ro re lt len (updN le st 97) (updN la st pt) (upd (upd td (2 * st) (nI ki)) ((2 * st) + 1) (nI d)) (updN fr st (pt + 1 + 1 + 1)) (updN ti st (pt + 1 + 1 + 1 + (rN lt len (pt + 1 + 1 + 1) 6))) (pt + 1 + 1 + 1 + (rN lt len (pt + 1 + 1 + 1) 6)) st ke hi ik cu go num nin up fo hlen (by have := rN_le lt len (pt + 1 + 1 + 1) 6; omega)) dX4_statement_132 rfl ⟨by decide, by decide⟩ ⟨by decide, by decide⟩ rfl (by decide) rfl rfl rfl ?_
                  refine g_bipush (v := nI (59)) hC dX4_statement_135 (by decide) ?_
                  refine g_icmp_eqQ (tgt := 142) hC dX4_statement_137 (by decide) (fun c q => by have := ltr_lt hlt c q; omega) (by omega) (fun h_137 => ?_) (fun h_137 => ?_)
                  · skip
                    have he := stp_w hs hk hdd
                    rw [decide_eq_true h_137] at he
                    refine g_aload_n hC dX4_statement_142 rfl rfl ?_
                    refine g_dup hC dX4_statement_143 rfl ?_
                    refine gf_X4_at hC dX4_statement_144 rfl rfl ?_
                    refine g_iconst (v := nI (1)) hC dX4_statement_147 (by decide) ?_
                    refine g_iaddN hC dX4_statement_148 ?_
                    refine gp_X4_at hC dX4_statement_149 rfl rfl ?_
                    refine g_iconst (v := nI (1)) hC dX4_statement_152 (by decide) ?_
                    exact g_zret hC rfl rfl dX4_statement_153 (⟨rV (by rw [he]; rfl), (updN le st 97), (updN la st pt), (upd (upd td (2 * st) (nI ki)) ((2 * st) + 1) (nI d)), (updN fr st (pt + 1 + 1 + 1)), (updN ti st (pt + 1 + 1 + 1 + (rN lt len (pt + 1 + 1 + 1) 6))), fun j hj => ⟨by first | rfl | exact updN_ne (by omega), by first | rfl | exact updN_ne (by omega), by first | rfl | exact upd_ne (by omega) | exact (upd_ne (by omega)).trans (upd_ne (by omega)), by first | rfl | exact upd_ne (by omega) | exact (upd_ne (by omega)).trans (upd_ne (by omega)), by first | rfl | exact updN_ne (by omega), by first | rfl | exact updN_ne (by omega)⟩, fun _ => ⟨updN_self _ _ _, by rw [he], (updN_self _ _ _).trans (ltr_in hs).2.symm, by rw [(ltr_in hs).2, if_pos rfl, kin_in hk]; exact (upd_ne (by omega)).trans (upd_self _ _ _), fun _ _ => by rw [(ltr_in hd).2, Nat.add_sub_cancel_left]; exact upd_self _ _ _, fun _ => ⟨updN_self _ _ _, by rw [he]; exact updN_self _ _ _⟩⟩, by rw [he]; rfl⟩)
                  · skip
                    have he := stp_w hs hk hdd
                    rw [decide_eq_false h_137] at he
                    refine g_iconst (v := nI (0)) hC dX4_statement_140 (by decide) ?_
                    exact g_zret hC rfl rfl dX4_statement_141 (⟨rV (by rw [he]; rfl), (updN le st 97), (updN la st pt), (upd (upd td (2 * st) (nI ki)) ((2 * st) + 1) (nI d)), (updN fr st (pt + 1 + 1 + 1)), (updN ti st (pt + 1 + 1 + 1 + (rN lt len (pt + 1 + 1 + 1) 6))), fun j hj => ⟨by first | rfl | exact updN_ne (by omega), by first | rfl | exact updN_ne (by omega), by first | rfl | exact upd_ne (by omega) | exact (upd_ne (by omega)).trans (upd_ne (by omega)), by first | rfl | exact upd_ne (by omega) | exact (upd_ne (by omega)).trans (upd_ne (by omega)), by first | rfl | exact updN_ne (by omega), by first | rfl | exact updN_ne (by omega)⟩, fun z => (by rw [he] at z; cases z), by rw [he]; rfl⟩)
        · skip
          refine g_iload_n hC dX4_statement_29 rfl ?_
          refine g_bipush (v := nI (110)) hC dX4_statement_30 (by decide) ?_
          refine g_icmp_eqQ (tgt := 37) hC dX4_statement_32 (by decide) (fun c q => by have := ltr_lt hlt c q; omega) (by omega) (fun h_32 => ?_) (fun h_32 => ?_)
          · skip
            have hs : ltr lt len pt = some 110 := h_32
            have hlt0 := (ltr_in hs).1
            rw [hs]
            show G C 0 0 37 [aR 0 0 0, aI (nI 110), aK 9, aK 9] [] [modW u ro re lt len le la td fr ti pt st ke hi ik cu go num nin up fo]
            refine g_aload_n hC dX4_statement_37 rfl rfl ?_
            refine gf_X4_letter hC dX4_statement_38 rfl rfl ?_
            refine g_aload_n hC dX4_statement_41 rfl rfl ?_
            refine gf_X4_statements hC dX4_statement_42 rfl rfl ?_
            refine g_iload_n hC dX4_statement_45 rfl ?_
            refine g_iastN hC dX4_statement_46 rfl (by omega) (by decide) ?_
            refine g_aload_n hC dX4_statement_47 rfl rfl ?_
            refine gf_X4_letterAt hC dX4_statement_48 rfl rfl ?_
            refine g_aload_n hC dX4_statement_51 rfl rfl ?_
            refine gf_X4_statements hC dX4_statement_52 rfl rfl ?_
            refine g_aload_n hC dX4_statement_55 rfl rfl ?_
            refine gf_X4_at hC dX4_statement_56 rfl rfl ?_
            refine g_iastN hC dX4_statement_59 rfl (by omega) (by decide) ?_
            refine g_aload_n hC dX4_statement_60 rfl rfl ?_
            refine g_dup hC dX4_statement_61 rfl ?_
            refine gf_X4_at hC dX4_statement_62 rfl rfl ?_
            refine g_iconst (v := nI (1)) hC dX4_statement_65 (by decide) ?_
            refine g_iaddN hC dX4_statement_66 ?_
            refine gp_X4_at hC dX4_statement_67 rfl rfl ?_
            refine g_iconst (v := nI (2)) hC dX4_statement_70 (by decide) ?_
            refine g_aload_n hC dX4_statement_71 rfl rfl ?_
            refine gf_X4_statements hC dX4_statement_72 rfl rfl ?_
            refine g_imulN hC dX4_statement_75 ?_
            refine g_istore_n hC dX4_statement_76 (by decide) rfl ?_
            refine g_iload_n hC dX4_statement_77 rfl ?_
            refine g_bipush (v := nI (97)) hC dX4_statement_78 (by decide) ?_
            refine g_icmp_neN (tgt := 91) hC dX4_statement_80 (by decide) (by omega) (by omega) (fun h_80 => ?_) (fun h_80 => ?_)
            · skip
              refine g_aload_n hC dX4_statement_91 rfl rfl ?_
              refine g_iload_n hC dX4_statement_92 rfl ?_
              cases hdd : dig (ltr lt len (pt + 1)) with
              | false =>
                have he := stp_10 (Or.inr hs) hdd
                refine gi_X4_107 hC (is := [0]) (st := []) (c_X4_readsDigit_f u ro re lt len (updN le st 110) (updN la st pt) td fr ti (pt + 1) st ke hi ik cu go num nin up fo hlen hlt (by omega) (p := 2 * st) hdd) dX4_statement_93 rfl ⟨by decide, by decide⟩ ⟨by decide, by decide⟩ rfl (by decide) rfl rfl rfl ?_
                refine g_if_eqB (tgt := 125) hC dX4_statement_96 (by decide) (fun h_96 => ?_) (fun h_96 => ?_)
                · skip
                  refine g_iconst (v := nI (0)) hC dX4_statement_125 (by decide) ?_
                  refine g_istore_n hC dX4_statement_126 (by decide) rfl ?_
                  refine g_iload_n hC dX4_statement_127 rfl ?_
                  refine g_if_eqN (tgt := 140) hC dX4_statement_128 (by decide) (by omega) (fun h_128 => ?_) (fun h_128 => ?_)
                  · skip
                    refine g_iconst (v := nI (0)) hC dX4_statement_140 (by decide) ?_
                    exact g_zret hC rfl rfl dX4_statement_141 (⟨rV (by rw [he]; rfl), (updN le st 110), (updN la st pt), td, fr, ti, fun j hj => ⟨by first | rfl | exact updN_ne (by omega), by first | rfl | exact updN_ne (by omega), by first | rfl | exact upd_ne (by omega) | exact (upd_ne (by omega)).trans (upd_ne (by omega)), by first | rfl | exact upd_ne (by omega) | exact (upd_ne (by omega)).trans (upd_ne (by omega)), by first | rfl | exact updN_ne (by omega), by first | rfl | exact updN_ne (by omega)⟩, fun z => (by rw [he] at z; cases z), by rw [he]; rfl⟩)
                  · skip
                    exact absurd h_128 (by decide)
                · skip
                  cases h_96
              | true =>
                obtain ⟨d1, hd10, hd1⟩ := dig_some hdd
                refine gi_X4_107 hC (is := [0]) (st := []) (c_X4_readsDigit_t u ro re lt len (updN le st 110) (updN la st pt) td fr ti (pt + 1) st ke hi ik cu go num nin up fo hlen hlt (by omega) (p := 2 * st) (d := d1) (by omega) hd1 hd10) dX4_statement_93 rfl ⟨by decide, by decide⟩ ⟨by decide, by decide⟩ rfl (by decide) rfl rfl rfl ?_
                refine g_if_eqB (tgt := 125) hC dX4_statement_96 (by decide) (fun h_96 => ?_) (fun h_96 => ?_)
                · skip
                  cases h_96
                · skip
                  refine g_iload_n hC dX4_statement_99 rfl ?_
                  refine g_bipush (v := nI (114)) hC dX4_statement_100 (by decide) ?_
                  refine g_icmp_eqN (tgt := 121) hC dX4_statement_102 (by decide) (by omega) (by omega) (fun h_102 => ?_) (fun h_102 => ?_)
                  · skip
                    omega
                  · skip
                    refine g_iload_n hC dX4_statement_105 rfl ?_
                    refine g_bipush (v := nI (110)) hC dX4_statement_106 (by decide) ?_
                    refine g_icmp_eqN (tgt := 121) hC dX4_statement_108 (by decide) (by omega) (by omega) (fun h_108 => ?_) (fun h_108 => ?_)
                    · skip
                      refine g_iconst (v := nI (1)) hC dX4_statement_121 (by decide) ?_
                      refine g_goto (tgt := 126) hC dX4_statement_122 (by decide) ?_
                      refine g_istore_n hC dX4_statement_126 (by decide) rfl ?_
                      refine g_iload_n hC dX4_statement_127 rfl ?_
                      refine g_if_eqN (tgt := 140) hC dX4_statement_128 (by decide) (by omega) (fun h_128 => ?_) (fun h_128 => ?_)
                      · skip
                        exact absurd h_128 (by decide)
                      · skip
                        refine g_aload_n hC dX4_statement_131 rfl rfl ?_
                        refine gi_X4_92 hC (is := [0]) (st := []) (c_X4_next u ro re lt len (updN le st 110) (updN la st pt) (upd td (2 * st) (nI d1)) fr ti (pt + 1 + 1) st ke hi ik cu go num nin up fo hlen (by have := rN_le lt len (pt + 1 + 1 + 1) 6; omega)) dX4_statement_132 rfl ⟨by decide, by decide⟩ ⟨by decide, by decide⟩ rfl (by decide) rfl rfl rfl ?_
                        refine g_bipush (v := nI (59)) hC dX4_statement_135 (by decide) ?_
                        refine g_icmp_eqQ (tgt := 142) hC dX4_statement_137 (by decide) (fun c q => by have := ltr_lt hlt c q; omega) (by omega) (fun h_137 => ?_) (fun h_137 => ?_)
                        · skip
                          have he := stp_11 (Or.inr hs) hdd
                          rw [decide_eq_true h_137] at he
                          refine g_aload_n hC dX4_statement_142 rfl rfl ?_
                          refine g_dup hC dX4_statement_143 rfl ?_
                          refine gf_X4_at hC dX4_statement_144 rfl rfl ?_
                          refine g_iconst (v := nI (1)) hC dX4_statement_147 (by decide) ?_
                          refine g_iaddN hC dX4_statement_148 ?_
                          refine gp_X4_at hC dX4_statement_149 rfl rfl ?_
                          refine g_iconst (v := nI (1)) hC dX4_statement_152 (by decide) ?_
                          exact g_zret hC rfl rfl dX4_statement_153 (⟨rV (by rw [he]; rfl), (updN le st 110), (updN la st pt), (upd td (2 * st) (nI d1)), fr, ti, fun j hj => ⟨by first | rfl | exact updN_ne (by omega), by first | rfl | exact updN_ne (by omega), by first | rfl | exact upd_ne (by omega) | exact (upd_ne (by omega)).trans (upd_ne (by omega)), by first | rfl | exact upd_ne (by omega) | exact (upd_ne (by omega)).trans (upd_ne (by omega)), by first | rfl | exact updN_ne (by omega), by first | rfl | exact updN_ne (by omega)⟩, fun _ => ⟨updN_self _ _ _, by rw [he], (updN_self _ _ _).trans (ltr_in hs).2.symm, by rw [(ltr_in hs).2, if_neg (by decide), (ltr_in hd1).2, Nat.add_sub_cancel_left]; exact upd_self _ _ _, fun _ z => absurd (ltr_in hs).2 z, fun z => by rw [(ltr_in hs).2] at z; exact absurd z (by decide)⟩, by rw [he]; rfl⟩)
                        · skip
                          have he := stp_11 (Or.inr hs) hdd
                          rw [decide_eq_false h_137] at he
                          refine g_iconst (v := nI (0)) hC dX4_statement_140 (by decide) ?_
                          exact g_zret hC rfl rfl dX4_statement_141 (⟨rV (by rw [he]; rfl), (updN le st 110), (updN la st pt), (upd td (2 * st) (nI d1)), fr, ti, fun j hj => ⟨by first | rfl | exact updN_ne (by omega), by first | rfl | exact updN_ne (by omega), by first | rfl | exact upd_ne (by omega) | exact (upd_ne (by omega)).trans (upd_ne (by omega)), by first | rfl | exact upd_ne (by omega) | exact (upd_ne (by omega)).trans (upd_ne (by omega)), by first | rfl | exact updN_ne (by omega), by first | rfl | exact updN_ne (by omega)⟩, fun z => (by rw [he] at z; cases z), by rw [he]; rfl⟩)
                    · skip
                      omega
            · skip
              omega
          · skip
            refine g_iconst (v := nI (0)) hC dX4_statement_35 (by decide) ?_
            have he := stp_0 (lt := lt) (len := len) (s := pt) (ld_0 h_26 h_32 h_8 h_20 h_14)
            exact g_zret hC rfl rfl dX4_statement_36 (⟨rV (by rw [he]; rfl), le, la, td, fr, ti, fun j hj => ⟨by first | rfl | exact updN_ne (by omega), by first | rfl | exact updN_ne (by omega), by first | rfl | exact upd_ne (by omega) | exact (upd_ne (by omega)).trans (upd_ne (by omega)), by first | rfl | exact upd_ne (by omega) | exact (upd_ne (by omega)).trans (upd_ne (by omega)), by first | rfl | exact updN_ne (by omega), by first | rfl | exact updN_ne (by omega)⟩, fun z => (by rw [he] at z; cases z), by rw [he]; rfl⟩)

