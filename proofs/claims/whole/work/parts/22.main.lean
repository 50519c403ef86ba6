/-! ===== the class: its worlds, its answers ===== -/
def mainW (v : Vw) (rf : Nat) (go : Nat → Nat) (vm : Vw) (rm : Nat) (gm : Nat → Nat) (vt : Vw) (rt : Nat) (gt : Nat → Nat) (tk : Bool) (lt : Nat → Nat) (len : Nat) (op : Nat → Nat) (to on : Nat → Nat → Nat) (last : Nat) (num : Nat → Nat) (nin : Nat) (re : Nat → Nat) : AM :=
  [[cO 3 [sG 1, sG 2, sG 3, sI (bI tk), sG 4, sG 5, sG 6, sI (nI nin), sG 7]], townG v rf go, townG vm rm gm, townG vt rt gt, tellG lt len, walksG op to on last, [cA 12 (fun j => nI (num j))], [cA 7 (fun j => nI (re j))]]
/-- the state that counts; what stands in the towns in mind and in the ways counts for nothing -/
def PX (v : Vw) (rf : Nat) (vt : Vw) (rt : Nat) (tk : Bool) (lt : Nat → Nat) (len : Nat) (num : Nat → Nat) (nin : Nat) (re : Nat → Nat) (M : AM) : Prop :=
  ∃ (go : Nat → Nat) (vm : Vw) (rm : Nat) (gm gt op : Nat → Nat) (to on : Nat → Nat → Nat) (last : Nat), M = mainW v rf go vm rm gm vt rt gt tk lt len op to on last num nin re
abbrev Ans : Type := Nat ⊕ Int32
def ansOf (o : Ans) : Int32 := match o with
  | .inl k => -(nI k)
  | .inr a => a
def bump (re : Nat → Nat) (o : Ans) : Nat → Nat := match o with
  | .inl k => updN re k (re k + 1)
  | .inr _ => re
theorem neg_neg_k : ∀ k, k < 7 → -(-(nI k)) = nI k := by decide +kernel
theorem neg_0 : ∀ k, k < 7 → (-(nI k) = 0 ↔ k = 0) := by decide +kernel
def outN (x a b : Int32) : Nat := if x < a then 4 else if b < x then 6 else 0
theorem outN_lt (x a b : Int32) : outN x a b < 7 := by
  unfold outN
  split
  · decide
  · split <;> decide
theorem nI_betw {x : Int32} {a b : Nat} (ha : a < 2 ^ 31) (hb : b < 2 ^ 31) (h1 : nI a ≤ x) (h2 : x ≤ nI b) : ∃ n, x = nI n ∧ a ≤ n ∧ n ≤ b := by
  rw [Int32.le_iff_toInt_le, nI_toInt ha] at h1
  rw [Int32.le_iff_toInt_le, nI_toInt hb] at h2
  refine ⟨x.toInt.toNat, Int32.toInt.inj ?_, by omega, by omega⟩
  rw [nI_toInt (by omega)]
  omega
theorem out_0 {x : Int32} {a b : Nat} (ha : a < 2 ^ 31) (hb : b < 2 ^ 31) (h : outN x (nI a) (nI b) = 0) : ∃ n, x = nI n ∧ a ≤ n ∧ n ≤ b := by
  unfold outN at h
  split at h
  · cases h
  next h1 =>
    split at h
    · cases h
    next h2 => exact nI_betw ha hb (Int32.not_lt.mp h1) (Int32.not_lt.mp h2)
theorem wk_of {v : Vw} {x : Int32} (hn : vN v ≤ 4) (h : 0 ≤ x ∧ x < nI (vN v)) : ∃ r, ∃ _ : r < vN v, x = nI r := by
  have h2 := h.2
  have h1 := h.1
  rw [Int32.le_iff_toInt_le] at h1
  rw [Int32.lt_iff_toInt_lt, nI_toInt (by omega)] at h2
  have h0 : (0 : Int32).toInt = 0 := by decide
  rw [h0] at h1
  refine ⟨x.toInt.toNat, by omega, Int32.toInt.inj ?_⟩
  rw [nI_toInt (by omega)]
  omega
theorem rm_of {x : Int32} (h : 0 ≤ x ∧ x < nI 6) : ∃ r, ∃ _ : r < 6, x = nI r := by
  have h2 := h.2
  have h1 := h.1
  rw [Int32.le_iff_toInt_le] at h1
  rw [Int32.lt_iff_toInt_lt, nI_toInt (by omega)] at h2
  have h0 : (0 : Int32).toInt = 0 := by decide
  rw [h0] at h1
  refine ⟨x.toInt.toNat, by omega, Int32.toInt.inj ?_⟩
  rw [nI_toInt (by omega)]
  omega
theorem tab_cases (x : Int32) (k : Nat) (hk : k < 2 ^ 31) : (∃ i, i ≤ k ∧ x = nI i) ∨ (x.toInt < 0 ∨ (k : Int) < x.toInt) := by
  by_cases h : x.toInt < 0 ∨ (k : Int) < x.toInt
  · exact Or.inr h
  · refine Or.inl ⟨x.toInt.toNat, by omega, Int32.toInt.inj ?_⟩
    rw [nI_toInt (by omega)]
    omega
/-- an int as one of the first numbers -/
def whi (x : Int32) (k : Nat) : Option Nat := if 0 ≤ x.toInt ∧ x.toInt ≤ k then some x.toInt.toNat else none
theorem whi_in {i k : Nat} (h : i ≤ k) (hk : k < 2 ^ 31) : whi (nI i) k = some i := by
  unfold whi
  rw [nI_toInt (by omega), if_pos (by omega)]
  rfl
theorem whi_out {x : Int32} {k : Nat} (h : x.toInt < 0 ∨ (k : Int) < x.toInt) : whi x k = none := if_neg (by omega)
def tn (x : Int32) : Nat := x.toInt.toNat
theorem tn_n {n : Nat} (h : n < 2 ^ 31) : tn (nI n) = n := by unfold tn; rw [nI_toInt h]; rfl
def oRoom (v : Vw) (ro : Nat → Bool) (x w : Int32) : Ans := if (0 ≤ x ∧ x < nI 6) then (match whi w 2 with
  | some 0 => .inr (nI (vWi v (tn x)))
  | some 1 => .inr (bI (ro (tn x)))
  | some 2 => .inr (nI (vPa v (tn x)))
  | _ => .inl 2) else .inl 1
section OROOM
variable {v : Vw} {ro : Nat → Bool} {x w : Int32} {r : Nat}
theorem oRoom_no (h : ¬ (0 ≤ x ∧ x < nI 6)) : oRoom v ro x w = .inl 1 := if_neg h
theorem oRoom_0 (h : 0 ≤ nI r ∧ nI r < nI 6) (hr : r < 6) : oRoom v ro (nI r) (nI 0) = .inr (nI (vWi v r)) := by
  unfold oRoom
  rw [if_pos h, whi_in (by decide) (by decide), tn_n (by omega)]
  rfl
theorem oRoom_1 (h : 0 ≤ nI r ∧ nI r < nI 6) (hr : r < 6) : oRoom v ro (nI r) (nI 1) = .inr (bI (ro r)) := by
  unfold oRoom
  rw [if_pos h, whi_in (by decide) (by decide), tn_n (by omega)]
  rfl
theorem oRoom_2 (h : 0 ≤ nI r ∧ nI r < nI 6) (hr : r < 6) : oRoom v ro (nI r) (nI 2) = .inr (nI (vPa v r)) := by
  unfold oRoom
  rw [if_pos h, whi_in (by decide) (by decide), tn_n (by omega)]
  rfl
theorem oRoom_out (h : 0 ≤ x ∧ x < nI 6) (h2 : w.toInt < 0 ∨ ((2 : Nat) : Int) < w.toInt) : oRoom v ro x w = .inl 2 := by
  unfold oRoom
  rw [if_pos h, whi_out h2]
end OROOM
set_option maxRecDepth 100000 in
set_option maxHeartbeats 4000000 in
theorem c_X3_refuse (v : Vw) (rf : Nat) (go : Nat → Nat) (vm : Vw) (rm : Nat) (gm : Nat → Nat) (vt : Vw) (rt : Nat) (gt : Nat → Nat) (tk : Bool) (lt : Nat → Nat) (len : Nat) (op : Nat → Nat) (to on : Nat → Nat → Nat) (last : Nat) (num : Nat → Nat) (nin : Nat) (re : Nat → Nat) {k : Nat} (hk : k < 7) : ConF yX3_refuse cX3_refuse 2 (some .int) 0 [aR 0 0 0, aI (-(nI k))] (mainW v rf go vm rm gm vt rt gt tk lt len op to on last num nin re) (some (aI (-(nI k)))) (mainW v rf go vm rm gm vt rt gt tk lt len op to on last num nin (updN re k (re k + 1))) := by
  refine con_of RX3 pn_X3 rfl rfl (Nat.le_of_ble_eq_true rfl) (fun C hM0 hC => ?_)
  show G C 0 0 0 [aR 0 0 0, aI (-(nI k))] [] (mainW v rf go vm rm gm vt rt gt tk lt len op to on last num nin re)
  refine g_aload_n hC dX3_refuse_0 rfl rfl ?_
  refine gf_X3_refused hC dX3_refuse_1 rfl rfl ?_
  refine g_iload_n hC dX3_refuse_4 rfl ?_
  refine g_ineg (v := nI (k)) hC dX3_refuse_5 (neg_neg_k k hk) ?_
  refine g_dup2 hC dX3_refuse_6 rfl rfl ?_
  refine g_ialdN hC dX3_refuse_7 rfl (by omega) (by decide) ?_
  refine g_iconst (v := nI (1)) hC dX3_refuse_8 (by decide) ?_
  refine g_iaddN hC dX3_refuse_9 ?_
  refine g_iastN hC dX3_refuse_10 rfl (by omega) (by decide) ?_
  refine g_iload_n hC dX3_refuse_11 rfl ?_
  exact g_iret hC rfl dX3_refuse_12 (⟨rfl, rfl⟩)

set_option maxRecDepth 100000 in
set_option maxHeartbeats 4000000 in
theorem c_X3_outside (x a b : Int32) : ConF yX3_outside cX3_outside 3 (some .int) 0 [aI (x), aI (a), aI (b)] [] (some (aI (-(nI (outN x a b))))) [] := by
  refine con_of RX3 pn_X3 rfl rfl (Nat.le_of_ble_eq_true rfl) (fun C hM0 hC => ?_)
  show G C 0 0 0 [aI (x), aI (a), aI (b)] [] []
  refine g_iload_n hC dX3_outside_0 rfl ?_
  refine g_iload_n hC dX3_outside_1 rfl ?_
  refine g_icmp_ge (tgt := 8) hC dX3_outside_2 (by decide) (fun h_2 => ?_) (fun h_2 => ?_)
  · skip
    refine g_iload_n hC dX3_outside_8 rfl ?_
    refine g_iload_n hC dX3_outside_9 rfl ?_
    refine g_icmp_le (tgt := 18) hC dX3_outside_10 (by decide) (fun h_10 => ?_) (fun h_10 => ?_)
    · skip
      refine g_iconst (v := nI (0)) hC dX3_outside_18 (by decide) ?_
      exact g_iret hC rfl dX3_outside_19 (⟨rV (by unfold outN; rw [if_neg (Int32.not_lt.mpr h_2), if_neg (Int32.not_lt.mpr h_10)]; rfl), rfl⟩)
    · skip
      refine g_bipush (v := (-6)) hC dX3_outside_13 (by decide) ?_
      refine g_goto (tgt := 19) hC dX3_outside_15 (by decide) ?_
      exact g_iret hC rfl dX3_outside_19 (⟨rV (by unfold outN; rw [if_neg (Int32.not_lt.mpr (Decidable.not_not.mp (fun z => z h_2))), if_pos (Int32.not_le.mp h_10)]; rfl), rfl⟩)
  · skip
    refine g_bipush (v := (-4)) hC dX3_outside_5 (by decide) ?_
    exact g_iret hC rfl dX3_outside_7 (⟨rV (by unfold outN; rw [if_pos (Int32.not_le.mp h_2)]; rfl), rfl⟩)

set_option maxRecDepth 100000 in
set_option maxHeartbeats 4000000 in
theorem c_X3_room (v : Vw) (rf : Nat) (go : Nat → Nat) (vm : Vw) (rm : Nat) (gm : Nat → Nat) (vt : Vw) (rt : Nat) (gt : Nat → Nat) (tk : Bool) (lt : Nat → Nat) (len : Nat) (op : Nat → Nat) (to on : Nat → Nat → Nat) (last : Nat) (num : Nat → Nat) (nin : Nat) (re : Nat → Nat) (x w : Int32) (hrf : rf < 64) : Con yX3_room cX3_room 3 (some .int) 1 0 0 [aR 0 0 0, aI (x), aI (w)] (mainW v rf go vm rm gm vt rt gt tk lt len op to on last num nin re) (fun r M => r = some (aI (ansOf (oRoom v (fun r => rf.testBit r) x w))) ∧ PX v rf vt rt tk lt len num nin (bump re (oRoom v (fun r => rf.testBit r) x w)) M) := by
  refine con_of RX3 pn_X3 rfl rfl (Nat.le_of_ble_eq_true rfl) (fun C hM0 hC => ?_)
  show G C 0 0 0 [aR 0 0 0, aI (x), aI (w)] [] (mainW v rf go vm rm gm vt rt gt tk lt len op to on last num nin re)
  refine g_iload_n hC dX3_room_0 rfl ?_
  refine gi_X3_69 hC (is := []) (st := []) (c_X3_isRoom x) dX3_room_1 rfl ⟨by decide, by decide⟩ ⟨by decide, by decide⟩ rfl (by decide) rfl rfl ?_
  refine g_if_neB (tgt := 13) hC dX3_room_4 (by decide) (fun h_4 => ?_) (fun h_4 => ?_)
  · skip
    have hr := of_decide_eq_true h_4
    obtain ⟨r, hr0, rfl⟩ := rm_of hr
    refine g_iload_n hC dX3_room_13 rfl ?_
    rcases tab_cases w 2 (by decide) with ⟨i, hi, rfl⟩ | hout
    · rcases (by omega : i = 0 ∨ i = 1 ∨ i = 2) with rfl | rfl | rfl
      · refine g_tabIn (off := 26) (tgt := 40) hC dX3_room_14 (by decide) (by decide) (by decide) (by decide) ?_
        refine g_aload_n hC dX3_room_40 rfl rfl ?_
        refine gf_X3_now hC dX3_room_41 rfl rfl ?_
        refine g_iload_n hC dX3_room_44 rfl ?_
        refine gi_X3_73 hC (is := [1]) (st := []) (c_X1_windIn v rf go hr0) dX3_room_45 rfl ⟨by decide, by decide⟩ ⟨by decide, by decide⟩ rfl (by decide) rfl rfl rfl ?_
        exact g_iret hC rfl dX3_room_48 (⟨rV (by rw [oRoom_0 hr hr0]; rfl), by rw [oRoom_0 hr hr0]; exact ⟨_, _, _, _, _, _, _, _, _, rfl⟩⟩)
      · refine g_tabIn (off := 35) (tgt := 49) hC dX3_room_14 (by decide) (by decide) (by decide) (by decide) ?_
        refine g_aload_n hC dX3_room_49 rfl rfl ?_
        refine gf_X3_now hC dX3_room_50 rfl rfl ?_
        refine g_iload_n hC dX3_room_53 rfl ?_
        refine gi_X3_76 hC (is := [1]) (st := []) (c_X1_hasRoof v rf go hrf hr0) dX3_room_54 rfl ⟨by decide, by decide⟩ ⟨by decide, by decide⟩ rfl (by decide) rfl rfl rfl ?_
        refine g_if_eqB (tgt := 64) hC dX3_room_57 (by decide) (fun h_57 => ?_) (fun h_57 => ?_)
        · skip
          refine g_iconst (v := nI (0)) hC dX3_room_64 (by decide) ?_
          exact g_iret hC rfl dX3_room_65 (⟨rV (by rw [oRoom_1 hr hr0, h_57]; rfl), by rw [oRoom_1 hr hr0]; exact ⟨_, _, _, _, _, _, _, _, _, rfl⟩⟩)
        · skip
          refine g_iconst (v := nI (1)) hC dX3_room_60 (by decide) ?_
          refine g_goto (tgt := 65) hC dX3_room_61 (by decide) ?_
          exact g_iret hC rfl dX3_room_65 (⟨rV (by rw [oRoom_1 hr hr0, h_57]; rfl), by rw [oRoom_1 hr hr0]; exact ⟨_, _, _, _, _, _, _, _, _, rfl⟩⟩)
      · refine g_tabIn (off := 52) (tgt := 66) hC dX3_room_14 (by decide) (by decide) (by decide) (by decide) ?_
        refine g_aload_n hC dX3_room_66 rfl rfl ?_
        refine gf_X3_now hC dX3_room_67 rfl rfl ?_
        refine g_iload_n hC dX3_room_70 rfl ?_
        refine gi_X3_79 hC (is := [1]) (st := []) (c_X1_pathsFrom v rf go hr0) dX3_room_71 rfl ⟨by decide, by decide⟩ ⟨by decide, by decide⟩ rfl (by decide) rfl rfl rfl ?_
        exact g_iret hC rfl dX3_room_74 (⟨rV (by rw [oRoom_2 hr hr0]; rfl), by rw [oRoom_2 hr hr0]; exact ⟨_, _, _, _, _, _, _, _, _, rfl⟩⟩)
    · refine g_tabOut (tgt := 75) hC dX3_room_14 hout (by decide) ?_
      refine g_aload_n hC dX3_room_75 rfl rfl ?_
      refine g_bipush (v := (-2)) hC dX3_room_76 (by decide) ?_
      refine gi_X3_51 hC (is := [0, 1, 2, 3, 4, 5, 6, 7]) (st := []) (c_X3_refuse v rf go vm rm gm vt rt gt tk lt len op to on last num nin re (k := 2) (by decide)) dX3_room_78 rfl ⟨by decide, by decide⟩ ⟨by decide, by decide⟩ rfl (by decide) rfl rfl rfl ?_
      exact g_iret hC rfl dX3_room_81 (⟨rV (by rw [oRoom_out hr hout]; rfl), by rw [oRoom_out hr hout]; exact ⟨_, _, _, _, _, _, _, _, _, rfl⟩⟩)
  · skip
    have hr := of_decide_eq_false h_4
    refine g_aload_n hC dX3_room_7 rfl rfl ?_
    refine g_iconst (v := (-1)) hC dX3_room_8 (by decide) ?_
    refine gi_X3_51 hC (is := [0, 1, 2, 3, 4, 5, 6, 7]) (st := []) (c_X3_refuse v rf go vm rm gm vt rt gt tk lt len op to on last num nin re (k := 1) (by decide)) dX3_room_9 rfl ⟨by decide, by decide⟩ ⟨by decide, by decide⟩ rfl (by decide) rfl rfl rfl ?_
    exact g_iret hC rfl dX3_room_12 (⟨rV (by rw [oRoom_no hr]; rfl), by rw [oRoom_no hr]; exact ⟨_, _, _, _, _, _, _, _, _, rfl⟩⟩)

