/-- the state of the reference that counts: of what is kept only the image -/
def PM (u : Vw) (ro re lt : Nat → Nat) (len : Nat) (ke : Nat → Int32) (hi : Bool) (num : Nat → Nat) (nin : Nat) (M : AM) : Prop :=
  ∃ (le la : Nat → Nat) (td : Nat → Int32) (fr ti : Nat → Nat) (pt st : Nat) (k1 : Nat → Int32) (ik : Bool) (cu : Nat) (go up fo : Nat → Nat), (∀ j, j < 85 → k1 j = ke j) ∧ M = [modW u ro re lt len le la td fr ti pt st k1 hi ik cu go num nin up fo]
theorem ro_1 {x : Nat} (h : x ≤ 1) : nI x = ansOf (.inr (bI (decide (x = 1)))) := by
  rcases (by omega : x = 0 ∨ x = 1) with rfl | rfl <;> rfl

set_option maxRecDepth 100000 in
set_option maxHeartbeats 4000000 in
theorem c_X4_room (u : Vw) (ro re lt : Nat → Nat) (len : Nat) (le la : Nat → Nat) (td : Nat → Int32) (fr ti : Nat → Nat) (pt st : Nat) (ke : Nat → Int32) (hi ik : Bool) (cu : Nat) (go num : Nat → Nat) (nin : Nat) (up fo : Nat → Nat) (x w : Int32) (hro : ∀ r, r < 6 → ro r ≤ 1) : Con yX4_room cX4_room 3 (some .int) 1 0 0 [aR 0 0 0, aI (x), aI (w)] [modW u ro re lt len le la td fr ti pt st ke hi ik cu go num nin up fo] (fun r M => r = some (aI (ansOf (oRoom u (fun r => decide (ro r = 1)) x w))) ∧ PM u ro (bump re (oRoom u (fun r => decide (ro r = 1)) x w)) lt len ke hi num nin M) := by
  refine con_of RX4 pn_X4 rfl rfl (Nat.le_of_ble_eq_true rfl) (fun C hM0 hC => ?_)
  show G C 0 0 0 [aR 0 0 0, aI (x), aI (w)] [] [modW u ro re lt len le la td fr ti pt st ke hi ik cu go num nin up fo]
  refine g_iload_n hC dX4_room_0 rfl ?_
  refine gi_X4_117 hC (is := []) (st := []) (c_X4_isRoom x) dX4_room_1 rfl ⟨by decide, by decide⟩ ⟨by decide, by decide⟩ rfl (by decide) rfl rfl ?_
  refine g_if_neB (tgt := 13) hC dX4_room_4 (by decide) (fun h_4 => ?_) (fun h_4 => ?_)
  · skip
    have hr := of_decide_eq_true h_4
    obtain ⟨r, hr0, rfl⟩ := rm_of hr
    refine g_iload_n hC dX4_room_13 rfl ?_
    rcases tab_cases w 2 (by decide) with ⟨i, hi, rfl⟩ | hout
    · rcases (by omega : i = 0 ∨ i = 1 ∨ i = 2) with rfl | rfl | rfl
      · refine g_tabIn (off := 26) (tgt := 40) hC dX4_room_14 (by decide) (by decide) (by decide) (by decide) ?_
        refine g_aload_n hC dX4_room_40 rfl rfl ?_
        refine gf_X4_windOf hC dX4_room_41 rfl rfl ?_
        refine g_iload_n hC dX4_room_44 rfl ?_
        refine g_ialdN hC dX4_room_45 rfl (by omega) (by decide) ?_
        exact g_iret hC rfl dX4_room_46 (⟨rV (by rw [oRoom_0 hr hr0]; rfl), by rw [oRoom_0 hr hr0]; exact ⟨_, _, _, _, _, _, _, _, _, _, _, _, _, fun _ _ => rfl, rfl⟩⟩)
      · refine g_tabIn (off := 33) (tgt := 47) hC dX4_room_14 (by decide) (by decide) (by decide) (by decide) ?_
        refine g_aload_n hC dX4_room_47 rfl rfl ?_
        refine gf_X4_roof hC dX4_room_48 rfl rfl ?_
        refine g_iload_n hC dX4_room_51 rfl ?_
        refine g_ialdN hC dX4_room_52 rfl (by omega) (by decide) ?_
        exact g_iret hC rfl dX4_room_53 (⟨rV (by rw [oRoom_1 hr hr0]; exact ro_1 (hro r hr0)), by rw [oRoom_1 hr hr0]; exact ⟨_, _, _, _, _, _, _, _, _, _, _, _, _, fun _ _ => rfl, rfl⟩⟩)
      · refine g_tabIn (off := 40) (tgt := 54) hC dX4_room_14 (by decide) (by decide) (by decide) (by decide) ?_
        refine g_aload_n hC dX4_room_54 rfl rfl ?_
        refine gf_X4_paths hC dX4_room_55 rfl rfl ?_
        refine g_iload_n hC dX4_room_58 rfl ?_
        refine g_ialdN hC dX4_room_59 rfl (by omega) (by decide) ?_
        exact g_iret hC rfl dX4_room_60 (⟨rV (by rw [oRoom_2 hr hr0]; rfl), by rw [oRoom_2 hr hr0]; exact ⟨_, _, _, _, _, _, _, _, _, _, _, _, _, fun _ _ => rfl, rfl⟩⟩)
    · refine g_tabOut (tgt := 61) hC dX4_room_14 hout (by decide) ?_
      refine g_aload_n hC dX4_room_61 rfl rfl ?_
      refine g_bipush (v := (-2)) hC dX4_room_62 (by decide) ?_
      refine gi_X4_85 hC (is := [0]) (st := []) (c_X4_no u ro re lt len le la td fr ti pt st ke hi ik cu go num nin up fo (k := 2) (by decide)) dX4_room_64 rfl ⟨by decide, by decide⟩ ⟨by decide, by decide⟩ rfl (by decide) rfl rfl rfl ?_
      exact g_iret hC rfl dX4_room_67 (⟨rV (by rw [oRoom_out hr hout]; rfl), by rw [oRoom_out hr hout]; exact ⟨_, _, _, _, _, _, _, _, _, _, _, _, _, fun _ _ => rfl, rfl⟩⟩)
  · skip
    have hno := of_decide_eq_false h_4
    refine g_aload_n hC dX4_room_7 rfl rfl ?_
    refine g_iconst (v := (-1)) hC dX4_room_8 (by decide) ?_
    refine gi_X4_85 hC (is := [0]) (st := []) (c_X4_no u ro re lt len le la td fr ti pt st ke hi ik cu go num nin up fo (k := 1) (by decide)) dX4_room_9 rfl ⟨by decide, by decide⟩ ⟨by decide, by decide⟩ rfl (by decide) rfl rfl rfl ?_
    exact g_iret hC rfl dX4_room_12 (⟨rV (by rw [oRoom_no hno]; rfl), by rw [oRoom_no hno]; exact ⟨_, _, _, _, _, _, _, _, _, _, _, _, _, fun _ _ => rfl, rfl⟩⟩)

