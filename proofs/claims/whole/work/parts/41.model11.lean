theorem kRow_m1 {nin : Nat} {x : Int32} (h : outN x (nI 0) (nI 30) ≠ 0) : kRow nin x = outN x (nI 0) (nI 30) := by
  unfold kRow
  unfold outN at h ⊢
  by_cases h1 : x < nI 0
  · rw [if_pos h1, if_pos (show x < 0 from h1)]
  · rw [if_neg h1] at h
    rw [if_neg h1, if_neg (show ¬ x < 0 from h1)]
    by_cases h2 : nI 30 < x
    · rw [if_pos h2, if_pos (Or.inl h2)]
    · rw [if_neg h2] at h
      exact absurd rfl h
theorem kRow_mf {nin m : Nat} (hm : m ≤ 30) (h : nin = 12) : kRow nin (nI m) = 6 := kRow_6 (by rw [Int32.le_iff_toInt_le, nI_toInt (by omega)]; exact Int.natCast_nonneg m) (Or.inr (by omega))
theorem kRow_m0 {nin m : Nat} (hm : m ≤ 30) (h : nin < 12) : kRow nin (nI m) = 0 := kRow_0 (by rw [Int32.le_iff_toInt_le, nI_toInt (by omega)]; exact Int.natCast_nonneg m) (by rw [Int32.lt_iff_toInt_lt, nI_toInt (by omega), nI_toInt (by omega)]; omega) h
theorem kLetter_m1 {len : Nat} {x : Int32} (h : outN x (nI 0) (nI 255) ≠ 0) : kLetter len x = outN x (nI 0) (nI 255) := by
  unfold kLetter
  unfold outN at h ⊢
  by_cases h1 : x < nI 0
  · rw [if_pos h1, if_pos (show x < 0 from h1)]
  · rw [if_neg h1] at h
    rw [if_neg h1, if_neg (show ¬ x < 0 from h1)]
    by_cases h2 : nI 255 < x
    · rw [if_pos h2, if_pos (Or.inl h2)]
    · rw [if_neg h2] at h
      exact absurd rfl h
theorem kLetter_mf {len m : Nat} (hm : m ≤ 255) (h : len = 96) : kLetter len (nI m) = 6 := kLetter_6 (by rw [Int32.le_iff_toInt_le, nI_toInt (by omega)]; exact Int.natCast_nonneg m) (Or.inr (by omega))
theorem kLetter_m0 {len m : Nat} (hm : m ≤ 255) (h : len < 96) : kLetter len (nI m) = 0 := kLetter_0 (by rw [Int32.le_iff_toInt_le, nI_toInt (by omega)]; exact Int.natCast_nonneg m) (by rw [Int32.lt_iff_toInt_lt, nI_toInt (by omega), nI_toInt (by omega)]; omega) h
theorem path_sum {B : Nat} {u : Vw} (h : wf B u) : sumN (fun a => cnt (isP u a) a) 6 = sumN (fun r => pop (vPa u r)) 6 / 2 := by
  have e : ∀ a b, a < 6 → b < 6 → ((vPa u a).testBit b).toNat = ((vPa u b).testBit a).toNat := fun a b ha hb => by rw [wf_sym h a b ha hb]
  have z : ∀ a, a < 6 → ((vPa u a).testBit a).toNat = 0 := fun a ha => by rw [wf_irr h a ha]; rfl
  have e01 := e 0 1 (by omega) (by omega)
  have e02 := e 0 2 (by omega) (by omega)
  have e03 := e 0 3 (by omega) (by omega)
  have e04 := e 0 4 (by omega) (by omega)
  have e05 := e 0 5 (by omega) (by omega)
  have e12 := e 1 2 (by omega) (by omega)
  have e13 := e 1 3 (by omega) (by omega)
  have e14 := e 1 4 (by omega) (by omega)
  have e15 := e 1 5 (by omega) (by omega)
  have e23 := e 2 3 (by omega) (by omega)
  have e24 := e 2 4 (by omega) (by omega)
  have e25 := e 2 5 (by omega) (by omega)
  have e34 := e 3 4 (by omega) (by omega)
  have e35 := e 3 5 (by omega) (by omega)
  have e45 := e 4 5 (by omega) (by omega)
  have z0 := z 0 (by omega)
  have z1 := z 1 (by omega)
  have z2 := z 2 (by omega)
  have z3 := z 3 (by omega)
  have z4 := z 4 (by omega)
  have z5 := z 5 (by omega)
  simp only [sumN, pop, cnt, isP]
  omega
set_option maxRecDepth 100000 in
set_option maxHeartbeats 4000000 in
theorem c_X4_judge (u : Vw) (ro re lt : Nat → Nat) (len : Nat) (le la : Nat → Nat) (td : Nat → Int32) (fr ti : Nat → Nat) (pt st : Nat) (ke : Nat → Int32) (hi ik : Bool) (cu : Nat) (go num : Nat → Nat) (nin : Nat) (up fo : Nat → Nat) {B : Nat} (hu : wf B u) (hB : B ≤ 200) (hnin : nin ≤ 12) (hnum : ∀ r, r < 12 → num r ≤ 30) : Con yX4_judge cX4_judge 4 (some .int) 2 0 0 [aR 0 0 0] [modW u ro re lt len le la td fr ti pt st ke hi ik cu go num nin up fo] (fun r M => r = some (aI (ansOf (oJudge u num nin))) ∧ PM u ro (bump re (oJudge u num nin)) lt len ke hi num 0 M) := by
  refine con_of RX4 pn_X4 rfl rfl (Nat.le_of_ble_eq_true rfl) (fun C hM0 hC => ?_)
  show G C 0 0 0 [aR 0 0 0, aK 9, aK 9, aK 9] [] [modW u ro re lt len le la td fr ti pt st ke hi ik cu go num nin up fo]
  have hn4 := wf_n hu
  refine g_aload_n hC dX4_judge_0 rfl rfl ?_
  refine gf_X4_rowMany hC dX4_judge_1 rfl rfl ?_
  refine g_istore_n hC dX4_judge_4 (by decide) rfl ?_
  refine g_aload_n hC dX4_judge_5 rfl rfl ?_
  refine g_iconst (v := nI (0)) hC dX4_judge_6 (by decide) ?_
  refine gp_X4_rowMany hC dX4_judge_7 rfl rfl ?_
  refine g_iconst (v := nI (0)) hC dX4_judge_10 (by decide) ?_
  refine g_istore_n hC dX4_judge_11 (by decide) rfl ?_
  have loop : ∀ d k, k + d = 6 → k ≤ nin → fstB (badR u num) k = none → G C 0 0 12 [aR 0 0 0, aI (nI (nin)), aI (nI (k)), aK 9] [] [modW u ro re lt len le la td fr ti pt st ke hi ik cu go num 0 up fo] := by
    intro d
    induction d with
    | zero =>
      intro k hk hkn hf
      obtain rfl : k = 6 := by omega
      refine g_iload_n hC dX4_judge_12 rfl ?_
      refine g_bipush (v := nI (6)) hC dX4_judge_13 (by decide) ?_
      refine g_icmp_geN (tgt := 81) hC dX4_judge_15 (by decide) (by omega) (by omega) (fun h_15 => ?_) (fun h_15 => ?_)
      · skip
        refine g_iload_n hC dX4_judge_81 rfl ?_
        refine g_bipush (v := nI (6)) hC dX4_judge_82 (by decide) ?_
        refine g_icmp_leN (tgt := 92) hC dX4_judge_84 (by decide) (by omega) (by omega) (fun h_84 => ?_) (fun h_84 => ?_)
        · skip
          refine g_bipush (v := (-9)) hC dX4_judge_92 (by decide) ?_
          exact g_iret hC rfl dX4_judge_94 (⟨rV (by rw [judge_no (by rw [show min nin 6 = 6 by omega]; exact hf), if_pos (by omega)]), ⟨_, _, _, _, _, _, _, _, _, _, _, _, _, fun _ _ => rfl, rfl⟩⟩)
        · skip
          refine g_bipush (v := nI (6)) hC dX4_judge_87 (by decide) ?_
          refine g_goto (tgt := 94) hC dX4_judge_89 (by decide) ?_
          exact g_iret hC rfl dX4_judge_94 (⟨rV (by rw [judge_no (by rw [show min nin 6 = 6 by omega]; exact hf), if_neg (by omega), show min nin 6 = 6 by omega]), ⟨_, _, _, _, _, _, _, _, _, _, _, _, _, fun _ _ => rfl, rfl⟩⟩)
      · skip
        omega
    | succ d ih =>
      intro k hk hkn hf
      have hnk := hnum k (by omega)
      have hbd : ∀ m, ends u k 9 false (vN u) = some m → m < 2 ^ 31 := fun m q => by have := ends_lt hu hB (show k < 6 by omega) _ m q; omega
      refine g_iload_n hC dX4_judge_12 rfl ?_
      refine g_bipush (v := nI (6)) hC dX4_judge_13 (by decide) ?_
      refine g_icmp_geN (tgt := 81) hC dX4_judge_15 (by decide) (by omega) (by omega) (fun h_15 => ?_) (fun h_15 => ?_)
      · skip
        omega
      · skip
        refine g_iload_n hC dX4_judge_18 rfl ?_
        refine g_iload_n hC dX4_judge_19 rfl ?_
        refine g_icmp_neN (tgt := 25) hC dX4_judge_20 (by decide) (by omega) (by omega) (fun h_20 => ?_) (fun h_20 => ?_)
        · skip
          refine g_aload_n hC dX4_judge_25 rfl rfl ?_
          refine g_iload_n hC dX4_judge_26 rfl ?_
          refine g_bipush (v := (-9)) hC dX4_judge_27 (by decide) ?_
          refine g_iconst (v := nI (0)) hC dX4_judge_29 (by decide) ?_
          refine gi_X4_161 hC (is := [0]) (st := []) (c_X4_endAge u ro re lt len le la td fr ti pt st ke hi ik cu go num 0 up fo hu hB (s := 9) (as := -9) (show k < 6 by omega) (by decide) false) dX4_judge_30 rfl ⟨by decide, by decide⟩ ⟨by decide, by decide⟩ rfl (by decide) rfl rfl rfl ?_
          refine g_istore_n hC dX4_judge_33 (by decide) rfl ?_
          refine g_iload_n hC dX4_judge_34 rfl ?_
          refine g_if_geO (tgt := 52) hC dX4_judge_35 (by decide) (by decide) hbd (fun a h_35 => ?_) (fun h_35 => ?_)
          · skip
            refine g_aload_n hC dX4_judge_52 rfl rfl ?_
            refine gf_X4_row hC dX4_judge_53 rfl rfl ?_
            refine g_iload_n hC dX4_judge_56 rfl ?_
            refine g_ialdN hC dX4_judge_57 rfl (by omega) (by decide) ?_
            refine g_bipush (v := nI (30)) hC dX4_judge_58 (by decide) ?_
            refine g_icmp_eqN (tgt := 73) hC dX4_judge_60 (by decide) (by omega) (by omega) (fun h_60 => ?_) (fun h_60 => ?_)
            · skip
              refine g_iload_n hC dX4_judge_73 rfl ?_
              exact g_iret hC rfl dX4_judge_74 (⟨rV (by rw [judge_at (fst_at hf (by unfold badR; rw [if_pos h_60, h_35]; rfl) _ (by omega))]), ⟨_, _, _, _, _, _, _, _, _, _, _, _, _, fun _ _ => rfl, rfl⟩⟩)
            · skip
              refine g_aload_n hC dX4_judge_63 rfl rfl ?_
              refine gf_X4_row hC dX4_judge_64 rfl rfl ?_
              refine g_iload_n hC dX4_judge_67 rfl ?_
              refine g_ialdN hC dX4_judge_68 rfl (by omega) (by decide) ?_
              refine g_iload_n hC dX4_judge_69 rfl ?_
              refine g_icmp_eq (tgt := 75) hC dX4_judge_70 (by decide) (fun h_70 => ?_) (fun h_70 => ?_)
              · skip
                refine g_iincN hC dX4_judge_75 rfl (by decide) rfl ?_
                refine g_goto (tgt := 12) hC dX4_judge_78 (by decide) ?_
                refine g_mask [true, true, true, false] ?_
                exact ih (k + 1) (by omega) (by omega) (fst_no hf (by unfold badR; rw [if_neg h_60]; exact decide_eq_false (fun z => z ((oI9_nI hbd (by omega)).mp h_70.symm))))
              · skip
                refine g_iload_n hC dX4_judge_73 rfl ?_
                exact g_iret hC rfl dX4_judge_74 (⟨rV (by rw [judge_at (fst_at hf (by unfold badR; rw [if_neg h_60]; exact decide_eq_true (fun z => h_70 ((oI9_nI hbd (by omega)).mpr z).symm)) _ (by omega))]), ⟨_, _, _, _, _, _, _, _, _, _, _, _, _, fun _ _ => rfl, rfl⟩⟩)
          · skip
            refine g_aload_n hC dX4_judge_38 rfl rfl ?_
            refine gf_X4_row hC dX4_judge_39 rfl rfl ?_
            refine g_iload_n hC dX4_judge_42 rfl ?_
            refine g_ialdN hC dX4_judge_43 rfl (by omega) (by decide) ?_
            refine g_bipush (v := nI (30)) hC dX4_judge_44 (by decide) ?_
            refine g_icmp_eqN (tgt := 75) hC dX4_judge_46 (by decide) (by omega) (by omega) (fun h_46 => ?_) (fun h_46 => ?_)
            · skip
              refine g_iincN hC dX4_judge_75 rfl (by decide) rfl ?_
              refine g_goto (tgt := 12) hC dX4_judge_78 (by decide) ?_
              refine g_mask [true, true, true, false] ?_
              exact ih (k + 1) (by omega) (by omega) (fst_no hf (by unfold badR; rw [if_pos h_46, h_35]; rfl))
            · skip
              refine g_goto (tgt := 73) hC dX4_judge_49 (by decide) ?_
              refine g_iload_n hC dX4_judge_73 rfl ?_
              exact g_iret hC rfl dX4_judge_74 (⟨rV (by rw [judge_at (fst_at hf (by unfold badR; rw [if_neg h_46, h_35]; exact decide_eq_true (by simp)) _ (by omega))]), ⟨_, _, _, _, _, _, _, _, _, _, _, _, _, fun _ _ => rfl, rfl⟩⟩)
        · skip
          refine g_iload_n hC dX4_judge_23 rfl ?_
          exact g_iret hC rfl dX4_judge_24 (⟨rV (by rw [judge_no (by rw [show min nin 6 = k by omega]; exact hf), if_neg (by omega), show min nin 6 = k by omega]), ⟨_, _, _, _, _, _, _, _, _, _, _, _, _, fun _ _ => rfl, rfl⟩⟩)
  refine g_mask [true, true, true, false] ?_
  exact loop 6 0 (by omega) (Nat.zero_le _) rfl

set_option maxRecDepth 100000 in
set_option maxHeartbeats 4000000 in
theorem c_X4_row (u : Vw) (ro re lt : Nat → Nat) (len : Nat) (le la : Nat → Nat) (td : Nat → Int32) (fr ti : Nat → Nat) (pt st : Nat) (ke : Nat → Int32) (hi ik : Bool) (cu : Nat) (go num : Nat → Nat) (nin : Nat) (up fo : Nat → Nat) (hnin : nin ≤ 12) (x : Int32) : Con yX4_row cX4_row 3 (some .int) 1 0 0 [aR 0 0 0, aI (x)] [modW u ro re lt len le la td fr ti pt st ke hi ik cu go num nin up fo] (fun r M => r = some (aI (ansOf (oRow num nin x))) ∧ PM u ro (bump re (oRow num nin x)) lt len ke hi (tRow num nin x) (lRow num nin x) M) := by
  refine con_of RX4 pn_X4 rfl rfl (Nat.le_of_ble_eq_true rfl) (fun C hM0 hC => ?_)
  show G C 0 0 0 [aR 0 0 0, aI (x), aK 9] [] [modW u ro re lt len le la td fr ti pt st ke hi ik cu go num nin up fo]
  refine g_iload_n hC dX4_row_0 rfl ?_
  refine g_iconst (v := nI (0)) hC dX4_row_1 (by decide) ?_
  refine g_bipush (v := nI (30)) hC dX4_row_2 (by decide) ?_
  refine gi_X4_78 hC (is := []) (st := []) (c_X4_bound x (nI 0) (nI 30)) dX4_row_4 rfl ⟨by decide, by decide⟩ ⟨by decide, by decide⟩ rfl (by decide) rfl rfl ?_
  refine g_istore_n hC dX4_row_7 (by decide) rfl ?_
  refine g_iload_n hC dX4_row_8 rfl ?_
  refine g_if_ne (tgt := 24) hC dX4_row_9 (by decide) (fun h_9 => ?_) (fun h_9 => ?_)
  · skip
    have hk0 : (outN x (nI 0) (nI 30)) ≠ 0 := fun z => h_9 ((neg_0 _ (outN_lt _ _ _)).mpr z)
    have hk := kRow_m1 (nin := nin) hk0
    have ho := Row_no (num := num) (nin := nin) (x := x) (by rw [hk]; exact hk0)
    rw [hk] at ho
    refine g_iload_n hC dX4_row_24 rfl ?_
    refine g_if_eq (tgt := 34) hC dX4_row_25 (by decide) (fun h_25 => ?_) (fun h_25 => ?_)
    · skip
      exact absurd h_25 h_9
    · skip
      refine g_aload_n hC dX4_row_28 rfl rfl ?_
      refine g_iload_n hC dX4_row_29 rfl ?_
      refine gi_X4_85 hC (is := [0]) (st := []) (c_X4_no u ro re lt len le la td fr ti pt st ke hi ik cu go num nin up fo (k := (outN x (nI 0) (nI 30))) (outN_lt _ _ _)) dX4_row_30 rfl ⟨by decide, by decide⟩ ⟨by decide, by decide⟩ rfl (by decide) rfl rfl rfl ?_
      exact g_iret hC rfl dX4_row_33 (⟨rV (by rw [(ho).1]; rfl), by rw [(ho).1, (ho).2.1, (ho).2.2]; exact ⟨_, _, _, _, _, _, _, _, _, _, _, _, _, fun _ _ => rfl, rfl⟩⟩)
  · skip
    have hk0 := (neg_0 _ (outN_lt _ _ _)).mp h_9
    obtain ⟨m, rfl, hm0, hm1⟩ := out_0 (by decide) (by decide) hk0
    refine g_aload_n hC dX4_row_12 rfl rfl ?_
    refine gf_X4_rowMany hC dX4_row_13 rfl rfl ?_
    refine g_bipush (v := nI (12)) hC dX4_row_16 (by decide) ?_
    refine g_icmp_neN (tgt := 24) hC dX4_row_18 (by decide) (by omega) (by omega) (fun h_18 => ?_) (fun h_18 => ?_)
    · skip
      have hk := kRow_m0 (nin := nin) hm1 (by omega)
      have ho := Row_ok (num := num) hk
      rw [tn_n (show m < 2 ^ 31 by omega)] at ho
      refine g_iload_n hC dX4_row_24 rfl ?_
      refine g_if_eq (tgt := 34) hC dX4_row_25 (by decide) (fun h_25 => ?_) (fun h_25 => ?_)
      · skip
        refine g_aload_n hC dX4_row_34 rfl rfl ?_
        refine gf_X4_row hC dX4_row_35 rfl rfl ?_
        refine g_aload_n hC dX4_row_38 rfl rfl ?_
        refine gf_X4_rowMany hC dX4_row_39 rfl rfl ?_
        refine g_iload_n hC dX4_row_42 rfl ?_
        refine g_iastN hC dX4_row_43 rfl (by omega) (by decide) ?_
        refine g_aload_n hC dX4_row_44 rfl rfl ?_
        refine g_dup hC dX4_row_45 rfl ?_
        refine gf_X4_rowMany hC dX4_row_46 rfl rfl ?_
        refine g_iconst (v := nI (1)) hC dX4_row_49 (by decide) ?_
        refine g_iaddN hC dX4_row_50 ?_
        refine gp_X4_rowMany hC dX4_row_51 rfl rfl ?_
        refine g_aload_n hC dX4_row_54 rfl rfl ?_
        refine gf_X4_rowMany hC dX4_row_55 rfl rfl ?_
        exact g_iret hC rfl dX4_row_58 (⟨rV (by rw [(ho).1]; rfl), by rw [(ho).1, (ho).2.1, (ho).2.2]; exact ⟨_, _, _, _, _, _, _, _, _, _, _, _, _, fun _ _ => rfl, rfl⟩⟩)
      · skip
        exact absurd h_9 h_25
    · skip
      have hk := kRow_mf (nin := nin) hm1 h_18
      have ho := Row_no (num := num) (x := nI m) (by rw [hk]; decide)
      rw [hk] at ho
      refine g_bipush (v := (-6)) hC dX4_row_21 (by decide) ?_
      refine g_istore_n hC dX4_row_23 (by decide) rfl ?_
      refine g_iload_n hC dX4_row_24 rfl ?_
      refine g_if_eq (tgt := 34) hC dX4_row_25 (by decide) (fun h_25 => ?_) (fun h_25 => ?_)
      · skip
        exact absurd h_25 (by decide)
      · skip
        refine g_aload_n hC dX4_row_28 rfl rfl ?_
        refine g_iload_n hC dX4_row_29 rfl ?_
        refine gi_X4_85 hC (is := [0]) (st := []) (c_X4_no u ro re lt len le la td fr ti pt st ke hi ik cu go num nin up fo (k := 6) (by decide)) dX4_row_30 rfl ⟨by decide, by decide⟩ ⟨by decide, by decide⟩ rfl (by decide) rfl rfl rfl ?_
        exact g_iret hC rfl dX4_row_33 (⟨rV (by rw [(ho).1]; rfl), by rw [(ho).1, (ho).2.1, (ho).2.2]; exact ⟨_, _, _, _, _, _, _, _, _, _, _, _, _, fun _ _ => rfl, rfl⟩⟩)

set_option maxRecDepth 100000 in
set_option maxHeartbeats 4000000 in
theorem c_X4_letter (u : Vw) (ro re lt : Nat → Nat) (len : Nat) (le la : Nat → Nat) (td : Nat → Int32) (fr ti : Nat → Nat) (pt st : Nat) (ke : Nat → Int32) (hi ik : Bool) (cu : Nat) (go num : Nat → Nat) (nin : Nat) (up fo : Nat → Nat) (hlen : len ≤ 96) (x : Int32) : Con yX4_letter cX4_letter 3 (some .int) 1 0 0 [aR 0 0 0, aI (x)] [modW u ro re lt len le la td fr ti pt st ke hi ik cu go num nin up fo] (fun r M => r = some (aI (ansOf (oLetter lt len x))) ∧ PM u ro (bump re (oLetter lt len x)) (tLetter lt len x) (lLetter lt len x) ke hi num nin M) := by
  refine con_of RX4 pn_X4 rfl rfl (Nat.le_of_ble_eq_true rfl) (fun C hM0 hC => ?_)
  show G C 0 0 0 [aR 0 0 0, aI (x), aK 9] [] [modW u ro re lt len le la td fr ti pt st ke hi ik cu go num nin up fo]
  refine g_iload_n hC dX4_letter_0 rfl ?_
  refine g_iconst (v := nI (0)) hC dX4_letter_1 (by decide) ?_
  refine g_sipush (v := nI (255)) hC dX4_letter_2 (by decide) ?_
  refine gi_X4_78 hC (is := []) (st := []) (c_X4_bound x (nI 0) (nI 255)) dX4_letter_5 rfl ⟨by decide, by decide⟩ ⟨by decide, by decide⟩ rfl (by decide) rfl rfl ?_
  refine g_istore_n hC dX4_letter_8 (by decide) rfl ?_
  refine g_iload_n hC dX4_letter_9 rfl ?_
  refine g_if_ne (tgt := 25) hC dX4_letter_10 (by decide) (fun h_10 => ?_) (fun h_10 => ?_)
  · skip
    have hk0 : (outN x (nI 0) (nI 255)) ≠ 0 := fun z => h_10 ((neg_0 _ (outN_lt _ _ _)).mpr z)
    have hk := kLetter_m1 (len := len) hk0
    have ho := Letter_no (lt := lt) (len := len) (x := x) (by rw [hk]; exact hk0)
    rw [hk] at ho
    refine g_iload_n hC dX4_letter_25 rfl ?_
    refine g_if_eq (tgt := 35) hC dX4_letter_26 (by decide) (fun h_26 => ?_) (fun h_26 => ?_)
    · skip
      exact absurd h_26 h_10
    · skip
      refine g_aload_n hC dX4_letter_29 rfl rfl ?_
      refine g_iload_n hC dX4_letter_30 rfl ?_
      refine gi_X4_85 hC (is := [0]) (st := []) (c_X4_no u ro re lt len le la td fr ti pt st ke hi ik cu go num nin up fo (k := (outN x (nI 0) (nI 255))) (outN_lt _ _ _)) dX4_letter_31 rfl ⟨by decide, by decide⟩ ⟨by decide, by decide⟩ rfl (by decide) rfl rfl rfl ?_
      exact g_iret hC rfl dX4_letter_34 (⟨rV (by rw [(ho).1]; rfl), by rw [(ho).1, (ho).2.1, (ho).2.2]; exact ⟨_, _, _, _, _, _, _, _, _, _, _, _, _, fun _ _ => rfl, rfl⟩⟩)
  · skip
    have hk0 := (neg_0 _ (outN_lt _ _ _)).mp h_10
    obtain ⟨m, rfl, hm0, hm1⟩ := out_0 (by decide) (by decide) hk0
    refine g_aload_n hC dX4_letter_13 rfl rfl ?_
    refine gf_X4_taped hC dX4_letter_14 rfl rfl ?_
    refine g_bipush (v := nI (96)) hC dX4_letter_17 (by decide) ?_
    refine g_icmp_neN (tgt := 25) hC dX4_letter_19 (by decide) (by omega) (by omega) (fun h_19 => ?_) (fun h_19 => ?_)
    · skip
      have hk := kLetter_m0 (len := len) hm1 (by omega)
      have ho := Letter_ok (lt := lt) hk
      rw [tn_n (show m < 2 ^ 31 by omega)] at ho
      refine g_iload_n hC dX4_letter_25 rfl ?_
      refine g_if_eq (tgt := 35) hC dX4_letter_26 (by decide) (fun h_26 => ?_) (fun h_26 => ?_)
      · skip
        refine g_aload_n hC dX4_letter_35 rfl rfl ?_
        refine gf_X4_tape hC dX4_letter_36 rfl rfl ?_
        refine g_aload_n hC dX4_letter_39 rfl rfl ?_
        refine gf_X4_taped hC dX4_letter_40 rfl rfl ?_
        refine g_iload_n hC dX4_letter_43 rfl ?_
        refine g_iastN hC dX4_letter_44 rfl (by omega) (by decide) ?_
        refine g_aload_n hC dX4_letter_45 rfl rfl ?_
        refine g_dup hC dX4_letter_46 rfl ?_
        refine gf_X4_taped hC dX4_letter_47 rfl rfl ?_
        refine g_iconst (v := nI (1)) hC dX4_letter_50 (by decide) ?_
        refine g_iaddN hC dX4_letter_51 ?_
        refine gp_X4_taped hC dX4_letter_52 rfl rfl ?_
        refine g_aload_n hC dX4_letter_55 rfl rfl ?_
        refine gf_X4_taped hC dX4_letter_56 rfl rfl ?_
        exact g_iret hC rfl dX4_letter_59 (⟨rV (by rw [(ho).1]; rfl), by rw [(ho).1, (ho).2.1, (ho).2.2]; exact ⟨_, _, _, _, _, _, _, _, _, _, _, _, _, fun _ _ => rfl, rfl⟩⟩)
      · skip
        exact absurd h_10 h_26
    · skip
      have hk := kLetter_mf (len := len) hm1 h_19
      have ho := Letter_no (lt := lt) (x := nI m) (by rw [hk]; decide)
      rw [hk] at ho
      refine g_bipush (v := (-6)) hC dX4_letter_22 (by decide) ?_
      refine g_istore_n hC dX4_letter_24 (by decide) rfl ?_
      refine g_iload_n hC dX4_letter_25 rfl ?_
      refine g_if_eq (tgt := 35) hC dX4_letter_26 (by decide) (fun h_26 => ?_) (fun h_26 => ?_)
      · skip
        exact absurd h_26 (by decide)
      · skip
        refine g_aload_n hC dX4_letter_29 rfl rfl ?_
        refine g_iload_n hC dX4_letter_30 rfl ?_
        refine gi_X4_85 hC (is := [0]) (st := []) (c_X4_no u ro re lt len le la td fr ti pt st ke hi ik cu go num nin up fo (k := 6) (by decide)) dX4_letter_31 rfl ⟨by decide, by decide⟩ ⟨by decide, by decide⟩ rfl (by decide) rfl rfl rfl ?_
        exact g_iret hC rfl dX4_letter_34 (⟨rV (by rw [(ho).1]; rfl), by rw [(ho).1, (ho).2.1, (ho).2.2]; exact ⟨_, _, _, _, _, _, _, _, _, _, _, _, _, fun _ _ => rfl, rfl⟩⟩)

set_option maxRecDepth 100000 in
set_option maxHeartbeats 4000000 in
theorem c_X4_pathMany (u : Vw) (ro re lt : Nat → Nat) (len : Nat) (le la : Nat → Nat) (td : Nat → Int32) (fr ti : Nat → Nat) (pt st : Nat) (ke : Nat → Int32) (hi ik : Bool) (cu : Nat) (go num : Nat → Nat) (nin : Nat) (up fo : Nat → Nat) {B : Nat} (hu : wf B u) (hB : B ≤ 200) : ConF yX4_pathMany cX4_pathMany 4 (some .int) 1 [aR 0 0 0] [modW u ro re lt len le la td fr ti pt st ke hi ik cu go num nin up fo] (some (aI (nI (sumN (fun r => pop (vPa u r)) 6 / 2)))) [modW u ro re lt len le la td fr ti pt st ke hi ik cu go num nin up fo] := by
  refine con_of RX4 pn_X4 rfl rfl (Nat.le_of_ble_eq_true rfl) (fun C hM0 hC => ?_)
  show G C 0 0 0 [aR 0 0 0, aK 9, aK 9, aK 9] [] [modW u ro re lt len le la td fr ti pt st ke hi ik cu go num nin up fo]
  have loop : ∀ d a, a + d = 6 → G C 0 0 4 [aR 0 0 0, aI (nI (sumN (fun a => cnt (isP u a) a) a)), aI (nI (a)), aK 9] [] [modW u ro re lt len le la td fr ti pt st ke hi ik cu go num nin up fo] := by
    intro d
    induction d with
    | zero =>
      intro a ha
      refine g_iload_n hC dX4_pathMany_4 rfl ?_
      refine g_bipush (v := nI (6)) hC dX4_pathMany_5 (by decide) ?_
      refine g_icmp_geN (tgt := 46) hC dX4_pathMany_7 (by decide) (by omega) (by omega) (fun h_7 => ?_) (fun h_7 => ?_)
      · skip
        refine g_iload_n hC dX4_pathMany_46 rfl ?_
        exact g_iret hC rfl dX4_pathMany_47 (⟨rV (by rw [show a = 6 by omega, path_sum hu]), rfl⟩)
      · skip
        omega
    | succ d ih =>
      intro a ha
      refine g_iload_n hC dX4_pathMany_4 rfl ?_
      refine g_bipush (v := nI (6)) hC dX4_pathMany_5 (by decide) ?_
      refine g_icmp_geN (tgt := 46) hC dX4_pathMany_7 (by decide) (by omega) (by omega) (fun h_7 => ?_) (fun h_7 => ?_)
      · skip
        omega
      · skip
        refine g_iconst (v := nI (0)) hC dX4_pathMany_10 (by decide) ?_
        refine g_istore_n hC dX4_pathMany_11 (by decide) rfl ?_
        have inner : ∀ e b, b + e = a → G C 0 0 12 [aR 0 0 0, aI (nI (sumN (fun a => cnt (isP u a) a) a + cnt (isP u a) b)), aI (nI (a)), aI (nI (b))] [] [modW u ro re lt len le la td fr ti pt st ke hi ik cu go num nin up fo] := by
          intro e
          induction e with
          | zero =>
            intro b hb
            refine g_iload_n hC dX4_pathMany_12 rfl ?_
            refine g_iload_n hC dX4_pathMany_13 rfl ?_
            refine g_icmp_geN (tgt := 40) hC dX4_pathMany_14 (by decide) (by omega) (by omega) (fun h_14 => ?_) (fun h_14 => ?_)
            · skip
              refine g_iincN hC dX4_pathMany_40 rfl (by decide) rfl ?_
              refine g_goto (tgt := 4) hC dX4_pathMany_43 (by decide) ?_
              refine g_mask [true, true, true, false] ?_
              have q := ih (a + 1) (by omega)
              obtain rfl : b = a := by omega
              exact q
            · skip
              omega
          | succ e ih2 =>
            intro b hb
            refine g_iload_n hC dX4_pathMany_12 rfl ?_
            refine g_iload_n hC dX4_pathMany_13 rfl ?_
            refine g_icmp_geN (tgt := 40) hC dX4_pathMany_14 (by decide) (by omega) (by omega) (fun h_14 => ?_) (fun h_14 => ?_)
            · skip
              omega
            · skip
              refine g_iload_n hC dX4_pathMany_17 rfl ?_
              refine g_aload_n hC dX4_pathMany_18 rfl rfl ?_
              refine g_iload_n hC dX4_pathMany_19 rfl ?_
              refine g_iload_n hC dX4_pathMany_20 rfl ?_
              refine gi_X4_165 hC (is := [0]) (st := [aI (nI (sumN (fun a => cnt (isP u a) a) a + cnt (isP u a) b))]) (c_X4_isPath u ro re lt len le la td fr ti pt st ke hi ik cu go num nin up fo (show a < 6 by omega) (show b < 6 by omega) (wf_pa hu _ (by omega))) dX4_pathMany_21 rfl ⟨by decide, by decide⟩ ⟨by decide, by decide⟩ rfl (by decide) rfl rfl rfl ?_
              refine g_if_eqB (tgt := 31) hC dX4_pathMany_24 (by decide) (fun h_24 => ?_) (fun h_24 => ?_)
              · skip
                refine g_iconst (v := nI (0)) hC dX4_pathMany_31 (by decide) ?_
                refine g_iaddN hC dX4_pathMany_32 ?_
                refine g_istore_n hC dX4_pathMany_33 (by decide) rfl ?_
                refine g_iincN hC dX4_pathMany_34 rfl (by decide) rfl ?_
                refine g_goto (tgt := 12) hC dX4_pathMany_37 (by decide) ?_
                have q := ih2 (b + 1) (by omega)
                rw [cnt_f (p := isP u a) h_24] at q
                exact q
              · skip
                refine g_iconst (v := nI (1)) hC dX4_pathMany_27 (by decide) ?_
                refine g_goto (tgt := 32) hC dX4_pathMany_28 (by decide) ?_
                refine g_iaddN hC dX4_pathMany_32 ?_
                refine g_istore_n hC dX4_pathMany_33 (by decide) rfl ?_
                refine g_iincN hC dX4_pathMany_34 rfl (by decide) rfl ?_
                refine g_goto (tgt := 12) hC dX4_pathMany_37 (by decide) ?_
                have q := ih2 (b + 1) (by omega)
                rw [cnt_t (p := isP u a) h_24] at q
                exact q
        exact inner a 0 (by omega)
  refine g_iconst (v := nI (0)) hC dX4_pathMany_0 (by decide) ?_
  refine g_istore_n hC dX4_pathMany_1 (by decide) rfl ?_
  refine g_iconst (v := nI (0)) hC dX4_pathMany_2 (by decide) ?_
  refine g_istore_n hC dX4_pathMany_3 (by decide) rfl ?_
  refine g_mask [true, true, true, false] ?_
  exact loop 6 0 (by omega)

set_option maxRecDepth 100000 in
set_option maxHeartbeats 4000000 in
theorem c_X4_traceMany (u : Vw) (ro re lt : Nat → Nat) (len : Nat) (le la : Nat → Nat) (td : Nat → Int32) (fr ti : Nat → Nat) (pt st : Nat) (ke : Nat → Int32) (hi ik : Bool) (cu : Nat) (go num : Nat → Nat) (nin : Nat) (up fo : Nat → Nat) {B : Nat} (hu : wf B u) (hB : B ≤ 200) : ConF yX4_traceMany cX4_traceMany 3 (some .int) 2 [aR 0 0 0] [modW u ro re lt len le la td fr ti pt st ke hi ik cu go num nin up fo] (some (aI (nI (sumN (traces u) 6)))) [modW u ro re lt len le la td fr ti pt st ke hi ik cu go num nin up fo] := by
  refine con_of RX4 pn_X4 rfl rfl (Nat.le_of_ble_eq_true rfl) (fun C hM0 hC => ?_)
  show G C 0 0 0 [aR 0 0 0, aK 9, aK 9] [] [modW u ro re lt len le la td fr ti pt st ke hi ik cu go num nin up fo]
  have loop : ∀ d k, k + d = 6 → G C 0 0 4 [aR 0 0 0, aI (nI (sumN (traces u) k)), aI (nI (k))] [] [modW u ro re lt len le la td fr ti pt st ke hi ik cu go num nin up fo] := by
    intro d
    induction d with
    | zero =>
      intro k hk
      refine g_iload_n hC dX4_traceMany_4 rfl ?_
      refine g_bipush (v := nI (6)) hC dX4_traceMany_5 (by decide) ?_
      refine g_icmp_geN (tgt := 24) hC dX4_traceMany_7 (by decide) (by omega) (by omega) (fun h_7 => ?_) (fun h_7 => ?_)
      · skip
        refine g_iload_n hC dX4_traceMany_24 rfl ?_
        exact g_iret hC rfl dX4_traceMany_25 (⟨rV (by rw [show k = 6 by omega]), rfl⟩)
      · skip
        omega
    | succ d ih =>
      intro k hk
      refine g_iload_n hC dX4_traceMany_4 rfl ?_
      refine g_bipush (v := nI (6)) hC dX4_traceMany_5 (by decide) ?_
      refine g_icmp_geN (tgt := 24) hC dX4_traceMany_7 (by decide) (by omega) (by omega) (fun h_7 => ?_) (fun h_7 => ?_)
      · skip
        omega
      · skip
        refine g_iload_n hC dX4_traceMany_10 rfl ?_
        refine g_aload_n hC dX4_traceMany_11 rfl rfl ?_
        refine g_iload_n hC dX4_traceMany_12 rfl ?_
        refine gi_X4_180 hC (is := [0]) (st := [aI (nI (sumN (traces u) k))]) (c_X4_tracesIn u ro re lt len le la td fr ti pt st ke hi ik cu go num nin up fo hu hB (show k < 6 by omega)) dX4_traceMany_13 rfl ⟨by decide, by decide⟩ ⟨by decide, by decide⟩ rfl (by decide) rfl rfl rfl ?_
        refine g_iaddN hC dX4_traceMany_16 ?_
        refine g_istore_n hC dX4_traceMany_17 (by decide) rfl ?_
        refine g_iincN hC dX4_traceMany_18 rfl (by decide) rfl ?_
        refine g_goto (tgt := 4) hC dX4_traceMany_21 (by decide) ?_
        refine g_mask [true, true, true] ?_
        have q := ih (k + 1) (by omega)
        exact q
  refine g_iconst (v := nI (0)) hC dX4_traceMany_0 (by decide) ?_
  refine g_istore_n hC dX4_traceMany_1 (by decide) rfl ?_
  refine g_iconst (v := nI (0)) hC dX4_traceMany_2 (by decide) ?_
  refine g_istore_n hC dX4_traceMany_3 (by decide) rfl ?_
  exact loop 6 0 (by omega)

set_option maxRecDepth 100000 in
set_option maxHeartbeats 4000000 in
theorem c_X4_count (u : Vw) (ro re lt : Nat → Nat) (len : Nat) (le la : Nat → Nat) (td : Nat → Int32) (fr ti : Nat → Nat) (pt st : Nat) (ke : Nat → Int32) (hi ik : Bool) (cu : Nat) (go num : Nat → Nat) (nin : Nat) (up fo : Nat → Nat) {B : Nat} (hu : wf B u) (hB : B ≤ 200) (x : Int32) : Con yX4_count cX4_count 2 (some .int) 3 0 0 [aR 0 0 0, aI (x)] [modW u ro re lt len le la td fr ti pt st ke hi ik cu go num nin up fo] (fun r M => r = some (aI (ansOf (oCount u nin len re x))) ∧ PM u ro (bump re (oCount u nin len re x)) lt len ke hi num nin M) := by
  refine con_of RX4 pn_X4 rfl rfl (Nat.le_of_ble_eq_true rfl) (fun C hM0 hC => ?_)
  show G C 0 0 0 [aR 0 0 0, aI (x)] [] [modW u ro re lt len le la td fr ti pt st ke hi ik cu go num nin up fo]
  refine g_iload_n hC dX4_count_0 rfl ?_
  refine g_bipush (v := nI (11)) hC dX4_count_1 (by decide) ?_
  refine g_bipush (v := nI (16)) hC dX4_count_3 (by decide) ?_
  refine gi_X4_96 hC (is := []) (st := []) (c_X4_isIn x (nI 11) (nI 16)) dX4_count_5 rfl ⟨by decide, by decide⟩ ⟨by decide, by decide⟩ rfl (by decide) rfl rfl ?_
  refine g_if_eqB (tgt := 21) hC dX4_count_8 (by decide) (fun h_8 => ?_) (fun h_8 => ?_)
  · skip
    have hno := of_decide_eq_false h_8
    refine g_iload_n hC dX4_count_21 rfl ?_
    rcases tab_cases x 6 (by decide) with ⟨i, hi9, rfl⟩ | hout
    · rcases (by omega : i = 0 ∨ i = 1 ∨ i = 2 ∨ i = 3 ∨ i = 4 ∨ i = 5 ∨ i = 6) with rfl | rfl | rfl | rfl | rfl | rfl | rfl
      · refine g_tabIn (off := 42) (tgt := 64) hC dX4_count_22 (by decide) (by decide) (by decide) (by decide) ?_
        refine g_aload_n hC dX4_count_64 rfl rfl ?_
        refine gf_X4_walkers hC dX4_count_65 rfl rfl ?_
        exact g_iret hC rfl dX4_count_68 (⟨rV (by rw [oCount_0 u nin len re]; rfl), by rw [oCount_0 u nin len re]; exact ⟨_, _, _, _, _, _, _, _, _, _, _, _, _, fun _ _ => rfl, rfl⟩⟩)
      · refine g_tabIn (off := 47) (tgt := 69) hC dX4_count_22 (by decide) (by decide) (by decide) (by decide) ?_
        refine g_aload_n hC dX4_count_69 rfl rfl ?_
        refine gi_X4_225 hC (is := [0]) (st := []) (c_X4_pathMany u ro re lt len le la td fr ti pt st ke hi ik cu go num nin up fo hu hB) dX4_count_70 rfl ⟨by decide, by decide⟩ ⟨by decide, by decide⟩ rfl (by decide) rfl rfl rfl ?_
        exact g_iret hC rfl dX4_count_73 (⟨rV (by rw [oCount_1 u nin len re]; rfl), by rw [oCount_1 u nin len re]; exact ⟨_, _, _, _, _, _, _, _, _, _, _, _, _, fun _ _ => rfl, rfl⟩⟩)
      · refine g_tabIn (off := 52) (tgt := 74) hC dX4_count_22 (by decide) (by decide) (by decide) (by decide) ?_
        refine g_aload_n hC dX4_count_74 rfl rfl ?_
        refine gf_X4_minute hC dX4_count_75 rfl rfl ?_
        exact g_iret hC rfl dX4_count_78 (⟨rV (by rw [oCount_2 u nin len re]; rfl), by rw [oCount_2 u nin len re]; exact ⟨_, _, _, _, _, _, _, _, _, _, _, _, _, fun _ _ => rfl, rfl⟩⟩)
      · refine g_tabIn (off := 57) (tgt := 79) hC dX4_count_22 (by decide) (by decide) (by decide) (by decide) ?_
        refine g_aload_n hC dX4_count_79 rfl rfl ?_
        refine gf_X4_nose hC dX4_count_80 rfl rfl ?_
        exact g_iret hC rfl dX4_count_83 (⟨rV (by rw [oCount_3 u nin len re]; rfl), by rw [oCount_3 u nin len re]; exact ⟨_, _, _, _, _, _, _, _, _, _, _, _, _, fun _ _ => rfl, rfl⟩⟩)
      · refine g_tabIn (off := 62) (tgt := 84) hC dX4_count_22 (by decide) (by decide) (by decide) (by decide) ?_
        refine g_aload_n hC dX4_count_84 rfl rfl ?_
        refine gi_X4_228 hC (is := [0]) (st := []) (c_X4_traceMany u ro re lt len le la td fr ti pt st ke hi ik cu go num nin up fo hu hB) dX4_count_85 rfl ⟨by decide, by decide⟩ ⟨by decide, by decide⟩ rfl (by decide) rfl rfl rfl ?_
        exact g_iret hC rfl dX4_count_88 (⟨rV (by rw [oCount_4 u nin len re]; rfl), by rw [oCount_4 u nin len re]; exact ⟨_, _, _, _, _, _, _, _, _, _, _, _, _, fun _ _ => rfl, rfl⟩⟩)
      · refine g_tabIn (off := 67) (tgt := 89) hC dX4_count_22 (by decide) (by decide) (by decide) (by decide) ?_
        refine g_aload_n hC dX4_count_89 rfl rfl ?_
        refine gf_X4_rowMany hC dX4_count_90 rfl rfl ?_
        exact g_iret hC rfl dX4_count_93 (⟨rV (by rw [oCount_5 u nin len re]; rfl), by rw [oCount_5 u nin len re]; exact ⟨_, _, _, _, _, _, _, _, _, _, _, _, _, fun _ _ => rfl, rfl⟩⟩)
      · refine g_tabIn (off := 72) (tgt := 94) hC dX4_count_22 (by decide) (by decide) (by decide) (by decide) ?_
        refine g_aload_n hC dX4_count_94 rfl rfl ?_
        refine gf_X4_taped hC dX4_count_95 rfl rfl ?_
        exact g_iret hC rfl dX4_count_98 (⟨rV (by rw [oCount_6 u nin len re]; rfl), by rw [oCount_6 u nin len re]; exact ⟨_, _, _, _, _, _, _, _, _, _, _, _, _, fun _ _ => rfl, rfl⟩⟩)
    · refine g_tabOut (tgt := 99) hC dX4_count_22 hout (by decide) ?_
      refine g_bipush (v := (-9)) hC dX4_count_99 (by decide) ?_
      exact g_iret hC rfl dX4_count_101 (⟨rV (by rw [oCount_no hout hno]; rfl), by rw [oCount_no hout hno]; exact ⟨_, _, _, _, _, _, _, _, _, _, _, _, _, fun _ _ => rfl, rfl⟩⟩)
  · skip
    obtain ⟨n, rfl, hn0, hn1⟩ := nI_betw (by decide) (by decide) (of_decide_eq_true h_8).1 (of_decide_eq_true h_8).2
    refine g_aload_n hC dX4_count_11 rfl rfl ?_
    refine gf_X4_refused hC dX4_count_12 rfl rfl ?_
    refine g_iload_n hC dX4_count_15 rfl ?_
    refine g_bipush (v := nI (10)) hC dX4_count_16 (by decide) ?_
    refine g_isubN hC dX4_count_18 (by omega) ?_
    refine g_ialdN hC dX4_count_19 rfl (by omega) (by decide) ?_
    exact g_iret hC rfl dX4_count_20 (⟨rV (by rw [oCount_re hn0 hn1]; rfl), by rw [oCount_re hn0 hn1]; exact ⟨_, _, _, _, _, _, _, _, _, _, _, _, _, fun _ _ => rfl, rfl⟩⟩)

