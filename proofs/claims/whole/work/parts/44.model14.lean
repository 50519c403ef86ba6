def cmpI (x y : Nat) : Int32 := if y < x then 1 else if x = y then 0 else -1
theorem cmp_eq {x y : Nat} (hx : x < 2 ^ 31) (hy : y < 2 ^ 31) : lg_cmp (lN x) (lN y) = cmpI x y := by
  unfold lg_cmp cmpI
  by_cases h : y < x
  · rw [if_pos ((lN_lt hy hx).mpr h), if_pos h]
  · rw [if_neg (fun z => h ((lN_lt hy hx).mp z)), if_neg h]
    by_cases e : x = y
    · rw [if_pos ((lN_eq hx hy).mpr e), if_pos e]
    · rw [if_neg (fun z => e ((lN_eq hx hy).mp z)), if_neg e]
theorem cmp_le {x y : Nat} (h : cmpI x y ≤ 0) : x ≤ y := by
  by_cases q : y < x
  · unfold cmpI at h
    rw [if_pos q] at h
    exact absurd h (by decide)
  · omega
theorem cmp_gt {x y : Nat} (h : ¬ cmpI x y ≤ 0) : y < x := by
  by_cases q : y < x
  · exact q
  · exfalso
    refine h ?_
    unfold cmpI
    rw [if_neg q]
    split <;> decide
theorem com_inv (f : Nat → Nat) : ∀ j, ((com f j).1 = none ∧ (com f j).2 = 0) ∨ ∃ b, (com f j).1 = some b ∧ b < j ∧ (com f j).2 = f b ∧ 0 < f b
  | 0 => Or.inl ⟨rfl, rfl⟩
  | j + 1 => by
    by_cases h : (com f j).2 < f j
    · rw [com_t h]
      exact Or.inr ⟨j, rfl, Nat.lt_succ_self j, rfl, by omega⟩
    · rw [com_f (by omega)]
      rcases com_inv f j with q | ⟨b, h1, h2, h3⟩
      · exact Or.inl q
      · exact Or.inr ⟨b, h1, by omega, h3⟩
theorem kWalked_1 {nin : Nat} {x : Int32} (h : outN x (nI 0) (nI 8) ≠ 0) : kWalked nin x = outN x (nI 0) (nI 8) := by
  unfold kWalked kWalks
  unfold outN at h ⊢
  by_cases h1 : x < nI 0
  · rw [if_pos h1, if_pos (Or.inl (show x < 0 from h1))]
  · rw [if_neg h1] at h
    rw [if_neg h1, if_neg (fun z => z.elim (fun q => h1 q) (by decide))]
    by_cases h2 : nI 8 < x
    · rw [if_pos h2, if_pos (Or.inl h2)]
    · rw [if_neg h2] at h
      exact absurd rfl h
theorem kWalked_m {nin m : Nat} (hm : m ≤ 8) : kWalked nin (nI m) = if nin = 6 then 0 else 3 := by
  unfold kWalked kWalks
  have h1 : ¬ nI m < 0 := by
    show ¬ nI m < nI 0
    rw [Int32.lt_iff_toInt_lt, nI_toInt (by omega), nI_toInt (by omega)]
    omega
  have h2 : ¬ nI 8 < nI m := by rw [Int32.lt_iff_toInt_lt, nI_toInt (by omega), nI_toInt (by omega)]; omega
  rw [if_neg (fun z => z.elim h1 (by decide)), if_neg (fun z => z.elim h2 h1)]
theorem way_thru {u : Vw} {num : Nat → Nat} {n k r : Nat} {up fo : Nat → Nat} (hk : k ≤ n) (hr : r < 6) : (upF u num n up (n + 1) 0 ((6 * k) + r)) * (frF u num n fo 0 ((6 * k) + r)) = thru u num n k r := by
  rw [upF_at u num n up (by omega) hr, frF_at u num n fo hk hr]
  rfl
set_option maxRecDepth 100000 in
set_option maxHeartbeats 4000000 in
theorem c_X4_waysBy (u : Vw) (ro re lt : Nat → Nat) (len : Nat) (le la : Nat → Nat) (td : Nat → Int32) (fr ti : Nat → Nat) (pt st : Nat) (ke : Nat → Int32) (hi ik : Bool) (cu : Nat) (go num : Nat → Nat) (nin : Nat) (up fo : Nat → Nat) {k r : Nat} (hk : k < 9) (hr : r < 6) : ConF yX4_waysBy cX4_waysBy 3 (some .long) 0 [aR 0 0 0, aI (nI (k)), aI (nI (r))] [modW u ro re lt len le la td fr ti pt st ke hi ik cu go num nin up fo] (some (aL (lN ((up ((6 * k) + r)) * (fo ((6 * k) + r)))))) [modW u ro re lt len le la td fr ti pt st ke hi ik cu go num nin up fo] := by
  refine con_of RX4 pn_X4 rfl rfl (Nat.le_of_ble_eq_true rfl) (fun C hM0 hC => ?_)
  show G C 0 0 0 [aR 0 0 0, aI (nI (k)), aI (nI (r))] [] [modW u ro re lt len le la td fr ti pt st ke hi ik cu go num nin up fo]
  refine g_aload_n hC dX4_waysBy_0 rfl rfl ?_
  refine gf_X4_upTo hC dX4_waysBy_1 rfl rfl ?_
  refine g_bipush (v := nI (6)) hC dX4_waysBy_4 (by decide) ?_
  refine g_iload_n hC dX4_waysBy_6 rfl ?_
  refine g_imulN hC dX4_waysBy_7 ?_
  refine g_iload_n hC dX4_waysBy_8 rfl ?_
  refine g_iaddN hC dX4_waysBy_9 ?_
  refine g_laldN hC dX4_waysBy_10 rfl (by omega) (by decide) ?_
  refine g_aload_n hC dX4_waysBy_11 rfl rfl ?_
  refine gf_X4_fromOn hC dX4_waysBy_12 rfl rfl ?_
  refine g_bipush (v := nI (6)) hC dX4_waysBy_15 (by decide) ?_
  refine g_iload_n hC dX4_waysBy_17 rfl ?_
  refine g_imulN hC dX4_waysBy_18 ?_
  refine g_iload_n hC dX4_waysBy_19 rfl ?_
  refine g_iaddN hC dX4_waysBy_20 ?_
  refine g_laldN hC dX4_waysBy_21 rfl (by omega) (by decide) ?_
  refine g_lmulN hC dX4_waysBy_22 ?_
  exact g_lret hC rfl dX4_waysBy_23 (⟨rfl, rfl⟩)

theorem c_X4_waysByT (u : Vw) (ro re lt : Nat → Nat) (len : Nat) (le la : Nat → Nat) (td : Nat → Int32) (fr ti : Nat → Nat) (pt st : Nat) (ke : Nat → Int32) (hi ik : Bool) (cu : Nat) (go num : Nat → Nat) (nin : Nat) (up fo : Nat → Nat) {n k r : Nat} (hk : k ≤ n) (hn : n ≤ 8) (hr : r < 6) : ConF yX4_waysBy cX4_waysBy 3 (some .long) 0 [aR 0 0 0, aI (nI k), aI (nI r)] [modW u ro re lt len le la td fr ti pt st ke hi ik cu go num nin (upF u num n up (n + 1) 0) (frF u num n fo 0)] (some (aL (lN (thru u num n k r)))) [modW u ro re lt len le la td fr ti pt st ke hi ik cu go num nin (upF u num n up (n + 1) 0) (frF u num n fo 0)] := by
  have h := c_X4_waysBy u ro re lt len le la td fr ti pt st ke hi ik cu go num nin (upF u num n up (n + 1) 0) (frF u num n fo 0) (k := k) (r := r) (by omega) hr
  rw [way_thru hk hr] at h
  exact h

set_option maxRecDepth 100000 in
set_option maxHeartbeats 4000000 in
theorem c_X4_notAsked (u : Vw) (ro re lt : Nat → Nat) (len : Nat) (le la : Nat → Nat) (td : Nat → Int32) (fr ti : Nat → Nat) (pt st : Nat) (ke : Nat → Int32) (hi ik : Bool) (cu : Nat) (go num : Nat → Nat) (nin : Nat) (up fo : Nat → Nat) (x y : Int32) (hnin : nin ≤ 12) : ConF yX4_notAsked cX4_notAsked 4 (some .int) 0 [aR 0 0 0, aI (x), aI (y)] [modW u ro re lt len le la td fr ti pt st ke hi ik cu go num nin up fo] (some (aI (-(nI (kWalks nin x y))))) [modW u ro re lt len le la td fr ti pt st ke hi ik cu go num nin up fo] := by
  refine con_of RX4 pn_X4 rfl rfl (Nat.le_of_ble_eq_true rfl) (fun C hM0 hC => ?_)
  show G C 0 0 0 [aR 0 0 0, aI (x), aI (y), aK 9] [] [modW u ro re lt len le la td fr ti pt st ke hi ik cu go num nin up fo]
  refine g_iload_n hC dX4_notAsked_0 rfl ?_
  refine g_if_lt (tgt := 8) hC dX4_notAsked_1 (by decide) (fun h_1 => ?_) (fun h_1 => ?_)
  · skip
    refine g_bipush (v := (-4)) hC dX4_notAsked_8 (by decide) ?_
    refine g_goto (tgt := 30) hC dX4_notAsked_10 (by decide) ?_
    refine g_istore_n hC dX4_notAsked_30 (by decide) rfl ?_
    refine g_iload_n hC dX4_notAsked_31 rfl ?_
    refine g_if_ne (tgt := 49) hC dX4_notAsked_32 (by decide) (fun h_32 => ?_) (fun h_32 => ?_)
    · skip
      refine g_iload_n hC dX4_notAsked_49 rfl ?_
      exact g_iret hC rfl dX4_notAsked_50 (⟨rV (by unfold kWalks; rw [if_pos (Or.inl h_1)]; rfl), rfl⟩)
    · skip
      exact absurd h_32 (by decide)
  · skip
    refine g_iload_n hC dX4_notAsked_4 rfl ?_
    refine g_if_ge (tgt := 13) hC dX4_notAsked_5 (by decide) (fun h_5 => ?_) (fun h_5 => ?_)
    · skip
      refine g_iload_n hC dX4_notAsked_13 rfl ?_
      refine g_bipush (v := nI (8)) hC dX4_notAsked_14 (by decide) ?_
      refine g_icmp_gt (tgt := 24) hC dX4_notAsked_16 (by decide) (fun h_16 => ?_) (fun h_16 => ?_)
      · skip
        refine g_bipush (v := (-6)) hC dX4_notAsked_24 (by decide) ?_
        refine g_goto (tgt := 30) hC dX4_notAsked_26 (by decide) ?_
        refine g_istore_n hC dX4_notAsked_30 (by decide) rfl ?_
        refine g_iload_n hC dX4_notAsked_31 rfl ?_
        refine g_if_ne (tgt := 49) hC dX4_notAsked_32 (by decide) (fun h_32 => ?_) (fun h_32 => ?_)
        · skip
          refine g_iload_n hC dX4_notAsked_49 rfl ?_
          exact g_iret hC rfl dX4_notAsked_50 (⟨rV (by unfold kWalks; rw [if_neg (fun z => z.elim h_1 (Int32.not_lt.mpr h_5)), if_pos (Or.inl h_16)]; rfl), rfl⟩)
        · skip
          exact absurd h_32 (by decide)
      · skip
        refine g_iload_n hC dX4_notAsked_19 rfl ?_
        refine g_iload_n hC dX4_notAsked_20 rfl ?_
        refine g_icmp_le (tgt := 29) hC dX4_notAsked_21 (by decide) (fun h_21 => ?_) (fun h_21 => ?_)
        · skip
          refine g_iconst (v := nI (0)) hC dX4_notAsked_29 (by decide) ?_
          refine g_istore_n hC dX4_notAsked_30 (by decide) rfl ?_
          refine g_iload_n hC dX4_notAsked_31 rfl ?_
          refine g_if_neN (tgt := 49) hC dX4_notAsked_32 (by decide) (by omega) (fun h_32 => ?_) (fun h_32 => ?_)
          · skip
            omega
          · skip
            refine g_aload_n hC dX4_notAsked_35 rfl rfl ?_
            refine gf_X4_rowMany hC dX4_notAsked_36 rfl rfl ?_
            refine g_bipush (v := nI (6)) hC dX4_notAsked_39 (by decide) ?_
            refine g_icmp_eqN (tgt := 49) hC dX4_notAsked_41 (by decide) (by omega) (by omega) (fun h_41 => ?_) (fun h_41 => ?_)
            · skip
              refine g_iload_n hC dX4_notAsked_49 rfl ?_
              exact g_iret hC rfl dX4_notAsked_50 (⟨rV (by unfold kWalks; rw [if_neg (fun z => z.elim h_1 (Int32.not_lt.mpr h_5)), if_neg (fun z => z.elim h_16 (Int32.not_lt.mpr h_21)), if_pos h_41]; rfl), rfl⟩)
            · skip
              refine g_bipush (v := (-3)) hC dX4_notAsked_44 (by decide) ?_
              refine g_goto (tgt := 50) hC dX4_notAsked_46 (by decide) ?_
              exact g_iret hC rfl dX4_notAsked_50 (⟨rV (by unfold kWalks; rw [if_neg (fun z => z.elim h_1 (Int32.not_lt.mpr h_5)), if_neg (fun z => z.elim h_16 (Int32.not_lt.mpr h_21)), if_neg h_41]; rfl), rfl⟩)
        · skip
          refine g_bipush (v := (-6)) hC dX4_notAsked_24 (by decide) ?_
          refine g_goto (tgt := 30) hC dX4_notAsked_26 (by decide) ?_
          refine g_istore_n hC dX4_notAsked_30 (by decide) rfl ?_
          refine g_iload_n hC dX4_notAsked_31 rfl ?_
          refine g_if_ne (tgt := 49) hC dX4_notAsked_32 (by decide) (fun h_32 => ?_) (fun h_32 => ?_)
          · skip
            refine g_iload_n hC dX4_notAsked_49 rfl ?_
            exact g_iret hC rfl dX4_notAsked_50 (⟨rV (by unfold kWalks; rw [if_neg (fun z => z.elim h_1 (Int32.not_lt.mpr h_5)), if_pos (Or.inr (Int32.not_le.mp h_21))]; rfl), rfl⟩)
          · skip
            exact absurd h_32 (by decide)
    · skip
      refine g_bipush (v := (-4)) hC dX4_notAsked_8 (by decide) ?_
      refine g_goto (tgt := 30) hC dX4_notAsked_10 (by decide) ?_
      refine g_istore_n hC dX4_notAsked_30 (by decide) rfl ?_
      refine g_iload_n hC dX4_notAsked_31 rfl ?_
      refine g_if_ne (tgt := 49) hC dX4_notAsked_32 (by decide) (fun h_32 => ?_) (fun h_32 => ?_)
      · skip
        refine g_iload_n hC dX4_notAsked_49 rfl ?_
        exact g_iret hC rfl dX4_notAsked_50 (⟨rV (by unfold kWalks; rw [if_pos (Or.inr (Int32.not_le.mp h_5))]; rfl), rfl⟩)
      · skip
        exact absurd h_32 (by decide)

set_option maxRecDepth 100000 in
set_option maxHeartbeats 4000000 in
theorem c_X4_walked (u : Vw) (ro re lt : Nat → Nat) (len : Nat) (le la : Nat → Nat) (td : Nat → Int32) (fr ti : Nat → Nat) (pt st : Nat) (ke : Nat → Int32) (hi ik : Bool) (cu : Nat) (go num : Nat → Nat) (nin : Nat) (up fo : Nat → Nat) {B : Nat} (hu : wf B u) (hB : B ≤ 200) (hnin : nin ≤ 12) (hnum : ∀ r, r < 12 → num r ≤ 30) (x : Int32) : Con yX4_walked cX4_walked 6 (some .int) 3 0 0 [aR 0 0 0, aI (x)] [modW u ro re lt len le la td fr ti pt st ke hi ik cu go num nin up fo] (fun r M => r = some (aI (ansOf (oWalked u num nin x))) ∧ PM u ro (bump re (oWalked u num nin x)) lt len ke hi num nin M) := by
  refine con_of RX4 pn_X4 rfl rfl (Nat.le_of_ble_eq_true rfl) (fun C hM0 hC => ?_)
  show G C 0 0 0 [aR 0 0 0, aI (x), aK 9, aK 9, aK 9, aK 9] [] [modW u ro re lt len le la td fr ti pt st ke hi ik cu go num nin up fo]
  have hn4 := wf_n hu
  refine g_iload_n hC dX4_walked_0 rfl ?_
  refine g_iconst (v := nI (0)) hC dX4_walked_1 (by decide) ?_
  refine g_bipush (v := nI (8)) hC dX4_walked_2 (by decide) ?_
  refine gi_X4_78 hC (is := []) (st := []) (c_X4_bound x (nI 0) (nI 8)) dX4_walked_4 rfl ⟨by decide, by decide⟩ ⟨by decide, by decide⟩ rfl (by decide) rfl rfl ?_
  refine g_istore_n hC dX4_walked_7 (by decide) rfl ?_
  refine g_iload_n hC dX4_walked_8 rfl ?_
  refine g_if_ne (tgt := 24) hC dX4_walked_9 (by decide) (fun h_9 => ?_) (fun h_9 => ?_)
  · skip
    have hk0 : (outN x (nI 0) (nI 8)) ≠ 0 := fun z => h_9 ((neg_0 _ (outN_lt _ _ _)).mpr z)
    have hk := kWalked_1 (nin := nin) hk0
    have ho := Walked_no (v := u) (num := num) (nin := nin) (x := x) (by rw [hk]; exact hk0)
    rw [hk] at ho
    refine g_iload_n hC dX4_walked_24 rfl ?_
    refine g_if_eq (tgt := 34) hC dX4_walked_25 (by decide) (fun h_25 => ?_) (fun h_25 => ?_)
    · skip
      exact absurd h_25 h_9
    · skip
      refine g_aload_n hC dX4_walked_28 rfl rfl ?_
      refine g_iload_n hC dX4_walked_29 rfl ?_
      refine gi_X4_85 hC (is := [0]) (st := []) (c_X4_no u ro re lt len le la td fr ti pt st ke hi ik cu go num nin up fo (k := (outN x (nI 0) (nI 8))) (outN_lt _ _ _)) dX4_walked_30 rfl ⟨by decide, by decide⟩ ⟨by decide, by decide⟩ rfl (by decide) rfl rfl rfl ?_
      exact g_iret hC rfl dX4_walked_33 (⟨rV (by rw [ho]; rfl), by rw [ho]; exact ⟨_, _, _, _, _, _, _, _, _, _, _, _, _, fun _ _ => rfl, rfl⟩⟩)
  · skip
    have hk0 := (neg_0 _ (outN_lt _ _ _)).mp h_9
    obtain ⟨n, rfl, hn0, hn1⟩ := out_0 (by decide) (by decide) hk0
    have hkm := kWalked_m (nin := nin) hn1
    refine g_aload_n hC dX4_walked_12 rfl rfl ?_
    refine gf_X4_rowMany hC dX4_walked_13 rfl rfl ?_
    refine g_bipush (v := nI (6)) hC dX4_walked_16 (by decide) ?_
    refine g_icmp_eqN (tgt := 24) hC dX4_walked_18 (by decide) (by omega) (by omega) (fun h_18 => ?_) (fun h_18 => ?_)
    · skip
      have hk : kWalked nin (nI n) = 0 := hkm.trans (if_pos h_18)
      refine g_iload_n hC dX4_walked_24 rfl ?_
      refine g_if_eq (tgt := 34) hC dX4_walked_25 (by decide) (fun h_25 => ?_) (fun h_25 => ?_)
      · skip
        refine g_aload_n hC dX4_walked_34 rfl rfl ?_
        refine g_iload_n hC dX4_walked_35 rfl ?_
        refine gi_X4_202 hC (is := [0]) (st := []) (c_X4_findWays u ro re lt len le la td fr ti pt st ke hi ik cu go num nin up fo hu hB (show n ≤ 8 by omega) hnum) dX4_walked_36 rfl ⟨by decide, by decide⟩ ⟨by decide, by decide⟩ rfl (by decide) rfl rfl rfl ?_
        refine g_lconst (v := lN 0) hC dX4_walked_39 (by decide) ?_
        refine g_lstore_n hC dX4_walked_40 (by decide) rfl ?_
        refine g_iconst (v := nI (0)) hC dX4_walked_41 (by decide) ?_
        refine g_istore hC dX4_walked_42 (by decide) rfl ?_
        have ho := Walked_ok (v := u) (num := num) hk
        rw [tn_n (show n < 2 ^ 31 by omega), ← sumN_congr (f := (fun r => (upF u num n up (n + 1) 0) ((6 * n) + r))) 6 (fun r hr => upF_at u num n up (Nat.lt_succ_self n) hr)] at ho
        have loop : ∀ d k, k + d = 6 → G C 0 0 44 [aR 0 0 0, aI (nI (n)), aK 9, aL (lN (sumN (fun r => (upF u num n up (n + 1) 0) ((6 * n) + r)) k)), aK 9, aI (nI (k))] [] [modW u ro re lt len le la td fr ti pt st ke hi ik cu go num nin (upF u num n up (n + 1) 0) (frF u num n fo 0)] := by
          intro d
          induction d with
          | zero =>
            intro k hk
            refine g_iload hC dX4_walked_44 rfl ?_
            refine g_bipush (v := nI (6)) hC dX4_walked_46 (by decide) ?_
            refine g_icmp_geN (tgt := 72) hC dX4_walked_48 (by decide) (by omega) (by omega) (fun h_48 => ?_) (fun h_48 => ?_)
            · skip
              refine g_lload_n hC dX4_walked_72 rfl ?_
              refine g_l2i (v := nI (sumN (fun r => (upF u num n up (n + 1) 0) ((6 * n) + r)) k)) hC dX4_walked_73 (lN_i _) ?_
              exact g_iret hC rfl dX4_walked_74 (⟨rV (by rw [ho, show k = 6 by omega]; rfl), by rw [ho]; exact ⟨_, _, _, _, _, _, _, _, _, _, _, _, _, fun _ _ => rfl, rfl⟩⟩)
            · skip
              omega
          | succ d ih =>
            intro k hk
            refine g_iload hC dX4_walked_44 rfl ?_
            refine g_bipush (v := nI (6)) hC dX4_walked_46 (by decide) ?_
            refine g_icmp_geN (tgt := 72) hC dX4_walked_48 (by decide) (by omega) (by omega) (fun h_48 => ?_) (fun h_48 => ?_)
            · skip
              omega
            · skip
              refine g_lload_n hC dX4_walked_51 rfl ?_
              refine g_aload_n hC dX4_walked_52 rfl rfl ?_
              refine gf_X4_upTo hC dX4_walked_53 rfl rfl ?_
              refine g_bipush (v := nI (6)) hC dX4_walked_56 (by decide) ?_
              refine g_iload_n hC dX4_walked_58 rfl ?_
              refine g_imulN hC dX4_walked_59 ?_
              refine g_iload hC dX4_walked_60 rfl ?_
              refine g_iaddN hC dX4_walked_62 ?_
              refine g_laldN hC dX4_walked_63 rfl (by omega) (by decide) ?_
              refine g_laddN hC dX4_walked_64 ?_
              refine g_lstore_n hC dX4_walked_65 (by decide) rfl ?_
              refine g_iincN hC dX4_walked_66 rfl (by decide) rfl ?_
              refine g_goto (tgt := 44) hC dX4_walked_69 (by decide) ?_
              refine g_mask [true, true, false, true, false, true] ?_
              have q := ih (k + 1) (by omega)
              exact q
        refine g_mask [true, true, false, true, false, true] ?_
        exact loop 6 0 (by omega)
      · skip
        exact absurd h_9 h_25
    · skip
      have hk : kWalked nin (nI n) = 3 := hkm.trans (if_neg h_18)
      have ho := Walked_no (v := u) (num := num) (nin := nin) (x := nI n) (by rw [hk]; decide)
      rw [hk] at ho
      refine g_bipush (v := (-3)) hC dX4_walked_21 (by decide) ?_
      refine g_istore_n hC dX4_walked_23 (by decide) rfl ?_
      refine g_iload_n hC dX4_walked_24 rfl ?_
      refine g_if_eq (tgt := 34) hC dX4_walked_25 (by decide) (fun h_25 => ?_) (fun h_25 => ?_)
      · skip
        exact absurd h_25 (by decide)
      · skip
        refine g_aload_n hC dX4_walked_28 rfl rfl ?_
        refine g_iload_n hC dX4_walked_29 rfl ?_
        refine gi_X4_85 hC (is := [0]) (st := []) (c_X4_no u ro re lt len le la td fr ti pt st ke hi ik cu go num nin up fo (k := 3) (by decide)) dX4_walked_30 rfl ⟨by decide, by decide⟩ ⟨by decide, by decide⟩ rfl (by decide) rfl rfl rfl ?_
        exact g_iret hC rfl dX4_walked_33 (⟨rV (by rw [ho]; rfl), by rw [ho]; exact ⟨_, _, _, _, _, _, _, _, _, _, _, _, _, fun _ _ => rfl, rfl⟩⟩)

set_option maxRecDepth 100000 in
set_option maxHeartbeats 4000000 in
theorem c_X4_likeliest (u : Vw) (ro re lt : Nat → Nat) (len : Nat) (le la : Nat → Nat) (td : Nat → Int32) (fr ti : Nat → Nat) (pt st : Nat) (ke : Nat → Int32) (hi ik : Bool) (cu : Nat) (go num : Nat → Nat) (nin : Nat) (up fo : Nat → Nat) {B : Nat} (hu : wf B u) (hB : B ≤ 200) (hnin : nin ≤ 12) (hnum : ∀ r, r < 12 → num r ≤ 30) (x y : Int32) : Con yX4_likeliest cX4_likeliest 6 (some .int) 3 0 0 [aR 0 0 0, aI (x), aI (y)] [modW u ro re lt len le la td fr ti pt st ke hi ik cu go num nin up fo] (fun r M => r = some (aI (ansOf (oLikeliest u num nin x y))) ∧ PM u ro (bump re (oLikeliest u num nin x y)) lt len ke hi num nin M) := by
  refine con_of RX4 pn_X4 rfl rfl (Nat.le_of_ble_eq_true rfl) (fun C hM0 hC => ?_)
  show G C 0 0 0 [aR 0 0 0, aI (x), aI (y), aK 9, aK 9, aK 9] [] [modW u ro re lt len le la td fr ti pt st ke hi ik cu go num nin up fo]
  have hn4 := wf_n hu
  refine g_aload_n hC dX4_likeliest_0 rfl rfl ?_
  refine g_iload_n hC dX4_likeliest_1 rfl ?_
  refine g_iload_n hC dX4_likeliest_2 rfl ?_
  refine gi_X4_205 hC (is := [0]) (st := []) (c_X4_notAsked u ro re lt len le la td fr ti pt st ke hi ik cu go num nin up fo x y hnin) dX4_likeliest_3 rfl ⟨by decide, by decide⟩ ⟨by decide, by decide⟩ rfl (by decide) rfl rfl rfl ?_
  refine g_istore_n hC dX4_likeliest_6 (by decide) rfl ?_
  refine g_iload_n hC dX4_likeliest_7 rfl ?_
  refine g_if_eq (tgt := 17) hC dX4_likeliest_8 (by decide) (fun h_8 => ?_) (fun h_8 => ?_)
  · skip
    have hk := (neg_0 (kLikeliest nin x y) (kWalks_lt nin x y)).mp h_8
    obtain ⟨h6, n, k, rfl, rfl, hn8, hkn⟩ := walks_0 hk
    refine g_aload_n hC dX4_likeliest_17 rfl rfl ?_
    refine g_iload_n hC dX4_likeliest_18 rfl ?_
    refine gi_X4_202 hC (is := [0]) (st := []) (c_X4_findWays u ro re lt len le la td fr ti pt st ke hi ik cu go num nin up fo hu hB (show n ≤ 8 by omega) hnum) dX4_likeliest_19 rfl ⟨by decide, by decide⟩ ⟨by decide, by decide⟩ rfl (by decide) rfl rfl rfl ?_
    refine g_bipush (v := (-9)) hC dX4_likeliest_22 (by decide) ?_
    refine g_istore hC dX4_likeliest_24 (by decide) rfl ?_
    refine g_iconst (v := nI (0)) hC dX4_likeliest_26 (by decide) ?_
    refine g_istore hC dX4_likeliest_27 (by decide) rfl ?_
    have ho := Likeliest_ok (v := u) (num := num) hk
    rw [tn_n (show n < 2 ^ 31 by omega), tn_n (show k < 2 ^ 31 by omega)] at ho
    have loop : ∀ d j, j + d = 6 → G C 0 0 29 [aR 0 0 0, aI (nI (n)), aI (nI (k)), aK 9, aI (oI (-9) ((com (thru u num n k) j).1)), aI (nI (j))] [] [modW u ro re lt len le la td fr ti pt st ke hi ik cu go num nin (upF u num n up (n + 1) 0) (frF u num n fo 0)] := by
      intro d
      induction d with
      | zero =>
        intro j hj
        refine g_iload hC dX4_likeliest_29 rfl ?_
        refine g_bipush (v := nI (6)) hC dX4_likeliest_31 (by decide) ?_
        refine g_icmp_geN (tgt := 81) hC dX4_likeliest_33 (by decide) (by omega) (by omega) (fun h_33 => ?_) (fun h_33 => ?_)
        · skip
          refine g_iload hC dX4_likeliest_81 rfl ?_
          exact g_iret hC rfl dX4_likeliest_83 (⟨rV (by rw [ho, show j = 6 by omega]; rfl), by rw [ho]; exact ⟨_, _, _, _, _, _, _, _, _, _, _, _, _, fun _ _ => rfl, rfl⟩⟩)
        · skip
          omega
      | succ d ih =>
        intro j hj
        have hinv := com_inv (thru u num n k) j
        have hFj := thru_lt u num hn8 hkn (show j < 6 by omega)
        refine g_iload hC dX4_likeliest_29 rfl ?_
        refine g_bipush (v := nI (6)) hC dX4_likeliest_31 (by decide) ?_
        refine g_icmp_geN (tgt := 81) hC dX4_likeliest_33 (by decide) (by omega) (by omega) (fun h_33 => ?_) (fun h_33 => ?_)
        · skip
          omega
        · skip
          refine g_aload_n hC dX4_likeliest_36 rfl rfl ?_
          refine g_iload_n hC dX4_likeliest_37 rfl ?_
          refine g_iload hC dX4_likeliest_38 rfl ?_
          refine gi_X4_208 hC (is := [0]) (st := []) (c_X4_waysByT u ro re lt len le la td fr ti pt st ke hi ik cu go num nin up fo hkn hn8 (show j < 6 by omega)) dX4_likeliest_40 rfl ⟨by decide, by decide⟩ ⟨by decide, by decide⟩ rfl (by decide) rfl rfl rfl ?_
          refine g_lconst (v := lN 0) hC dX4_likeliest_43 (by decide) ?_
          refine g_lcmp (v := cmpI (thru u num n k j) 0) hC dX4_likeliest_44 (cmp_eq hFj (by decide)) ?_
          refine g_if_le (tgt := 75) hC dX4_likeliest_45 (by decide) (fun h_45 => ?_) (fun h_45 => ?_)
          · skip
            refine g_iincN hC dX4_likeliest_75 rfl (by decide) rfl ?_
            refine g_goto (tgt := 29) hC dX4_likeliest_78 (by decide) ?_
            refine g_mask [true, true, true, false, true, true] ?_
            have q := ih (j + 1) (by omega)
            rw [com_f (show thru u num n k j ≤ (com (thru u num n k) j).2 by have := cmp_le h_45; omega)] at q
            exact q
          · skip
            refine g_iload hC dX4_likeliest_48 rfl ?_
            refine g_if_ltO (tgt := 71) hC dX4_likeliest_50 (by decide) (by decide) (fun m q => by rcases hinv with ⟨z, -⟩ | ⟨b, z, zl, -⟩; (· rw [z] at q; cases q); (· rw [z] at q; cases q; omega)) (fun h_50 => ?_) (fun b h_50 => ?_)
            · skip
              refine g_iload hC dX4_likeliest_71 rfl ?_
              refine g_istore hC dX4_likeliest_73 (by decide) rfl ?_
              refine g_iincN hC dX4_likeliest_75 rfl (by decide) rfl ?_
              refine g_goto (tgt := 29) hC dX4_likeliest_78 (by decide) ?_
              refine g_mask [true, true, true, false, true, true] ?_
              have q := ih (j + 1) (by omega)
              rw [com_t (show (com (thru u num n k) j).2 < thru u num n k j by have := cmp_gt h_45; rcases hinv with ⟨-, z⟩ | ⟨b, z, -⟩; (· omega); (· rw [h_50] at z; cases z))] at q
              exact q
            · skip
              obtain ⟨hb1, hb2⟩ : b < j ∧ (com (thru u num n k) j).2 = thru u num n k b := by rcases hinv with ⟨z, -⟩ | ⟨b2, z, z1, z2, -⟩; (· rw [h_50] at z; cases z); (· rw [h_50] at z; cases z; exact ⟨z1, z2⟩)
              have hFb := thru_lt u num hn8 hkn (show b < 6 by omega)
              rw [h_50]
              show G C 0 0 53 [aR 0 0 0, aI (nI n), aI (nI k), aK 9, aI (nI b), aI (nI j)] [] _
              refine g_aload_n hC dX4_likeliest_53 rfl rfl ?_
              refine g_iload_n hC dX4_likeliest_54 rfl ?_
              refine g_iload hC dX4_likeliest_55 rfl ?_
              refine gi_X4_208 hC (is := [0]) (st := []) (c_X4_waysByT u ro re lt len le la td fr ti pt st ke hi ik cu go num nin up fo hkn hn8 (show j < 6 by omega)) dX4_likeliest_57 rfl ⟨by decide, by decide⟩ ⟨by decide, by decide⟩ rfl (by decide) rfl rfl rfl ?_
              refine g_aload_n hC dX4_likeliest_60 rfl rfl ?_
              refine g_iload_n hC dX4_likeliest_61 rfl ?_
              refine g_iload hC dX4_likeliest_62 rfl ?_
              refine gi_X4_208 hC (is := [0]) (st := [aL (lN (thru u num n k j))]) (c_X4_waysByT u ro re lt len le la td fr ti pt st ke hi ik cu go num nin up fo hkn hn8 (show b < 6 by omega)) dX4_likeliest_64 rfl ⟨by decide, by decide⟩ ⟨by decide, by decide⟩ rfl (by decide) rfl rfl rfl ?_
              refine g_lcmp (v := cmpI (thru u num n k j) (thru u num n k b)) hC dX4_likeliest_67 (cmp_eq hFj hFb) ?_
              refine g_if_le (tgt := 75) hC dX4_likeliest_68 (by decide) (fun h_68 => ?_) (fun h_68 => ?_)
              · skip
                refine g_iincN hC dX4_likeliest_75 rfl (by decide) rfl ?_
                refine g_goto (tgt := 29) hC dX4_likeliest_78 (by decide) ?_
                refine g_mask [true, true, true, false, true, true] ?_
                have q := ih (j + 1) (by omega)
                rw [com_f (show thru u num n k j ≤ (com (thru u num n k) j).2 by have := cmp_le h_68; omega), h_50] at q
                exact q
              · skip
                refine g_iload hC dX4_likeliest_71 rfl ?_
                refine g_istore hC dX4_likeliest_73 (by decide) rfl ?_
                refine g_iincN hC dX4_likeliest_75 rfl (by decide) rfl ?_
                refine g_goto (tgt := 29) hC dX4_likeliest_78 (by decide) ?_
                refine g_mask [true, true, true, false, true, true] ?_
                have q := ih (j + 1) (by omega)
                rw [com_t (show (com (thru u num n k) j).2 < thru u num n k j by have := cmp_gt h_68; omega)] at q
                exact q
    refine g_mask [true, true, true, false, true, true] ?_
    exact loop 6 0 (by omega)
  · skip
    have hk : kLikeliest nin x y ≠ 0 := fun z => h_8 ((neg_0 (kLikeliest nin x y) (kWalks_lt nin x y)).mpr z)
    refine g_aload_n hC dX4_likeliest_11 rfl rfl ?_
    refine g_iload_n hC dX4_likeliest_12 rfl ?_
    refine gi_X4_85 hC (is := [0]) (st := []) (c_X4_no u ro re lt len le la td fr ti pt st ke hi ik cu go num nin up fo (k := (kLikeliest nin x y)) (kWalks_lt nin x y)) dX4_likeliest_13 rfl ⟨by decide, by decide⟩ ⟨by decide, by decide⟩ rfl (by decide) rfl rfl rfl ?_
    exact g_iret hC rfl dX4_likeliest_16 (⟨rV (by rw [Likeliest_no hk]; rfl), by rw [Likeliest_no hk]; exact ⟨_, _, _, _, _, _, _, _, _, _, _, _, _, fun _ _ => rfl, rfl⟩⟩)

set_option maxRecDepth 100000 in
set_option maxHeartbeats 4000000 in
theorem c_X4_sure (u : Vw) (ro re lt : Nat → Nat) (len : Nat) (le la : Nat → Nat) (td : Nat → Int32) (fr ti : Nat → Nat) (pt st : Nat) (ke : Nat → Int32) (hi ik : Bool) (cu : Nat) (go num : Nat → Nat) (nin : Nat) (up fo : Nat → Nat) {B : Nat} (hu : wf B u) (hB : B ≤ 200) (hnin : nin ≤ 12) (hnum : ∀ r, r < 12 → num r ≤ 30) (x y : Int32) : Con yX4_sure cX4_sure 6 (some .int) 3 0 0 [aR 0 0 0, aI (x), aI (y)] [modW u ro re lt len le la td fr ti pt st ke hi ik cu go num nin up fo] (fun r M => r = some (aI (ansOf (oSure u num nin x y))) ∧ PM u ro (bump re (oSure u num nin x y)) lt len ke hi num nin M) := by
  refine con_of RX4 pn_X4 rfl rfl (Nat.le_of_ble_eq_true rfl) (fun C hM0 hC => ?_)
  show G C 0 0 0 [aR 0 0 0, aI (x), aI (y), aK 9, aK 9, aK 9] [] [modW u ro re lt len le la td fr ti pt st ke hi ik cu go num nin up fo]
  have hn4 := wf_n hu
  refine g_aload_n hC dX4_sure_0 rfl rfl ?_
  refine g_iload_n hC dX4_sure_1 rfl ?_
  refine g_iload_n hC dX4_sure_2 rfl ?_
  refine gi_X4_205 hC (is := [0]) (st := []) (c_X4_notAsked u ro re lt len le la td fr ti pt st ke hi ik cu go num nin up fo x y hnin) dX4_sure_3 rfl ⟨by decide, by decide⟩ ⟨by decide, by decide⟩ rfl (by decide) rfl rfl rfl ?_
  refine g_istore_n hC dX4_sure_6 (by decide) rfl ?_
  refine g_iload_n hC dX4_sure_7 rfl ?_
  refine g_if_eq (tgt := 17) hC dX4_sure_8 (by decide) (fun h_8 => ?_) (fun h_8 => ?_)
  · skip
    have hk := (neg_0 (kSure nin x y) (kWalks_lt nin x y)).mp h_8
    obtain ⟨h6, n, k, rfl, rfl, hn8, hkn⟩ := walks_0 hk
    refine g_aload_n hC dX4_sure_17 rfl rfl ?_
    refine g_iload_n hC dX4_sure_18 rfl ?_
    refine gi_X4_202 hC (is := [0]) (st := []) (c_X4_findWays u ro re lt len le la td fr ti pt st ke hi ik cu go num nin up fo hu hB (show n ≤ 8 by omega) hnum) dX4_sure_19 rfl ⟨by decide, by decide⟩ ⟨by decide, by decide⟩ rfl (by decide) rfl rfl rfl ?_
    refine g_iconst (v := nI (0)) hC dX4_sure_22 (by decide) ?_
    refine g_istore hC dX4_sure_23 (by decide) rfl ?_
    refine g_iconst (v := nI (0)) hC dX4_sure_25 (by decide) ?_
    refine g_istore hC dX4_sure_26 (by decide) rfl ?_
    have ho := Sure_ok (v := u) (num := num) hk
    rw [tn_n (show n < 2 ^ 31 by omega), tn_n (show k < 2 ^ 31 by omega)] at ho
    have loop : ∀ d j, j + d = 6 → G C 0 0 28 [aR 0 0 0, aI (nI (n)), aI (nI (k)), aK 9, aI (nI (maskOf (fun r => decide (0 < thru u num n k r)) j)), aI (nI (j))] [] [modW u ro re lt len le la td fr ti pt st ke hi ik cu go num nin (upF u num n up (n + 1) 0) (frF u num n fo 0)] := by
      intro d
      induction d with
      | zero =>
        intro j hj
        refine g_iload hC dX4_sure_28 rfl ?_
        refine g_bipush (v := nI (6)) hC dX4_sure_30 (by decide) ?_
        refine g_icmp_geN (tgt := 66) hC dX4_sure_32 (by decide) (by omega) (by omega) (fun h_32 => ?_) (fun h_32 => ?_)
        · skip
          refine g_iload hC dX4_sure_66 rfl ?_
          exact g_iret hC rfl dX4_sure_68 (⟨rV (by rw [ho, show j = 6 by omega]; rfl), by rw [ho]; exact ⟨_, _, _, _, _, _, _, _, _, _, _, _, _, fun _ _ => rfl, rfl⟩⟩)
        · skip
          omega
      | succ d ih =>
        intro j hj
        have hFj := thru_lt u num hn8 hkn (show j < 6 by omega)
        refine g_iload hC dX4_sure_28 rfl ?_
        refine g_bipush (v := nI (6)) hC dX4_sure_30 (by decide) ?_
        refine g_icmp_geN (tgt := 66) hC dX4_sure_32 (by decide) (by omega) (by omega) (fun h_32 => ?_) (fun h_32 => ?_)
        · skip
          omega
        · skip
          refine g_iload hC dX4_sure_35 rfl ?_
          refine g_aload_n hC dX4_sure_37 rfl rfl ?_
          refine g_iload_n hC dX4_sure_38 rfl ?_
          refine g_iload hC dX4_sure_39 rfl ?_
          refine gi_X4_208 hC (is := [0]) (st := [aI (nI (maskOf (fun r => decide (0 < thru u num n k r)) j))]) (c_X4_waysByT u ro re lt len le la td fr ti pt st ke hi ik cu go num nin up fo hkn hn8 (show j < 6 by omega)) dX4_sure_41 rfl ⟨by decide, by decide⟩ ⟨by decide, by decide⟩ rfl (by decide) rfl rfl rfl ?_
          refine g_lconst (v := lN 0) hC dX4_sure_44 (by decide) ?_
          refine g_lcmp (v := cmpI (thru u num n k j) 0) hC dX4_sure_45 (cmp_eq hFj (by decide)) ?_
          refine g_if_le (tgt := 56) hC dX4_sure_46 (by decide) (fun h_46 => ?_) (fun h_46 => ?_)
          · skip
            refine g_iconst (v := nI (0)) hC dX4_sure_56 (by decide) ?_
            refine g_ior (v := nI (maskOf (fun r => decide (0 < thru u num n k r)) j)) hC dX4_sure_57 (or_0 _ (maskOf_lt j (by omega))) ?_
            refine g_istore hC dX4_sure_58 (by decide) rfl ?_
            refine g_iincN hC dX4_sure_60 rfl (by decide) rfl ?_
            refine g_goto (tgt := 28) hC dX4_sure_63 (by decide) ?_
            refine g_mask [true, true, true, false, true, true] ?_
            have q := ih (j + 1) (by omega)
            rw [maskOf_f (p := (fun r => decide (0 < thru u num n k r))) (decide_eq_false (by have := cmp_le h_46; omega))] at q
            exact q
          · skip
            refine g_iconst (v := nI (1)) hC dX4_sure_49 (by decide) ?_
            refine g_iload hC dX4_sure_50 rfl ?_
            refine g_ishl hC dX4_sure_52 rfl ?_
            refine g_goto (tgt := 57) hC dX4_sure_53 (by decide) ?_
            refine g_ior (v := nI (maskOf (fun r => decide (0 < thru u num n k r)) j ||| (1 <<< j))) hC dX4_sure_57 (or_bit _ (maskOf_lt j (by omega)) _ (by omega)) ?_
            refine g_istore hC dX4_sure_58 (by decide) rfl ?_
            refine g_iincN hC dX4_sure_60 rfl (by decide) rfl ?_
            refine g_goto (tgt := 28) hC dX4_sure_63 (by decide) ?_
            refine g_mask [true, true, true, false, true, true] ?_
            have q := ih (j + 1) (by omega)
            rw [maskOf_t (p := (fun r => decide (0 < thru u num n k r))) (decide_eq_true (cmp_gt h_46))] at q
            exact q
    refine g_mask [true, true, true, false, true, true] ?_
    exact loop 6 0 (by omega)
  · skip
    have hk : kSure nin x y ≠ 0 := fun z => h_8 ((neg_0 (kSure nin x y) (kWalks_lt nin x y)).mpr z)
    refine g_aload_n hC dX4_sure_11 rfl rfl ?_
    refine g_iload_n hC dX4_sure_12 rfl ?_
    refine gi_X4_85 hC (is := [0]) (st := []) (c_X4_no u ro re lt len le la td fr ti pt st ke hi ik cu go num nin up fo (k := (kSure nin x y)) (kWalks_lt nin x y)) dX4_sure_13 rfl ⟨by decide, by decide⟩ ⟨by decide, by decide⟩ rfl (by decide) rfl rfl rfl ?_
    exact g_iret hC rfl dX4_sure_16 (⟨rV (by rw [Sure_no hk]; rfl), by rw [Sure_no hk]; exact ⟨_, _, _, _, _, _, _, _, _, _, _, _, _, fun _ _ => rfl, rfl⟩⟩)

