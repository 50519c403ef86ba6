/-! ===== the law's loop ===== -/
theorem and31 (x : Int32) : ∃ k, k < 32 ∧ x &&& 31 = nI k := by
  refine ⟨(x &&& 31).toBitVec.toNat, ?_, ?_⟩
  · rw [Int32.toBitVec_and, BitVec.toNat_and]
    exact Nat.lt_of_le_of_lt Nat.and_le_right (by decide)
  · apply Int32.toBitVec_inj.mp
    show _ = BitVec.ofNat 32 _
    rw [BitVec.ofNat_toNat]
    simp
theorem lw_more {L i : Nat} (hL : L ≤ 2048) (hi : i ≤ L) (h : ¬ nI L - nI 4 < nI i) : i + 4 ≤ L := by
  by_cases q : 4 ≤ L
  · rw [pk_sub q] at h
    have h1 := Int32.le_iff_toInt_le.mp (Int32.not_lt.mp h)
    rw [nI_toInt (by omega), nI_toInt (by omega)] at h1
    omega
  · refine absurd ?_ h
    rw [Int32.lt_iff_toInt_lt, nI_toInt (by omega)]
    have z : (nI L - nI 4).toInt < 0 := by
      rcases (by omega : L = 0 ∨ L = 1 ∨ L = 2 ∨ L = 3) with rfl | rfl | rfl | rfl <;> decide
    omega
set_option maxRecDepth 100000 in
set_option maxHeartbeats 4000000 in
/-- one of the cases, or none -/
theorem lw_case {C : Cx} {L : Nat} {xs : Nat → Int32} (hC : Ok C cL_law RL 4 room_1 (EL C L xs)) (hL : L ≤ 2048) {i k : Nat} (hi : i + 3 < L) (hk : k < 32) {M : AM} (hI : Inv M) (kk : ∀ M', Inv M' → G C 99 1346 894 (lwL i) [] M') : G C 99 1346 32 (lwL i) [aI (nI k)] M := by
  rcases (by omega : k = 0 ∨ k = 1 ∨ k = 2 ∨ k = 3 ∨ k = 4 ∨ k = 5 ∨ k = 6 ∨ k = 7 ∨ k = 8 ∨ k = 9 ∨ k = 10 ∨ k = 11 ∨ k = 12 ∨ k = 13 ∨ k = 14 ∨ k = 15 ∨ k = 16 ∨ k = 17 ∨ k = 18 ∨ k = 19 ∨ k = 20 ∨ k = 21 ∨ k = 22 ∨ k = 23 ∨ k = 24 ∨ k = 25 ∨ k = 26 ∨ k = 27 ∨ 28 ≤ k) with rfl | rfl | rfl | rfl | rfl | rfl | rfl | rfl | rfl | rfl | rfl | rfl | rfl | rfl | rfl | rfl | rfl | rfl | rfl | rfl | rfl | rfl | rfl | rfl | rfl | rfl | rfl | rfl | hk2
  · exact g_tabIn (off := 128) (tgt := 160) hC dL_law_32 (by decide) (by decide) rfl (by decide) (lo_letter hC hL hi hI kk)
  · exact g_tabIn (off := 151) (tgt := 183) hC dL_law_32 (by decide) (by decide) rfl (by decide) (lo_town hC hL hi hI kk)
  · exact g_tabIn (off := 164) (tgt := 196) hC dL_law_32 (by decide) (by decide) rfl (by decide) (lo_room hC hL hi hI kk)
  · exact g_tabIn (off := 197) (tgt := 229) hC dL_law_32 (by decide) (by decide) rfl (by decide) (lo_walker hC hL hi hI kk)
  · exact g_tabIn (off := 230) (tgt := 262) hC dL_law_32 (by decide) (by decide) rfl (by decide) (lo_put hC hL hi hI kk)
  · exact g_tabIn (off := 263) (tgt := 295) hC dL_law_32 (by decide) (by decide) rfl (by decide) (lo_wind hC hL hi hI kk)
  · exact g_tabIn (off := 296) (tgt := 328) hC dL_law_32 (by decide) (by decide) rfl (by decide) (lo_nose hC hL hi hI kk)
  · exact g_tabIn (off := 319) (tgt := 351) hC dL_law_32 (by decide) (by decide) rfl (by decide) (lo_pass hC hL hi hI kk)
  · exact g_tabIn (off := 342) (tgt := 374) hC dL_law_32 (by decide) (by decide) rfl (by decide) (lo_rain hC hL hi hI kk)
  · exact g_tabIn (off := 355) (tgt := 387) hC dL_law_32 (by decide) (by decide) rfl (by decide) (lo_age hC hL hi hI kk)
  · exact g_tabIn (off := 388) (tgt := 420) hC dL_law_32 (by decide) (by decide) rfl (by decide) (lo_smelt hC hL hi hI kk)
  · exact g_tabIn (off := 421) (tgt := 453) hC dL_law_32 (by decide) (by decide) rfl (by decide) (lo_behind hC hL hi hI kk)
  · exact g_tabIn (off := 454) (tgt := 486) hC dL_law_32 (by decide) (by decide) rfl (by decide) (lo_freshest hC hL hi hI kk)
  · exact g_tabIn (off := 487) (tgt := 519) hC dL_law_32 (by decide) (by decide) rfl (by decide) (lo_meet hC hL hi hI kk)
  · exact g_tabIn (off := 520) (tgt := 552) hC dL_law_32 (by decide) (by decide) rfl (by decide) (lo_scented hC hL hi hI kk)
  · exact g_tabIn (off := 543) (tgt := 575) hC dL_law_32 (by decide) (by decide) rfl (by decide) (lo_walked hC hL hi hI kk)
  · exact g_tabIn (off := 566) (tgt := 598) hC dL_law_32 (by decide) (by decide) rfl (by decide) (lo_likeliest hC hL hi hI kk)
  · exact g_tabIn (off := 599) (tgt := 631) hC dL_law_32 (by decide) (by decide) rfl (by decide) (lo_sure hC hL hi hI kk)
  · exact g_tabIn (off := 632) (tgt := 664) hC dL_law_32 (by decide) (by decide) rfl (by decide) (lo_across hC hL hi hI kk)
  · exact g_tabIn (off := 665) (tgt := 697) hC dL_law_32 (by decide) (by decide) rfl (by decide) (lo_covered hC hL hi hI kk)
  · exact g_tabIn (off := 698) (tgt := 730) hC dL_law_32 (by decide) (by decide) rfl (by decide) (lo_told hC hL hi hI kk)
  · exact g_tabIn (off := 721) (tgt := 753) hC dL_law_32 (by decide) (by decide) rfl (by decide) (lo_row hC hL hi hI kk)
  · exact g_tabIn (off := 744) (tgt := 776) hC dL_law_32 (by decide) (by decide) rfl (by decide) (lo_judge hC hL hi hI kk)
  · exact g_tabIn (off := 757) (tgt := 789) hC dL_law_32 (by decide) (by decide) rfl (by decide) (lo_clear hC hL hi hI kk)
  · exact g_tabIn (off := 770) (tgt := 802) hC dL_law_32 (by decide) (by decide) rfl (by decide) (lo_seeds hC hL hi hI kk)
  · exact g_tabIn (off := 813) (tgt := 845) hC dL_law_32 (by decide) (by decide) rfl (by decide) (lo_image hC hL hi hI kk)
  · exact g_tabIn (off := 826) (tgt := 858) hC dL_law_32 (by decide) (by decide) rfl (by decide) (lo_on hC hL hi hI kk)
  · exact g_tabIn (off := 839) (tgt := 871) hC dL_law_32 (by decide) (by decide) rfl (by decide) (lo_count hC hL hi hI kk)
  · exact g_tabOut (tgt := 894) hC dL_law_32 (Or.inr (by rw [nI_toInt (by omega)]; omega)) (by decide) (kk _ hI)
theorem lw_loop {C : Cx} {L : Nat} {xs : Nat → Int32} (hC : Ok C cL_law RL 4 room_1 (EL C L xs)) (hL : L ≤ 2048) : ∀ (n i : Nat) (M : AM), i ≤ L → L ≤ i + n → Inv M → G C 99 1346 18 (lwL i) [] M := by
  intro n
  induction n with
  | zero =>
    intro i M h1 h2 hI
    refine g_iload_n hC dL_law_18 rfl ?_
    refine g_aload_n hC dL_law_19 rfl rfl ?_
    refine g_slen hC dL_law_20 ?_
    refine g_iconst (v := nI 4) hC dL_law_21 rfl ?_
    refine g_isub hC dL_law_22 rfl ?_
    refine g_icmp_gt (tgt := 900) hC dL_law_23 (by decide) (fun _ => ?_) (fun q => absurd (lw_more hL h1 q) (by omega))
    refine g_iconst (v := 1) hC dL_law_900 rfl ?_
    exact g_lawret hC (by decide) (by decide) dL_law_901
  | succ n ih =>
    intro i M h1 h2 hI
    refine g_iload_n hC dL_law_18 rfl ?_
    refine g_aload_n hC dL_law_19 rfl rfl ?_
    refine g_slen hC dL_law_20 ?_
    refine g_iconst (v := nI 4) hC dL_law_21 rfl ?_
    refine g_isub hC dL_law_22 rfl ?_
    refine g_icmp_gt (tgt := 900) hC dL_law_23 (by decide) (fun _ => ?_) (fun q => ?_)
    · refine g_iconst (v := 1) hC dL_law_900 rfl ?_
      exact g_lawret hC (by decide) (by decide) dL_law_901
    · have h4 := lw_more hL h1 q
      obtain ⟨k, hk, ek⟩ := and31 (xs i)
      refine g_aload_n hC dL_law_26 rfl rfl ?_
      refine g_iload_n hC dL_law_27 rfl ?_
      refine g_sld hC (by omega) hL dL_law_28 ?_
      refine g_bipush (v := 31) hC dL_law_29 rfl ?_
      refine g_iand (v := nI k) hC dL_law_31 ek ?_
      refine lw_case hC hL (by omega) hk hI (fun M' hI' => ?_)
      refine g_iinc (v := nI (i + 4)) hC dL_law_894 rfl (nI_add i 4) (by decide) rfl ?_
      refine g_goto (tgt := 18) hC dL_law_897 (by decide) ?_
      exact ih (i + 4) M' h4 (by omega) hI'
