
set_option maxRecDepth 100000 in
set_option maxHeartbeats 4000000 in
theorem c_X4_followed_t (u : Vw) (ro re lt : Nat → Nat) (len : Nat) (le la : Nat → Nat) (td : Nat → Int32) (fr ti : Nat → Nat) (pt st : Nat) (ke : Nat → Int32) (hi ik : Bool) (cu : Nat) (go num : Nat → Nat) (nin : Nat) (up fo : Nat → Nat) {B : Nat} (hu : wf B u) (hB : B ≤ 200) {w : Nat} (hw : w < vN u) (hk : vKi u w = 4) : ConF yX4_followed cX4_followed 7 (some .int) 2 [aR 0 0 0, aI (nI (w))] [modW u ro re lt len le la td fr ti pt st ke hi ik cu go num nin up fo] (some (aI (nI (fol u w true 6).1))) [modW u ro re lt len le la td fr ti pt st ke hi ik cu go num nin up fo] := by
  refine con_of RX4 pn_X4 rfl rfl (Nat.le_of_ble_eq_true rfl) (fun C hM0 hC => ?_)
  show G C 0 0 0 [aR 0 0 0, aI (nI (w)), aK 9, aK 9, aK 9, aK 9, aK 9] [] [modW u ro re lt len le la td fr ti pt st ke hi ik cu go num nin up fo]
  have hn := wf_n hu
  have hpl := wf_pl hu w hw
  have hki := wf_ki hu w hw
  have loop : ∀ d k, k + d = 6 → G C 0 0 35 [aR 0 0 0, aI (nI (w)), aI (nI (vPl u w)), aI (nI ((fol u w true k).1)), aI (oI (-9) ((fol u w true k).2)), aI (nI (k)), aK 9] [] [modW u ro re lt len le la td fr ti pt st ke hi ik cu go num nin up fo] := by
    intro d
    induction d with
    | zero =>
      intro k hk
      refine g_iload hC dX4_followed_35 rfl ?_
      refine g_bipush (v := nI (6)) hC dX4_followed_37 (by decide) ?_
      refine g_icmp_geN (tgt := 132) hC dX4_followed_39 (by decide) (by omega) (by omega) (fun h_39 => ?_) (fun h_39 => ?_)
      · skip
        refine g_iload_n hC dX4_followed_132 rfl ?_
        exact g_iret hC rfl dX4_followed_133 (⟨rV (by rw [show k = 6 by omega]), rfl⟩)
      · skip
        omega
    | succ d ih =>
      intro k hk
      refine g_iload hC dX4_followed_35 rfl ?_
      refine g_bipush (v := nI (6)) hC dX4_followed_37 (by decide) ?_
      refine g_icmp_geN (tgt := 132) hC dX4_followed_39 (by decide) (by omega) (by omega) (fun h_39 => ?_) (fun h_39 => ?_)
      · skip
        omega
      · skip
        refine g_aload_n hC dX4_followed_42 rfl rfl ?_
        refine g_iload_n hC dX4_followed_43 rfl ?_
        refine g_iload hC dX4_followed_44 rfl ?_
        refine gi_X4_165 hC (is := [0]) (st := []) (c_X4_isPath u ro re lt len le la td fr ti pt st ke hi ik cu go num nin up fo hpl (show k < 6 by omega) (wf_pa hu _ hpl)) dX4_followed_46 rfl ⟨by decide, by decide⟩ ⟨by decide, by decide⟩ rfl (by decide) rfl rfl rfl ?_
        refine g_if_neB (tgt := 55) hC dX4_followed_49 (by decide) (fun h_49 => ?_) (fun h_49 => ?_)
        · skip
          refine g_aload_n hC dX4_followed_55 rfl rfl ?_
          refine g_iload hC dX4_followed_56 rfl ?_
          refine g_iload_n hC dX4_followed_58 rfl ?_
          refine g_aload_n hC dX4_followed_59 rfl rfl ?_
          refine gf_X4_kind hC dX4_followed_60 rfl rfl ?_
          refine g_iload_n hC dX4_followed_63 rfl ?_
          refine g_ialdN hC dX4_followed_64 rfl (by omega) (by decide) ?_
          refine g_iconst (v := nI (4)) hC dX4_followed_65 (by decide) ?_
          refine g_icmp_neN (tgt := 73) hC dX4_followed_66 (by decide) (by omega) (by omega) (fun h_66 => ?_) (fun h_66 => ?_)
          · skip
            omega
          · skip
            refine g_iconst (v := nI (1)) hC dX4_followed_69 (by decide) ?_
            refine g_goto (tgt := 74) hC dX4_followed_70 (by decide) ?_
            refine gi_X4_161 hC (is := [0]) (st := []) (c_X4_endAge u ro re lt len le la td fr ti pt st ke hi ik cu go num nin up fo hu hB (s := w) (as := nI w) (show k < 6 by omega) (fun k hk => nI_eq (by omega) (by omega)) true) dX4_followed_74 rfl ⟨by decide, by decide⟩ ⟨by decide, by decide⟩ rfl (by decide) rfl rfl rfl ?_
            refine g_istore hC dX4_followed_77 (by decide) rfl ?_
            refine g_iload hC dX4_followed_79 rfl ?_
            refine g_if_ltO (tgt := 126) hC dX4_followed_81 (by decide) (by decide) (fun m q => by have := ends_lt hu hB (show k < 6 by omega) _ m q; omega) (fun h_81 => ?_) (fun a h_81 => ?_)
            · skip
              refine g_iincN hC dX4_followed_126 rfl (by decide) rfl ?_
              refine g_goto (tgt := 35) hC dX4_followed_129 (by decide) ?_
              refine g_mask [true, true, true, true, true, true, false] ?_
              have q := ih (k + 1) (by omega)
              rw [fol_no2 (by rw [h_81]; rfl)] at q
              exact q
            · skip
              have hla := ends_lt hu hB (show k < 6 by omega) _ a h_81
              rw [h_81]
              show G C 0 0 84 [aR 0 0 0, aI (nI w), aI (nI (vPl u w)), aI (nI (fol u w true k).1), aI (oI (-9) (fol u w true k).2), aI (nI k), aI (nI a)] [] [modW u ro re lt len le la td fr ti pt st ke hi ik cu go num nin up fo]
              refine g_iload hC dX4_followed_84 rfl ?_
              refine g_if_ltO (tgt := 119) hC dX4_followed_86 (by decide) (by decide) (fun m q => by have := fol2_lt hu hB hw k (by omega) m q; omega) (fun h_86 => ?_) (fun b h_86 => ?_)
              · skip
                refine g_iload hC dX4_followed_119 rfl ?_
                refine g_istore_n hC dX4_followed_121 (by decide) rfl ?_
                refine g_iload hC dX4_followed_122 rfl ?_
                refine g_istore hC dX4_followed_124 (by decide) rfl ?_
                refine g_iincN hC dX4_followed_126 rfl (by decide) rfl ?_
                refine g_goto (tgt := 35) hC dX4_followed_129 (by decide) ?_
                refine g_mask [true, true, true, true, true, true, false] ?_
                have q := ih (k + 1) (by omega)
                rw [fol_up h_49 (by rw [h_81, h_86]; rfl), h_81] at q
                exact q
              · skip
                have hlb := fol2_lt hu hB hw k (by omega) b h_86
                rw [h_86]
                show G C 0 0 89 [aR 0 0 0, aI (nI w), aI (nI (vPl u w)), aI (nI (fol u w true k).1), aI (nI b), aI (nI k), aI (nI a)] [] [modW u ro re lt len le la td fr ti pt st ke hi ik cu go num nin up fo]
                refine g_aload_n hC dX4_followed_89 rfl rfl ?_
                refine gf_X4_kind hC dX4_followed_90 rfl rfl ?_
                refine g_iload_n hC dX4_followed_93 rfl ?_
                refine g_ialdN hC dX4_followed_94 rfl (by omega) (by decide) ?_
                refine g_iconst (v := nI (4)) hC dX4_followed_95 (by decide) ?_
                refine g_icmp_neN (tgt := 109) hC dX4_followed_96 (by decide) (by omega) (by omega) (fun h_96 => ?_) (fun h_96 => ?_)
                · skip
                  omega
                · skip
                  refine g_iload hC dX4_followed_99 rfl ?_
                  refine g_iload hC dX4_followed_101 rfl ?_
                  refine g_icmp_gtN (tgt := 119) hC dX4_followed_103 (by decide) (by omega) (by omega) (fun h_103 => ?_) (fun h_103 => ?_)
                  · skip
                    refine g_iload hC dX4_followed_119 rfl ?_
                    refine g_istore_n hC dX4_followed_121 (by decide) rfl ?_
                    refine g_iload hC dX4_followed_122 rfl ?_
                    refine g_istore hC dX4_followed_124 (by decide) rfl ?_
                    refine g_iincN hC dX4_followed_126 rfl (by decide) rfl ?_
                    refine g_goto (tgt := 35) hC dX4_followed_129 (by decide) ?_
                    refine g_mask [true, true, true, true, true, true, false] ?_
                    have q := ih (k + 1) (by omega)
                    rw [fol_up h_49 (by rw [h_81, h_86]; exact decide_eq_true (by omega)), h_81] at q
                    exact q
                  · skip
                    refine g_goto (tgt := 126) hC dX4_followed_106 (by decide) ?_
                    refine g_iincN hC dX4_followed_126 rfl (by decide) rfl ?_
                    refine g_goto (tgt := 35) hC dX4_followed_129 (by decide) ?_
                    refine g_mask [true, true, true, true, true, true, false] ?_
                    have q := ih (k + 1) (by omega)
                    rw [fol_no2 (by rw [h_81, h_86]; exact decide_eq_false (by omega)), h_86] at q
                    exact q
        · skip
          refine g_goto (tgt := 126) hC dX4_followed_52 (by decide) ?_
          refine g_iincN hC dX4_followed_126 rfl (by decide) rfl ?_
          refine g_goto (tgt := 35) hC dX4_followed_129 (by decide) ?_
          refine g_mask [true, true, true, true, true, true, false] ?_
          have q := ih (k + 1) (by omega)
          rw [fol_no1 h_49] at q
          exact q
  refine g_aload_n hC dX4_followed_0 rfl rfl ?_
  refine gf_X4_place hC dX4_followed_1 rfl rfl ?_
  refine g_iload_n hC dX4_followed_4 rfl ?_
  refine g_ialdN hC dX4_followed_5 rfl (by omega) (by decide) ?_
  refine g_istore_n hC dX4_followed_6 (by decide) rfl ?_
  refine g_iload_n hC dX4_followed_7 rfl ?_
  refine g_istore_n hC dX4_followed_8 (by decide) rfl ?_
  refine g_aload_n hC dX4_followed_9 rfl rfl ?_
  refine g_iload_n hC dX4_followed_10 rfl ?_
  refine g_iload_n hC dX4_followed_11 rfl ?_
  refine g_aload_n hC dX4_followed_12 rfl rfl ?_
  refine gf_X4_kind hC dX4_followed_13 rfl rfl ?_
  refine g_iload_n hC dX4_followed_16 rfl ?_
  refine g_ialdN hC dX4_followed_17 rfl (by omega) (by decide) ?_
  refine g_iconst (v := nI (4)) hC dX4_followed_18 (by decide) ?_
  refine g_icmp_neN (tgt := 26) hC dX4_followed_19 (by decide) (by omega) (by omega) (fun h_19 => ?_) (fun h_19 => ?_)
  · skip
    omega
  · skip
    refine g_iconst (v := nI (1)) hC dX4_followed_22 (by decide) ?_
    refine g_goto (tgt := 27) hC dX4_followed_23 (by decide) ?_
    refine gi_X4_161 hC (is := [0]) (st := []) (c_X4_endAge u ro re lt len le la td fr ti pt st ke hi ik cu go num nin up fo hu hB (s := w) (as := nI w) hpl (fun k hk => nI_eq (by omega) (by omega)) true) dX4_followed_27 rfl ⟨by decide, by decide⟩ ⟨by decide, by decide⟩ rfl (by decide) rfl rfl rfl ?_
    refine g_istore hC dX4_followed_30 (by decide) rfl ?_
    refine g_iconst (v := nI (0)) hC dX4_followed_32 (by decide) ?_
    refine g_istore hC dX4_followed_33 (by decide) rfl ?_
    refine g_mask [true, true, true, true, true, true, false] ?_
    exact loop 6 0 (by omega)

set_option maxRecDepth 100000 in
set_option maxHeartbeats 4000000 in
theorem c_X4_followed_f (u : Vw) (ro re lt : Nat → Nat) (len : Nat) (le la : Nat → Nat) (td : Nat → Int32) (fr ti : Nat → Nat) (pt st : Nat) (ke : Nat → Int32) (hi ik : Bool) (cu : Nat) (go num : Nat → Nat) (nin : Nat) (up fo : Nat → Nat) {B : Nat} (hu : wf B u) (hB : B ≤ 200) {w : Nat} (hw : w < vN u) (hk : vKi u w ≠ 4) : ConF yX4_followed cX4_followed 7 (some .int) 2 [aR 0 0 0, aI (nI (w))] [modW u ro re lt len le la td fr ti pt st ke hi ik cu go num nin up fo] (some (aI (nI (fol u w false 6).1))) [modW u ro re lt len le la td fr ti pt st ke hi ik cu go num nin up fo] := by
  refine con_of RX4 pn_X4 rfl rfl (Nat.le_of_ble_eq_true rfl) (fun C hM0 hC => ?_)
  show G C 0 0 0 [aR 0 0 0, aI (nI (w)), aK 9, aK 9, aK 9, aK 9, aK 9] [] [modW u ro re lt len le la td fr ti pt st ke hi ik cu go num nin up fo]
  have hn := wf_n hu
  have hpl := wf_pl hu w hw
  have hki := wf_ki hu w hw
  have loop : ∀ d k, k + d = 6 → G C 0 0 35 [aR 0 0 0, aI (nI (w)), aI (nI (vPl u w)), aI (nI ((fol u w false k).1)), aI (oI (-9) ((fol u w false k).2)), aI (nI (k)), aK 9] [] [modW u ro re lt len le la td fr ti pt st ke hi ik cu go num nin up fo] := by
    intro d
    induction d with
    | zero =>
      intro k hk
      refine g_iload hC dX4_followed_35 rfl ?_
      refine g_bipush (v := nI (6)) hC dX4_followed_37 (by decide) ?_
      refine g_icmp_geN (tgt := 132) hC dX4_followed_39 (by decide) (by omega) (by omega) (fun h_39 => ?_) (fun h_39 => ?_)
      · skip
        refine g_iload_n hC dX4_followed_132 rfl ?_
        exact g_iret hC rfl dX4_followed_133 (⟨rV (by rw [show k = 6 by omega]), rfl⟩)
      · skip
        omega
    | succ d ih =>
      intro k hk
      refine g_iload hC dX4_followed_35 rfl ?_
      refine g_bipush (v := nI (6)) hC dX4_followed_37 (by decide) ?_
      refine g_icmp_geN (tgt := 132) hC dX4_followed_39 (by decide) (by omega) (by omega) (fun h_39 => ?_) (fun h_39 => ?_)
      · skip
        omega
      · skip
        refine g_aload_n hC dX4_followed_42 rfl rfl ?_
        refine g_iload_n hC dX4_followed_43 rfl ?_
        refine g_iload hC dX4_followed_44 rfl ?_
        refine gi_X4_165 hC (is := [0]) (st := []) (c_X4_isPath u ro re lt len le la td fr ti pt st ke hi ik cu go num nin up fo hpl (show k < 6 by omega) (wf_pa hu _ hpl)) dX4_followed_46 rfl ⟨by decide, by decide⟩ ⟨by decide, by decide⟩ rfl (by decide) rfl rfl rfl ?_
        refine g_if_neB (tgt := 55) hC dX4_followed_49 (by decide) (fun h_49 => ?_) (fun h_49 => ?_)
        · skip
          refine g_aload_n hC dX4_followed_55 rfl rfl ?_
          refine g_iload hC dX4_followed_56 rfl ?_
          refine g_iload_n hC dX4_followed_58 rfl ?_
          refine g_aload_n hC dX4_followed_59 rfl rfl ?_
          refine gf_X4_kind hC dX4_followed_60 rfl rfl ?_
          refine g_iload_n hC dX4_followed_63 rfl ?_
          refine g_ialdN hC dX4_followed_64 rfl (by omega) (by decide) ?_
          refine g_iconst (v := nI (4)) hC dX4_followed_65 (by decide) ?_
          refine g_icmp_neN (tgt := 73) hC dX4_followed_66 (by decide) (by omega) (by omega) (fun h_66 => ?_) (fun h_66 => ?_)
          · skip
            refine g_iconst (v := nI (0)) hC dX4_followed_73 (by decide) ?_
            refine gi_X4_161 hC (is := [0]) (st := []) (c_X4_endAge u ro re lt len le la td fr ti pt st ke hi ik cu go num nin up fo hu hB (s := w) (as := nI w) (show k < 6 by omega) (fun k hk => nI_eq (by omega) (by omega)) false) dX4_followed_74 rfl ⟨by decide, by decide⟩ ⟨by decide, by decide⟩ rfl (by decide) rfl rfl rfl ?_
            refine g_istore hC dX4_followed_77 (by decide) rfl ?_
            refine g_iload hC dX4_followed_79 rfl ?_
            refine g_if_ltO (tgt := 126) hC dX4_followed_81 (by decide) (by decide) (fun m q => by have := ends_lt hu hB (show k < 6 by omega) _ m q; omega) (fun h_81 => ?_) (fun a h_81 => ?_)
            · skip
              refine g_iincN hC dX4_followed_126 rfl (by decide) rfl ?_
              refine g_goto (tgt := 35) hC dX4_followed_129 (by decide) ?_
              refine g_mask [true, true, true, true, true, true, false] ?_
              have q := ih (k + 1) (by omega)
              rw [fol_no2 (by rw [h_81]; rfl)] at q
              exact q
            · skip
              have hla := ends_lt hu hB (show k < 6 by omega) _ a h_81
              rw [h_81]
              show G C 0 0 84 [aR 0 0 0, aI (nI w), aI (nI (vPl u w)), aI (nI (fol u w false k).1), aI (oI (-9) (fol u w false k).2), aI (nI k), aI (nI a)] [] [modW u ro re lt len le la td fr ti pt st ke hi ik cu go num nin up fo]
              refine g_iload hC dX4_followed_84 rfl ?_
              refine g_if_ltO (tgt := 119) hC dX4_followed_86 (by decide) (by decide) (fun m q => by have := fol2_lt hu hB hw k (by omega) m q; omega) (fun h_86 => ?_) (fun b h_86 => ?_)
              · skip
                refine g_iload hC dX4_followed_119 rfl ?_
                refine g_istore_n hC dX4_followed_121 (by decide) rfl ?_
                refine g_iload hC dX4_followed_122 rfl ?_
                refine g_istore hC dX4_followed_124 (by decide) rfl ?_
                refine g_iincN hC dX4_followed_126 rfl (by decide) rfl ?_
                refine g_goto (tgt := 35) hC dX4_followed_129 (by decide) ?_
                refine g_mask [true, true, true, true, true, true, false] ?_
                have q := ih (k + 1) (by omega)
                rw [fol_up h_49 (by rw [h_81, h_86]; rfl), h_81] at q
                exact q
              · skip
                have hlb := fol2_lt hu hB hw k (by omega) b h_86
                rw [h_86]
                show G C 0 0 89 [aR 0 0 0, aI (nI w), aI (nI (vPl u w)), aI (nI (fol u w false k).1), aI (nI b), aI (nI k), aI (nI a)] [] [modW u ro re lt len le la td fr ti pt st ke hi ik cu go num nin up fo]
                refine g_aload_n hC dX4_followed_89 rfl rfl ?_
                refine gf_X4_kind hC dX4_followed_90 rfl rfl ?_
                refine g_iload_n hC dX4_followed_93 rfl ?_
                refine g_ialdN hC dX4_followed_94 rfl (by omega) (by decide) ?_
                refine g_iconst (v := nI (4)) hC dX4_followed_95 (by decide) ?_
                refine g_icmp_neN (tgt := 109) hC dX4_followed_96 (by decide) (by omega) (by omega) (fun h_96 => ?_) (fun h_96 => ?_)
                · skip
                  refine g_iload hC dX4_followed_109 rfl ?_
                  refine g_iload hC dX4_followed_111 rfl ?_
                  refine g_icmp_ltN (tgt := 119) hC dX4_followed_113 (by decide) (by omega) (by omega) (fun h_113 => ?_) (fun h_113 => ?_)
                  · skip
                    refine g_iload hC dX4_followed_119 rfl ?_
                    refine g_istore_n hC dX4_followed_121 (by decide) rfl ?_
                    refine g_iload hC dX4_followed_122 rfl ?_
                    refine g_istore hC dX4_followed_124 (by decide) rfl ?_
                    refine g_iincN hC dX4_followed_126 rfl (by decide) rfl ?_
                    refine g_goto (tgt := 35) hC dX4_followed_129 (by decide) ?_
                    refine g_mask [true, true, true, true, true, true, false] ?_
                    have q := ih (k + 1) (by omega)
                    rw [fol_up h_49 (by rw [h_81, h_86]; exact decide_eq_true (by omega)), h_81] at q
                    exact q
                  · skip
                    refine g_goto (tgt := 126) hC dX4_followed_116 (by decide) ?_
                    refine g_iincN hC dX4_followed_126 rfl (by decide) rfl ?_
                    refine g_goto (tgt := 35) hC dX4_followed_129 (by decide) ?_
                    refine g_mask [true, true, true, true, true, true, false] ?_
                    have q := ih (k + 1) (by omega)
                    rw [fol_no2 (by rw [h_81, h_86]; exact decide_eq_false (by omega)), h_86] at q
                    exact q
                · skip
                  omega
          · skip
            omega
        · skip
          refine g_goto (tgt := 126) hC dX4_followed_52 (by decide) ?_
          refine g_iincN hC dX4_followed_126 rfl (by decide) rfl ?_
          refine g_goto (tgt := 35) hC dX4_followed_129 (by decide) ?_
          refine g_mask [true, true, true, true, true, true, false] ?_
          have q := ih (k + 1) (by omega)
          rw [fol_no1 h_49] at q
          exact q
  refine g_aload_n hC dX4_followed_0 rfl rfl ?_
  refine gf_X4_place hC dX4_followed_1 rfl rfl ?_
  refine g_iload_n hC dX4_followed_4 rfl ?_
  refine g_ialdN hC dX4_followed_5 rfl (by omega) (by decide) ?_
  refine g_istore_n hC dX4_followed_6 (by decide) rfl ?_
  refine g_iload_n hC dX4_followed_7 rfl ?_
  refine g_istore_n hC dX4_followed_8 (by decide) rfl ?_
  refine g_aload_n hC dX4_followed_9 rfl rfl ?_
  refine g_iload_n hC dX4_followed_10 rfl ?_
  refine g_iload_n hC dX4_followed_11 rfl ?_
  refine g_aload_n hC dX4_followed_12 rfl rfl ?_
  refine gf_X4_kind hC dX4_followed_13 rfl rfl ?_
  refine g_iload_n hC dX4_followed_16 rfl ?_
  refine g_ialdN hC dX4_followed_17 rfl (by omega) (by decide) ?_
  refine g_iconst (v := nI (4)) hC dX4_followed_18 (by decide) ?_
  refine g_icmp_neN (tgt := 26) hC dX4_followed_19 (by decide) (by omega) (by omega) (fun h_19 => ?_) (fun h_19 => ?_)
  · skip
    refine g_iconst (v := nI (0)) hC dX4_followed_26 (by decide) ?_
    refine gi_X4_161 hC (is := [0]) (st := []) (c_X4_endAge u ro re lt len le la td fr ti pt st ke hi ik cu go num nin up fo hu hB (s := w) (as := nI w) hpl (fun k hk => nI_eq (by omega) (by omega)) false) dX4_followed_27 rfl ⟨by decide, by decide⟩ ⟨by decide, by decide⟩ rfl (by decide) rfl rfl rfl ?_
    refine g_istore hC dX4_followed_30 (by decide) rfl ?_
    refine g_iconst (v := nI (0)) hC dX4_followed_32 (by decide) ?_
    refine g_istore hC dX4_followed_33 (by decide) rfl ?_
    refine g_mask [true, true, true, true, true, true, false] ?_
    exact loop 6 0 (by omega)
  · skip
    omega

set_option maxRecDepth 100000 in
set_option maxHeartbeats 4000000 in
theorem c_X4_wouldGo (u : Vw) (ro re lt : Nat → Nat) (len : Nat) (le la : Nat → Nat) (td : Nat → Int32) (fr ti : Nat → Nat) (pt st : Nat) (ke : Nat → Int32) (hi ik : Bool) (cu : Nat) (go num : Nat → Nat) (nin : Nat) (up fo : Nat → Nat) {B : Nat} (hu : wf B u) (hB : B ≤ 200) {w : Nat} (hw : w < vN u) : ConF yX4_wouldGo cX4_wouldGo 3 (some .int) 3 [aR 0 0 0, aI (nI (w))] [modW u ro re lt len le la td fr ti pt st ke hi ik cu go num nin up fo] (some (aI (nI (goal u w)))) [modW u ro re lt len le la td fr ti pt st ke hi ik cu go num nin up fo] := by
  refine con_of RX4 pn_X4 rfl rfl (Nat.le_of_ble_eq_true rfl) (fun C hM0 hC => ?_)
  show G C 0 0 0 [aR 0 0 0, aI (nI (w)), aK 9] [] [modW u ro re lt len le la td fr ti pt st ke hi ik cu go num nin up fo]
  have hn := wf_n hu
  have hpl := wf_pl hu w hw
  have hki := wf_ki hu w hw
  have hpL := wf_pL hu w hw
  have hmi := wf_mi hu
  refine g_aload_n hC dX4_wouldGo_0 rfl rfl ?_
  refine gf_X4_kind hC dX4_wouldGo_1 rfl rfl ?_
  refine g_iload_n hC dX4_wouldGo_4 rfl ?_
  refine g_ialdN hC dX4_wouldGo_5 rfl (by omega) (by decide) ?_
  refine g_iconst (v := nI (2)) hC dX4_wouldGo_6 (by decide) ?_
  refine g_icmp_eqN (tgt := 20) hC dX4_wouldGo_7 (by decide) (by omega) (by omega) (fun h_7 => ?_) (fun h_7 => ?_)
  · skip
    refine g_aload_n hC dX4_wouldGo_20 rfl rfl ?_
    refine g_iload_n hC dX4_wouldGo_21 rfl ?_
    refine gi_X4_168 hC (is := [0]) (st := []) (c_X4_followed_f u ro re lt len le la td fr ti pt st ke hi ik cu go num nin up fo hu hB hw (by omega)) dX4_wouldGo_22 rfl ⟨by decide, by decide⟩ ⟨by decide, by decide⟩ rfl (by decide) rfl rfl rfl ?_
    exact g_iret hC rfl dX4_wouldGo_25 (⟨rV (by unfold goal; rw [if_pos h_7]), rfl⟩)
  · skip
    refine g_aload_n hC dX4_wouldGo_10 rfl rfl ?_
    refine gf_X4_kind hC dX4_wouldGo_11 rfl rfl ?_
    refine g_iload_n hC dX4_wouldGo_14 rfl ?_
    refine g_ialdN hC dX4_wouldGo_15 rfl (by omega) (by decide) ?_
    refine g_iconst (v := nI (4)) hC dX4_wouldGo_16 (by decide) ?_
    refine g_icmp_neN (tgt := 26) hC dX4_wouldGo_17 (by decide) (by omega) (by omega) (fun h_17 => ?_) (fun h_17 => ?_)
    · skip
      refine g_aload_n hC dX4_wouldGo_26 rfl rfl ?_
      refine gf_X4_planLong hC dX4_wouldGo_27 rfl rfl ?_
      refine g_iload_n hC dX4_wouldGo_30 rfl ?_
      refine g_ialdN hC dX4_wouldGo_31 rfl (by omega) (by decide) ?_
      refine g_if_neN (tgt := 42) hC dX4_wouldGo_32 (by decide) (by omega) (fun h_32 => ?_) (fun h_32 => ?_)
      · skip
        have hmod : vMi u % vPL u w < vPL u w := Nat.mod_lt _ (by omega)
        have hpp := wf_pp hu w hw _ hmod
        refine g_aload_n hC dX4_wouldGo_42 rfl rfl ?_
        refine gf_X4_plan hC dX4_wouldGo_43 rfl rfl ?_
        refine g_bipush (v := nI (6)) hC dX4_wouldGo_46 (by decide) ?_
        refine g_iload_n hC dX4_wouldGo_48 rfl ?_
        refine g_imulN hC dX4_wouldGo_49 ?_
        refine g_aload_n hC dX4_wouldGo_50 rfl rfl ?_
        refine gf_X4_minute hC dX4_wouldGo_51 rfl rfl ?_
        refine g_aload_n hC dX4_wouldGo_54 rfl rfl ?_
        refine gf_X4_planLong hC dX4_wouldGo_55 rfl rfl ?_
        refine g_iload_n hC dX4_wouldGo_58 rfl ?_
        refine g_ialdN hC dX4_wouldGo_59 rfl (by omega) (by decide) ?_
        refine g_iremN hC dX4_wouldGo_60 (by omega) (by omega) (by omega) ?_
        refine g_iaddN hC dX4_wouldGo_61 ?_
        refine g_ialdFN (w := w) (r := (vMi u) % (vPL u w)) hC dX4_wouldGo_62 rfl (by omega) (by omega) ?_
        refine g_istore_n hC dX4_wouldGo_63 (by decide) rfl ?_
        refine g_aload_n hC dX4_wouldGo_64 rfl rfl ?_
        refine g_aload_n hC dX4_wouldGo_65 rfl rfl ?_
        refine gf_X4_place hC dX4_wouldGo_66 rfl rfl ?_
        refine g_iload_n hC dX4_wouldGo_69 rfl ?_
        refine g_ialdN hC dX4_wouldGo_70 rfl (by omega) (by decide) ?_
        refine g_iload_n hC dX4_wouldGo_71 rfl ?_
        refine gi_X4_165 hC (is := [0]) (st := []) (c_X4_isPath u ro re lt len le la td fr ti pt st ke hi ik cu go num nin up fo hpl hpp (wf_pa hu _ hpl)) dX4_wouldGo_72 rfl ⟨by decide, by decide⟩ ⟨by decide, by decide⟩ rfl (by decide) rfl rfl rfl ?_
        refine g_if_eqB (tgt := 82) hC dX4_wouldGo_75 (by decide) (fun h_75 => ?_) (fun h_75 => ?_)
        · skip
          refine g_aload_n hC dX4_wouldGo_82 rfl rfl ?_
          refine gf_X4_place hC dX4_wouldGo_83 rfl rfl ?_
          refine g_iload_n hC dX4_wouldGo_86 rfl ?_
          refine g_ialdN hC dX4_wouldGo_87 rfl (by omega) (by decide) ?_
          exact g_iret hC rfl dX4_wouldGo_88 (⟨rV (by unfold goal planned; rw [if_neg h_7, if_neg h_17, if_neg h_32, h_75]; rfl), rfl⟩)
        · skip
          refine g_iload_n hC dX4_wouldGo_78 rfl ?_
          refine g_goto (tgt := 88) hC dX4_wouldGo_79 (by decide) ?_
          exact g_iret hC rfl dX4_wouldGo_88 (⟨rV (by unfold goal planned; rw [if_neg h_7, if_neg h_17, if_neg h_32, h_75]; rfl), rfl⟩)
      · skip
        refine g_aload_n hC dX4_wouldGo_35 rfl rfl ?_
        refine gf_X4_place hC dX4_wouldGo_36 rfl rfl ?_
        refine g_iload_n hC dX4_wouldGo_39 rfl ?_
        refine g_ialdN hC dX4_wouldGo_40 rfl (by omega) (by decide) ?_
        exact g_iret hC rfl dX4_wouldGo_41 (⟨rV (by unfold goal planned; rw [if_neg h_7, if_neg h_17, if_pos h_32]), rfl⟩)
    · skip
      refine g_aload_n hC dX4_wouldGo_20 rfl rfl ?_
      refine g_iload_n hC dX4_wouldGo_21 rfl ?_
      refine gi_X4_168 hC (is := [0]) (st := []) (c_X4_followed_t u ro re lt len le la td fr ti pt st ke hi ik cu go num nin up fo hu hB hw (by omega)) dX4_wouldGo_22 rfl ⟨by decide, by decide⟩ ⟨by decide, by decide⟩ rfl (by decide) rfl rfl rfl ?_
      exact g_iret hC rfl dX4_wouldGo_25 (⟨rV (by unfold goal; rw [if_neg h_7, if_pos h_17]), rfl⟩)

