theorem arr_no {v : Vw} {w g : Nat} (h : (vKi v w = 1 ∧ g ≠ vPl v w) ∨ vKi v w = 5) : arriveV v w g = uPl v (updN (vPl v) w g) := by
  unfold arriveV
  rw [if_neg (by rcases h with h | h <;> simp [h])]
  rfl
theorem arr_yes {v : Vw} {w g : Nat} (h : (vKi v w = 1 ∧ g = vPl v w) ∨ (vKi v w ≠ 1 ∧ vKi v w ≠ 5)) : arriveV v w g = uLf (uPl v (updN (vPl v) w g)) (upd2N (vLf v) w g (some (vMi v))) := by
  unfold arriveV
  rw [if_pos (by rcases h with h | h <;> simp [h])]

set_option maxRecDepth 100000 in
set_option maxHeartbeats 4000000 in
theorem c_X4_goesMinute (u : Vw) (ro re lt : Nat → Nat) (len : Nat) (le la : Nat → Nat) (td : Nat → Int32) (fr ti : Nat → Nat) (pt st : Nat) (ke : Nat → Int32) (hi ik : Bool) (cu : Nat) (go num : Nat → Nat) (nin : Nat) (up fo : Nat → Nat) {B : Nat} (hu : wf B u) (hB : B ≤ 200) : ConF yX4_goesMinute cX4_goesMinute 3 none 4 [aR 0 0 0] [modW u ro re lt len le la td fr ti pt st ke hi ik cu go num nin up fo] none [modW (mstep u) ro re lt len le la td fr ti pt st ke hi ik cu (gk go u (vN u)) num nin up fo] := by
  refine con_of RX4 pn_X4 rfl rfl (Nat.le_of_ble_eq_true rfl) (fun C hM0 hC => ?_)
  show G C 0 0 0 [aR 0 0 0, aK 9, aK 9] [] [modW u ro re lt len le la td fr ti pt st ke hi ik cu go num nin up fo]
  have hn := wf_n hu
  have loop2 : ∀ d i, i + d = vN u → G C 0 0 39 [aR 0 0 0, aI (nI (i)), aK 9] [] [modW (arr u (goal u) i) ro re lt len le la td fr ti pt st ke hi ik cu (gk go u (vN u)) num nin up fo] := by
    intro d
    induction d with
    | zero =>
      intro i hi
      have hfn : vN (arr u (goal u) i) = vN u := rfl
      refine g_iload_n hC dX4_goesMinute_39 rfl ?_
      refine g_aload_n hC dX4_goesMinute_40 rfl rfl ?_
      refine gf_X4_walkers hC dX4_goesMinute_41 rfl rfl ?_
      refine g_icmp_geN (tgt := 133) hC dX4_goesMinute_44 (by decide) (by omega) (by omega) (fun h_44 => ?_) (fun h_44 => ?_)
      · skip
        exact g_vret hC rfl dX4_goesMinute_133 (⟨rfl, by rw [show i = vN u by omega]; rfl⟩)
      · skip
        omega
    | succ d ih =>
      intro i hi
      have hfn : vN (arr u (goal u) i) = vN u := rfl
      have hki := wf_ki hu i (by omega)
      have hpl := wf_pl hu i (by omega)
      have hgl := goal_lt (w := i) hu (by omega)
      have hkk : vKi (arr u (goal u) i) i = vKi u i := rfl
      have hgi : gk go u (vN u) i = goal u i := by unfold gk; rw [if_pos (by omega)]
      have hpi : vPl (arr u (goal u) i) i = vPl u i := by show (if i < i then _ else vPl u i) = _; simp
      refine g_iload_n hC dX4_goesMinute_39 rfl ?_
      refine g_aload_n hC dX4_goesMinute_40 rfl rfl ?_
      refine gf_X4_walkers hC dX4_goesMinute_41 rfl rfl ?_
      refine g_icmp_geN (tgt := 133) hC dX4_goesMinute_44 (by decide) (by omega) (by omega) (fun h_44 => ?_) (fun h_44 => ?_)
      · skip
        omega
      · skip
        refine g_aload_n hC dX4_goesMinute_47 rfl rfl ?_
        refine gf_X4_going hC dX4_goesMinute_48 rfl rfl ?_
        refine g_iload_n hC dX4_goesMinute_51 rfl ?_
        refine g_iald (v := nI (goal u i)) hC dX4_goesMinute_52 rfl rfl (by omega) (by decide) (by show nI (gk go u (vN u) i) = _; rw [hgi]) ?_
        refine g_aload_n hC dX4_goesMinute_53 rfl rfl ?_
        refine gf_X4_place hC dX4_goesMinute_54 rfl rfl ?_
        refine g_iload_n hC dX4_goesMinute_57 rfl ?_
        refine g_iald (v := nI (vPl u i)) hC dX4_goesMinute_58 rfl rfl (by omega) (by decide) (by show nI (vPl (arr u (goal u) i) i) = _; rw [hpi]) ?_
        refine g_icmp_neN (tgt := 66) hC dX4_goesMinute_59 (by decide) (by omega) (by omega) (fun h_59 => ?_) (fun h_59 => ?_)
        · skip
          refine g_iconst (v := nI (0)) hC dX4_goesMinute_66 (by decide) ?_
          refine g_istore_n hC dX4_goesMinute_67 (by decide) rfl ?_
          refine g_aload_n hC dX4_goesMinute_68 rfl rfl ?_
          refine gf_X4_place hC dX4_goesMinute_69 rfl rfl ?_
          refine g_iload_n hC dX4_goesMinute_72 rfl ?_
          refine g_aload_n hC dX4_goesMinute_73 rfl rfl ?_
          refine gf_X4_going hC dX4_goesMinute_74 rfl rfl ?_
          refine g_iload_n hC dX4_goesMinute_77 rfl ?_
          refine g_iald (v := nI (goal u i)) hC dX4_goesMinute_78 rfl rfl (by omega) (by decide) (by show nI (gk go u (vN u) i) = _; rw [hgi]) ?_
          refine g_iastN hC dX4_goesMinute_79 rfl (by omega) (by decide) ?_
          refine g_aload_n hC dX4_goesMinute_80 rfl rfl ?_
          refine gf_X4_kind hC dX4_goesMinute_81 rfl rfl ?_
          refine g_iload_n hC dX4_goesMinute_84 rfl ?_
          refine g_ialdN hC dX4_goesMinute_85 rfl (by omega) (by decide) ?_
          refine g_iconst (v := nI (1)) hC dX4_goesMinute_86 (by decide) ?_
          refine g_icmp_neN (tgt := 97) hC dX4_goesMinute_87 (by decide) (by omega) (by omega) (fun h_87 => ?_) (fun h_87 => ?_)
          · skip
            refine g_aload_n hC dX4_goesMinute_97 rfl rfl ?_
            refine gf_X4_kind hC dX4_goesMinute_98 rfl rfl ?_
            refine g_iload_n hC dX4_goesMinute_101 rfl ?_
            refine g_ialdN hC dX4_goesMinute_102 rfl (by omega) (by decide) ?_
            refine g_iconst (v := nI (5)) hC dX4_goesMinute_103 (by decide) ?_
            refine g_icmp_eqN (tgt := 127) hC dX4_goesMinute_104 (by decide) (by omega) (by omega) (fun h_104 => ?_) (fun h_104 => ?_)
            · skip
              refine g_iincN hC dX4_goesMinute_127 rfl (by decide) rfl ?_
              refine g_goto (tgt := 39) hC dX4_goesMinute_130 (by decide) ?_
              refine g_mask [true, true, false] ?_
              have q := ih (i + 1) (by omega)
              rw [← arv_succ, arr_no (by omega)] at q
              exact q
            · skip
              refine g_aload_n hC dX4_goesMinute_107 rfl rfl ?_
              refine gf_X4_trace hC dX4_goesMinute_108 rfl rfl ?_
              refine g_bipush (v := nI (6)) hC dX4_goesMinute_111 (by decide) ?_
              refine g_iload_n hC dX4_goesMinute_113 rfl ?_
              refine g_imulN hC dX4_goesMinute_114 ?_
              refine g_aload_n hC dX4_goesMinute_115 rfl rfl ?_
              refine gf_X4_place hC dX4_goesMinute_116 rfl rfl ?_
              refine g_iload_n hC dX4_goesMinute_119 rfl ?_
              refine g_iald (v := nI (goal u i)) hC dX4_goesMinute_120 rfl rfl (by omega) (by decide) (by show nI (updN _ i (goal u i) i) = _; unfold updN; rw [if_pos rfl]) ?_
              refine g_iaddN hC dX4_goesMinute_121 ?_
              refine g_aload_n hC dX4_goesMinute_122 rfl rfl ?_
              refine gf_X4_minute hC dX4_goesMinute_123 rfl rfl ?_
              refine g_iastFO (w := i) (r := goal u i) (x := some (vMi (arr u (goal u) i))) hC dX4_goesMinute_126 rfl (by omega) (by omega) rfl ?_
              refine g_iincN hC dX4_goesMinute_127 rfl (by decide) rfl ?_
              refine g_goto (tgt := 39) hC dX4_goesMinute_130 (by decide) ?_
              refine g_mask [true, true, false] ?_
              have q := ih (i + 1) (by omega)
              rw [← arv_succ, arr_yes (by omega)] at q
              exact q
          · skip
            refine g_iload_n hC dX4_goesMinute_90 rfl ?_
            refine g_if_eqN (tgt := 127) hC dX4_goesMinute_91 (by decide) (by omega) (fun h_91 => ?_) (fun h_91 => ?_)
            · skip
              refine g_iincN hC dX4_goesMinute_127 rfl (by decide) rfl ?_
              refine g_goto (tgt := 39) hC dX4_goesMinute_130 (by decide) ?_
              refine g_mask [true, true, false] ?_
              have q := ih (i + 1) (by omega)
              rw [← arv_succ, arr_no (by omega)] at q
              exact q
            · skip
              omega
        · skip
          refine g_iconst (v := nI (1)) hC dX4_goesMinute_62 (by decide) ?_
          refine g_goto (tgt := 67) hC dX4_goesMinute_63 (by decide) ?_
          refine g_istore_n hC dX4_goesMinute_67 (by decide) rfl ?_
          refine g_aload_n hC dX4_goesMinute_68 rfl rfl ?_
          refine gf_X4_place hC dX4_goesMinute_69 rfl rfl ?_
          refine g_iload_n hC dX4_goesMinute_72 rfl ?_
          refine g_aload_n hC dX4_goesMinute_73 rfl rfl ?_
          refine gf_X4_going hC dX4_goesMinute_74 rfl rfl ?_
          refine g_iload_n hC dX4_goesMinute_77 rfl ?_
          refine g_iald (v := nI (goal u i)) hC dX4_goesMinute_78 rfl rfl (by omega) (by decide) (by show nI (gk go u (vN u) i) = _; rw [hgi]) ?_
          refine g_iastN hC dX4_goesMinute_79 rfl (by omega) (by decide) ?_
          refine g_aload_n hC dX4_goesMinute_80 rfl rfl ?_
          refine gf_X4_kind hC dX4_goesMinute_81 rfl rfl ?_
          refine g_iload_n hC dX4_goesMinute_84 rfl ?_
          refine g_ialdN hC dX4_goesMinute_85 rfl (by omega) (by decide) ?_
          refine g_iconst (v := nI (1)) hC dX4_goesMinute_86 (by decide) ?_
          refine g_icmp_neN (tgt := 97) hC dX4_goesMinute_87 (by decide) (by omega) (by omega) (fun h_87 => ?_) (fun h_87 => ?_)
          · skip
            refine g_aload_n hC dX4_goesMinute_97 rfl rfl ?_
            refine gf_X4_kind hC dX4_goesMinute_98 rfl rfl ?_
            refine g_iload_n hC dX4_goesMinute_101 rfl ?_
            refine g_ialdN hC dX4_goesMinute_102 rfl (by omega) (by decide) ?_
            refine g_iconst (v := nI (5)) hC dX4_goesMinute_103 (by decide) ?_
            refine g_icmp_eqN (tgt := 127) hC dX4_goesMinute_104 (by decide) (by omega) (by omega) (fun h_104 => ?_) (fun h_104 => ?_)
            · skip
              refine g_iincN hC dX4_goesMinute_127 rfl (by decide) rfl ?_
              refine g_goto (tgt := 39) hC dX4_goesMinute_130 (by decide) ?_
              refine g_mask [true, true, false] ?_
              have q := ih (i + 1) (by omega)
              rw [← arv_succ, arr_no (by omega)] at q
              exact q
            · skip
              refine g_aload_n hC dX4_goesMinute_107 rfl rfl ?_
              refine gf_X4_trace hC dX4_goesMinute_108 rfl rfl ?_
              refine g_bipush (v := nI (6)) hC dX4_goesMinute_111 (by decide) ?_
              refine g_iload_n hC dX4_goesMinute_113 rfl ?_
              refine g_imulN hC dX4_goesMinute_114 ?_
              refine g_aload_n hC dX4_goesMinute_115 rfl rfl ?_
              refine gf_X4_place hC dX4_goesMinute_116 rfl rfl ?_
              refine g_iload_n hC dX4_goesMinute_119 rfl ?_
              refine g_iald (v := nI (goal u i)) hC dX4_goesMinute_120 rfl rfl (by omega) (by decide) (by show nI (updN _ i (goal u i) i) = _; unfold updN; rw [if_pos rfl]) ?_
              refine g_iaddN hC dX4_goesMinute_121 ?_
              refine g_aload_n hC dX4_goesMinute_122 rfl rfl ?_
              refine gf_X4_minute hC dX4_goesMinute_123 rfl rfl ?_
              refine g_iastFO (w := i) (r := goal u i) (x := some (vMi (arr u (goal u) i))) hC dX4_goesMinute_126 rfl (by omega) (by omega) rfl ?_
              refine g_iincN hC dX4_goesMinute_127 rfl (by decide) rfl ?_
              refine g_goto (tgt := 39) hC dX4_goesMinute_130 (by decide) ?_
              refine g_mask [true, true, false] ?_
              have q := ih (i + 1) (by omega)
              rw [← arv_succ, arr_yes (by omega)] at q
              exact q
          · skip
            refine g_iload_n hC dX4_goesMinute_90 rfl ?_
            refine g_if_eqN (tgt := 127) hC dX4_goesMinute_91 (by decide) (by omega) (fun h_91 => ?_) (fun h_91 => ?_)
            · skip
              omega
            · skip
              refine g_goto (tgt := 107) hC dX4_goesMinute_94 (by decide) ?_
              refine g_aload_n hC dX4_goesMinute_107 rfl rfl ?_
              refine gf_X4_trace hC dX4_goesMinute_108 rfl rfl ?_
              refine g_bipush (v := nI (6)) hC dX4_goesMinute_111 (by decide) ?_
              refine g_iload_n hC dX4_goesMinute_113 rfl ?_
              refine g_imulN hC dX4_goesMinute_114 ?_
              refine g_aload_n hC dX4_goesMinute_115 rfl rfl ?_
              refine gf_X4_place hC dX4_goesMinute_116 rfl rfl ?_
              refine g_iload_n hC dX4_goesMinute_119 rfl ?_
              refine g_iald (v := nI (goal u i)) hC dX4_goesMinute_120 rfl rfl (by omega) (by decide) (by show nI (updN _ i (goal u i) i) = _; unfold updN; rw [if_pos rfl]) ?_
              refine g_iaddN hC dX4_goesMinute_121 ?_
              refine g_aload_n hC dX4_goesMinute_122 rfl rfl ?_
              refine gf_X4_minute hC dX4_goesMinute_123 rfl rfl ?_
              refine g_iastFO (w := i) (r := goal u i) (x := some (vMi (arr u (goal u) i))) hC dX4_goesMinute_126 rfl (by omega) (by omega) rfl ?_
              refine g_iincN hC dX4_goesMinute_127 rfl (by decide) rfl ?_
              refine g_goto (tgt := 39) hC dX4_goesMinute_130 (by decide) ?_
              refine g_mask [true, true, false] ?_
              have q := ih (i + 1) (by omega)
              rw [← arv_succ, arr_yes (by omega)] at q
              exact q
  have loop : ∀ d k, k + d = vN u → G C 0 0 2 [aR 0 0 0, aI (nI (k)), aK 9] [] [modW u ro re lt len le la td fr ti pt st ke hi ik cu (gk go u k) num nin up fo] := by
    intro d
    induction d with
    | zero =>
      intro k hk
      refine g_iload_n hC dX4_goesMinute_2 rfl ?_
      refine g_aload_n hC dX4_goesMinute_3 rfl rfl ?_
      refine gf_X4_walkers hC dX4_goesMinute_4 rfl rfl ?_
      refine g_icmp_geN (tgt := 27) hC dX4_goesMinute_7 (by decide) (by omega) (by omega) (fun h_7 => ?_) (fun h_7 => ?_)
      · skip
        refine g_aload_n hC dX4_goesMinute_27 rfl rfl ?_
        refine g_dup hC dX4_goesMinute_28 rfl ?_
        refine gf_X4_minute hC dX4_goesMinute_29 rfl rfl ?_
        refine g_iconst (v := nI (1)) hC dX4_goesMinute_32 (by decide) ?_
        refine g_iaddN hC dX4_goesMinute_33 ?_
        refine gp_X4_minute hC dX4_goesMinute_34 rfl rfl ?_
        refine g_iconst (v := nI (0)) hC dX4_goesMinute_37 (by decide) ?_
        refine g_istore_n hC dX4_goesMinute_38 (by decide) rfl ?_
        obtain rfl : k = vN u := by omega
        refine g_mask [true, true, false] ?_
        have q := loop2 (vN u) 0 (by omega)
        rw [arv_zero] at q
        exact q
      · skip
        omega
    | succ d ih =>
      intro k hk
      refine g_iload_n hC dX4_goesMinute_2 rfl ?_
      refine g_aload_n hC dX4_goesMinute_3 rfl rfl ?_
      refine gf_X4_walkers hC dX4_goesMinute_4 rfl rfl ?_
      refine g_icmp_geN (tgt := 27) hC dX4_goesMinute_7 (by decide) (by omega) (by omega) (fun h_7 => ?_) (fun h_7 => ?_)
      · skip
        omega
      · skip
        refine g_aload_n hC dX4_goesMinute_10 rfl rfl ?_
        refine gf_X4_going hC dX4_goesMinute_11 rfl rfl ?_
        refine g_iload_n hC dX4_goesMinute_14 rfl ?_
        refine g_aload_n hC dX4_goesMinute_15 rfl rfl ?_
        refine g_iload_n hC dX4_goesMinute_16 rfl ?_
        refine gi_X4_171 hC (is := [0]) (st := [aI (nI (k)), aR 0 17 0]) (c_X4_wouldGo u ro re lt len le la td fr ti pt st ke hi ik cu (gk go u k) num nin up fo hu hB (show k < vN u by omega)) dX4_goesMinute_17 rfl ⟨by decide, by decide⟩ ⟨by decide, by decide⟩ rfl (by decide) rfl rfl rfl ?_
        refine g_iastN hC dX4_goesMinute_20 rfl (by omega) (by decide) ?_
        refine g_iincN hC dX4_goesMinute_21 rfl (by decide) rfl ?_
        refine g_goto (tgt := 2) hC dX4_goesMinute_24 (by decide) ?_
        refine g_mask [true, true, false] ?_
        have q := ih (k + 1) (by omega)
        rw [gk_succ] at q
        exact q
  refine g_iconst (v := nI (0)) hC dX4_goesMinute_0 (by decide) ?_
  refine g_istore_n hC dX4_goesMinute_1 (by decide) rfl ?_
  have q := loop (vN u) 0 (by omega)
  rw [gk_zero] at q
  exact q

