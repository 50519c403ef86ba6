set_option maxRecDepth 100000 in
set_option maxHeartbeats 4000000 in
theorem c_X4_passesAll_k (rw rm rn : Int32) (f1 f2 f3 f4 f5 f6 f7 f8 f9 : Nat → Int32) (lt : Nat → Nat) (len : Nat) (le la : Nat → Nat) (td : Nat → Int32) (fr ti : Nat → Nat) (pt st : Nat) (ke : Nat → Int32) (hi ik : Bool) (cu : Nat) (go num : Nat → Nat) (nin : Nat) (up fo : Nat → Nat) {W : Nat} (hW : W ≤ 1) : ConF yX4_passesAll cX4_passesAll 3 none 1 [aR 0 0 0, aI (nI (W)), aI (nI (1))] [rawW rw rm rn f1 f2 f3 f4 f5 f6 f7 f8 f9 lt len le la td fr ti pt st ke hi ik cu go num nin up fo] none [rawW rw rm rn f1 f2 f3 f4 f5 f6 f7 f8 f9 lt len le la td fr ti pt st (upd (upd (upd (cpyAt (cpyAt (cpyAt (cpyAt (cpyAt (cpyAt (cpyAt (cpyAt ke f2 (85 * W) 6) f3 ((85 * W) + 6) 6) f4 (((85 * W) + 6) + 6) 6) f5 ((((85 * W) + 6) + 6) + 6) 4) f6 (((((85 * W) + 6) + 6) + 6) + 4) 4) f7 ((((((85 * W) + 6) + 6) + 6) + 4) + 4) 4) f8 (((((((85 * W) + 6) + 6) + 6) + 4) + 4) + 4) 24) f9 ((((((((85 * W) + 6) + 6) + 6) + 4) + 4) + 4) + 24) 24) (((((((((85 * W) + 6) + 6) + 6) + 4) + 4) + 4) + 24) + 24) rw) ((((((((((85 * W) + 6) + 6) + 6) + 4) + 4) + 4) + 24) + 24) + 1) rm) (((((((((((85 * W) + 6) + 6) + 6) + 4) + 4) + 4) + 24) + 24) + 1) + 1) rn) hi true ((((((((((((85 * W) + 6) + 6) + 6) + 4) + 4) + 4) + 24) + 24) + 1) + 1) + 1) go num nin up fo] := by
  refine con_of RX4 pn_X4 rfl rfl (Nat.le_of_ble_eq_true rfl) (fun C hM0 hC => ?_)
  show G C 0 0 0 [aR 0 0 0, aI (nI (W)), aI (nI (1))] [] [rawW rw rm rn f1 f2 f3 f4 f5 f6 f7 f8 f9 lt len le la td fr ti pt st ke hi ik cu go num nin up fo]
  refine g_aload_n hC dX4_passesAll_0 rfl rfl ?_
  refine g_bipush (v := nI (85)) hC dX4_passesAll_1 (by decide) ?_
  refine g_iload_n hC dX4_passesAll_3 rfl ?_
  refine g_imulN hC dX4_passesAll_4 ?_
  refine gp_X4_cursor hC dX4_passesAll_5 rfl rfl ?_
  refine g_aload_n hC dX4_passesAll_8 rfl rfl ?_
  refine g_iload_n hC dX4_passesAll_9 rfl ?_
  refine gp_X4_isKeeping hC dX4_passesAll_10 rfl rfl rfl rfl ?_
  refine g_aload_n hC dX4_passesAll_13 rfl rfl ?_
  refine g_aload_n hC dX4_passesAll_14 rfl rfl ?_
  refine gf_X4_windOf hC dX4_passesAll_15 rfl rfl ?_
  refine gi_X4_143 hC (is := [0]) (st := []) (c_X4_passes_k2 rw rm rn f1 f2 f3 f4 f5 f6 f7 f8 f9 lt len le la td fr ti pt st ke hi ik (85 * W) go num nin up fo (by omega)) dX4_passesAll_18 rfl ⟨by decide, by decide⟩ ⟨by decide, by decide⟩ rfl (by decide) rfl rfl rfl ?_
  show G C 0 0 21 [aR 0 0 0, aI (nI (W)), aI (nI (1))] [] [rawW rw rm rn f1 f2 f3 f4 f5 f6 f7 f8 f9 lt len le la td fr ti pt st (cpyAt ke f2 (85 * W) 6) hi true ((85 * W) + 6) go num nin up fo]
  refine g_aload_n hC dX4_passesAll_21 rfl rfl ?_
  refine g_aload_n hC dX4_passesAll_22 rfl rfl ?_
  refine gf_X4_roof hC dX4_passesAll_23 rfl rfl ?_
  refine gi_X4_143 hC (is := [0]) (st := []) (c_X4_passes_k3 rw rm rn f1 f2 f3 f4 f5 f6 f7 f8 f9 lt len le la td fr ti pt st (cpyAt ke f2 (85 * W) 6) hi ik ((85 * W) + 6) go num nin up fo (by omega)) dX4_passesAll_26 rfl ⟨by decide, by decide⟩ ⟨by decide, by decide⟩ rfl (by decide) rfl rfl rfl ?_
  show G C 0 0 29 [aR 0 0 0, aI (nI (W)), aI (nI (1))] [] [rawW rw rm rn f1 f2 f3 f4 f5 f6 f7 f8 f9 lt len le la td fr ti pt st (cpyAt (cpyAt ke f2 (85 * W) 6) f3 ((85 * W) + 6) 6) hi true (((85 * W) + 6) + 6) go num nin up fo]
  refine g_aload_n hC dX4_passesAll_29 rfl rfl ?_
  refine g_aload_n hC dX4_passesAll_30 rfl rfl ?_
  refine gf_X4_paths hC dX4_passesAll_31 rfl rfl ?_
  refine gi_X4_143 hC (is := [0]) (st := []) (c_X4_passes_k4 rw rm rn f1 f2 f3 f4 f5 f6 f7 f8 f9 lt len le la td fr ti pt st (cpyAt (cpyAt ke f2 (85 * W) 6) f3 ((85 * W) + 6) 6) hi ik (((85 * W) + 6) + 6) go num nin up fo (by omega)) dX4_passesAll_34 rfl ⟨by decide, by decide⟩ ⟨by decide, by decide⟩ rfl (by decide) rfl rfl rfl ?_
  show G C 0 0 37 [aR 0 0 0, aI (nI (W)), aI (nI (1))] [] [rawW rw rm rn f1 f2 f3 f4 f5 f6 f7 f8 f9 lt len le la td fr ti pt st (cpyAt (cpyAt (cpyAt ke f2 (85 * W) 6) f3 ((85 * W) + 6) 6) f4 (((85 * W) + 6) + 6) 6) hi true ((((85 * W) + 6) + 6) + 6) go num nin up fo]
  refine g_aload_n hC dX4_passesAll_37 rfl rfl ?_
  refine g_aload_n hC dX4_passesAll_38 rfl rfl ?_
  refine gf_X4_kind hC dX4_passesAll_39 rfl rfl ?_
  refine gi_X4_143 hC (is := [0]) (st := []) (c_X4_passes_k5 rw rm rn f1 f2 f3 f4 f5 f6 f7 f8 f9 lt len le la td fr ti pt st (cpyAt (cpyAt (cpyAt ke f2 (85 * W) 6) f3 ((85 * W) + 6) 6) f4 (((85 * W) + 6) + 6) 6) hi ik ((((85 * W) + 6) + 6) + 6) go num nin up fo (by omega)) dX4_passesAll_42 rfl ⟨by decide, by decide⟩ ⟨by decide, by decide⟩ rfl (by decide) rfl rfl rfl ?_
  show G C 0 0 45 [aR 0 0 0, aI (nI (W)), aI (nI (1))] [] [rawW rw rm rn f1 f2 f3 f4 f5 f6 f7 f8 f9 lt len le la td fr ti pt st (cpyAt (cpyAt (cpyAt (cpyAt ke f2 (85 * W) 6) f3 ((85 * W) + 6) 6) f4 (((85 * W) + 6) + 6) 6) f5 ((((85 * W) + 6) + 6) + 6) 4) hi true (((((85 * W) + 6) + 6) + 6) + 4) go num nin up fo]
  refine g_aload_n hC dX4_passesAll_45 rfl rfl ?_
  refine g_aload_n hC dX4_passesAll_46 rfl rfl ?_
  refine gf_X4_place hC dX4_passesAll_47 rfl rfl ?_
  refine gi_X4_143 hC (is := [0]) (st := []) (c_X4_passes_k6 rw rm rn f1 f2 f3 f4 f5 f6 f7 f8 f9 lt len le la td fr ti pt st (cpyAt (cpyAt (cpyAt (cpyAt ke f2 (85 * W) 6) f3 ((85 * W) + 6) 6) f4 (((85 * W) + 6) + 6) 6) f5 ((((85 * W) + 6) + 6) + 6) 4) hi ik (((((85 * W) + 6) + 6) + 6) + 4) go num nin up fo (by omega)) dX4_passesAll_50 rfl ⟨by decide, by decide⟩ ⟨by decide, by decide⟩ rfl (by decide) rfl rfl rfl ?_
  show G C 0 0 53 [aR 0 0 0, aI (nI (W)), aI (nI (1))] [] [rawW rw rm rn f1 f2 f3 f4 f5 f6 f7 f8 f9 lt len le la td fr ti pt st (cpyAt (cpyAt (cpyAt (cpyAt (cpyAt ke f2 (85 * W) 6) f3 ((85 * W) + 6) 6) f4 (((85 * W) + 6) + 6) 6) f5 ((((85 * W) + 6) + 6) + 6) 4) f6 (((((85 * W) + 6) + 6) + 6) + 4) 4) hi true ((((((85 * W) + 6) + 6) + 6) + 4) + 4) go num nin up fo]
  refine g_aload_n hC dX4_passesAll_53 rfl rfl ?_
  refine g_aload_n hC dX4_passesAll_54 rfl rfl ?_
  refine gf_X4_planLong hC dX4_passesAll_55 rfl rfl ?_
  refine gi_X4_143 hC (is := [0]) (st := []) (c_X4_passes_k7 rw rm rn f1 f2 f3 f4 f5 f6 f7 f8 f9 lt len le la td fr ti pt st (cpyAt (cpyAt (cpyAt (cpyAt (cpyAt ke f2 (85 * W) 6) f3 ((85 * W) + 6) 6) f4 (((85 * W) + 6) + 6) 6) f5 ((((85 * W) + 6) + 6) + 6) 4) f6 (((((85 * W) + 6) + 6) + 6) + 4) 4) hi ik ((((((85 * W) + 6) + 6) + 6) + 4) + 4) go num nin up fo (by omega)) dX4_passesAll_58 rfl ⟨by decide, by decide⟩ ⟨by decide, by decide⟩ rfl (by decide) rfl rfl rfl ?_
  show G C 0 0 61 [aR 0 0 0, aI (nI (W)), aI (nI (1))] [] [rawW rw rm rn f1 f2 f3 f4 f5 f6 f7 f8 f9 lt len le la td fr ti pt st (cpyAt (cpyAt (cpyAt (cpyAt (cpyAt (cpyAt ke f2 (85 * W) 6) f3 ((85 * W) + 6) 6) f4 (((85 * W) + 6) + 6) 6) f5 ((((85 * W) + 6) + 6) + 6) 4) f6 (((((85 * W) + 6) + 6) + 6) + 4) 4) f7 ((((((85 * W) + 6) + 6) + 6) + 4) + 4) 4) hi true (((((((85 * W) + 6) + 6) + 6) + 4) + 4) + 4) go num nin up fo]
  refine g_aload_n hC dX4_passesAll_61 rfl rfl ?_
  refine g_aload_n hC dX4_passesAll_62 rfl rfl ?_
  refine gf_X4_plan hC dX4_passesAll_63 rfl rfl ?_
  refine gi_X4_143 hC (is := [0]) (st := []) (c_X4_passes_k8 rw rm rn f1 f2 f3 f4 f5 f6 f7 f8 f9 lt len le la td fr ti pt st (cpyAt (cpyAt (cpyAt (cpyAt (cpyAt (cpyAt ke f2 (85 * W) 6) f3 ((85 * W) + 6) 6) f4 (((85 * W) + 6) + 6) 6) f5 ((((85 * W) + 6) + 6) + 6) 4) f6 (((((85 * W) + 6) + 6) + 6) + 4) 4) f7 ((((((85 * W) + 6) + 6) + 6) + 4) + 4) 4) hi ik (((((((85 * W) + 6) + 6) + 6) + 4) + 4) + 4) go num nin up fo (by omega)) dX4_passesAll_66 rfl ⟨by decide, by decide⟩ ⟨by decide, by decide⟩ rfl (by decide) rfl rfl rfl ?_
  show G C 0 0 69 [aR 0 0 0, aI (nI (W)), aI (nI (1))] [] [rawW rw rm rn f1 f2 f3 f4 f5 f6 f7 f8 f9 lt len le la td fr ti pt st (cpyAt (cpyAt (cpyAt (cpyAt (cpyAt (cpyAt (cpyAt ke f2 (85 * W) 6) f3 ((85 * W) + 6) 6) f4 (((85 * W) + 6) + 6) 6) f5 ((((85 * W) + 6) + 6) + 6) 4) f6 (((((85 * W) + 6) + 6) + 6) + 4) 4) f7 ((((((85 * W) + 6) + 6) + 6) + 4) + 4) 4) f8 (((((((85 * W) + 6) + 6) + 6) + 4) + 4) + 4) 24) hi true ((((((((85 * W) + 6) + 6) + 6) + 4) + 4) + 4) + 24) go num nin up fo]
  refine g_aload_n hC dX4_passesAll_69 rfl rfl ?_
  refine g_aload_n hC dX4_passesAll_70 rfl rfl ?_
  refine gf_X4_trace hC dX4_passesAll_71 rfl rfl ?_
  refine gi_X4_143 hC (is := [0]) (st := []) (c_X4_passes_k9 rw rm rn f1 f2 f3 f4 f5 f6 f7 f8 f9 lt len le la td fr ti pt st (cpyAt (cpyAt (cpyAt (cpyAt (cpyAt (cpyAt (cpyAt ke f2 (85 * W) 6) f3 ((85 * W) + 6) 6) f4 (((85 * W) + 6) + 6) 6) f5 ((((85 * W) + 6) + 6) + 6) 4) f6 (((((85 * W) + 6) + 6) + 6) + 4) 4) f7 ((((((85 * W) + 6) + 6) + 6) + 4) + 4) 4) f8 (((((((85 * W) + 6) + 6) + 6) + 4) + 4) + 4) 24) hi ik ((((((((85 * W) + 6) + 6) + 6) + 4) + 4) + 4) + 24) go num nin up fo (by omega)) dX4_passesAll_74 rfl ⟨by decide, by decide⟩ ⟨by decide, by decide⟩ rfl (by decide) rfl rfl rfl ?_
  show G C 0 0 77 [aR 0 0 0, aI (nI (W)), aI (nI (1))] [] [rawW rw rm rn f1 f2 f3 f4 f5 f6 f7 f8 f9 lt len le la td fr ti pt st (cpyAt (cpyAt (cpyAt (cpyAt (cpyAt (cpyAt (cpyAt (cpyAt ke f2 (85 * W) 6) f3 ((85 * W) + 6) 6) f4 (((85 * W) + 6) + 6) 6) f5 ((((85 * W) + 6) + 6) + 6) 4) f6 (((((85 * W) + 6) + 6) + 6) + 4) 4) f7 ((((((85 * W) + 6) + 6) + 6) + 4) + 4) 4) f8 (((((((85 * W) + 6) + 6) + 6) + 4) + 4) + 4) 24) f9 ((((((((85 * W) + 6) + 6) + 6) + 4) + 4) + 4) + 24) 24) hi true (((((((((85 * W) + 6) + 6) + 6) + 4) + 4) + 4) + 24) + 24) go num nin up fo]
  refine g_aload_n hC dX4_passesAll_77 rfl rfl ?_
  refine g_aload_n hC dX4_passesAll_78 rfl rfl ?_
  refine g_aload_n hC dX4_passesAll_79 rfl rfl ?_
  refine gf_X4_walkers hC dX4_passesAll_80 rfl rfl ?_
  refine gi_X4_147 hC (is := [0]) (st := [aR 0 0 0]) (c_X4_passOne_k rw rm rn f1 f2 f3 f4 f5 f6 f7 f8 f9 lt len le la td fr ti pt st (cpyAt (cpyAt (cpyAt (cpyAt (cpyAt (cpyAt (cpyAt (cpyAt ke f2 (85 * W) 6) f3 ((85 * W) + 6) 6) f4 (((85 * W) + 6) + 6) 6) f5 ((((85 * W) + 6) + 6) + 6) 4) f6 (((((85 * W) + 6) + 6) + 6) + 4) 4) f7 ((((((85 * W) + 6) + 6) + 6) + 4) + 4) 4) f8 (((((((85 * W) + 6) + 6) + 6) + 4) + 4) + 4) 24) f9 ((((((((85 * W) + 6) + 6) + 6) + 4) + 4) + 4) + 24) 24) hi ik (((((((((85 * W) + 6) + 6) + 6) + 4) + 4) + 4) + 24) + 24) go num nin up fo rw (by omega)) dX4_passesAll_83 rfl ⟨by decide, by decide⟩ ⟨by decide, by decide⟩ rfl (by decide) rfl rfl rfl ?_
  show G C 0 0 86 [aR 0 0 0, aI (nI (W)), aI (nI (1))] [aI (rw), aR 0 0 0] [rawW rw rm rn f1 f2 f3 f4 f5 f6 f7 f8 f9 lt len le la td fr ti pt st (upd (cpyAt (cpyAt (cpyAt (cpyAt (cpyAt (cpyAt (cpyAt (cpyAt ke f2 (85 * W) 6) f3 ((85 * W) + 6) 6) f4 (((85 * W) + 6) + 6) 6) f5 ((((85 * W) + 6) + 6) + 6) 4) f6 (((((85 * W) + 6) + 6) + 6) + 4) 4) f7 ((((((85 * W) + 6) + 6) + 6) + 4) + 4) 4) f8 (((((((85 * W) + 6) + 6) + 6) + 4) + 4) + 4) 24) f9 ((((((((85 * W) + 6) + 6) + 6) + 4) + 4) + 4) + 24) 24) (((((((((85 * W) + 6) + 6) + 6) + 4) + 4) + 4) + 24) + 24) rw) hi true ((((((((((85 * W) + 6) + 6) + 6) + 4) + 4) + 4) + 24) + 24) + 1) go num nin up fo]
  refine gp_X4_walkers hC dX4_passesAll_86 rfl rfl ?_
  refine g_aload_n hC dX4_passesAll_89 rfl rfl ?_
  refine g_aload_n hC dX4_passesAll_90 rfl rfl ?_
  refine g_aload_n hC dX4_passesAll_91 rfl rfl ?_
  refine gf_X4_minute hC dX4_passesAll_92 rfl rfl ?_
  refine gi_X4_147 hC (is := [0]) (st := [aR 0 0 0]) (c_X4_passOne_k rw rm rn f1 f2 f3 f4 f5 f6 f7 f8 f9 lt len le la td fr ti pt st (upd (cpyAt (cpyAt (cpyAt (cpyAt (cpyAt (cpyAt (cpyAt (cpyAt ke f2 (85 * W) 6) f3 ((85 * W) + 6) 6) f4 (((85 * W) + 6) + 6) 6) f5 ((((85 * W) + 6) + 6) + 6) 4) f6 (((((85 * W) + 6) + 6) + 6) + 4) 4) f7 ((((((85 * W) + 6) + 6) + 6) + 4) + 4) 4) f8 (((((((85 * W) + 6) + 6) + 6) + 4) + 4) + 4) 24) f9 ((((((((85 * W) + 6) + 6) + 6) + 4) + 4) + 4) + 24) 24) (((((((((85 * W) + 6) + 6) + 6) + 4) + 4) + 4) + 24) + 24) rw) hi ik ((((((((((85 * W) + 6) + 6) + 6) + 4) + 4) + 4) + 24) + 24) + 1) go num nin up fo rm (by omega)) dX4_passesAll_95 rfl ⟨by decide, by decide⟩ ⟨by decide, by decide⟩ rfl (by decide) rfl rfl rfl ?_
  show G C 0 0 98 [aR 0 0 0, aI (nI (W)), aI (nI (1))] [aI (rm), aR 0 0 0] [rawW rw rm rn f1 f2 f3 f4 f5 f6 f7 f8 f9 lt len le la td fr ti pt st (upd (upd (cpyAt (cpyAt (cpyAt (cpyAt (cpyAt (cpyAt (cpyAt (cpyAt ke f2 (85 * W) 6) f3 ((85 * W) + 6) 6) f4 (((85 * W) + 6) + 6) 6) f5 ((((85 * W) + 6) + 6) + 6) 4) f6 (((((85 * W) + 6) + 6) + 6) + 4) 4) f7 ((((((85 * W) + 6) + 6) + 6) + 4) + 4) 4) f8 (((((((85 * W) + 6) + 6) + 6) + 4) + 4) + 4) 24) f9 ((((((((85 * W) + 6) + 6) + 6) + 4) + 4) + 4) + 24) 24) (((((((((85 * W) + 6) + 6) + 6) + 4) + 4) + 4) + 24) + 24) rw) ((((((((((85 * W) + 6) + 6) + 6) + 4) + 4) + 4) + 24) + 24) + 1) rm) hi true (((((((((((85 * W) + 6) + 6) + 6) + 4) + 4) + 4) + 24) + 24) + 1) + 1) go num nin up fo]
  refine gp_X4_minute hC dX4_passesAll_98 rfl rfl ?_
  refine g_aload_n hC dX4_passesAll_101 rfl rfl ?_
  refine g_aload_n hC dX4_passesAll_102 rfl rfl ?_
  refine g_aload_n hC dX4_passesAll_103 rfl rfl ?_
  refine gf_X4_nose hC dX4_passesAll_104 rfl rfl ?_
  refine gi_X4_147 hC (is := [0]) (st := [aR 0 0 0]) (c_X4_passOne_k rw rm rn f1 f2 f3 f4 f5 f6 f7 f8 f9 lt len le la td fr ti pt st (upd (upd (cpyAt (cpyAt (cpyAt (cpyAt (cpyAt (cpyAt (cpyAt (cpyAt ke f2 (85 * W) 6) f3 ((85 * W) + 6) 6) f4 (((85 * W) + 6) + 6) 6) f5 ((((85 * W) + 6) + 6) + 6) 4) f6 (((((85 * W) + 6) + 6) + 6) + 4) 4) f7 ((((((85 * W) + 6) + 6) + 6) + 4) + 4) 4) f8 (((((((85 * W) + 6) + 6) + 6) + 4) + 4) + 4) 24) f9 ((((((((85 * W) + 6) + 6) + 6) + 4) + 4) + 4) + 24) 24) (((((((((85 * W) + 6) + 6) + 6) + 4) + 4) + 4) + 24) + 24) rw) ((((((((((85 * W) + 6) + 6) + 6) + 4) + 4) + 4) + 24) + 24) + 1) rm) hi ik (((((((((((85 * W) + 6) + 6) + 6) + 4) + 4) + 4) + 24) + 24) + 1) + 1) go num nin up fo rn (by omega)) dX4_passesAll_107 rfl ⟨by decide, by decide⟩ ⟨by decide, by decide⟩ rfl (by decide) rfl rfl rfl ?_
  show G C 0 0 110 [aR 0 0 0, aI (nI (W)), aI (nI (1))] [aI (rn), aR 0 0 0] [rawW rw rm rn f1 f2 f3 f4 f5 f6 f7 f8 f9 lt len le la td fr ti pt st (upd (upd (upd (cpyAt (cpyAt (cpyAt (cpyAt (cpyAt (cpyAt (cpyAt (cpyAt ke f2 (85 * W) 6) f3 ((85 * W) + 6) 6) f4 (((85 * W) + 6) + 6) 6) f5 ((((85 * W) + 6) + 6) + 6) 4) f6 (((((85 * W) + 6) + 6) + 6) + 4) 4) f7 ((((((85 * W) + 6) + 6) + 6) + 4) + 4) 4) f8 (((((((85 * W) + 6) + 6) + 6) + 4) + 4) + 4) 24) f9 ((((((((85 * W) + 6) + 6) + 6) + 4) + 4) + 4) + 24) 24) (((((((((85 * W) + 6) + 6) + 6) + 4) + 4) + 4) + 24) + 24) rw) ((((((((((85 * W) + 6) + 6) + 6) + 4) + 4) + 4) + 24) + 24) + 1) rm) (((((((((((85 * W) + 6) + 6) + 6) + 4) + 4) + 4) + 24) + 24) + 1) + 1) rn) hi true ((((((((((((85 * W) + 6) + 6) + 6) + 4) + 4) + 4) + 24) + 24) + 1) + 1) + 1) go num nin up fo]
  refine gp_X4_nose hC dX4_passesAll_110 rfl rfl ?_
  exact g_vret hC rfl dX4_passesAll_113 (⟨rfl, rfl⟩)

set_option maxRecDepth 100000 in
set_option maxHeartbeats 4000000 in
theorem c_X4_passesAll_r (rw rm rn : Int32) (f1 f2 f3 f4 f5 f6 f7 f8 f9 : Nat → Int32) (lt : Nat → Nat) (len : Nat) (le la : Nat → Nat) (td : Nat → Int32) (fr ti : Nat → Nat) (pt st : Nat) (ke : Nat → Int32) (hi ik : Bool) (cu : Nat) (go num : Nat → Nat) (nin : Nat) (up fo : Nat → Nat) {W : Nat} (hW : W ≤ 1) : ConF yX4_passesAll cX4_passesAll 3 none 1 [aR 0 0 0, aI (nI (W)), aI (nI (0))] [rawW rw rm rn f1 f2 f3 f4 f5 f6 f7 f8 f9 lt len le la td fr ti pt st ke hi ik cu go num nin up fo] none [rawW (ke (((((((((85 * W) + 6) + 6) + 6) + 4) + 4) + 4) + 24) + 24)) (ke ((((((((((85 * W) + 6) + 6) + 6) + 4) + 4) + 4) + 24) + 24) + 1)) (ke (((((((((((85 * W) + 6) + 6) + 6) + 4) + 4) + 4) + 24) + 24) + 1) + 1)) f1 (getA f2 ke (85 * W) 6) (getA f3 ke ((85 * W) + 6) 6) (getA f4 ke (((85 * W) + 6) + 6) 6) (getA f5 ke ((((85 * W) + 6) + 6) + 6) 4) (getA f6 ke (((((85 * W) + 6) + 6) + 6) + 4) 4) (getA f7 ke ((((((85 * W) + 6) + 6) + 6) + 4) + 4) 4) (getA f8 ke (((((((85 * W) + 6) + 6) + 6) + 4) + 4) + 4) 24) (getA f9 ke ((((((((85 * W) + 6) + 6) + 6) + 4) + 4) + 4) + 24) 24) lt len le la td fr ti pt st ke hi false ((((((((((((85 * W) + 6) + 6) + 6) + 4) + 4) + 4) + 24) + 24) + 1) + 1) + 1) go num nin up fo] := by
  refine con_of RX4 pn_X4 rfl rfl (Nat.le_of_ble_eq_true rfl) (fun C hM0 hC => ?_)
  show G C 0 0 0 [aR 0 0 0, aI (nI (W)), aI (nI (0))] [] [rawW rw rm rn f1 f2 f3 f4 f5 f6 f7 f8 f9 lt len le la td fr ti pt st ke hi ik cu go num nin up fo]
  refine g_aload_n hC dX4_passesAll_0 rfl rfl ?_
  refine g_bipush (v := nI (85)) hC dX4_passesAll_1 (by decide) ?_
  refine g_iload_n hC dX4_passesAll_3 rfl ?_
  refine g_imulN hC dX4_passesAll_4 ?_
  refine gp_X4_cursor hC dX4_passesAll_5 rfl rfl ?_
  refine g_aload_n hC dX4_passesAll_8 rfl rfl ?_
  refine g_iload_n hC dX4_passesAll_9 rfl ?_
  refine gp_X4_isKeeping hC dX4_passesAll_10 rfl rfl rfl rfl ?_
  refine g_aload_n hC dX4_passesAll_13 rfl rfl ?_
  refine g_aload_n hC dX4_passesAll_14 rfl rfl ?_
  refine gf_X4_windOf hC dX4_passesAll_15 rfl rfl ?_
  refine gi_X4_143 hC (is := [0]) (st := []) (c_X4_passes_r2 rw rm rn f1 f2 f3 f4 f5 f6 f7 f8 f9 lt len le la td fr ti pt st ke hi ik (85 * W) go num nin up fo (by omega)) dX4_passesAll_18 rfl ⟨by decide, by decide⟩ ⟨by decide, by decide⟩ rfl (by decide) rfl rfl rfl ?_
  show G C 0 0 21 [aR 0 0 0, aI (nI (W)), aI (nI (0))] [] [rawW rw rm rn f1 (getA f2 ke (85 * W) 6) f3 f4 f5 f6 f7 f8 f9 lt len le la td fr ti pt st ke hi false ((85 * W) + 6) go num nin up fo]
  refine g_aload_n hC dX4_passesAll_21 rfl rfl ?_
  refine g_aload_n hC dX4_passesAll_22 rfl rfl ?_
  refine gf_X4_roof hC dX4_passesAll_23 rfl rfl ?_
  refine gi_X4_143 hC (is := [0]) (st := []) (c_X4_passes_r3 rw rm rn f1 (getA f2 ke (85 * W) 6) f3 f4 f5 f6 f7 f8 f9 lt len le la td fr ti pt st ke hi ik ((85 * W) + 6) go num nin up fo (by omega)) dX4_passesAll_26 rfl ⟨by decide, by decide⟩ ⟨by decide, by decide⟩ rfl (by decide) rfl rfl rfl ?_
  show G C 0 0 29 [aR 0 0 0, aI (nI (W)), aI (nI (0))] [] [rawW rw rm rn f1 (getA f2 ke (85 * W) 6) (getA f3 ke ((85 * W) + 6) 6) f4 f5 f6 f7 f8 f9 lt len le la td fr ti pt st ke hi false (((85 * W) + 6) + 6) go num nin up fo]
  refine g_aload_n hC dX4_passesAll_29 rfl rfl ?_
  refine g_aload_n hC dX4_passesAll_30 rfl rfl ?_
  refine gf_X4_paths hC dX4_passesAll_31 rfl rfl ?_
  refine gi_X4_143 hC (is := [0]) (st := []) (c_X4_passes_r4 rw rm rn f1 (getA f2 ke (85 * W) 6) (getA f3 ke ((85 * W) + 6) 6) f4 f5 f6 f7 f8 f9 lt len le la td fr ti pt st ke hi ik (((85 * W) + 6) + 6) go num nin up fo (by omega)) dX4_passesAll_34 rfl ⟨by decide, by decide⟩ ⟨by decide, by decide⟩ rfl (by decide) rfl rfl rfl ?_
  show G C 0 0 37 [aR 0 0 0, aI (nI (W)), aI (nI (0))] [] [rawW rw rm rn f1 (getA f2 ke (85 * W) 6) (getA f3 ke ((85 * W) + 6) 6) (getA f4 ke (((85 * W) + 6) + 6) 6) f5 f6 f7 f8 f9 lt len le la td fr ti pt st ke hi false ((((85 * W) + 6) + 6) + 6) go num nin up fo]
  refine g_aload_n hC dX4_passesAll_37 rfl rfl ?_
  refine g_aload_n hC dX4_passesAll_38 rfl rfl ?_
  refine gf_X4_kind hC dX4_passesAll_39 rfl rfl ?_
  refine gi_X4_143 hC (is := [0]) (st := []) (c_X4_passes_r5 rw rm rn f1 (getA f2 ke (85 * W) 6) (getA f3 ke ((85 * W) + 6) 6) (getA f4 ke (((85 * W) + 6) + 6) 6) f5 f6 f7 f8 f9 lt len le la td fr ti pt st ke hi ik ((((85 * W) + 6) + 6) + 6) go num nin up fo (by omega)) dX4_passesAll_42 rfl ⟨by decide, by decide⟩ ⟨by decide, by decide⟩ rfl (by decide) rfl rfl rfl ?_
  show G C 0 0 45 [aR 0 0 0, aI (nI (W)), aI (nI (0))] [] [rawW rw rm rn f1 (getA f2 ke (85 * W) 6) (getA f3 ke ((85 * W) + 6) 6) (getA f4 ke (((85 * W) + 6) + 6) 6) (getA f5 ke ((((85 * W) + 6) + 6) + 6) 4) f6 f7 f8 f9 lt len le la td fr ti pt st ke hi false (((((85 * W) + 6) + 6) + 6) + 4) go num nin up fo]
  refine g_aload_n hC dX4_passesAll_45 rfl rfl ?_
  refine g_aload_n hC dX4_passesAll_46 rfl rfl ?_
  refine gf_X4_place hC dX4_passesAll_47 rfl rfl ?_
  refine gi_X4_143 hC (is := [0]) (st := []) (c_X4_passes_r6 rw rm rn f1 (getA f2 ke (85 * W) 6) (getA f3 ke ((85 * W) + 6) 6) (getA f4 ke (((85 * W) + 6) + 6) 6) (getA f5 ke ((((85 * W) + 6) + 6) + 6) 4) f6 f7 f8 f9 lt len le la td fr ti pt st ke hi ik (((((85 * W) + 6) + 6) + 6) + 4) go num nin up fo (by omega)) dX4_passesAll_50 rfl ⟨by decide, by decide⟩ ⟨by decide, by decide⟩ rfl (by decide) rfl rfl rfl ?_
  show G C 0 0 53 [aR 0 0 0, aI (nI (W)), aI (nI (0))] [] [rawW rw rm rn f1 (getA f2 ke (85 * W) 6) (getA f3 ke ((85 * W) + 6) 6) (getA f4 ke (((85 * W) + 6) + 6) 6) (getA f5 ke ((((85 * W) + 6) + 6) + 6) 4) (getA f6 ke (((((85 * W) + 6) + 6) + 6) + 4) 4) f7 f8 f9 lt len le la td fr ti pt st ke hi false ((((((85 * W) + 6) + 6) + 6) + 4) + 4) go num nin up fo]
  refine g_aload_n hC dX4_passesAll_53 rfl rfl ?_
  refine g_aload_n hC dX4_passesAll_54 rfl rfl ?_
  refine gf_X4_planLong hC dX4_passesAll_55 rfl rfl ?_
  refine gi_X4_143 hC (is := [0]) (st := []) (c_X4_passes_r7 rw rm rn f1 (getA f2 ke (85 * W) 6) (getA f3 ke ((85 * W) + 6) 6) (getA f4 ke (((85 * W) + 6) + 6) 6) (getA f5 ke ((((85 * W) + 6) + 6) + 6) 4) (getA f6 ke (((((85 * W) + 6) + 6) + 6) + 4) 4) f7 f8 f9 lt len le la td fr ti pt st ke hi ik ((((((85 * W) + 6) + 6) + 6) + 4) + 4) go num nin up fo (by omega)) dX4_passesAll_58 rfl ⟨by decide, by decide⟩ ⟨by decide, by decide⟩ rfl (by decide) rfl rfl rfl ?_
  show G C 0 0 61 [aR 0 0 0, aI (nI (W)), aI (nI (0))] [] [rawW rw rm rn f1 (getA f2 ke (85 * W) 6) (getA f3 ke ((85 * W) + 6) 6) (getA f4 ke (((85 * W) + 6) + 6) 6) (getA f5 ke ((((85 * W) + 6) + 6) + 6) 4) (getA f6 ke (((((85 * W) + 6) + 6) + 6) + 4) 4) (getA f7 ke ((((((85 * W) + 6) + 6) + 6) + 4) + 4) 4) f8 f9 lt len le la td fr ti pt st ke hi false (((((((85 * W) + 6) + 6) + 6) + 4) + 4) + 4) go num nin up fo]
  refine g_aload_n hC dX4_passesAll_61 rfl rfl ?_
  refine g_aload_n hC dX4_passesAll_62 rfl rfl ?_
  refine gf_X4_plan hC dX4_passesAll_63 rfl rfl ?_
  refine gi_X4_143 hC (is := [0]) (st := []) (c_X4_passes_r8 rw rm rn f1 (getA f2 ke (85 * W) 6) (getA f3 ke ((85 * W) + 6) 6) (getA f4 ke (((85 * W) + 6) + 6) 6) (getA f5 ke ((((85 * W) + 6) + 6) + 6) 4) (getA f6 ke (((((85 * W) + 6) + 6) + 6) + 4) 4) (getA f7 ke ((((((85 * W) + 6) + 6) + 6) + 4) + 4) 4) f8 f9 lt len le la td fr ti pt st ke hi ik (((((((85 * W) + 6) + 6) + 6) + 4) + 4) + 4) go num nin up fo (by omega)) dX4_passesAll_66 rfl ⟨by decide, by decide⟩ ⟨by decide, by decide⟩ rfl (by decide) rfl rfl rfl ?_
  show G C 0 0 69 [aR 0 0 0, aI (nI (W)), aI (nI (0))] [] [rawW rw rm rn f1 (getA f2 ke (85 * W) 6) (getA f3 ke ((85 * W) + 6) 6) (getA f4 ke (((85 * W) + 6) + 6) 6) (getA f5 ke ((((85 * W) + 6) + 6) + 6) 4) (getA f6 ke (((((85 * W) + 6) + 6) + 6) + 4) 4) (getA f7 ke ((((((85 * W) + 6) + 6) + 6) + 4) + 4) 4) (getA f8 ke (((((((85 * W) + 6) + 6) + 6) + 4) + 4) + 4) 24) f9 lt len le la td fr ti pt st ke hi false ((((((((85 * W) + 6) + 6) + 6) + 4) + 4) + 4) + 24) go num nin up fo]
  refine g_aload_n hC dX4_passesAll_69 rfl rfl ?_
  refine g_aload_n hC dX4_passesAll_70 rfl rfl ?_
  refine gf_X4_trace hC dX4_passesAll_71 rfl rfl ?_
  refine gi_X4_143 hC (is := [0]) (st := []) (c_X4_passes_r9 rw rm rn f1 (getA f2 ke (85 * W) 6) (getA f3 ke ((85 * W) + 6) 6) (getA f4 ke (((85 * W) + 6) + 6) 6) (getA f5 ke ((((85 * W) + 6) + 6) + 6) 4) (getA f6 ke (((((85 * W) + 6) + 6) + 6) + 4) 4) (getA f7 ke ((((((85 * W) + 6) + 6) + 6) + 4) + 4) 4) (getA f8 ke (((((((85 * W) + 6) + 6) + 6) + 4) + 4) + 4) 24) f9 lt len le la td fr ti pt st ke hi ik ((((((((85 * W) + 6) + 6) + 6) + 4) + 4) + 4) + 24) go num nin up fo (by omega)) dX4_passesAll_74 rfl ⟨by decide, by decide⟩ ⟨by decide, by decide⟩ rfl (by decide) rfl rfl rfl ?_
  show G C 0 0 77 [aR 0 0 0, aI (nI (W)), aI (nI (0))] [] [rawW rw rm rn f1 (getA f2 ke (85 * W) 6) (getA f3 ke ((85 * W) + 6) 6) (getA f4 ke (((85 * W) + 6) + 6) 6) (getA f5 ke ((((85 * W) + 6) + 6) + 6) 4) (getA f6 ke (((((85 * W) + 6) + 6) + 6) + 4) 4) (getA f7 ke ((((((85 * W) + 6) + 6) + 6) + 4) + 4) 4) (getA f8 ke (((((((85 * W) + 6) + 6) + 6) + 4) + 4) + 4) 24) (getA f9 ke ((((((((85 * W) + 6) + 6) + 6) + 4) + 4) + 4) + 24) 24) lt len le la td fr ti pt st ke hi false (((((((((85 * W) + 6) + 6) + 6) + 4) + 4) + 4) + 24) + 24) go num nin up fo]
  refine g_aload_n hC dX4_passesAll_77 rfl rfl ?_
  refine g_aload_n hC dX4_passesAll_78 rfl rfl ?_
  refine g_aload_n hC dX4_passesAll_79 rfl rfl ?_
  refine gf_X4_walkers hC dX4_passesAll_80 rfl rfl ?_
  refine gi_X4_147 hC (is := [0]) (st := [aR 0 0 0]) (c_X4_passOne_r rw rm rn f1 (getA f2 ke (85 * W) 6) (getA f3 ke ((85 * W) + 6) 6) (getA f4 ke (((85 * W) + 6) + 6) 6) (getA f5 ke ((((85 * W) + 6) + 6) + 6) 4) (getA f6 ke (((((85 * W) + 6) + 6) + 6) + 4) 4) (getA f7 ke ((((((85 * W) + 6) + 6) + 6) + 4) + 4) 4) (getA f8 ke (((((((85 * W) + 6) + 6) + 6) + 4) + 4) + 4) 24) (getA f9 ke ((((((((85 * W) + 6) + 6) + 6) + 4) + 4) + 4) + 24) 24) lt len le la td fr ti pt st ke hi ik (((((((((85 * W) + 6) + 6) + 6) + 4) + 4) + 4) + 24) + 24) go num nin up fo rw (by omega)) dX4_passesAll_83 rfl ⟨by decide, by decide⟩ ⟨by decide, by decide⟩ rfl (by decide) rfl rfl rfl ?_
  show G C 0 0 86 [aR 0 0 0, aI (nI (W)), aI (nI (0))] [aI ((ke (((((((((85 * W) + 6) + 6) + 6) + 4) + 4) + 4) + 24) + 24))), aR 0 0 0] [rawW rw rm rn f1 (getA f2 ke (85 * W) 6) (getA f3 ke ((85 * W) + 6) 6) (getA f4 ke (((85 * W) + 6) + 6) 6) (getA f5 ke ((((85 * W) + 6) + 6) + 6) 4) (getA f6 ke (((((85 * W) + 6) + 6) + 6) + 4) 4) (getA f7 ke ((((((85 * W) + 6) + 6) + 6) + 4) + 4) 4) (getA f8 ke (((((((85 * W) + 6) + 6) + 6) + 4) + 4) + 4) 24) (getA f9 ke ((((((((85 * W) + 6) + 6) + 6) + 4) + 4) + 4) + 24) 24) lt len le la td fr ti pt st ke hi false ((((((((((85 * W) + 6) + 6) + 6) + 4) + 4) + 4) + 24) + 24) + 1) go num nin up fo]
  refine gp_X4_walkers hC dX4_passesAll_86 rfl rfl ?_
  refine g_aload_n hC dX4_passesAll_89 rfl rfl ?_
  refine g_aload_n hC dX4_passesAll_90 rfl rfl ?_
  refine g_aload_n hC dX4_passesAll_91 rfl rfl ?_
  refine gf_X4_minute hC dX4_passesAll_92 rfl rfl ?_
  refine gi_X4_147 hC (is := [0]) (st := [aR 0 0 0]) (c_X4_passOne_r (ke (((((((((85 * W) + 6) + 6) + 6) + 4) + 4) + 4) + 24) + 24)) rm rn f1 (getA f2 ke (85 * W) 6) (getA f3 ke ((85 * W) + 6) 6) (getA f4 ke (((85 * W) + 6) + 6) 6) (getA f5 ke ((((85 * W) + 6) + 6) + 6) 4) (getA f6 ke (((((85 * W) + 6) + 6) + 6) + 4) 4) (getA f7 ke ((((((85 * W) + 6) + 6) + 6) + 4) + 4) 4) (getA f8 ke (((((((85 * W) + 6) + 6) + 6) + 4) + 4) + 4) 24) (getA f9 ke ((((((((85 * W) + 6) + 6) + 6) + 4) + 4) + 4) + 24) 24) lt len le la td fr ti pt st ke hi ik ((((((((((85 * W) + 6) + 6) + 6) + 4) + 4) + 4) + 24) + 24) + 1) go num nin up fo rm (by omega)) dX4_passesAll_95 rfl ⟨by decide, by decide⟩ ⟨by decide, by decide⟩ rfl (by decide) rfl rfl rfl ?_
  show G C 0 0 98 [aR 0 0 0, aI (nI (W)), aI (nI (0))] [aI ((ke ((((((((((85 * W) + 6) + 6) + 6) + 4) + 4) + 4) + 24) + 24) + 1))), aR 0 0 0] [rawW (ke (((((((((85 * W) + 6) + 6) + 6) + 4) + 4) + 4) + 24) + 24)) rm rn f1 (getA f2 ke (85 * W) 6) (getA f3 ke ((85 * W) + 6) 6) (getA f4 ke (((85 * W) + 6) + 6) 6) (getA f5 ke ((((85 * W) + 6) + 6) + 6) 4) (getA f6 ke (((((85 * W) + 6) + 6) + 6) + 4) 4) (getA f7 ke ((((((85 * W) + 6) + 6) + 6) + 4) + 4) 4) (getA f8 ke (((((((85 * W) + 6) + 6) + 6) + 4) + 4) + 4) 24) (getA f9 ke ((((((((85 * W) + 6) + 6) + 6) + 4) + 4) + 4) + 24) 24) lt len le la td fr ti pt st ke hi false (((((((((((85 * W) + 6) + 6) + 6) + 4) + 4) + 4) + 24) + 24) + 1) + 1) go num nin up fo]
  refine gp_X4_minute hC dX4_passesAll_98 rfl rfl ?_
  refine g_aload_n hC dX4_passesAll_101 rfl rfl ?_
  refine g_aload_n hC dX4_passesAll_102 rfl rfl ?_
  refine g_aload_n hC dX4_passesAll_103 rfl rfl ?_
  refine gf_X4_nose hC dX4_passesAll_104 rfl rfl ?_
  refine gi_X4_147 hC (is := [0]) (st := [aR 0 0 0]) (c_X4_passOne_r (ke (((((((((85 * W) + 6) + 6) + 6) + 4) + 4) + 4) + 24) + 24)) (ke ((((((((((85 * W) + 6) + 6) + 6) + 4) + 4) + 4) + 24) + 24) + 1)) rn f1 (getA f2 ke (85 * W) 6) (getA f3 ke ((85 * W) + 6) 6) (getA f4 ke (((85 * W) + 6) + 6) 6) (getA f5 ke ((((85 * W) + 6) + 6) + 6) 4) (getA f6 ke (((((85 * W) + 6) + 6) + 6) + 4) 4) (getA f7 ke ((((((85 * W) + 6) + 6) + 6) + 4) + 4) 4) (getA f8 ke (((((((85 * W) + 6) + 6) + 6) + 4) + 4) + 4) 24) (getA f9 ke ((((((((85 * W) + 6) + 6) + 6) + 4) + 4) + 4) + 24) 24) lt len le la td fr ti pt st ke hi ik (((((((((((85 * W) + 6) + 6) + 6) + 4) + 4) + 4) + 24) + 24) + 1) + 1) go num nin up fo rn (by omega)) dX4_passesAll_107 rfl ⟨by decide, by decide⟩ ⟨by decide, by decide⟩ rfl (by decide) rfl rfl rfl ?_
  show G C 0 0 110 [aR 0 0 0, aI (nI (W)), aI (nI (0))] [aI ((ke (((((((((((85 * W) + 6) + 6) + 6) + 4) + 4) + 4) + 24) + 24) + 1) + 1))), aR 0 0 0] [rawW (ke (((((((((85 * W) + 6) + 6) + 6) + 4) + 4) + 4) + 24) + 24)) (ke ((((((((((85 * W) + 6) + 6) + 6) + 4) + 4) + 4) + 24) + 24) + 1)) rn f1 (getA f2 ke (85 * W) 6) (getA f3 ke ((85 * W) + 6) 6) (getA f4 ke (((85 * W) + 6) + 6) 6) (getA f5 ke ((((85 * W) + 6) + 6) + 6) 4) (getA f6 ke (((((85 * W) + 6) + 6) + 6) + 4) 4) (getA f7 ke ((((((85 * W) + 6) + 6) + 6) + 4) + 4) 4) (getA f8 ke (((((((85 * W) + 6) + 6) + 6) + 4) + 4) + 4) 24) (getA f9 ke ((((((((85 * W) + 6) + 6) + 6) + 4) + 4) + 4) + 24) 24) lt len le la td fr ti pt st ke hi false ((((((((((((85 * W) + 6) + 6) + 6) + 4) + 4) + 4) + 24) + 24) + 1) + 1) + 1) go num nin up fo]
  refine gp_X4_nose hC dX4_passesAll_110 rfl rfl ?_
  exact g_vret hC rfl dX4_passesAll_113 (⟨rfl, rfl⟩)
def apd (f : Nat → Int32) (n : Nat) (g : Nat → Int32) : Nat → Int32 := fun j => if j < n then f j else g (j - n)
theorem apd_lo {f g : Nat → Int32} {n j : Nat} (h : j < n) : apd f n g j = f j := if_pos h
theorem apd_hi {f g : Nat → Int32} {n j : Nat} : apd f n g (n + j) = g j := by
  show (if n + j < n then f (n + j) else g (n + j - n)) = g j
  rw [if_neg (by omega), Nat.add_sub_cancel_left]
theorem cpyAt_apd {ke f g : Nat → Int32} {c n m d s : Nat} (hd : d = c + n) (hs : s = n + m) : cpyAt (cpyAt ke f c n) g d m = cpyAt ke (apd f n g) c s := by
  subst hd
  subst hs
  funext j
  show (if c + n ≤ j ∧ j < c + n + m then g (j - (c + n)) else if c ≤ j ∧ j < c + n then f (j - c) else ke j) = if c ≤ j ∧ j < c + (n + m) then (if j - c < n then f (j - c) else g (j - c - n)) else ke j
  by_cases h1 : c + n ≤ j ∧ j < c + n + m
  · rw [if_pos h1, if_pos (by omega), if_neg (by omega), show j - (c + n) = j - c - n by omega]
  · rw [if_neg h1]
    by_cases h2 : c ≤ j ∧ j < c + n
    · rw [if_pos h2, if_pos (by omega), if_pos (by omega)]
    · rw [if_neg h2, if_neg (by omega)]
theorem upd_cpy (ke : Nat → Int32) (d : Nat) (x : Int32) : upd ke d x = cpyAt ke (fun _ => x) d 1 := by
  funext j
  show (if j = d then x else ke j) = if d ≤ j ∧ j < d + 1 then x else ke j
  by_cases h : j = d
  · rw [if_pos h, if_pos (by omega)]
  · rw [if_neg h, if_neg (by omega)]
def encd (u : Vw) (ro : Nat → Nat) : Nat → Int32 := (apd (apd (apd (apd (apd (apd (apd (apd (apd (apd (fun j => nI (vWi u j)) 6 (fun j => nI (ro j))) 12 (fun j => nI (vPa u j))) 18 (fun j => nI (vKi u j))) 22 (fun j => nI (vPl u j))) 26 (fun j => nI (vPL u j))) 30 (fun k => nI (vPp u (k / 6) (k % 6)))) 54 (fun k => oI (-9) (vLf u (k / 6) (k % 6)))) 78 (fun _ => nI (vN u))) 79 (fun _ => nI (vMi u))) 80 (fun _ => nI (vNo u)))
/-- the town is put away from place c on -/
def kpt (u : Vw) (ro : Nat → Nat) (ke : Nat → Int32) (c : Nat) : Nat → Int32 := cpyAt ke (encd u ro) c 81
theorem kpt_at {u : Vw} {ro : Nat → Nat} {ke : Nat → Int32} {c j : Nat} (hj : j < 81) : kpt u ro ke c (c + j) = encd u ro j := by
  show (if c ≤ c + j ∧ c + j < c + 81 then encd u ro (c + j - c) else ke (c + j)) = _
  rw [if_pos (by omega), Nat.add_sub_cancel_left]
theorem kpt_lo {u : Vw} {ro : Nat → Nat} {ke : Nat → Int32} {c j : Nat} (hj : j < c) : kpt u ro ke c j = ke j := by
  show (if c ≤ j ∧ j < c + 81 then encd u ro (j - c) else ke j) = _
  rw [if_neg (by omega)]
theorem kpt_eq (u : Vw) (ro : Nat → Nat) (ke : Nat → Int32) (W : Nat) : (upd (upd (upd (cpyAt (cpyAt (cpyAt (cpyAt (cpyAt (cpyAt (cpyAt (cpyAt ke (fun j => nI (vWi u j)) (85 * W) 6) (fun j => nI (ro j)) ((85 * W) + 6) 6) (fun j => nI (vPa u j)) (((85 * W) + 6) + 6) 6) (fun j => nI (vKi u j)) ((((85 * W) + 6) + 6) + 6) 4) (fun j => nI (vPl u j)) (((((85 * W) + 6) + 6) + 6) + 4) 4) (fun j => nI (vPL u j)) ((((((85 * W) + 6) + 6) + 6) + 4) + 4) 4) (fun k => nI (vPp u (k / 6) (k % 6))) (((((((85 * W) + 6) + 6) + 6) + 4) + 4) + 4) 24) (fun k => oI (-9) (vLf u (k / 6) (k % 6))) ((((((((85 * W) + 6) + 6) + 6) + 4) + 4) + 4) + 24) 24) (((((((((85 * W) + 6) + 6) + 6) + 4) + 4) + 4) + 24) + 24) (nI (vN u))) ((((((((((85 * W) + 6) + 6) + 6) + 4) + 4) + 4) + 24) + 24) + 1) (nI (vMi u))) (((((((((((85 * W) + 6) + 6) + 6) + 4) + 4) + 4) + 24) + 24) + 1) + 1) (nI (vNo u))) = kpt u ro ke (85 * W) := by
  rw [upd_cpy, upd_cpy, upd_cpy]
  rw [cpyAt_apd (c := 85 * W) (n := 6) (m := 6) (s := 12) (d := ((85 * W) + 6)) (by omega) rfl]
  rw [cpyAt_apd (c := 85 * W) (n := 12) (m := 6) (s := 18) (d := (((85 * W) + 6) + 6)) (by omega) rfl]
  rw [cpyAt_apd (c := 85 * W) (n := 18) (m := 4) (s := 22) (d := ((((85 * W) + 6) + 6) + 6)) (by omega) rfl]
  rw [cpyAt_apd (c := 85 * W) (n := 22) (m := 4) (s := 26) (d := (((((85 * W) + 6) + 6) + 6) + 4)) (by omega) rfl]
  rw [cpyAt_apd (c := 85 * W) (n := 26) (m := 4) (s := 30) (d := ((((((85 * W) + 6) + 6) + 6) + 4) + 4)) (by omega) rfl]
  rw [cpyAt_apd (c := 85 * W) (n := 30) (m := 24) (s := 54) (d := (((((((85 * W) + 6) + 6) + 6) + 4) + 4) + 4)) (by omega) rfl]
  rw [cpyAt_apd (c := 85 * W) (n := 54) (m := 24) (s := 78) (d := ((((((((85 * W) + 6) + 6) + 6) + 4) + 4) + 4) + 24)) (by omega) rfl]
  rw [cpyAt_apd (c := 85 * W) (n := 78) (m := 1) (s := 79) (d := (((((((((85 * W) + 6) + 6) + 6) + 4) + 4) + 4) + 24) + 24)) (by omega) rfl]
  rw [cpyAt_apd (c := 85 * W) (n := 79) (m := 1) (s := 80) (d := ((((((((((85 * W) + 6) + 6) + 6) + 4) + 4) + 4) + 24) + 24) + 1)) (by omega) rfl]
  rw [cpyAt_apd (c := 85 * W) (n := 80) (m := 1) (s := 81) (d := (((((((((((85 * W) + 6) + 6) + 6) + 4) + 4) + 4) + 24) + 24) + 1) + 1)) (by omega) rfl]
  rfl
theorem enc_0 {t : Vw} {rt : Nat → Nat} {j : Nat} (hj : j < 6) : encd t rt j = nI (vWi t j) := by
  unfold encd
  rw [apd_lo (by omega), apd_lo (by omega), apd_lo (by omega), apd_lo (by omega), apd_lo (by omega), apd_lo (by omega), apd_lo (by omega), apd_lo (by omega), apd_lo (by omega), apd_lo (by omega)]
theorem enc_1 {t : Vw} {rt : Nat → Nat} {j : Nat} (hj : j < 6) : encd t rt (6 + j) = nI (rt j) := by
  unfold encd
  rw [apd_lo (by omega), apd_lo (by omega), apd_lo (by omega), apd_lo (by omega), apd_lo (by omega), apd_lo (by omega), apd_lo (by omega), apd_lo (by omega), apd_lo (by omega), apd_hi]
theorem enc_2 {t : Vw} {rt : Nat → Nat} {j : Nat} (hj : j < 6) : encd t rt (12 + j) = nI (vPa t j) := by
  unfold encd
  rw [apd_lo (by omega), apd_lo (by omega), apd_lo (by omega), apd_lo (by omega), apd_lo (by omega), apd_lo (by omega), apd_lo (by omega), apd_lo (by omega), apd_hi]
theorem enc_3 {t : Vw} {rt : Nat → Nat} {j : Nat} (hj : j < 4) : encd t rt (18 + j) = nI (vKi t j) := by
  unfold encd
  rw [apd_lo (by omega), apd_lo (by omega), apd_lo (by omega), apd_lo (by omega), apd_lo (by omega), apd_lo (by omega), apd_lo (by omega), apd_hi]
theorem enc_4 {t : Vw} {rt : Nat → Nat} {j : Nat} (hj : j < 4) : encd t rt (22 + j) = nI (vPl t j) := by
  unfold encd
  rw [apd_lo (by omega), apd_lo (by omega), apd_lo (by omega), apd_lo (by omega), apd_lo (by omega), apd_lo (by omega), apd_hi]
theorem enc_5 {t : Vw} {rt : Nat → Nat} {j : Nat} (hj : j < 4) : encd t rt (26 + j) = nI (vPL t j) := by
  unfold encd
  rw [apd_lo (by omega), apd_lo (by omega), apd_lo (by omega), apd_lo (by omega), apd_lo (by omega), apd_hi]
theorem enc_6 {t : Vw} {rt : Nat → Nat} {j : Nat} (hj : j < 24) : encd t rt (30 + j) = nI (vPp t (j / 6) (j % 6)) := by
  unfold encd
  rw [apd_lo (by omega), apd_lo (by omega), apd_lo (by omega), apd_lo (by omega), apd_hi]
theorem enc_7 {t : Vw} {rt : Nat → Nat} {j : Nat} (hj : j < 24) : encd t rt (54 + j) = oI (-9) (vLf t (j / 6) (j % 6)) := by
  unfold encd
  rw [apd_lo (by omega), apd_lo (by omega), apd_lo (by omega), apd_hi]
theorem enc_8 {t : Vw} {rt : Nat → Nat} : encd t rt 78 = nI (vN t) := by
  unfold encd
  rw [apd_lo (by omega), apd_lo (by omega), show (78 : Nat) = 78 + 0 from rfl, apd_hi]
theorem enc_9 {t : Vw} {rt : Nat → Nat} : encd t rt 79 = nI (vMi t) := by
  unfold encd
  rw [apd_lo (by omega), show (79 : Nat) = 79 + 0 from rfl, apd_hi]
theorem enc_10 {t : Vw} {rt : Nat → Nat} : encd t rt 80 = nI (vNo t) := by
  unfold encd
  rw [show (80 : Nat) = 80 + 0 from rfl, apd_hi]
theorem getA_of {α : Type} (h : α → Int32) {f g : Nat → α} {ke : Nat → Int32} {c n : Nat} (hk : ∀ j, j < n → ke (c + j) = h (f j)) : getA (fun j => h (g j)) ke c n = fun j => h (if j < n then f j else g j) := by
  funext j
  show (if j < n then ke (c + j) else h (g j)) = _
  by_cases q : j < n
  · rw [if_pos q, if_pos q, hk j q]
  · rw [if_neg q, if_neg q]
theorem flat_cpy {α : Type} (f g : Nat → Nat → α) (k : Nat) : (if k < 24 then f (k / 6) (k % 6) else g (k / 6) (k % 6)) = cpyR f g 4 6 (k / 6) (k % 6) := by
  show _ = if k / 6 < 4 ∧ k % 6 < 6 then f (k / 6) (k % 6) else g (k / 6) (k % 6)
  by_cases q : k < 24
  · rw [if_pos q, if_pos (by omega)]
  · rw [if_neg q, if_neg (by omega)]
/-- t's town, over what stood there -/
def rst (t u : Vw) : Vw := (cpyN (vWi t) (vWi u) 6, cpyN (vPa t) (vPa u) 6, vN t, cpyN (vKi t) (vKi u) 4, cpyN (vPl t) (vPl u) 4, cpyN (vPL t) (vPL u) 4, cpyR (vPp t) (vPp u) 4 6, cpyR (vLf t) (vLf u) 4 6, vMi t, vNo t)
theorem rst_sm {B : Nat} {t u : Vw} (h : wf B t) : Sm (rst t u) t := by
  have hn := wf_n h
  refine ⟨rfl, rfl, rfl, fun r hr => if_pos hr, fun r hr => if_pos hr, fun w hw => if_pos ?_, fun w hw => if_pos ?_, fun w hw => if_pos ?_, fun w hw j hj => if_pos ⟨?_, ?_⟩, fun w hw r hr => if_pos ⟨?_, hr⟩⟩
  · have hw : w < vN t := hw
    omega
  · have hw : w < vN t := hw
    omega
  · have hw : w < vN t := hw
    omega
  · have hw : w < vN t := hw
    omega
  · have hw : w < vN t := hw
    have hj : j < (if w < 4 then vPL t w else vPL u w) := hj
    rw [if_pos (by omega)] at hj
    have := wf_pL h w hw
    omega
  · have hw : w < vN t := hw
    omega
theorem cpyN_same {ro : Nat → Nat} {n : Nat} : ∀ r, r < n → cpyN ro ro n r = ro r := fun r hr => if_pos hr
def PMs (u : Vw) (ro re lt : Nat → Nat) (len : Nat) (ke : Nat → Int32) (hi : Bool) (num : Nat → Nat) (nin : Nat) (M : AM) : Prop :=
  ∃ (u1 : Vw) (ro1 : Nat → Nat), Sm u1 u ∧ (∀ r, r < 6 → ro1 r = ro r) ∧ PM u1 ro1 re lt len ke hi num nin M
theorem PM.s {u : Vw} {ro re lt : Nat → Nat} {len : Nat} {ke : Nat → Int32} {hi : Bool} {num : Nat → Nat} {nin : Nat} {M : AM} (h : PM u ro re lt len ke hi num nin M) : PMs u ro re lt len ke hi num nin M := ⟨u, ro, sm_rfl u, fun _ _ => rfl, h⟩
set_option maxHeartbeats 4000000 in
theorem rst_eq (u : Vw) (ro re lt : Nat → Nat) (len : Nat) (le la : Nat → Nat) (td : Nat → Int32) (fr ti : Nat → Nat) (pt st : Nat) (ke : Nat → Int32) (hi ik : Bool) (cu : Nat) (go num : Nat → Nat) (nin : Nat) (up fo : Nat → Nat) (t : Vw) (rt : Nat → Nat) (W : Nat) (hk : ∀ j, j < 81 → ke (85 * W + j) = encd t rt j) : rawW (ke (((((((((85 * W) + 6) + 6) + 6) + 4) + 4) + 4) + 24) + 24)) (ke ((((((((((85 * W) + 6) + 6) + 6) + 4) + 4) + 4) + 24) + 24) + 1)) (ke (((((((((((85 * W) + 6) + 6) + 6) + 4) + 4) + 4) + 24) + 24) + 1) + 1)) (fun j => nI (re j)) (getA (fun j => nI (vWi u j)) ke (85 * W) 6) (getA (fun j => nI (ro j)) ke ((85 * W) + 6) 6) (getA (fun j => nI (vPa u j)) ke (((85 * W) + 6) + 6) 6) (getA (fun j => nI (vKi u j)) ke ((((85 * W) + 6) + 6) + 6) 4) (getA (fun j => nI (vPl u j)) ke (((((85 * W) + 6) + 6) + 6) + 4) 4) (getA (fun j => nI (vPL u j)) ke ((((((85 * W) + 6) + 6) + 6) + 4) + 4) 4) (getA (fun k => nI (vPp u (k / 6) (k % 6))) ke (((((((85 * W) + 6) + 6) + 6) + 4) + 4) + 4) 24) (getA (fun k => oI (-9) (vLf u (k / 6) (k % 6))) ke ((((((((85 * W) + 6) + 6) + 6) + 4) + 4) + 4) + 24) 24) lt len le la td fr ti pt st ke hi ik cu go num nin up fo = modW (rst t u) (cpyN rt ro 6) re lt len le la td fr ti pt st ke hi ik cu go num nin up fo := by
  have e0 := getA_of nI (f := vWi t) (g := vWi u) (ke := ke) (c := (85 * W)) (n := 6) (fun j hj => by rw [show (85 * W) + j = 85 * W + (j) by omega, hk _ (by omega), enc_0 hj])
  have e1 := getA_of nI (f := rt) (g := ro) (ke := ke) (c := ((85 * W) + 6)) (n := 6) (fun j hj => by rw [show ((85 * W) + 6) + j = 85 * W + (6 + j) by omega, hk _ (by omega), enc_1 hj])
  have e2 := getA_of nI (f := vPa t) (g := vPa u) (ke := ke) (c := (((85 * W) + 6) + 6)) (n := 6) (fun j hj => by rw [show (((85 * W) + 6) + 6) + j = 85 * W + (12 + j) by omega, hk _ (by omega), enc_2 hj])
  have e3 := getA_of nI (f := vKi t) (g := vKi u) (ke := ke) (c := ((((85 * W) + 6) + 6) + 6)) (n := 4) (fun j hj => by rw [show ((((85 * W) + 6) + 6) + 6) + j = 85 * W + (18 + j) by omega, hk _ (by omega), enc_3 hj])
  have e4 := getA_of nI (f := vPl t) (g := vPl u) (ke := ke) (c := (((((85 * W) + 6) + 6) + 6) + 4)) (n := 4) (fun j hj => by rw [show (((((85 * W) + 6) + 6) + 6) + 4) + j = 85 * W + (22 + j) by omega, hk _ (by omega), enc_4 hj])
  have e5 := getA_of nI (f := vPL t) (g := vPL u) (ke := ke) (c := ((((((85 * W) + 6) + 6) + 6) + 4) + 4)) (n := 4) (fun j hj => by rw [show ((((((85 * W) + 6) + 6) + 6) + 4) + 4) + j = 85 * W + (26 + j) by omega, hk _ (by omega), enc_5 hj])
  have e6 := getA_of nI (f := fun k => vPp t (k / 6) (k % 6)) (g := fun k => vPp u (k / 6) (k % 6)) (ke := ke) (c := (((((((85 * W) + 6) + 6) + 6) + 4) + 4) + 4)) (n := 24) (fun j hj => by rw [show (((((((85 * W) + 6) + 6) + 6) + 4) + 4) + 4) + j = 85 * W + (30 + j) by omega, hk _ (by omega), enc_6 hj])
  have e7 := getA_of (oI (-9)) (f := fun k => vLf t (k / 6) (k % 6)) (g := fun k => vLf u (k / 6) (k % 6)) (ke := ke) (c := ((((((((85 * W) + 6) + 6) + 6) + 4) + 4) + 4) + 24)) (n := 24) (fun j hj => by rw [show ((((((((85 * W) + 6) + 6) + 6) + 4) + 4) + 4) + 24) + j = 85 * W + (54 + j) by omega, hk _ (by omega), enc_7 hj])
  have e8 : ke (((((((((85 * W) + 6) + 6) + 6) + 4) + 4) + 4) + 24) + 24) = nI (vN t) := by rw [show (((((((((85 * W) + 6) + 6) + 6) + 4) + 4) + 4) + 24) + 24) = 85 * W + 78 by omega, hk _ (by omega), enc_8]
  have e9 : ke ((((((((((85 * W) + 6) + 6) + 6) + 4) + 4) + 4) + 24) + 24) + 1) = nI (vMi t) := by rw [show ((((((((((85 * W) + 6) + 6) + 6) + 4) + 4) + 4) + 24) + 24) + 1) = 85 * W + 79 by omega, hk _ (by omega), enc_9]
  have e10 : ke (((((((((((85 * W) + 6) + 6) + 6) + 4) + 4) + 4) + 24) + 24) + 1) + 1) = nI (vNo t) := by rw [show (((((((((((85 * W) + 6) + 6) + 6) + 4) + 4) + 4) + 24) + 24) + 1) + 1) = 85 * W + 80 by omega, hk _ (by omega), enc_10]
  have p6 : (fun k => nI (if k < 24 then vPp t (k / 6) (k % 6) else vPp u (k / 6) (k % 6))) = fun k => nI (cpyR (vPp t) (vPp u) 4 6 (k / 6) (k % 6)) := by funext k; rw [flat_cpy]
  have p7 : (fun k => oI (-9) (if k < 24 then vLf t (k / 6) (k % 6) else vLf u (k / 6) (k % 6))) = fun k => oI (-9) (cpyR (vLf t) (vLf u) 4 6 (k / 6) (k % 6)) := by funext k; rw [flat_cpy]
  rw [e0, e1, e2, e3, e4, e5, e6, e7, e8, e9, e10, p6, p7]
  rfl
theorem c_X4_passesAll_K (u : Vw) (ro re lt : Nat → Nat) (len : Nat) (le la : Nat → Nat) (td : Nat → Int32) (fr ti : Nat → Nat) (pt st : Nat) (ke : Nat → Int32) (hi ik : Bool) (cu : Nat) (go num : Nat → Nat) (nin : Nat) (up fo : Nat → Nat) {W : Nat} (hW : W ≤ 1) : ConF yX4_passesAll cX4_passesAll 3 none 1 [aR 0 0 0, aI (nI W), aI (nI 1)] [modW u ro re lt len le la td fr ti pt st ke hi ik cu go num nin up fo] none [modW u ro re lt len le la td fr ti pt st (kpt u ro ke (85 * W)) hi true ((((((((((((85 * W) + 6) + 6) + 6) + 4) + 4) + 4) + 24) + 24) + 1) + 1) + 1) go num nin up fo] := by
  have h := c_X4_passesAll_k (nI (vN u)) (nI (vMi u)) (nI (vNo u)) (fun j => nI (re j)) (fun j => nI (vWi u j)) (fun j => nI (ro j)) (fun j => nI (vPa u j)) (fun j => nI (vKi u j)) (fun j => nI (vPl u j)) (fun j => nI (vPL u j)) (fun k => nI (vPp u (k / 6) (k % 6))) (fun k => oI (-9) (vLf u (k / 6) (k % 6))) lt len le la td fr ti pt st ke hi ik cu go num nin up fo hW
  rw [kpt_eq] at h
  exact h
theorem c_X4_passesAll_R (u : Vw) (ro re lt : Nat → Nat) (len : Nat) (le la : Nat → Nat) (td : Nat → Int32) (fr ti : Nat → Nat) (pt st : Nat) (ke : Nat → Int32) (hi ik : Bool) (cu : Nat) (go num : Nat → Nat) (nin : Nat) (up fo : Nat → Nat) (t : Vw) (rt : Nat → Nat) {W : Nat} (hW : W ≤ 1) (hk : ∀ j, j < 81 → ke (85 * W + j) = encd t rt j) : ConF yX4_passesAll cX4_passesAll 3 none 1 [aR 0 0 0, aI (nI W), aI (nI 0)] [modW u ro re lt len le la td fr ti pt st ke hi ik cu go num nin up fo] none [modW (rst t u) (cpyN rt ro 6) re lt len le la td fr ti pt st ke hi false ((((((((((((85 * W) + 6) + 6) + 6) + 4) + 4) + 4) + 24) + 24) + 1) + 1) + 1) go num nin up fo] := by
  have h := c_X4_passesAll_r (nI (vN u)) (nI (vMi u)) (nI (vNo u)) (fun j => nI (re j)) (fun j => nI (vWi u j)) (fun j => nI (ro j)) (fun j => nI (vPa u j)) (fun j => nI (vKi u j)) (fun j => nI (vPl u j)) (fun j => nI (vPL u j)) (fun k => nI (vPp u (k / 6) (k % 6))) (fun k => oI (-9) (vLf u (k / 6) (k % 6))) lt len le la td fr ti pt st ke hi ik cu go num nin up fo hW
  rw [rst_eq u ro re lt len le la td fr ti pt st ke hi false ((((((((((((85 * W) + 6) + 6) + 6) + 4) + 4) + 4) + 24) + 24) + 1) + 1) + 1) go num nin up fo t rt W hk] at h
  exact h
