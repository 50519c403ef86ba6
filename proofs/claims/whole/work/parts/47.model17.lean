/-! ===== town, in the reference ===== -/
def stt (lt : Nat → Nat) (len : Nat) : Nat → Nat
  | 0 => 0
  | j + 1 => (stp lt len (stt lt len j)).1 + 1
theorem stp_bd {lt : Nat → Nat} {len s : Nat} (h : (stp lt len s).2 = true) : s + 2 ≤ (stp lt len s).1 ∧ (stp lt len s).1 < len := by
  have he : stp lt len s = ((stp lt len s).1, true) := by rw [← h]
  obtain ⟨h1, ⟨_, _, _, _, _, _, _, q⟩ | ⟨_, _, _, _, _, _, _, q⟩ | ⟨_, _, _, _, q⟩ | ⟨_, _, _, _, q⟩ | ⟨_, _, _, _, _, _, _, _, q⟩⟩ := stp_cases he <;> exact ⟨by omega, (ltr_in h1).1⟩
theorem neg_2000 {s : Nat} (h : s ≤ 96) : (-2000 : Int32) - nI s < 0 := by
  have : ∀ s, s ≤ 96 → (-2000 : Int32) - nI s < 0 := by decide +kernel
  exact this s h
theorem nI_nn {n : Nat} (h : n < 2 ^ 31) : ¬ nI n < 0 := nI_pos h
/-- the state behind town -/
def PT (y : Vw × Nat) (re lt : Nat → Nat) (ke : Nat → Int32) (hi : Bool) (num : Nat → Nat) (nin : Nat) (M : AM) : Prop :=
  ∃ (u1 : Vw) (ro1 : Nat → Nat), Sm u1 y.1 ∧ RR y.2 ro1 ∧ PM u1 ro1 re lt 0 ke hi num nin M
theorem rr_same {rf : Nat} {ro ro1 : Nat → Nat} (h : RR rf ro) (h2 : ∀ r, r < 6 → ro1 r = ro r) : RR rf ro1 := ⟨h.1, fun r hr => by rw [h2 r hr]; exact h.2 r hr⟩
set_option maxRecDepth 100000 in
set_option maxHeartbeats 4000000 in
theorem c_X4_town (u : Vw) (ro re lt : Nat → Nat) (len : Nat) (le la : Nat → Nat) (td : Nat → Int32) (fr ti : Nat → Nat) (pt st : Nat) (ke : Nat → Int32) (hi ik : Bool) (cu : Nat) (go num : Nat → Nat) (nin : Nat) (up fo : Nat → Nat) {B : Nat} (hu : wf B u) (hB : B ≤ 200) (rf : Nat) (hrr : RR rf ro) (hlen : len ≤ 96) (hlt : ∀ j, j < len → lt j < 256) : Con yX4_town cX4_town 3 (some .int) 5 0 0 [aR 0 0 0] [modW u ro re lt len le la td fr ti pt st ke hi ik cu go num nin up fo] (fun r M => r = some (aI (aTown lt len u rf)) ∧ PT (nTown lt len u rf) re lt ke hi num nin M) := by
  refine con_of RX4 pn_X4 rfl rfl (Nat.le_of_ble_eq_true rfl) (fun C hM0 hC => ?_)
  show G C 0 0 0 [aR 0 0 0, aK 9, aK 9] [] [modW u ro re lt len le la td fr ti pt st ke hi ik cu go num nin up fo]
  have lp2 : ∀ (c0 p9 : Nat) (le2 la2 : Nat → Nat) (td2 : Nat → Int32) (fr2 ti2 : Nat → Nat), 0 < c0 → c0 < 48 → (∀ j, j < c0 → Ent lt len le2 la2 td2 fr2 ti2 j (stt lt len j)) → (∀ j, 0 < j → j < c0 → (stt lt len j) < len) → ¬ (stt lt len c0) < len → fw lt len (len + 1) 0 = none → ∀ d k f (u1 : Vw) (ro1 : Nat → Nat) (v1 : Vw) (rf1 : Nat), k + d = c0 → Sm u1 v1 → wf B v1 → RR rf1 ro1 → (k < c0 → tl lt len f k (stt lt len k) v1 rf1 = (tl lt len (len + 1) 0 0 u rf) ∧ len < (stt lt len k) + f) → (k = c0 → (tl lt len (len + 1) 0 0 u rf) = (nI c0, (v1, rf1))) → G C 0 0 86 [aR 0 0 0, aK 9, aI (nI (k))] [] [modW u1 ro1 re lt 0 le2 la2 td2 fr2 ti2 p9 c0 (kpt u ro ke (85 * 1)) hi true ((((((((((((85 * 1) + 6) + 6) + 6) + 4) + 4) + 4) + 24) + 24) + 1) + 1) + 1) go num nin up fo] := by
    intro c0 p9 le2 la2 td2 fr2 ti2 hc0 hc48 hent hin hend hfw d
    induction d with
    | zero =>
      intro k f u1 ro1 v1 rf1 hk hsm hv1 hrr1 htl hfin
      obtain rfl : k = c0 := by omega
      have h0 := hfin rfl
      have htt := town_t (v := u) (rf := rf) hfw (by rw [h0]; exact nI_nn (by omega))
      rw [h0] at htt
      refine g_iload_n hC dX4_town_86 rfl ?_
      refine g_aload_n hC dX4_town_87 rfl rfl ?_
      refine gf_X4_statements hC dX4_town_88 rfl rfl ?_
      refine g_icmp_geN (tgt := 128) hC dX4_town_91 (by decide) (by omega) (by omega) (fun h_91 => ?_) (fun h_91 => ?_)
      · skip
        refine g_aload_n hC dX4_town_128 rfl rfl ?_
        refine gf_X4_statements hC dX4_town_129 rfl rfl ?_
        exact g_iret hC rfl dX4_town_132 (⟨rV htt.1.symm, u1, ro1, by rw [htt.2]; exact hsm, by rw [htt.2]; exact hrr1, _, _, _, _, _, _, _, _, _, _, _, _, _, fun j hj => kpt_lo (by omega), rfl⟩)
      · skip
        omega
    | succ d ih =>
      intro k f u1 ro1 v1 rf1 hk hsm hv1 hrr1 htl hfin
      have hkc : k < c0 := by omega
      obtain ⟨ht1, hf1⟩ := htl hkc
      have hsk : (stt lt len k) < len := by cases k with | zero => exact fw_pos hfw | succ k => exact hin _ (by omega) hkc
      have hek := hent k hkc
      have hlk := hek.1
      have hsp : (stp lt len (stt lt len k)) = ((stp lt len (stt lt len k)).1, true) := by rw [← hek.2.1]
      obtain ⟨f, rfl⟩ : ∃ g, f = g + 1 := ⟨f - 1, by omega⟩
      have hos := sm_act (lt := lt) (rf := rf1) hsm (stt lt len k) (stp lt len (stt lt len k)).1
      cases hact : act lt (stt lt len k) (stp lt len (stt lt len k)).1 u1 rf1 with
      | none =>
        have hav : act lt (stt lt len k) (stp lt len (stt lt len k)).1 v1 rf1 = none := by rcases hos with ⟨-, z⟩ | ⟨y, t, z, -⟩; (· exact z); (· rw [hact] at z; cases z)
        rw [tl_no hav] at ht1
        have htf := town_f (v := u) (rf := rf) hfw (by rw [← ht1]; exact neg_2000 (by omega))
        refine g_iload_n hC dX4_town_86 rfl ?_
        refine g_aload_n hC dX4_town_87 rfl rfl ?_
        refine gf_X4_statements hC dX4_town_88 rfl rfl ?_
        refine g_icmp_geN (tgt := 128) hC dX4_town_91 (by decide) (by omega) (by omega) (fun h_91 => ?_) (fun h_91 => ?_)
        · skip
          omega
        · skip
          refine g_aload_n hC dX4_town_94 rfl rfl ?_
          refine g_iload_n hC dX4_town_95 rfl ?_
          refine g_invV (T := TX4) (N := 30) hC (is := [0]) (st := []) (c_X4_comes u1 ro1 re lt 0 le2 la2 td2 fr2 ti2 p9 c0 (kpt u ro ke (85 * 1)) hi true ((((((((((((85 * 1) + 6) + 6) + 6) + 4) + 4) + 4) + 24) + 24) + 1) + 1) + 1) go num nin up fo (sm_wf (sm_symm hsm) hv1) hB (k := k) (ln := len) (s := (stt lt len k)) rf1 (by omega) hlen hrr1 hek) dX4_town_96 tw_4_102 tw_4_104 ts_3_6 tw_1_5 tw_4_105 ⟨hy_X4_comes.1.1, hy_X4_comes.1.2, hy_X4_comes.2⟩ ⟨by decide, by decide⟩ ⟨by decide, by decide⟩ rfl (by decide) rfl rfl rfl rfl rfl (Nat.le_of_ble_eq_true rfl) rfl rfl (fun r1 M1 hp => ?_)
          obtain ⟨rfl, u2, ro2, rfl, hy2⟩ := hp
          refine ⟨rfl, rfl, ?_⟩
          rw [hact]
          show G C 0 0 99 [aR 0 0 0, aK 9, aI (nI (k))] (aI (bI false) :: []) [modW u2 ro2 re lt 0 le2 la2 td2 fr2 ti2 p9 c0 (kpt u ro ke (85 * 1)) hi true ((((((((((((85 * 1) + 6) + 6) + 6) + 4) + 4) + 4) + 24) + 24) + 1) + 1) + 1) go num nin up fo]
          refine g_if_eqB (tgt := 105) hC dX4_town_99 (by decide) (fun h_99 => ?_) (fun h_99 => ?_)
          · skip
            refine g_aload_n hC dX4_town_105 rfl rfl ?_
            refine g_iconst (v := nI (1)) hC dX4_town_106 (by decide) ?_
            refine g_iconst (v := nI (0)) hC dX4_town_107 (by decide) ?_
            refine gi_X4_129 hC (is := [0]) (st := []) (c_X4_passesAll_R u2 ro2 re lt 0 le2 la2 td2 fr2 ti2 p9 c0 (kpt u ro ke (85 * 1)) hi true ((((((((((((85 * 1) + 6) + 6) + 6) + 4) + 4) + 4) + 24) + 24) + 1) + 1) + 1) go num nin up fo u ro (W := 1) (by decide) (fun j hj => kpt_at hj)) dX4_town_108 rfl ⟨by decide, by decide⟩ ⟨by decide, by decide⟩ rfl (by decide) rfl rfl rfl ?_
            refine g_sipush (v := (-2000)) hC dX4_town_111 (by decide) ?_
            refine g_aload_n hC dX4_town_114 rfl rfl ?_
            refine gf_X4_letterAt hC dX4_town_115 rfl rfl ?_
            refine g_iload_n hC dX4_town_118 rfl ?_
            refine g_iald (v := nI ((stt lt len k))) hC dX4_town_119 rfl rfl (by omega) (by decide) (by show nI (la2 k) = _; rw [hlk]) ?_
            refine g_isub hC dX4_town_120 rfl ?_
            exact g_iret hC rfl dX4_town_121 (⟨rV (by rw [htf.1, ← ht1]), rst u u2, cpyN ro ro2 6, by rw [htf.2]; exact rst_sm hu, by rw [htf.2]; exact rr_same hrr cpyN_if, _, _, _, _, _, _, _, _, _, _, _, _, _, fun j hj => kpt_lo (by omega), rfl⟩)
          · skip
            cases h_99
      | some y =>
        obtain ⟨z, hav, hzy, hz2⟩ : ∃ z, act lt (stt lt len k) (stp lt len (stt lt len k)).1 v1 rf1 = some z ∧ Sm y.1 z.1 ∧ y.2 = z.2 := by rcases hos with ⟨z, -⟩ | ⟨y2, t, z1, z2, z3, z4⟩; (· rw [hact] at z; cases z); (· rw [hact] at z1; cases z1; exact ⟨t, z2, z3, z4⟩)
        have hvz := wf_act hv1 hsp hav
        refine g_iload_n hC dX4_town_86 rfl ?_
        refine g_aload_n hC dX4_town_87 rfl rfl ?_
        refine gf_X4_statements hC dX4_town_88 rfl rfl ?_
        refine g_icmp_geN (tgt := 128) hC dX4_town_91 (by decide) (by omega) (by omega) (fun h_91 => ?_) (fun h_91 => ?_)
        · skip
          omega
        · skip
          refine g_aload_n hC dX4_town_94 rfl rfl ?_
          refine g_iload_n hC dX4_town_95 rfl ?_
          refine g_invV (T := TX4) (N := 30) hC (is := [0]) (st := []) (c_X4_comes u1 ro1 re lt 0 le2 la2 td2 fr2 ti2 p9 c0 (kpt u ro ke (85 * 1)) hi true ((((((((((((85 * 1) + 6) + 6) + 6) + 4) + 4) + 4) + 24) + 24) + 1) + 1) + 1) go num nin up fo (sm_wf (sm_symm hsm) hv1) hB (k := k) (ln := len) (s := (stt lt len k)) rf1 (by omega) hlen hrr1 hek) dX4_town_96 tw_4_102 tw_4_104 ts_3_6 tw_1_5 tw_4_105 ⟨hy_X4_comes.1.1, hy_X4_comes.1.2, hy_X4_comes.2⟩ ⟨by decide, by decide⟩ ⟨by decide, by decide⟩ rfl (by decide) rfl rfl rfl rfl rfl (Nat.le_of_ble_eq_true rfl) rfl rfl (fun r1 M1 hp => ?_)
          obtain ⟨rfl, u2, ro2, rfl, hy2⟩ := hp
          refine ⟨rfl, rfl, ?_⟩
          rw [hact]
          show G C 0 0 99 [aR 0 0 0, aK 9, aI (nI (k))] (aI (bI true) :: []) [modW u2 ro2 re lt 0 le2 la2 td2 fr2 ti2 p9 c0 (kpt u ro ke (85 * 1)) hi true ((((((((((((85 * 1) + 6) + 6) + 6) + 4) + 4) + 4) + 24) + 24) + 1) + 1) + 1) go num nin up fo]
          refine g_if_eqB (tgt := 105) hC dX4_town_99 (by decide) (fun h_99 => ?_) (fun h_99 => ?_)
          · skip
            cases h_99
          · skip
            refine g_goto (tgt := 122) hC dX4_town_102 (by decide) ?_
            refine g_iincN hC dX4_town_122 rfl (by decide) rfl ?_
            refine g_goto (tgt := 86) hC dX4_town_125 (by decide) ?_
            obtain ⟨hsy, hry⟩ := hy2 y hact
            refine ih (k + 1) f u2 ro2 z.1 z.2 (by omega) (sm_trans hsy hzy) hvz (by rw [← hz2]; exact hry) (fun q => ?_) (fun q => ?_)
            · have hm : (stp lt len (stt lt len k)).1 + 1 < len := hin (k + 1) (by omega) q
              rw [tl_go hav hm] at ht1
              refine ⟨ht1, ?_⟩
              show len < (stp lt len (stt lt len k)).1 + 1 + f
              have := stp_bd hek.2.1
              omega
            · have hm : ¬ (stp lt len (stt lt len k)).1 + 1 < len := by rw [← q] at hend; exact hend
              rw [tl_end hav hm] at ht1
              rw [← q]
              exact ht1.symm
  have lp1 : ∀ f c (le2 la2 : Nat → Nat) (td2 : Nat → Int32) (fr2 ti2 : Nat → Nat), (c = 0 ∨ (stt lt len c) < len) → 3 * c ≤ (stt lt len c) → (stt lt len c) ≤ len → len < (stt lt len c) + f → fw lt len f (stt lt len c) = fw lt len (len + 1) 0 → (∀ j, j < c → Ent lt len le2 la2 td2 fr2 ti2 j (stt lt len j)) → (∀ j, 0 < j → j < c → (stt lt len j) < len) → G C 0 0 12 [aR 0 0 0, aI (nI (1)), aK 9] [] [modW u ro re lt len le2 la2 td2 fr2 ti2 (stt lt len c) c ke hi ik cu go num nin up fo] := by
    intro f
    induction f with
    | zero =>
      intro c le2 la2 td2 fr2 ti2 h1 h2 h3 h4
      omega
    | succ f ih =>
      intro c le2 la2 td2 fr2 ti2 h1 h2 h3 h4 hfw hent hin
      cases hb : (stp lt len (stt lt len c)).2 with
      | false =>
        have hfe : fw lt len (len + 1) 0 = some (stp lt len (stt lt len c)).1 := by rw [← hfw]; exact fw_no hb
        have htw := town_w (v := u) (rf := rf) hfe
        refine g_iload_n hC dX4_town_12 rfl ?_
        refine g_if_eqN (tgt := 60) hC dX4_town_13 (by decide) (by omega) (fun h_13 => ?_) (fun h_13 => ?_)
        · skip
          omega
        · skip
          refine g_aload_n hC dX4_town_16 rfl rfl ?_
          refine gf_X4_at hC dX4_town_17 rfl rfl ?_
          refine g_aload_n hC dX4_town_20 rfl rfl ?_
          refine gf_X4_taped hC dX4_town_21 rfl rfl ?_
          refine g_icmp_ltN (tgt := 34) hC dX4_town_24 (by decide) (by omega) (by omega) (fun h_24 => ?_) (fun h_24 => ?_)
          · skip
            refine g_aload_n hC dX4_town_34 rfl rfl ?_
            refine g_invV (T := TX4) (N := 30) hC (is := [0]) (st := []) (c_X4_statement u ro re lt len le2 la2 td2 fr2 ti2 (stt lt len c) c ke hi ik cu go num nin up fo hlen hlt (by omega) h3) dX4_town_35 tw_4_64 tw_4_66 ts_2_14 tw_1_5 tw_4_67 ⟨hy_X4_statement.1.1, hy_X4_statement.1.2, hy_X4_statement.2⟩ ⟨by decide, by decide⟩ ⟨by decide, by decide⟩ rfl (by decide) rfl rfl rfl rfl rfl (Nat.le_of_ble_eq_true rfl) rfl rfl (fun r1 M1 hp => ?_)
            obtain ⟨rfl, le3, la3, td3, fr3, ti3, hkept, hentn, rfl⟩ := hp
            refine ⟨rfl, rfl, ?_⟩
            rw [hb]
            show G C 0 0 38 [aR 0 0 0, aI (nI (1)), aK 9] (aI (bI false) :: []) [modW u ro re lt len le3 la3 td3 fr3 ti3 (stp lt len (stt lt len c)).1 c ke hi ik cu go num nin up fo]
            refine g_istore_n hC dX4_town_38 (by decide) rfl ?_
            refine g_aload_n hC dX4_town_39 rfl rfl ?_
            refine g_dup hC dX4_town_40 rfl ?_
            refine gf_X4_statements hC dX4_town_41 rfl rfl ?_
            refine g_iload_n hC dX4_town_44 rfl ?_
            refine g_if_eqB (tgt := 52) hC dX4_town_45 (by decide) (fun h_45 => ?_) (fun h_45 => ?_)
            · skip
              refine g_iconst (v := nI (0)) hC dX4_town_52 (by decide) ?_
              refine g_iaddN hC dX4_town_53 ?_
              refine gp_X4_statements hC dX4_town_54 rfl rfl ?_
              refine g_goto (tgt := 12) hC dX4_town_57 (by decide) ?_
              refine g_iload_n hC dX4_town_12 rfl ?_
              refine g_if_eqB (tgt := 60) hC dX4_town_13 (by decide) (fun h_13 => ?_) (fun h_13 => ?_)
              · skip
                refine g_aload_n hC dX4_town_60 rfl rfl ?_
                refine g_iconst (v := nI (0)) hC dX4_town_61 (by decide) ?_
                refine gp_X4_taped hC dX4_town_62 rfl rfl ?_
                refine g_iload_n hC dX4_town_65 rfl ?_
                refine g_if_neB (tgt := 78) hC dX4_town_66 (by decide) (fun h_66 => ?_) (fun h_66 => ?_)
                · skip
                  cases h_66
                · skip
                  refine g_sipush (v := (-1000)) hC dX4_town_69 (by decide) ?_
                  refine g_aload_n hC dX4_town_72 rfl rfl ?_
                  refine gf_X4_at hC dX4_town_73 rfl rfl ?_
                  refine g_isub hC dX4_town_76 rfl ?_
                  exact g_iret hC rfl dX4_town_77 (⟨rV htw.1.symm, u, ro, by rw [htw.2]; exact sm_rfl u, by rw [htw.2]; exact hrr, _, _, _, _, _, _, _, _, _, _, _, _, _, fun _ _ => rfl, rfl⟩)
              · skip
                cases h_13
            · skip
              cases h_45
          · skip
            refine g_aload_n hC dX4_town_27 rfl rfl ?_
            refine gf_X4_statements hC dX4_town_28 rfl rfl ?_
            refine g_if_neN (tgt := 60) hC dX4_town_31 (by decide) (by omega) (fun h_31 => ?_) (fun h_31 => ?_)
            · skip
              omega
            · skip
              refine g_aload_n hC dX4_town_34 rfl rfl ?_
              refine g_invV (T := TX4) (N := 30) hC (is := [0]) (st := []) (c_X4_statement u ro re lt len le2 la2 td2 fr2 ti2 (stt lt len c) c ke hi ik cu go num nin up fo hlen hlt (by omega) h3) dX4_town_35 tw_4_64 tw_4_66 ts_2_14 tw_1_5 tw_4_67 ⟨hy_X4_statement.1.1, hy_X4_statement.1.2, hy_X4_statement.2⟩ ⟨by decide, by decide⟩ ⟨by decide, by decide⟩ rfl (by decide) rfl rfl rfl rfl rfl (Nat.le_of_ble_eq_true rfl) rfl rfl (fun r1 M1 hp => ?_)
              obtain ⟨rfl, le3, la3, td3, fr3, ti3, hkept, hentn, rfl⟩ := hp
              refine ⟨rfl, rfl, ?_⟩
              rw [hb]
              show G C 0 0 38 [aR 0 0 0, aI (nI (1)), aK 9] (aI (bI false) :: []) [modW u ro re lt len le3 la3 td3 fr3 ti3 (stp lt len (stt lt len c)).1 c ke hi ik cu go num nin up fo]
              refine g_istore_n hC dX4_town_38 (by decide) rfl ?_
              refine g_aload_n hC dX4_town_39 rfl rfl ?_
              refine g_dup hC dX4_town_40 rfl ?_
              refine gf_X4_statements hC dX4_town_41 rfl rfl ?_
              refine g_iload_n hC dX4_town_44 rfl ?_
              refine g_if_eqB (tgt := 52) hC dX4_town_45 (by decide) (fun h_45 => ?_) (fun h_45 => ?_)
              · skip
                refine g_iconst (v := nI (0)) hC dX4_town_52 (by decide) ?_
                refine g_iaddN hC dX4_town_53 ?_
                refine gp_X4_statements hC dX4_town_54 rfl rfl ?_
                refine g_goto (tgt := 12) hC dX4_town_57 (by decide) ?_
                refine g_iload_n hC dX4_town_12 rfl ?_
                refine g_if_eqB (tgt := 60) hC dX4_town_13 (by decide) (fun h_13 => ?_) (fun h_13 => ?_)
                · skip
                  refine g_aload_n hC dX4_town_60 rfl rfl ?_
                  refine g_iconst (v := nI (0)) hC dX4_town_61 (by decide) ?_
                  refine gp_X4_taped hC dX4_town_62 rfl rfl ?_
                  refine g_iload_n hC dX4_town_65 rfl ?_
                  refine g_if_neB (tgt := 78) hC dX4_town_66 (by decide) (fun h_66 => ?_) (fun h_66 => ?_)
                  · skip
                    cases h_66
                  · skip
                    refine g_sipush (v := (-1000)) hC dX4_town_69 (by decide) ?_
                    refine g_aload_n hC dX4_town_72 rfl rfl ?_
                    refine gf_X4_at hC dX4_town_73 rfl rfl ?_
                    refine g_isub hC dX4_town_76 rfl ?_
                    exact g_iret hC rfl dX4_town_77 (⟨rV htw.1.symm, u, ro, by rw [htw.2]; exact sm_rfl u, by rw [htw.2]; exact hrr, _, _, _, _, _, _, _, _, _, _, _, _, _, fun _ _ => rfl, rfl⟩)
                · skip
                  cases h_13
              · skip
                cases h_45
      | true =>
        have hbd := stp_bd hb
        refine g_iload_n hC dX4_town_12 rfl ?_
        refine g_if_eqN (tgt := 60) hC dX4_town_13 (by decide) (by omega) (fun h_13 => ?_) (fun h_13 => ?_)
        · skip
          omega
        · skip
          refine g_aload_n hC dX4_town_16 rfl rfl ?_
          refine gf_X4_at hC dX4_town_17 rfl rfl ?_
          refine g_aload_n hC dX4_town_20 rfl rfl ?_
          refine gf_X4_taped hC dX4_town_21 rfl rfl ?_
          refine g_icmp_ltN (tgt := 34) hC dX4_town_24 (by decide) (by omega) (by omega) (fun h_24 => ?_) (fun h_24 => ?_)
          · skip
            refine g_aload_n hC dX4_town_34 rfl rfl ?_
            refine g_invV (T := TX4) (N := 30) hC (is := [0]) (st := []) (c_X4_statement u ro re lt len le2 la2 td2 fr2 ti2 (stt lt len c) c ke hi ik cu go num nin up fo hlen hlt (by omega) h3) dX4_town_35 tw_4_64 tw_4_66 ts_2_14 tw_1_5 tw_4_67 ⟨hy_X4_statement.1.1, hy_X4_statement.1.2, hy_X4_statement.2⟩ ⟨by decide, by decide⟩ ⟨by decide, by decide⟩ rfl (by decide) rfl rfl rfl rfl rfl (Nat.le_of_ble_eq_true rfl) rfl rfl (fun r1 M1 hp => ?_)
            obtain ⟨rfl, le3, la3, td3, fr3, ti3, hkept, hentn, rfl⟩ := hp
            refine ⟨rfl, rfl, ?_⟩
            rw [hb]
            show G C 0 0 38 [aR 0 0 0, aI (nI (1)), aK 9] (aI (bI true) :: []) [modW u ro re lt len le3 la3 td3 fr3 ti3 ((stp lt len (stt lt len c)).1 + 1) c ke hi ik cu go num nin up fo]
            refine g_istore_n hC dX4_town_38 (by decide) rfl ?_
            refine g_aload_n hC dX4_town_39 rfl rfl ?_
            refine g_dup hC dX4_town_40 rfl ?_
            refine gf_X4_statements hC dX4_town_41 rfl rfl ?_
            refine g_iload_n hC dX4_town_44 rfl ?_
            refine g_if_eqB (tgt := 52) hC dX4_town_45 (by decide) (fun h_45 => ?_) (fun h_45 => ?_)
            · skip
              cases h_45
            · skip
              refine g_iconst (v := nI (1)) hC dX4_town_48 (by decide) ?_
              refine g_goto (tgt := 53) hC dX4_town_49 (by decide) ?_
              refine g_iaddN hC dX4_town_53 ?_
              refine gp_X4_statements hC dX4_town_54 rfl rfl ?_
              refine g_goto (tgt := 12) hC dX4_town_57 (by decide) ?_
              have hent3 : ∀ j, j < c + 1 → Ent lt len le3 la3 td3 fr3 ti3 j (stt lt len j) := fun j hj => by by_cases e : j = c; (· subst e; exact hentn hb); (· exact (hent j (by omega)).kept hkept (by omega))
              by_cases hm : (stp lt len (stt lt len c)).1 + 1 < len
              · refine ih (c + 1) le3 la3 td3 fr3 ti3 (Or.inr hm) ?_ (Nat.le_of_lt hm) ?_ ?_ hent3 (fun j h0 hj => by by_cases e : j = c; (· subst e; rcases h1 with z | z; (· omega); (· exact z)); (· exact hin j h0 (by omega)))
                · show 3 * (c + 1) ≤ (stp lt len (stt lt len c)).1 + 1; omega
                · show len < (stp lt len (stt lt len c)).1 + 1 + f; omega
                · rw [← hfw]; exact (fw_go hb hm).symm
              · have hfe : fw lt len (len + 1) 0 = none := by rw [← hfw]; exact fw_end hb (by omega)
                refine g_iload_n hC dX4_town_12 rfl ?_
                refine g_if_eqB (tgt := 60) hC dX4_town_13 (by decide) (fun h_13 => ?_) (fun h_13 => ?_)
                · skip
                  cases h_13
                · skip
                  refine g_aload_n hC dX4_town_16 rfl rfl ?_
                  refine gf_X4_at hC dX4_town_17 rfl rfl ?_
                  refine g_aload_n hC dX4_town_20 rfl rfl ?_
                  refine gf_X4_taped hC dX4_town_21 rfl rfl ?_
                  refine g_icmp_ltN (tgt := 34) hC dX4_town_24 (by decide) (by omega) (by omega) (fun h_24 => ?_) (fun h_24 => ?_)
                  · skip
                    omega
                  · skip
                    refine g_aload_n hC dX4_town_27 rfl rfl ?_
                    refine gf_X4_statements hC dX4_town_28 rfl rfl ?_
                    refine g_if_neN (tgt := 60) hC dX4_town_31 (by decide) (by omega) (fun h_31 => ?_) (fun h_31 => ?_)
                    · skip
                      refine g_aload_n hC dX4_town_60 rfl rfl ?_
                      refine g_iconst (v := nI (0)) hC dX4_town_61 (by decide) ?_
                      refine gp_X4_taped hC dX4_town_62 rfl rfl ?_
                      refine g_iload_n hC dX4_town_65 rfl ?_
                      refine g_if_neB (tgt := 78) hC dX4_town_66 (by decide) (fun h_66 => ?_) (fun h_66 => ?_)
                      · skip
                        refine g_aload_n hC dX4_town_78 rfl rfl ?_
                        refine g_iconst (v := nI (1)) hC dX4_town_79 (by decide) ?_
                        refine g_iconst (v := nI (1)) hC dX4_town_80 (by decide) ?_
                        refine gi_X4_129 hC (is := [0]) (st := []) (c_X4_passesAll_K u ro re lt 0 le3 la3 td3 fr3 ti3 ((stp lt len (stt lt len c)).1 + 1) (c + 1) ke hi ik cu go num nin up fo (W := 1) (by decide)) dX4_town_81 rfl ⟨by decide, by decide⟩ ⟨by decide, by decide⟩ rfl (by decide) rfl rfl rfl ?_
                        refine g_iconst (v := nI (0)) hC dX4_town_84 (by decide) ?_
                        refine g_istore_n hC dX4_town_85 (by decide) rfl ?_
                        refine g_mask [true, false, true] ?_
                        refine lp2 (c + 1) ((stp lt len (stt lt len c)).1 + 1) le3 la3 td3 fr3 ti3 (by omega) (by omega) hent3 (fun j h0 hj => ?_) hm hfe (c + 1) 0 (len + 1) u ro u rf (by omega) (sm_rfl u) hu hrr (fun _ => ⟨rfl, ?_⟩) (fun q => absurd q (by omega))
                        · by_cases e : j = c
                          · subst e; rcases h1 with z | z; (· omega); (· exact z)
                          · exact hin j h0 (by omega)
                        · show len < 0 + (len + 1); omega
                      · skip
                        cases h_66
                    · skip
                      omega
          · skip
            refine g_aload_n hC dX4_town_27 rfl rfl ?_
            refine gf_X4_statements hC dX4_town_28 rfl rfl ?_
            refine g_if_neN (tgt := 60) hC dX4_town_31 (by decide) (by omega) (fun h_31 => ?_) (fun h_31 => ?_)
            · skip
              omega
            · skip
              refine g_aload_n hC dX4_town_34 rfl rfl ?_
              refine g_invV (T := TX4) (N := 30) hC (is := [0]) (st := []) (c_X4_statement u ro re lt len le2 la2 td2 fr2 ti2 (stt lt len c) c ke hi ik cu go num nin up fo hlen hlt (by omega) h3) dX4_town_35 tw_4_64 tw_4_66 ts_2_14 tw_1_5 tw_4_67 ⟨hy_X4_statement.1.1, hy_X4_statement.1.2, hy_X4_statement.2⟩ ⟨by decide, by decide⟩ ⟨by decide, by decide⟩ rfl (by decide) rfl rfl rfl rfl rfl (Nat.le_of_ble_eq_true rfl) rfl rfl (fun r1 M1 hp => ?_)
              obtain ⟨rfl, le3, la3, td3, fr3, ti3, hkept, hentn, rfl⟩ := hp
              refine ⟨rfl, rfl, ?_⟩
              rw [hb]
              show G C 0 0 38 [aR 0 0 0, aI (nI (1)), aK 9] (aI (bI true) :: []) [modW u ro re lt len le3 la3 td3 fr3 ti3 ((stp lt len (stt lt len c)).1 + 1) c ke hi ik cu go num nin up fo]
              refine g_istore_n hC dX4_town_38 (by decide) rfl ?_
              refine g_aload_n hC dX4_town_39 rfl rfl ?_
              refine g_dup hC dX4_town_40 rfl ?_
              refine gf_X4_statements hC dX4_town_41 rfl rfl ?_
              refine g_iload_n hC dX4_town_44 rfl ?_
              refine g_if_eqB (tgt := 52) hC dX4_town_45 (by decide) (fun h_45 => ?_) (fun h_45 => ?_)
              · skip
                cases h_45
              · skip
                refine g_iconst (v := nI (1)) hC dX4_town_48 (by decide) ?_
                refine g_goto (tgt := 53) hC dX4_town_49 (by decide) ?_
                refine g_iaddN hC dX4_town_53 ?_
                refine gp_X4_statements hC dX4_town_54 rfl rfl ?_
                refine g_goto (tgt := 12) hC dX4_town_57 (by decide) ?_
                have hent3 : ∀ j, j < c + 1 → Ent lt len le3 la3 td3 fr3 ti3 j (stt lt len j) := fun j hj => by by_cases e : j = c; (· subst e; exact hentn hb); (· exact (hent j (by omega)).kept hkept (by omega))
                by_cases hm : (stp lt len (stt lt len c)).1 + 1 < len
                · refine ih (c + 1) le3 la3 td3 fr3 ti3 (Or.inr hm) ?_ (Nat.le_of_lt hm) ?_ ?_ hent3 (fun j h0 hj => by by_cases e : j = c; (· subst e; rcases h1 with z | z; (· omega); (· exact z)); (· exact hin j h0 (by omega)))
                  · show 3 * (c + 1) ≤ (stp lt len (stt lt len c)).1 + 1; omega
                  · show len < (stp lt len (stt lt len c)).1 + 1 + f; omega
                  · rw [← hfw]; exact (fw_go hb hm).symm
                · have hfe : fw lt len (len + 1) 0 = none := by rw [← hfw]; exact fw_end hb (by omega)
                  refine g_iload_n hC dX4_town_12 rfl ?_
                  refine g_if_eqB (tgt := 60) hC dX4_town_13 (by decide) (fun h_13 => ?_) (fun h_13 => ?_)
                  · skip
                    cases h_13
                  · skip
                    refine g_aload_n hC dX4_town_16 rfl rfl ?_
                    refine gf_X4_at hC dX4_town_17 rfl rfl ?_
                    refine g_aload_n hC dX4_town_20 rfl rfl ?_
                    refine gf_X4_taped hC dX4_town_21 rfl rfl ?_
                    refine g_icmp_ltN (tgt := 34) hC dX4_town_24 (by decide) (by omega) (by omega) (fun h_24 => ?_) (fun h_24 => ?_)
                    · skip
                      omega
                    · skip
                      refine g_aload_n hC dX4_town_27 rfl rfl ?_
                      refine gf_X4_statements hC dX4_town_28 rfl rfl ?_
                      refine g_if_neN (tgt := 60) hC dX4_town_31 (by decide) (by omega) (fun h_31 => ?_) (fun h_31 => ?_)
                      · skip
                        refine g_aload_n hC dX4_town_60 rfl rfl ?_
                        refine g_iconst (v := nI (0)) hC dX4_town_61 (by decide) ?_
                        refine gp_X4_taped hC dX4_town_62 rfl rfl ?_
                        refine g_iload_n hC dX4_town_65 rfl ?_
                        refine g_if_neB (tgt := 78) hC dX4_town_66 (by decide) (fun h_66 => ?_) (fun h_66 => ?_)
                        · skip
                          refine g_aload_n hC dX4_town_78 rfl rfl ?_
                          refine g_iconst (v := nI (1)) hC dX4_town_79 (by decide) ?_
                          refine g_iconst (v := nI (1)) hC dX4_town_80 (by decide) ?_
                          refine gi_X4_129 hC (is := [0]) (st := []) (c_X4_passesAll_K u ro re lt 0 le3 la3 td3 fr3 ti3 ((stp lt len (stt lt len c)).1 + 1) (c + 1) ke hi ik cu go num nin up fo (W := 1) (by decide)) dX4_town_81 rfl ⟨by decide, by decide⟩ ⟨by decide, by decide⟩ rfl (by decide) rfl rfl rfl ?_
                          refine g_iconst (v := nI (0)) hC dX4_town_84 (by decide) ?_
                          refine g_istore_n hC dX4_town_85 (by decide) rfl ?_
                          refine g_mask [true, false, true] ?_
                          refine lp2 (c + 1) ((stp lt len (stt lt len c)).1 + 1) le3 la3 td3 fr3 ti3 (by omega) (by omega) hent3 (fun j h0 hj => ?_) hm hfe (c + 1) 0 (len + 1) u ro u rf (by omega) (sm_rfl u) hu hrr (fun _ => ⟨rfl, ?_⟩) (fun q => absurd q (by omega))
                          · by_cases e : j = c
                            · subst e; rcases h1 with z | z; (· omega); (· exact z)
                            · exact hin j h0 (by omega)
                          · show len < 0 + (len + 1); omega
                        · skip
                          cases h_66
                      · skip
                        omega
  refine g_aload_n hC dX4_town_0 rfl rfl ?_
  refine g_iconst (v := nI (0)) hC dX4_town_1 (by decide) ?_
  refine gp_X4_at hC dX4_town_2 rfl rfl ?_
  refine g_aload_n hC dX4_town_5 rfl rfl ?_
  refine g_iconst (v := nI (0)) hC dX4_town_6 (by decide) ?_
  refine gp_X4_statements hC dX4_town_7 rfl rfl ?_
  refine g_iconst (v := nI (1)) hC dX4_town_10 (by decide) ?_
  refine g_istore_n hC dX4_town_11 (by decide) rfl ?_
  exact lp1 (len + 1) 0 le la td fr ti (Or.inl rfl) (Nat.zero_le _) (Nat.zero_le _) (by show len < 0 + (len + 1); omega) rfl (fun j hj => absurd hj (Nat.not_lt_zero _)) (fun j _ hj => absurd hj (Nat.not_lt_zero _))

