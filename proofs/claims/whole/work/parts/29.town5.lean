theorem stp_le {lt : Nat → Nat} {len s : Nat} : (stp lt len s).1 ≤ s + 9 := by
  have hm := md_le (ltr lt len s)
  unfold stp
  split
  · show s ≤ _; omega
  · split
    · split
      · show s + 1 ≤ _; omega
      · have := rN_le lt len (s + 1 + 1) (md (ltr lt len s))
        show s + 1 + 1 + _ ≤ _; omega
    · have := rN_le lt len (s + 1) (md (ltr lt len s))
      show s + 1 + _ ≤ _; omega
theorem fw_lt {lt : Nat → Nat} {len : Nat} (hl : len ≤ 96) : ∀ f s, s ≤ 96 → ∀ m, fw lt len f s = some m → m < 200
  | 0, _, _, _, h => by cases h
  | f + 1, s, hs, m, h => by
    have hb := stp_le (lt := lt) (len := len) (s := s)
    unfold fw at h
    split at h
    · split at h
      · exact fw_lt hl f _ (by omega) m h
      · cases h
    · cases h; omega
theorem fw_pos {lt : Nat → Nat} {len : Nat} (h : fw lt len (len + 1) 0 = none) : 0 < len := by
  by_cases h0 : len = 0
  · subst h0
    obtain ⟨h1, -⟩ := fw_none h
    have : stp lt 0 0 = (0, false) := stp_0 (by rw [ltr_none (Nat.le_refl _)]; rfl)
    rw [this] at h1
    cases h1
  · omega
def aTown (lt : Nat → Nat) (len : Nat) (v : Vw) (rf : Nat) : Int32 := match fw lt len (len + 1) 0 with
  | some e => (-1000) - nI e
  | none => (tl lt len (len + 1) 0 0 v rf).1
def nTown (lt : Nat → Nat) (len : Nat) (v : Vw) (rf : Nat) : Vw × Nat := match fw lt len (len + 1) 0 with
  | some _ => (v, rf)
  | none => if (tl lt len (len + 1) 0 0 v rf).1 < 0 then (v, rf) else (tl lt len (len + 1) 0 0 v rf).2
section TOWNT
variable {lt : Nat → Nat} {len : Nat} {v u : Vw} {rf e : Nat} {B : Nat}
theorem town_w (h : fw lt len (len + 1) 0 = some e) : aTown lt len v rf = (-1000) - nI e ∧ nTown lt len v rf = (v, rf) := by
  unfold aTown nTown
  rw [h]
  exact ⟨rfl, rfl⟩
theorem town_f (h : fw lt len (len + 1) 0 = none) (h2 : (tl lt len (len + 1) 0 0 v rf).1 < 0) : aTown lt len v rf = (tl lt len (len + 1) 0 0 v rf).1 ∧ nTown lt len v rf = (v, rf) := by
  unfold aTown nTown
  rw [h]
  exact ⟨rfl, if_pos h2⟩
theorem town_t (h : fw lt len (len + 1) 0 = none) (h2 : ¬ (tl lt len (len + 1) 0 0 v rf).1 < 0) : aTown lt len v rf = (tl lt len (len + 1) 0 0 v rf).1 ∧ nTown lt len v rf = (tl lt len (len + 1) 0 0 v rf).2 := by
  unfold aTown nTown
  rw [h]
  exact ⟨rfl, if_neg h2⟩
theorem sm_turnP (h : Sm v u) {a b : Nat} (ha : a < 6) (hb : b < 6) : Sm (turnP v a b) (turnP u a b) := by
  refine ⟨sm_n (v := v) (u := u) h, sm_mi (v := v) (u := u) h, sm_no (v := v) (u := u) h, sm_wi (v := v) (u := u) h, fun r hr => ?_, sm_ki (v := v) (u := u) h, sm_pl (v := v) (u := u) h, sm_pL (v := v) (u := u) h, sm_pp (v := v) (u := u) h, sm_lf (v := v) (u := u) h⟩
  show (if r = b then vPa v b ^^^ (1 <<< a) else if r = a then vPa v a ^^^ (1 <<< b) else vPa v r) = (if r = b then vPa u b ^^^ (1 <<< a) else if r = a then vPa u a ^^^ (1 <<< b) else vPa u r)
  rw [sm_pa h a ha, sm_pa h b hb, sm_pa h r hr]
theorem sm_wind (h : Sm v u) (a b : Nat) : Sm (uWi v (updN (vWi v) a b)) (uWi u (updN (vWi u) a b)) := by
  refine ⟨sm_n (v := v) (u := u) h, sm_mi (v := v) (u := u) h, sm_no (v := v) (u := u) h, fun r hr => ?_, sm_pa (v := v) (u := u) h, sm_ki (v := v) (u := u) h, sm_pl (v := v) (u := u) h, sm_pL (v := v) (u := u) h, sm_pp (v := v) (u := u) h, sm_lf (v := v) (u := u) h⟩
  show (if r = a then b else vWi v r) = (if r = a then b else vWi u r)
  rw [sm_wi h r hr]
theorem sm_nose (h : Sm v u) (a : Nat) : Sm (uNo v a) (uNo u a) := ⟨sm_n (v := v) (u := u) h, sm_mi (v := v) (u := u) h, rfl, sm_wi (v := v) (u := u) h, sm_pa (v := v) (u := u) h, sm_ki (v := v) (u := u) h, sm_pl (v := v) (u := u) h, sm_pL (v := v) (u := u) h, sm_pp (v := v) (u := u) h, sm_lf (v := v) (u := u) h⟩
theorem sm_addV (h : Sm v u) (ki r : Nat) : Sm (addV v ki r) (addV u ki r) := by
  have n := sm_n h
  have hup : ∀ (f g : Nat → Nat) (x : Nat), (∀ w, w < vN v → f w = g w) → ∀ w, w < vN v + 1 → updN f (vN v) x w = updN g (vN u) x w := by
    intro f g x hfg w hw
    unfold updN
    rw [n]
    split
    · rfl
    · exact hfg w (by omega)
  have hcl : ∀ w, w < vN v + 1 → ∀ c, c < 6 → clrR (vLf v) (vN v) 6 w c = clrR (vLf u) (vN u) 6 w c := by
    intro w hw c hc
    unfold clrR
    rw [n]
    by_cases q : w = vN u
    · rw [if_pos ⟨q, hc⟩, if_pos ⟨q, hc⟩]
    · rw [if_neg (fun z => q z.1), if_neg (fun z => q z.1)]
      exact sm_lf h w (by omega) c hc
  refine ⟨by show vN v + 1 = vN u + 1; rw [n], sm_mi (v := v) (u := u) h, sm_no (v := v) (u := u) h, sm_wi (v := v) (u := u) h, sm_pa (v := v) (u := u) h, hup _ _ _ (sm_ki h), hup _ _ _ (sm_pl h), hup _ _ _ (sm_pL h), fun w hw j hj => ?_, fun w hw c hc => ?_⟩
  · have hw : w < vN v + 1 := hw
    have hj : j < (if w = vN v then 0 else vPL v w) := hj
    by_cases q : w = vN v
    · rw [if_pos q] at hj; omega
    · rw [if_neg q] at hj
      exact sm_pp h w (by omega) j hj
  · have hw : w < vN v + 1 := hw
    show (if updN (vKi v) (vN v) ki (vN v) = 5 then clrR (vLf v) (vN v) 6 else upd2N (clrR (vLf v) (vN v) 6) (vN v) (updN (vPl v) (vN v) r (vN v)) (some (vMi v))) w c = (if updN (vKi u) (vN u) ki (vN u) = 5 then clrR (vLf u) (vN u) 6 else upd2N (clrR (vLf u) (vN u) 6) (vN u) (updN (vPl u) (vN u) r (vN u)) (some (vMi u))) w c
    have s1 : ∀ (f : Nat → Nat) (k x : Nat), updN f k x k = x := fun f k x => if_pos rfl
    rw [s1, s1, s1, s1]
    by_cases h5 : ki = 5
    · rw [if_pos h5, if_pos h5]; exact hcl w hw c hc
    · rw [if_neg h5, if_neg h5]
      unfold upd2N
      rw [n, sm_mi h]
      split
      · rfl
      · have := hcl w hw c hc; rw [n] at this; exact this
theorem sm_planV (h : Sm v u) {w0 r : Nat} (h0 : w0 < vN v) : Sm (planV v w0 r) (planV u w0 r) := by
  refine ⟨sm_n (v := v) (u := u) h, sm_mi (v := v) (u := u) h, sm_no (v := v) (u := u) h, sm_wi (v := v) (u := u) h, sm_pa (v := v) (u := u) h, sm_ki (v := v) (u := u) h, sm_pl (v := v) (u := u) h, fun w hw => ?_, fun w hw j hj => ?_, sm_lf (v := v) (u := u) h⟩
  · have hw : w < vN v := hw
    show (if w = w0 then vPL v w0 + 1 else vPL v w) = (if w = w0 then vPL u w0 + 1 else vPL u w)
    rw [sm_pL h w hw, sm_pL h w0 h0]
  · have hw : w < vN v := hw
    have hj : j < (if w = w0 then vPL v w0 + 1 else vPL v w) := hj
    show (if w = w0 ∧ j = vPL v w0 then r else vPp v w j) = (if w = w0 ∧ j = vPL u w0 then r else vPp u w j)
    rw [← sm_pL h w0 h0]
    by_cases q : w = w0 ∧ j = vPL v w0
    · rw [if_pos q, if_pos q]
    · rw [if_neg q, if_neg q]
      refine sm_pp h w hw j ?_
      by_cases e2 : w = w0
      · subst e2
        rw [if_pos rfl] at hj
        have : j ≠ vPL v w := fun z => q ⟨rfl, z⟩
        omega
      · rw [if_neg e2] at hj; exact hj
theorem sm_plT (h : Sm v u) (h0 : 0 < vN v) (g : Nat → Nat) : ∀ k, Sm (plT v g k) (plT u g k)
  | 0 => h
  | k + 1 => by
    show Sm (planV (plT v g k) (vN (plT v g k) - 1) (g k)) (planV (plT u g k) (vN (plT u g k) - 1) (g k))
    have ih := sm_plT h h0 g k
    rw [← sm_n ih]
    exact sm_planV ih (by rw [plT_n]; omega)
def OS (a b : Option (Vw × Nat)) : Prop := (a = none ∧ b = none) ∨ ∃ y t, a = some y ∧ b = some t ∧ Sm y.1 t.1 ∧ y.2 = t.2
theorem OS_if {c : Prop} [Decidable c] {y t : Vw × Nat} (h : c → Sm y.1 t.1 ∧ y.2 = t.2) : OS (if c then some y else none) (if c then some t else none) := by
  by_cases q : c
  · rw [if_pos q, if_pos q]
    exact Or.inr ⟨y, t, rfl, rfl, h q⟩
  · rw [if_neg q, if_neg q]
    exact Or.inl ⟨rfl, rfl⟩
theorem sm_act (h : Sm v u) (s e : Nat) : OS (act lt s e v rf) (act lt s e u rf) := by
  unfold act
  split
  · exact OS_if (fun c => ⟨sm_turnP h c.1 c.2.1, rfl⟩)
  · split
    · exact OS_if (fun _ => ⟨sm_wind h _ _, rfl⟩)
    · split
      · exact OS_if (fun _ => ⟨h, rfl⟩)
      · split
        · exact OS_if (fun _ => ⟨sm_nose h _, rfl⟩)
        · unfold actA
          rw [← sm_n h]
          exact OS_if (fun _ => ⟨sm_plT (sm_addV h _ _) (by show 0 < vN v + 1; omega) _ _, rfl⟩)
theorem sm_tl : ∀ {v u : Vw} {rf : Nat}, Sm v u → ∀ f c s, (tl lt len f c s v rf).1 = (tl lt len f c s u rf).1 ∧ Sm (tl lt len f c s v rf).2.1 (tl lt len f c s u rf).2.1 ∧ (tl lt len f c s v rf).2.2 = (tl lt len f c s u rf).2.2 := by
  intro v u rf h f
  induction f generalizing v u rf with
  | zero => intro c s; exact ⟨rfl, h, rfl⟩
  | succ f ih =>
    intro c s
    rcases sm_act (lt := lt) (rf := rf) h s (stp lt len s).1 with ⟨a1, a2⟩ | ⟨y, t, a1, a2, h1, h2⟩
    · rw [tl_no a1, tl_no a2]
      exact ⟨rfl, h, rfl⟩
    · by_cases hl : (stp lt len s).1 + 1 < len
      · rw [tl_go a1 hl, tl_go a2 hl, h2]
        exact ih h1 _ _
      · rw [tl_end a1 hl, tl_end a2 hl]
        exact ⟨rfl, h1, h2⟩
theorem wf_tl : ∀ {v : Vw} {rf : Nat} (f c s : Nat), wf B v → rf < 64 → fw lt len f s = none → wf B (tl lt len f c s v rf).2.1 ∧ (tl lt len f c s v rf).2.2 < 64 := by
  intro v rf f
  induction f generalizing v rf with
  | zero => intro c s hv hr _; exact ⟨hv, hr⟩
  | succ f ih =>
    intro c s hv hr hf
    obtain ⟨h1, h2⟩ := fw_none hf
    have hst : stp lt len s = ((stp lt len s).1, true) := by rw [← h1]
    cases ha : act lt s (stp lt len s).1 v rf with
    | none => rw [tl_no ha]; exact ⟨hv, hr⟩
    | some y =>
      have w1 := wf_act hv hst ha
      have w2 := rf_act hr hst ha
      by_cases hl : (stp lt len s).1 + 1 < len
      · rw [tl_go ha hl]; exact ih _ _ w1 w2 (h2 hl)
      · rw [tl_end ha hl]; exact ⟨w1, w2⟩
end TOWNT

set_option maxRecDepth 100000 in
set_option maxHeartbeats 4000000 in
theorem c_X3_toldTown (v : Vw) (rf : Nat) (go : Nat → Nat) (vm : Vw) (rm : Nat) (gm : Nat → Nat) (vt : Vw) (rt : Nat) (gt : Nat → Nat) (tk : Bool) (lt : Nat → Nat) (len : Nat) (op : Nat → Nat) (to on : Nat → Nat → Nat) (last : Nat) (num : Nat → Nat) (nin : Nat) (re : Nat → Nat) (hv : wf 99 v) (hrf : rf < 64) (hlen : len ≤ 96) (hlt : ∀ j, j < len → lt j < 256) : Con yX3_toldTown cX3_toldTown 3 (some .int) 8 0 0 [aR 0 0 0] (mainW v rf go vm rm gm vt rt gt tk lt len op to on last num nin re) (fun r M => r = some (aI (aTown lt len v rf)) ∧ ∃ (v1 : Vw) (go1 : Nat → Nat) (vm1 : Vw) (rm1 : Nat) (gm1 : Nat → Nat), Sm v1 (nTown lt len v rf).1 ∧ M = mainW v1 (nTown lt len v rf).2 go1 vm1 rm1 gm1 vt rt gt tk lt len op to on last num nin re) := by
  refine con_of RX3 pn_X3 rfl rfl (Nat.le_of_ble_eq_true rfl) (fun C hM0 hC => ?_)
  show G C 0 0 0 [aR 0 0 0, aK 9, aK 9] [] (mainW v rf go vm rm gm vt rt gt tk lt len op to on last num nin re)
  have hn4 := wf_n hv
  refine g_aload_n hC dX3_toldTown_0 rfl rfl ?_
  refine gf_X3_telling hC dX3_toldTown_1 rfl rfl ?_
  refine gi_X3_197 hC (is := [4]) (st := []) (c_X0_firstWrongLetter lt len hlen hlt) dX3_toldTown_4 rfl ⟨by decide, by decide⟩ ⟨by decide, by decide⟩ rfl (by decide) rfl rfl rfl ?_
  refine g_istore_n hC dX3_toldTown_7 (by decide) rfl ?_
  refine g_iload_n hC dX3_toldTown_8 rfl ?_
  refine g_if_ltO (tgt := 18) hC dX3_toldTown_9 (by decide) (by decide) (fun m q => by have := fw_lt hlen (len + 1) 0 (by omega) m q; omega) (fun h_9 => ?_) (fun m h_9 => ?_)
  · skip
    refine g_aload_n hC dX3_toldTown_18 rfl rfl ?_
    refine gf_X3_mind hC dX3_toldTown_19 rfl rfl ?_
    refine g_aload_n hC dX3_toldTown_22 rfl rfl ?_
    refine gf_X3_now hC dX3_toldTown_23 rfl rfl ?_
    have h0 := fw_pos h_9
    have hwb := wf_becm vm hv
    have ht := sm_tl (lt := lt) (len := len) (rf := rf) (sm_bec vm hv) (len + 1) 0 0
    have hwt := wf_tl (rf := rf) (len + 1) 0 0 hwb hrf h_9
    refine gi_X3_148 hC (is := [2, 1]) (st := []) (c_X1_become vm v rm rf gm go hn4) dX3_toldTown_26 rfl ⟨by decide, by decide⟩ ⟨by decide, by decide⟩ rfl (by decide) rfl rfl rfl ?_
    refine g_aload_n hC dX3_toldTown_29 rfl rfl ?_
    refine gf_X3_telling hC dX3_toldTown_30 rfl rfl ?_
    refine g_aload_n hC dX3_toldTown_33 rfl rfl ?_
    refine gf_X3_mind hC dX3_toldTown_34 rfl rfl ?_
    refine gi_X3_200 hC (is := [4, 2]) (st := []) (c_X0_tell lt len hlen hlt (becm vm v) rf gm hwb (by decide) hrf h_9 h0) dX3_toldTown_37 rfl ⟨by decide, by decide⟩ ⟨by decide, by decide⟩ rfl (by decide) rfl rfl rfl ?_
    refine g_istore_n hC dX3_toldTown_40 (by decide) rfl ?_
    refine g_iload_n hC dX3_toldTown_41 rfl ?_
    refine g_if_lt (tgt := 56) hC dX3_toldTown_42 (by decide) (fun h_42 => ?_) (fun h_42 => ?_)
    · skip
      refine g_iload_n hC dX3_toldTown_56 rfl ?_
      exact g_iret hC rfl dX3_toldTown_57 (⟨rV (by rw [ht.1]; exact (town_f h_9 (by rw [← ht.1]; exact h_42)).1.symm), v, go, _, _, _, by rw [(town_f (v := v) (rf := rf) h_9 (by rw [← ht.1]; exact h_42)).2]; exact ⟨sm_rfl v, rfl⟩⟩)
    · skip
      refine g_aload_n hC dX3_toldTown_45 rfl rfl ?_
      refine gf_X3_now hC dX3_toldTown_46 rfl rfl ?_
      refine g_aload_n hC dX3_toldTown_49 rfl rfl ?_
      refine gf_X3_mind hC dX3_toldTown_50 rfl rfl ?_
      refine gi_X3_148 hC (is := [1, 2]) (st := []) (c_X1_become v (tl lt len (len + 1) 0 0 (becm vm v) rf).2.1 rf (tl lt len (len + 1) 0 0 (becm vm v) rf).2.2 go gm (wf_n hwt.1)) dX3_toldTown_53 rfl ⟨by decide, by decide⟩ ⟨by decide, by decide⟩ rfl (by decide) rfl rfl rfl ?_
      refine g_iload_n hC dX3_toldTown_56 rfl ?_
      exact g_iret hC rfl dX3_toldTown_57 (⟨rV (by rw [ht.1]; exact (town_t h_9 (by rw [← ht.1]; exact h_42)).1.symm), _, go, _, _, _, by rw [(town_t (v := v) (rf := rf) h_9 (by rw [← ht.1]; exact h_42)).2, ← ht.2.2]; exact ⟨sm_trans (sm_bec v hwt.1) ht.2.1, rfl⟩⟩)
  · skip
    rw [h_9]
    show G C 0 0 12 [aR 0 0 0, aI (nI m), aK 9] [] _
    refine g_sipush (v := (-1000)) hC dX3_toldTown_12 (by decide) ?_
    refine g_iload_n hC dX3_toldTown_15 rfl ?_
    refine g_isub hC dX3_toldTown_16 rfl ?_
    exact g_iret hC rfl dX3_toldTown_17 (⟨rV (town_w h_9).1.symm, v, go, vm, rm, gm, by rw [(town_w h_9).2]; exact ⟨sm_rfl v, rfl⟩⟩)

set_option maxRecDepth 100000 in
set_option maxHeartbeats 4000000 in
theorem c_X3_town (v : Vw) (rf : Nat) (go : Nat → Nat) (vm : Vw) (rm : Nat) (gm : Nat → Nat) (vt : Vw) (rt : Nat) (gt : Nat → Nat) (tk : Bool) (lt : Nat → Nat) (len : Nat) (op : Nat → Nat) (to on : Nat → Nat → Nat) (last : Nat) (num : Nat → Nat) (nin : Nat) (re : Nat → Nat) (hv : wf 99 v) (hrf : rf < 64) (hlen : len ≤ 96) (hlt : ∀ j, j < len → lt j < 256) : Con yX3_town cX3_town 2 (some .int) 9 0 0 [aR 0 0 0] (mainW v rf go vm rm gm vt rt gt tk lt len op to on last num nin re) (fun r M => r = some (aI (aTown lt len v rf)) ∧ ∃ v1 : Vw, Sm v1 (nTown lt len v rf).1 ∧ PX v1 (nTown lt len v rf).2 vt rt tk lt 0 num nin re M) := by
  refine con_of RX3 pn_X3 rfl rfl (Nat.le_of_ble_eq_true rfl) (fun C hM0 hC => ?_)
  show G C 0 0 0 [aR 0 0 0, aK 9] [] (mainW v rf go vm rm gm vt rt gt tk lt len op to on last num nin re)
  have hn4 := wf_n hv
  refine g_aload_n hC dX3_town_0 rfl rfl ?_
  refine g_invV (T := TX3) (N := 9) hC (is := [0, 1, 2, 3, 4, 5, 6, 7]) (st := []) (c_X3_toldTown v rf go vm rm gm vt rt gt tk lt len op to on last num nin re hv hrf hlen hlt) dX3_town_1 tw_1_150 tw_1_152 ts_1_1 tw_1_1 tw_1_153 ⟨hy_X3_toldTown.1.1, hy_X3_toldTown.1.2, hy_X3_toldTown.2⟩ ⟨by decide, by decide⟩ ⟨by decide, by decide⟩ rfl (by decide) rfl rfl rfl rfl rfl (Nat.le_of_ble_eq_true rfl) rfl rfl (fun r1 M1 hp => ?_)
  obtain ⟨rfl, v1, go1, vm1, rm1, gm1, hsm, rfl⟩ := hp
  refine ⟨rfl, rfl, ?_⟩
  show G C 0 0 4 [aR 0 0 0, aK 9] [aI (aTown lt len v rf)] _
  refine g_istore_n hC dX3_town_4 (by decide) rfl ?_
  refine g_aload_n hC dX3_town_5 rfl rfl ?_
  refine gf_X3_telling hC dX3_town_6 rfl rfl ?_
  refine gi_X3_66 hC (is := [4]) (st := []) (c_X0_forget lt len) dX3_town_9 rfl ⟨by decide, by decide⟩ ⟨by decide, by decide⟩ rfl (by decide) rfl rfl rfl ?_
  refine g_iload_n hC dX3_town_12 rfl ?_
  exact g_iret hC rfl dX3_town_13 (⟨rfl, v1, hsm, ⟨_, _, _, _, _, _, _, _, _, rfl⟩⟩)

