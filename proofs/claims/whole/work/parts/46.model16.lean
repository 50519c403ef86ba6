/-! ===== what a statement does, in the reference ===== -/
theorem c_X4_isRoomN {n : Nat} (hn : n < 2 ^ 31) : ConF yX4_isRoom cX4_isRoom 1 (some .boolean) 0 [aI (nI n)] [] (some (aI (bI (decide (n < 6))))) [] := by
  have h := c_X4_isRoom (nI n)
  rw [rm_N hn] at h
  exact h
def RR (rf : Nat) (ro : Nat → Nat) : Prop := rf < 64 ∧ ∀ r, r < 6 → ro r ≤ 1 ∧ rf.testBit r = decide (ro r = 1)
theorem rr_turn {rf : Nat} {ro : Nat → Nat} (h : RR rf ro) {a : Nat} (ha : a < 6) : RR (rf ^^^ (1 <<< a)) (updN ro a (1 - ro a)) := by
  refine ⟨xor_lt _ h.1 _ ha, fun r hr => ?_⟩
  obtain ⟨h1, h2⟩ := h.2 r hr
  rw [xor_tb _ h.1 _ ha _ hr, h2]
  by_cases e : r = a
  · subst e
    rw [updN_self]
    refine ⟨by omega, ?_⟩
    rcases (by omega : ro r = 0 ∨ ro r = 1) with q | q <;> rw [q] <;> simp
  · rw [updN_ne e]
    refine ⟨h1, ?_⟩
    rw [decide_eq_false e, Bool.bne_false]
theorem upd2N_self {α : Type} (f : Nat → Nat → α) (r w : Nat) (x : α) : upd2N f r w x r w = x := if_pos ⟨rfl, rfl⟩
/-- a walker is told, plan by plan -/
def ppF (f : Nat → Nat → Nat) (w : Nat) (g : Nat → Nat) (i : Nat) : Nat → Nat → Nat := fun a b => if a = w ∧ b < i then g (b + 1) else f a b
theorem ppF_zero (f : Nat → Nat → Nat) (w : Nat) (g : Nat → Nat) : ppF f w g 0 = f := by funext a b; exact if_neg (by omega)
theorem ppF_succ (f : Nat → Nat → Nat) (w : Nat) (g : Nat → Nat) (i : Nat) : ppF f w g (i + 1) = upd2N (ppF f w g i) w i (g (i + 1)) := by
  funext a b
  show (if a = w ∧ b < i + 1 then g (b + 1) else f a b) = if a = w ∧ b = i then g (i + 1) else if a = w ∧ b < i then g (b + 1) else f a b
  by_cases h1 : a = w ∧ b = i
  · obtain ⟨rfl, rfl⟩ := h1
    rw [if_pos ⟨rfl, by omega⟩, if_pos ⟨rfl, rfl⟩]
  · rw [if_neg h1]
    by_cases h2 : a = w ∧ b < i
    · rw [if_pos h2, if_pos (by omega)]
    · rw [if_neg h2, if_neg (by omega)]
def cwU (u : Vw) (n : Nat) (g : Nat → Nat) (i : Nat) : Vw := uPp (uPL u (updN (vPL u) (vN u) n)) (ppF (vPp u) (vN u) g i)
def trF (u : Vw) (ki r i : Nat) : Nat → Nat → Option Nat := fun a b => if a = vN u ∧ b < i then (if b = r ∧ ki ≠ 5 then some (vMi u) else none) else vLf u a b
theorem trF_zero (u : Vw) (ki r : Nat) : trF u ki r 0 = vLf u := by funext a b; exact if_neg (by omega)
theorem trF_succ (u : Vw) (ki r i : Nat) : trF u ki r (i + 1) = upd2N (trF u ki r i) (vN u) i (if i = r ∧ ki ≠ 5 then some (vMi u) else none) := by
  funext a b
  show (if a = vN u ∧ b < i + 1 then (if b = r ∧ ki ≠ 5 then some (vMi u) else none) else vLf u a b) = if a = vN u ∧ b = i then (if i = r ∧ ki ≠ 5 then some (vMi u) else none) else if a = vN u ∧ b < i then (if b = r ∧ ki ≠ 5 then some (vMi u) else none) else vLf u a b
  by_cases h1 : a = vN u ∧ b = i
  · obtain ⟨rfl, rfl⟩ := h1
    rw [if_pos (c := vN u = vN u ∧ b < b + 1) ⟨rfl, by omega⟩, if_pos (c := vN u = vN u ∧ b = b) ⟨rfl, rfl⟩]
  · rw [if_neg h1]
    by_cases h2 : a = vN u ∧ b < i
    · rw [if_pos h2, if_pos (by omega)]
    · rw [if_neg h2, if_neg (by omega)]
def cwW (u : Vw) (ki n : Nat) (g : Nat → Nat) (i : Nat) : Vw := uLf (uPl (uKi (cwU u n g n) (updN (vKi u) (vN u) ki)) (updN (vPl u) (vN u) (g 0))) (trF u ki (g 0) i)
theorem plT_same (x : Vw) (h : Nat → Nat) : ∀ k, vN (plT x h k) = vN x ∧ vMi (plT x h k) = vMi x ∧ vNo (plT x h k) = vNo x ∧ vWi (plT x h k) = vWi x ∧ vPa (plT x h k) = vPa x ∧ vKi (plT x h k) = vKi x ∧ vPl (plT x h k) = vPl x ∧ vLf (plT x h k) = vLf x
  | 0 => ⟨rfl, rfl, rfl, rfl, rfl, rfl, rfl, rfl⟩
  | k + 1 => plT_same x h k
theorem plT_L (x : Vw) (h : Nat → Nat) : ∀ k j, vPL (plT x h k) j = if j = vN x - 1 then vPL x j + k else vPL x j
  | 0, j => by split <;> rfl
  | k + 1, j => by
    show updN (vPL (plT x h k)) (vN (plT x h k) - 1) (vPL (plT x h k) (vN (plT x h k) - 1) + 1) j = _
    rw [(plT_same x h k).1]
    by_cases e : j = vN x - 1
    · subst e
      rw [updN_self, plT_L x h k, if_pos rfl, if_pos rfl]
      omega
    · rw [updN_ne e, plT_L x h k, if_neg e, if_neg e]
theorem plT_P (x : Vw) (h : Nat → Nat) (h0 : vPL x (vN x - 1) = 0) : ∀ k a b, vPp (plT x h k) a b = if a = vN x - 1 ∧ b < k then h b else vPp x a b
  | 0, a, b => by rw [if_neg (by omega)]; rfl
  | k + 1, a, b => by
    show upd2N (vPp (plT x h k)) (vN (plT x h k) - 1) (vPL (plT x h k) (vN (plT x h k) - 1)) (h k) a b = _
    rw [(plT_same x h k).1, plT_L x h k, if_pos rfl, h0, Nat.zero_add]
    show (if a = vN x - 1 ∧ b = k then h k else vPp (plT x h k) a b) = _
    by_cases e : a = vN x - 1 ∧ b = k
    · rw [if_pos e, if_pos (by omega), e.2]
    · rw [if_neg e, plT_P x h h0 k]
      by_cases q : a = vN x - 1 ∧ b < k
      · rw [if_pos q, if_pos (by omega)]
      · rw [if_neg q, if_neg (by omega)]
theorem sm_cw (u : Vw) (ki n : Nat) (g : Nat → Nat) : Sm (uN (cwW u ki n g 6) (vN u + 1)) (plT (addV u ki (g 0)) (fun i => g (i + 1)) n) := by
  obtain ⟨s1, s2, s3, s4, s5, s6, s7, s8⟩ := plT_same (addV u ki (g 0)) (fun i => g (i + 1)) n
  have hN : vN (addV u ki (g 0)) = vN u + 1 := rfl
  have h0 : vPL (addV u ki (g 0)) (vN (addV u ki (g 0)) - 1) = 0 := addV_pL u ki (g 0)
  refine ⟨s1.symm, s2.symm, s3.symm, fun r _ => by rw [s4]; rfl, fun r _ => by rw [s5]; rfl, fun w _ => by rw [s6]; rfl, fun w _ => by rw [s7]; rfl, fun w hw => ?_, fun w hw j hj => ?_, fun w hw r hr => ?_⟩
  · rw [plT_L, hN]
    show updN (vPL u) (vN u) n w = if w = vN u + 1 - 1 then updN (vPL u) (vN u) 0 w + n else updN (vPL u) (vN u) 0 w
    by_cases e : w = vN u
    · subst e
      rw [updN_self, updN_self, if_pos (by omega)]
      omega
    · rw [updN_ne e, updN_ne e, if_neg (by omega)]
  · rw [plT_P _ _ h0, hN]
    show ppF (vPp u) (vN u) g n w j = if w = vN u + 1 - 1 ∧ j < n then g (j + 1) else vPp u w j
    show (if w = vN u ∧ j < n then g (j + 1) else vPp u w j) = _
    by_cases e : w = vN u ∧ j < n
    · rw [if_pos e, if_pos (by omega)]
    · rw [if_neg e, if_neg (by omega)]
  · rw [s8]
    show (if w = vN u ∧ r < 6 then (if r = g 0 ∧ ki ≠ 5 then some (vMi u) else none) else vLf u w r) = (if updN (vKi u) (vN u) ki (vN u) = 5 then clrR (vLf u) (vN u) 6 else upd2N (clrR (vLf u) (vN u) 6) (vN u) (updN (vPl u) (vN u) (g 0) (vN u)) (some (vMi u))) w r
    rw [updN_self, updN_self]
    by_cases h5 : ki = 5
    · rw [if_pos h5]
      show _ = if w = vN u ∧ r < 6 then none else vLf u w r
      by_cases e : w = vN u ∧ r < 6
      · rw [if_pos e, if_pos e, if_neg (fun z => z.2 h5)]
      · rw [if_neg e, if_neg e]
    · rw [if_neg h5]
      show _ = if w = vN u ∧ r = g 0 then some (vMi u) else if w = vN u ∧ r < 6 then none else vLf u w r
      by_cases e : w = vN u
      · by_cases q : r = g 0
        · rw [if_pos ⟨e, hr⟩, if_pos ⟨q, h5⟩, if_pos ⟨e, q⟩]
        · rw [if_pos ⟨e, hr⟩, if_neg (fun z => q z.1), if_neg (fun z => q z.2), if_pos ⟨e, hr⟩]
      · rw [if_neg (fun z => e z.1), if_neg (fun z => e z.1), if_neg (fun z => e z.1)]
set_option maxRecDepth 100000 in
set_option maxHeartbeats 4000000 in
theorem c_X4_comesWalker (u : Vw) (ro re lt : Nat → Nat) (len : Nat) (le la : Nat → Nat) (td : Nat → Int32) (fr ti : Nat → Nat) (pt st : Nat) (ke : Nat → Int32) (hi ik : Bool) (cu : Nat) (go num : Nat → Nat) (nin : Nat) (up fo : Nat → Nat) {B : Nat} (hu : wf B u) (hB : B ≤ 200) {k ki n s3 : Nat} {g : Nat → Nat} (rf : Nat) (hk : k < 48) (hki : ki ≤ 5) (h0 : td (2 * k) = nI ki) (h1 : td ((2 * k) + 1) = nI (g 0)) (hg : ∀ i, i ≤ n → g i < 10) (hn : n ≤ 6) (hf : fr k = s3) (ht : ti k = s3 + n) (hs3 : s3 + n ≤ 96) (htp : ∀ i, i < n → lt (s3 + i) = 48 + g (i + 1)) : Con yX4_comesWalker cX4_comesWalker 5 (some .boolean) 1 0 0 [aR 0 0 0, aI (nI (k))] [modW u ro re lt len le la td fr ti pt st ke hi ik cu go num nin up fo] (fun r M => r = some (aI (bI (actA u rf ki g (n + 1)).isSome)) ∧ ∃ (u1 : Vw) (ro1 : Nat → Nat), M = [modW u1 ro1 re lt len le la td fr ti pt st ke hi ik cu go num nin up fo] ∧ ∀ y, (actA u rf ki g (n + 1)) = some y → Sm u1 y.1 ∧ ro1 = ro ∧ y.2 = rf) := by
  refine con_of RX4 pn_X4 rfl rfl (Nat.le_of_ble_eq_true rfl) (fun C hM0 hC => ?_)
  show G C 0 0 0 [aR 0 0 0, aI (nI (k)), aK 9, aK 9, aK 9] [] [modW u ro re lt len le la td fr ti pt st ke hi ik cu go num nin up fo]
  have hn4 := wf_n hu
  have hg0 := hg 0 (by omega)
  refine g_aload_n hC dX4_comesWalker_0 rfl rfl ?_
  refine gf_X4_told hC dX4_comesWalker_1 rfl rfl ?_
  refine g_iconst (v := nI (2)) hC dX4_comesWalker_4 (by decide) ?_
  refine g_iload_n hC dX4_comesWalker_5 rfl ?_
  refine g_imulN hC dX4_comesWalker_6 ?_
  refine g_iald (v := nI (ki)) hC dX4_comesWalker_7 rfl rfl (by omega) (by decide) (h0) ?_
  refine g_istore_n hC dX4_comesWalker_8 (by decide) rfl ?_
  refine g_aload_n hC dX4_comesWalker_9 rfl rfl ?_
  refine gf_X4_told hC dX4_comesWalker_10 rfl rfl ?_
  refine g_iconst (v := nI (2)) hC dX4_comesWalker_13 (by decide) ?_
  refine g_iload_n hC dX4_comesWalker_14 rfl ?_
  refine g_imulN hC dX4_comesWalker_15 ?_
  refine g_iconst (v := nI (1)) hC dX4_comesWalker_16 (by decide) ?_
  refine g_iaddN hC dX4_comesWalker_17 ?_
  refine g_iald (v := nI (g 0)) hC dX4_comesWalker_18 rfl rfl (by omega) (by decide) (h1) ?_
  refine g_istore_n hC dX4_comesWalker_19 (by decide) rfl ?_
  refine g_iload_n hC dX4_comesWalker_20 rfl ?_
  refine gi_X4_117 hC (is := []) (st := []) (c_X4_isRoomN (n := g 0) (by omega)) dX4_comesWalker_21 rfl ⟨by decide, by decide⟩ ⟨by decide, by decide⟩ rfl (by decide) rfl rfl ?_
  refine g_if_eqB (tgt := 35) hC dX4_comesWalker_24 (by decide) (fun h_24 => ?_) (fun h_24 => ?_)
  · skip
    refine g_iconst (v := nI (0)) hC dX4_comesWalker_35 (by decide) ?_
    exact g_zret hC rfl rfl dX4_comesWalker_36 (⟨rV (by rw [actA_no2 (anyB_t (k := 0) (decide_eq_true (by have := of_decide_eq_false h_24; omega)) (n + 1) (by omega))]; rfl), u, ro, rfl, fun y hy => (by rw [actA_no2 (anyB_t (k := 0) (decide_eq_true (by have := of_decide_eq_false h_24; omega)) (n + 1) (by omega))] at hy; cases hy)⟩)
  · skip
    have hg06 := of_decide_eq_true h_24
    refine g_aload_n hC dX4_comesWalker_27 rfl rfl ?_
    refine gf_X4_walkers hC dX4_comesWalker_28 rfl rfl ?_
    refine g_iconst (v := nI (4)) hC dX4_comesWalker_31 (by decide) ?_
    refine g_icmp_neN (tgt := 37) hC dX4_comesWalker_32 (by decide) (by omega) (by omega) (fun h_32 => ?_) (fun h_32 => ?_)
    · skip
      refine g_aload_n hC dX4_comesWalker_37 rfl rfl ?_
      refine gf_X4_planLong hC dX4_comesWalker_38 rfl rfl ?_
      refine g_aload_n hC dX4_comesWalker_41 rfl rfl ?_
      refine gf_X4_walkers hC dX4_comesWalker_42 rfl rfl ?_
      refine g_aload_n hC dX4_comesWalker_45 rfl rfl ?_
      refine gf_X4_till hC dX4_comesWalker_46 rfl rfl ?_
      refine g_iload_n hC dX4_comesWalker_49 rfl ?_
      refine g_iald (v := nI (s3 + n)) hC dX4_comesWalker_50 rfl rfl (by omega) (by decide) (by show nI (ti k) = _; rw [ht]) ?_
      refine g_aload_n hC dX4_comesWalker_51 rfl rfl ?_
      refine gf_X4_from hC dX4_comesWalker_52 rfl rfl ?_
      refine g_iload_n hC dX4_comesWalker_55 rfl ?_
      refine g_iald (v := nI (s3)) hC dX4_comesWalker_56 rfl rfl (by omega) (by decide) (by show nI (fr k) = _; rw [hf]) ?_
      refine g_isub (v := nI (n)) hC dX4_comesWalker_57 (by rw [pk_sub (by omega), Nat.add_sub_cancel_left]) ?_
      refine g_iastN hC dX4_comesWalker_58 rfl (by omega) (by decide) ?_
      refine g_iconst (v := nI (0)) hC dX4_comesWalker_59 (by decide) ?_
      refine g_istore hC dX4_comesWalker_60 (by decide) rfl ?_
      have loop : ∀ d i, i + d = n → (∀ j, j < i → g (j + 1) < 6) → G C 0 0 62 [aR 0 0 0, aI (nI (k)), aI (nI (ki)), aI (nI (g 0)), aI (nI (i))] [] [modW (cwU u n g i) ro re lt len le la td fr ti pt st ke hi ik cu go num nin up fo] := by
        intro d
        induction d with
        | zero =>
          intro i hi9 hall
          obtain rfl : i = n := by omega
          have hfn : vN (cwU u i g i) = vN u := rfl
          refine g_iload hC dX4_comesWalker_62 rfl ?_
          refine g_aload_n hC dX4_comesWalker_64 rfl rfl ?_
          refine gf_X4_planLong hC dX4_comesWalker_65 rfl rfl ?_
          refine g_aload_n hC dX4_comesWalker_68 rfl rfl ?_
          refine gf_X4_walkers hC dX4_comesWalker_69 rfl rfl ?_
          refine g_iald (v := nI (i)) hC dX4_comesWalker_72 rfl rfl (by show vN u < 4; omega) (by decide) (by show nI (updN (vPL u) (vN u) i (vN u)) = _; rw [updN_self]) ?_
          refine g_icmp_geN (tgt := 137) hC dX4_comesWalker_73 (by decide) (by omega) (by omega) (fun h_73 => ?_) (fun h_73 => ?_)
          · skip
            refine g_aload_n hC dX4_comesWalker_137 rfl rfl ?_
            refine gf_X4_kind hC dX4_comesWalker_138 rfl rfl ?_
            refine g_aload_n hC dX4_comesWalker_141 rfl rfl ?_
            refine gf_X4_walkers hC dX4_comesWalker_142 rfl rfl ?_
            refine g_iload_n hC dX4_comesWalker_145 rfl ?_
            refine g_iastN hC dX4_comesWalker_146 rfl (by omega) (by decide) ?_
            refine g_aload_n hC dX4_comesWalker_147 rfl rfl ?_
            refine gf_X4_place hC dX4_comesWalker_148 rfl rfl ?_
            refine g_aload_n hC dX4_comesWalker_151 rfl rfl ?_
            refine gf_X4_walkers hC dX4_comesWalker_152 rfl rfl ?_
            refine g_iload_n hC dX4_comesWalker_155 rfl ?_
            refine g_iastN hC dX4_comesWalker_156 rfl (by omega) (by decide) ?_
            refine g_iconst (v := nI (0)) hC dX4_comesWalker_157 (by decide) ?_
            refine g_istore hC dX4_comesWalker_158 (by decide) rfl ?_
            have lp2 : ∀ e x, x + e = 6 → G C 0 0 160 [aR 0 0 0, aI (nI (k)), aI (nI (ki)), aI (nI (g 0)), aI (nI (x))] [] [modW (cwW u ki i g x) ro re lt len le la td fr ti pt st ke hi ik cu go num nin up fo] := by
              intro e
              induction e with
              | zero =>
                intro x hi9
                obtain rfl : x = 6 := by omega
                have hac := actA_ok (v := u) (rf := rf) (ki := ki) (g := g) (by omega) (any_false (i + 1) (fun j hj => decide_eq_false (by cases j with | zero => omega | succ j => have := hall j (by omega); omega)))
                refine g_iload hC dX4_comesWalker_160 rfl ?_
                refine g_bipush (v := nI (6)) hC dX4_comesWalker_162 (by decide) ?_
                refine g_icmp_geN (tgt := 208) hC dX4_comesWalker_164 (by decide) (by omega) (by omega) (fun h_164 => ?_) (fun h_164 => ?_)
                · skip
                  refine g_aload_n hC dX4_comesWalker_208 rfl rfl ?_
                  refine g_dup hC dX4_comesWalker_209 rfl ?_
                  refine gf_X4_walkers hC dX4_comesWalker_210 rfl rfl ?_
                  refine g_iconst (v := nI (1)) hC dX4_comesWalker_213 (by decide) ?_
                  refine g_iaddN hC dX4_comesWalker_214 ?_
                  refine gp_X4_walkers hC dX4_comesWalker_215 rfl rfl ?_
                  refine g_iconst (v := nI (1)) hC dX4_comesWalker_218 (by decide) ?_
                  exact g_zret hC rfl rfl dX4_comesWalker_219 (⟨rV (by rw [hac]; rfl), _, ro, rfl, fun y hy => (by rw [hac] at hy; cases hy; exact ⟨sm_cw u ki i g, rfl, rfl⟩)⟩)
                · skip
                  omega
              | succ e ih2 =>
                intro x hi9
                have hfn : vN (cwW u ki i g x) = vN u := rfl
                refine g_iload hC dX4_comesWalker_160 rfl ?_
                refine g_bipush (v := nI (6)) hC dX4_comesWalker_162 (by decide) ?_
                refine g_icmp_geN (tgt := 208) hC dX4_comesWalker_164 (by decide) (by omega) (by omega) (fun h_164 => ?_) (fun h_164 => ?_)
                · skip
                  omega
                · skip
                  refine g_aload_n hC dX4_comesWalker_167 rfl rfl ?_
                  refine gf_X4_trace hC dX4_comesWalker_168 rfl rfl ?_
                  refine g_bipush (v := nI (6)) hC dX4_comesWalker_171 (by decide) ?_
                  refine g_aload_n hC dX4_comesWalker_173 rfl rfl ?_
                  refine gf_X4_walkers hC dX4_comesWalker_174 rfl rfl ?_
                  refine g_imulN hC dX4_comesWalker_177 ?_
                  refine g_iload hC dX4_comesWalker_178 rfl ?_
                  refine g_iaddN hC dX4_comesWalker_180 ?_
                  refine g_iload hC dX4_comesWalker_181 rfl ?_
                  refine g_iload_n hC dX4_comesWalker_183 rfl ?_
                  refine g_icmp_neN (tgt := 199) hC dX4_comesWalker_184 (by decide) (by omega) (by omega) (fun h_184 => ?_) (fun h_184 => ?_)
                  · skip
                    refine g_bipush (v := (-9)) hC dX4_comesWalker_199 (by decide) ?_
                    refine g_iastFO (w := vN (cwW u ki i g x)) (r := x) (x := none) hC dX4_comesWalker_201 rfl (by omega) (by omega) rfl ?_
                    refine g_iincN hC dX4_comesWalker_202 rfl (by decide) rfl ?_
                    refine g_goto (tgt := 160) hC dX4_comesWalker_205 (by decide) ?_
                    have q := ih2 (x + 1) (by omega)
                    unfold cwW at q
                    rw [trF_succ, if_neg (fun z => h_184 z.1)] at q
                    exact q
                  · skip
                    refine g_iload_n hC dX4_comesWalker_187 rfl ?_
                    refine g_iconst (v := nI (5)) hC dX4_comesWalker_188 (by decide) ?_
                    refine g_icmp_eqN (tgt := 199) hC dX4_comesWalker_189 (by decide) (by omega) (by omega) (fun h_189 => ?_) (fun h_189 => ?_)
                    · skip
                      refine g_bipush (v := (-9)) hC dX4_comesWalker_199 (by decide) ?_
                      refine g_iastFO (w := vN (cwW u ki i g x)) (r := x) (x := none) hC dX4_comesWalker_201 rfl (by omega) (by omega) rfl ?_
                      refine g_iincN hC dX4_comesWalker_202 rfl (by decide) rfl ?_
                      refine g_goto (tgt := 160) hC dX4_comesWalker_205 (by decide) ?_
                      have q := ih2 (x + 1) (by omega)
                      unfold cwW at q
                      rw [trF_succ, if_neg (fun z => z.2 h_189)] at q
                      exact q
                    · skip
                      refine g_aload_n hC dX4_comesWalker_192 rfl rfl ?_
                      refine gf_X4_minute hC dX4_comesWalker_193 rfl rfl ?_
                      refine g_goto (tgt := 201) hC dX4_comesWalker_196 (by decide) ?_
                      refine g_iastFO (w := vN (cwW u ki i g x)) (r := x) (x := some (vMi (cwW u ki i g x))) hC dX4_comesWalker_201 rfl (by omega) (by omega) rfl ?_
                      refine g_iincN hC dX4_comesWalker_202 rfl (by decide) rfl ?_
                      refine g_goto (tgt := 160) hC dX4_comesWalker_205 (by decide) ?_
                      have q := ih2 (x + 1) (by omega)
                      unfold cwW at q
                      rw [trF_succ, if_pos ⟨h_184, h_189⟩] at q
                      exact q
            have q := lp2 6 0 (by omega)
            unfold cwW at q
            rw [trF_zero] at q
            exact q
          · skip
            omega
        | succ d ih =>
          intro i hi9 hall
          have hfn : vN (cwU u n g i) = vN u := rfl
          have hgi := hg (i + 1) (by omega)
          refine g_iload hC dX4_comesWalker_62 rfl ?_
          refine g_aload_n hC dX4_comesWalker_64 rfl rfl ?_
          refine gf_X4_planLong hC dX4_comesWalker_65 rfl rfl ?_
          refine g_aload_n hC dX4_comesWalker_68 rfl rfl ?_
          refine gf_X4_walkers hC dX4_comesWalker_69 rfl rfl ?_
          refine g_iald (v := nI (n)) hC dX4_comesWalker_72 rfl rfl (by show vN u < 4; omega) (by decide) (by show nI (updN (vPL u) (vN u) n (vN u)) = _; rw [updN_self]) ?_
          refine g_icmp_geN (tgt := 137) hC dX4_comesWalker_73 (by decide) (by omega) (by omega) (fun h_73 => ?_) (fun h_73 => ?_)
          · skip
            omega
          · skip
            refine g_aload_n hC dX4_comesWalker_76 rfl rfl ?_
            refine gf_X4_plan hC dX4_comesWalker_77 rfl rfl ?_
            refine g_bipush (v := nI (6)) hC dX4_comesWalker_80 (by decide) ?_
            refine g_aload_n hC dX4_comesWalker_82 rfl rfl ?_
            refine gf_X4_walkers hC dX4_comesWalker_83 rfl rfl ?_
            refine g_imulN hC dX4_comesWalker_86 ?_
            refine g_iload hC dX4_comesWalker_87 rfl ?_
            refine g_iaddN hC dX4_comesWalker_89 ?_
            refine g_aload_n hC dX4_comesWalker_90 rfl rfl ?_
            refine gf_X4_tape hC dX4_comesWalker_91 rfl rfl ?_
            refine g_aload_n hC dX4_comesWalker_94 rfl rfl ?_
            refine gf_X4_from hC dX4_comesWalker_95 rfl rfl ?_
            refine g_iload_n hC dX4_comesWalker_98 rfl ?_
            refine g_iald (v := nI (s3)) hC dX4_comesWalker_99 rfl rfl (by omega) (by decide) (by show nI (fr k) = _; rw [hf]) ?_
            refine g_iload hC dX4_comesWalker_100 rfl ?_
            refine g_iaddN hC dX4_comesWalker_102 ?_
            refine g_iald (v := nI (48 + g (i + 1))) hC dX4_comesWalker_103 rfl rfl (by omega) (by decide) (by show nI (lt (s3 + i)) = _; rw [htp i (by omega)]) ?_
            refine g_bipush (v := nI (48)) hC dX4_comesWalker_104 (by decide) ?_
            refine g_isub (v := nI (g (i + 1))) hC dX4_comesWalker_106 (sub48 _) ?_
            refine g_iastFN (w := vN (cwU u n g i)) (r := i) hC dX4_comesWalker_107 rfl (by omega) (by omega) ?_
            refine g_aload_n hC dX4_comesWalker_108 rfl rfl ?_
            refine gf_X4_plan hC dX4_comesWalker_109 rfl rfl ?_
            refine g_bipush (v := nI (6)) hC dX4_comesWalker_112 (by decide) ?_
            refine g_aload_n hC dX4_comesWalker_114 rfl rfl ?_
            refine gf_X4_walkers hC dX4_comesWalker_115 rfl rfl ?_
            refine g_imulN hC dX4_comesWalker_118 ?_
            refine g_iload hC dX4_comesWalker_119 rfl ?_
            refine g_iaddN hC dX4_comesWalker_121 ?_
            refine g_ialdFN (w := vN (cwU u n g i)) (r := i) hC dX4_comesWalker_122 rfl (by omega) (by omega) ?_
            rw [upd2N_self]
            refine gi_X4_117 hC (is := []) (st := []) (c_X4_isRoomN (n := g (i + 1)) (by omega)) dX4_comesWalker_123 rfl ⟨by decide, by decide⟩ ⟨by decide, by decide⟩ rfl (by decide) rfl rfl ?_
            refine g_if_neB (tgt := 131) hC dX4_comesWalker_126 (by decide) (fun h_126 => ?_) (fun h_126 => ?_)
            · skip
              refine g_iincN hC dX4_comesWalker_131 rfl (by decide) rfl ?_
              refine g_goto (tgt := 62) hC dX4_comesWalker_134 (by decide) ?_
              have q := ih (i + 1) (by omega) (fun j hj => by by_cases e : j = i; (· subst e; exact of_decide_eq_true h_126); (· exact hall j (by omega)))
              unfold cwU at q
              rw [ppF_succ] at q
              exact q
            · skip
              refine g_iconst (v := nI (0)) hC dX4_comesWalker_129 (by decide) ?_
              exact g_zret hC rfl rfl dX4_comesWalker_130 (⟨rV (by rw [actA_no2 (anyB_t (k := i + 1) (decide_eq_true (by have := of_decide_eq_false h_126; omega)) (n + 1) (by omega))]; rfl), (uPp (cwU u n g i) (upd2N (vPp (cwU u n g i)) (vN (cwU u n g i)) i (g (i + 1)))), ro, rfl, fun y hy => (by rw [actA_no2 (anyB_t (k := i + 1) (decide_eq_true (by have := of_decide_eq_false h_126; omega)) (n + 1) (by omega))] at hy; cases hy)⟩)
      have q := loop n 0 (by omega) (fun j hj => absurd hj (Nat.not_lt_zero _))
      unfold cwU at q
      rw [ppF_zero] at q
      exact q
    · skip
      refine g_iconst (v := nI (0)) hC dX4_comesWalker_35 (by decide) ?_
      exact g_zret hC rfl rfl dX4_comesWalker_36 (⟨rV (by rw [actA_no1 (by omega)]; rfl), u, ro, rfl, fun y hy => (by rw [actA_no1 (by omega)] at hy; cases hy)⟩)

set_option maxRecDepth 100000 in
set_option maxHeartbeats 4000000 in
theorem c_X4_comes (u : Vw) (ro re lt : Nat → Nat) (len : Nat) (le la : Nat → Nat) (td : Nat → Int32) (fr ti : Nat → Nat) (pt st : Nat) (ke : Nat → Int32) (hi ik : Bool) (cu : Nat) (go num : Nat → Nat) (nin : Nat) (up fo : Nat → Nat) {B : Nat} (hu : wf B u) (hB : B ≤ 200) {k ln s : Nat} (rf : Nat) (hk : k < 48) (hln : ln ≤ 96) (hrr : RR rf ro) (hent : Ent lt ln le la td fr ti k s) : Con yX4_comes cX4_comes 4 (some .boolean) 2 0 0 [aR 0 0 0, aI (nI (k))] [modW u ro re lt len le la td fr ti pt st ke hi ik cu go num nin up fo] (fun r M => r = some (aI (bI (act lt s (stp lt ln s).1 u rf).isSome)) ∧ ∃ (u1 : Vw) (ro1 : Nat → Nat), M = [modW u1 ro1 re lt len le la td fr ti pt st ke hi ik cu go num nin up fo] ∧ ∀ y, (act lt s (stp lt ln s).1 u rf) = some y → Sm u1 y.1 ∧ RR y.2 ro1) := by
  refine con_of RX4 pn_X4 rfl rfl (Nat.le_of_ble_eq_true rfl) (fun C hM0 hC => ?_)
  show G C 0 0 0 [aR 0 0 0, aI (nI (k)), aK 9, aK 9] [] [modW u ro re lt len le la td fr ti pt st ke hi ik cu go num nin up fo]
  obtain ⟨hla, hst2, hle, ht0, ht1, ht97⟩ := hent
  obtain ⟨e, he⟩ : ∃ e, stp lt ln s = (e, true) := ⟨(stp lt ln s).1, by rw [← hst2]⟩
  rw [he] at ht97
  obtain ⟨-, ⟨a, b, q1, q2, q3, q4, q5, rfl⟩ | ⟨a, b, q1, q2, q3, q4, q5, rfl⟩ | ⟨a, q1, q2, q3, rfl⟩ | ⟨a, q1, q2, q3, rfl⟩ | ⟨ki, n, g, q1, q2, q3, q4, q5, rfl⟩⟩ := stp_cases he
  · have hc := (ltr_in q1).2
    rw [hc] at hle ht0 ht1 ht97
    rw [if_neg (by decide), (ltr_in q2).2, Nat.add_sub_cancel_left] at ht0
    have ht1 := ht1 (by decide) (by decide)
    rw [(ltr_in q4).2, Nat.add_sub_cancel_left] at ht1
    have ha : act lt s (stp lt ln s).1 u rf = actP u rf a b := by rw [he]; exact act_p (v := u) (rf := rf) (e := s + 3) q1 q2 q4
    refine g_aload_n hC dX4_comes_0 rfl rfl ?_
    refine gf_X4_told hC dX4_comes_1 rfl rfl ?_
    refine g_iconst (v := nI (2)) hC dX4_comes_4 (by decide) ?_
    refine g_iload_n hC dX4_comes_5 rfl ?_
    refine g_imulN hC dX4_comes_6 ?_
    refine g_iald (v := nI (a)) hC dX4_comes_7 rfl rfl (by omega) (by decide) (ht0) ?_
    refine g_istore_n hC dX4_comes_8 (by decide) rfl ?_
    refine g_aload_n hC dX4_comes_9 rfl rfl ?_
    refine gf_X4_told hC dX4_comes_10 rfl rfl ?_
    refine g_iconst (v := nI (2)) hC dX4_comes_13 (by decide) ?_
    refine g_iload_n hC dX4_comes_14 rfl ?_
    refine g_imulN hC dX4_comes_15 ?_
    refine g_iconst (v := nI (1)) hC dX4_comes_16 (by decide) ?_
    refine g_iaddN hC dX4_comes_17 ?_
    refine g_iald (v := nI (b)) hC dX4_comes_18 rfl rfl (by omega) (by decide) (ht1) ?_
    refine g_istore_n hC dX4_comes_19 (by decide) rfl ?_
    refine g_aload_n hC dX4_comes_20 rfl rfl ?_
    refine gf_X4_letter hC dX4_comes_21 rfl rfl ?_
    refine g_iload_n hC dX4_comes_24 rfl ?_
    refine g_iald (v := nI (112)) hC dX4_comes_25 rfl rfl (by omega) (by decide) (by show nI (le k) = _; rw [hle]) ?_
    refine g_tabIn (off := 54) (tgt := 80) hC dX4_comes_26 (by decide) (by decide) (by decide) (by decide) ?_
    refine g_iload_n hC dX4_comes_80 rfl ?_
    refine gi_X4_117 hC (is := []) (st := []) (c_X4_isRoomN (n := a) (by omega)) dX4_comes_81 rfl ⟨by decide, by decide⟩ ⟨by decide, by decide⟩ rfl (by decide) rfl rfl ?_
    refine g_if_eqB (tgt := 99) hC dX4_comes_84 (by decide) (fun h_84 => ?_) (fun h_84 => ?_)
    · skip
      refine g_iconst (v := nI (0)) hC dX4_comes_99 (by decide) ?_
      exact g_zret hC rfl rfl dX4_comes_100 (⟨rV (by rw [ha, actP_no (fun z => of_decide_eq_false h_84 z.1)]; rfl), u, ro, rfl, fun y hy => (by rw [ha, actP_no (fun z => of_decide_eq_false h_84 z.1)] at hy; cases hy)⟩)
    · skip
      have h846 := of_decide_eq_true h_84
      refine g_iload_n hC dX4_comes_87 rfl ?_
      refine gi_X4_117 hC (is := []) (st := []) (c_X4_isRoomN (n := b) (by omega)) dX4_comes_88 rfl ⟨by decide, by decide⟩ ⟨by decide, by decide⟩ rfl (by decide) rfl rfl ?_
      refine g_if_eqB (tgt := 99) hC dX4_comes_91 (by decide) (fun h_91 => ?_) (fun h_91 => ?_)
      · skip
        refine g_iconst (v := nI (0)) hC dX4_comes_99 (by decide) ?_
        exact g_zret hC rfl rfl dX4_comes_100 (⟨rV (by rw [ha, actP_no (fun z => of_decide_eq_false h_91 z.2.1)]; rfl), u, ro, rfl, fun y hy => (by rw [ha, actP_no (fun z => of_decide_eq_false h_91 z.2.1)] at hy; cases hy)⟩)
      · skip
        have h916 := of_decide_eq_true h_91
        refine g_iload_n hC dX4_comes_94 rfl ?_
        refine g_iload_n hC dX4_comes_95 rfl ?_
        refine g_icmp_neN (tgt := 101) hC dX4_comes_96 (by decide) (by omega) (by omega) (fun h_96 => ?_) (fun h_96 => ?_)
        · skip
          refine g_aload_n hC dX4_comes_101 rfl rfl ?_
          refine gf_X4_paths hC dX4_comes_102 rfl rfl ?_
          refine g_iload_n hC dX4_comes_105 rfl ?_
          refine g_dup2 hC dX4_comes_106 rfl rfl ?_
          refine g_ialdN hC dX4_comes_107 rfl (by omega) (by decide) ?_
          refine g_iconst (v := nI (1)) hC dX4_comes_108 (by decide) ?_
          refine g_iload_n hC dX4_comes_109 rfl ?_
          refine g_ishl hC dX4_comes_110 rfl ?_
          refine g_ixor (v := nI (vPa u a ^^^ (1 <<< b))) hC dX4_comes_111 (xor_bit _ (wf_pa hu a h846) _ h916) ?_
          refine g_iastN hC dX4_comes_112 rfl (by omega) (by decide) ?_
          refine g_aload_n hC dX4_comes_113 rfl rfl ?_
          refine gf_X4_paths hC dX4_comes_114 rfl rfl ?_
          refine g_iload_n hC dX4_comes_117 rfl ?_
          refine g_dup2 hC dX4_comes_118 rfl rfl ?_
          refine g_iald (v := nI (vPa u b)) hC dX4_comes_119 rfl rfl (by omega) (by decide) (by show nI (updN (vPa u) a _ b) = _; rw [updN_ne (Ne.symm h_96)]) ?_
          refine g_iconst (v := nI (1)) hC dX4_comes_120 (by decide) ?_
          refine g_iload_n hC dX4_comes_121 rfl ?_
          refine g_ishl hC dX4_comes_122 rfl ?_
          refine g_ixor (v := nI (vPa u b ^^^ (1 <<< a))) hC dX4_comes_123 (xor_bit _ (wf_pa hu b h916) _ h846) ?_
          refine g_iastN hC dX4_comes_124 rfl (by omega) (by decide) ?_
          refine g_iconst (v := nI (1)) hC dX4_comes_125 (by decide) ?_
          exact g_zret hC rfl rfl dX4_comes_126 (⟨rV (by rw [ha, actP_ok h846 h916 h_96]; rfl), (turnP u a b), ro, rfl, fun y hy => (by rw [ha, actP_ok h846 h916 h_96] at hy; cases hy; exact ⟨sm_rfl _, hrr⟩)⟩)
        · skip
          refine g_iconst (v := nI (0)) hC dX4_comes_99 (by decide) ?_
          exact g_zret hC rfl rfl dX4_comes_100 (⟨rV (by rw [ha, actP_no (fun z => z.2.2 h_96)]; rfl), u, ro, rfl, fun y hy => (by rw [ha, actP_no (fun z => z.2.2 h_96)] at hy; cases hy)⟩)
  · have hc := (ltr_in q1).2
    rw [hc] at hle ht0 ht1 ht97
    rw [if_neg (by decide), (ltr_in q2).2, Nat.add_sub_cancel_left] at ht0
    have ht1 := ht1 (by decide) (by decide)
    rw [(ltr_in q4).2, Nat.add_sub_cancel_left] at ht1
    have ha : act lt s (stp lt ln s).1 u rf = actW u rf a b := by rw [he]; exact act_w (v := u) (rf := rf) (e := s + 3) q1 q2 q4
    refine g_aload_n hC dX4_comes_0 rfl rfl ?_
    refine gf_X4_told hC dX4_comes_1 rfl rfl ?_
    refine g_iconst (v := nI (2)) hC dX4_comes_4 (by decide) ?_
    refine g_iload_n hC dX4_comes_5 rfl ?_
    refine g_imulN hC dX4_comes_6 ?_
    refine g_iald (v := nI (a)) hC dX4_comes_7 rfl rfl (by omega) (by decide) (ht0) ?_
    refine g_istore_n hC dX4_comes_8 (by decide) rfl ?_
    refine g_aload_n hC dX4_comes_9 rfl rfl ?_
    refine gf_X4_told hC dX4_comes_10 rfl rfl ?_
    refine g_iconst (v := nI (2)) hC dX4_comes_13 (by decide) ?_
    refine g_iload_n hC dX4_comes_14 rfl ?_
    refine g_imulN hC dX4_comes_15 ?_
    refine g_iconst (v := nI (1)) hC dX4_comes_16 (by decide) ?_
    refine g_iaddN hC dX4_comes_17 ?_
    refine g_iald (v := nI (b)) hC dX4_comes_18 rfl rfl (by omega) (by decide) (ht1) ?_
    refine g_istore_n hC dX4_comes_19 (by decide) rfl ?_
    refine g_aload_n hC dX4_comes_20 rfl rfl ?_
    refine gf_X4_letter hC dX4_comes_21 rfl rfl ?_
    refine g_iload_n hC dX4_comes_24 rfl ?_
    refine g_iald (v := nI (119)) hC dX4_comes_25 rfl rfl (by omega) (by decide) (by show nI (le k) = _; rw [hle]) ?_
    refine g_tabIn (off := 101) (tgt := 127) hC dX4_comes_26 (by decide) (by decide) (by decide) (by decide) ?_
    refine g_iload_n hC dX4_comes_127 rfl ?_
    refine gi_X4_117 hC (is := []) (st := []) (c_X4_isRoomN (n := a) (by omega)) dX4_comes_128 rfl ⟨by decide, by decide⟩ ⟨by decide, by decide⟩ rfl (by decide) rfl rfl ?_
    refine g_if_eqB (tgt := 139) hC dX4_comes_131 (by decide) (fun h_131 => ?_) (fun h_131 => ?_)
    · skip
      refine g_iconst (v := nI (0)) hC dX4_comes_139 (by decide) ?_
      exact g_zret hC rfl rfl dX4_comes_140 (⟨rV (by rw [ha, actW_no (fun z => of_decide_eq_false h_131 z.1)]; rfl), u, ro, rfl, fun y hy => (by rw [ha, actW_no (fun z => of_decide_eq_false h_131 z.1)] at hy; cases hy)⟩)
    · skip
      have h1316 := of_decide_eq_true h_131
      refine g_iload_n hC dX4_comes_134 rfl ?_
      refine g_iconst (v := nI (3)) hC dX4_comes_135 (by decide) ?_
      refine g_icmp_leN (tgt := 141) hC dX4_comes_136 (by decide) (by omega) (by omega) (fun h_136 => ?_) (fun h_136 => ?_)
      · skip
        refine g_aload_n hC dX4_comes_141 rfl rfl ?_
        refine gf_X4_windOf hC dX4_comes_142 rfl rfl ?_
        refine g_iload_n hC dX4_comes_145 rfl ?_
        refine g_iload_n hC dX4_comes_146 rfl ?_
        refine g_iastN hC dX4_comes_147 rfl (by omega) (by decide) ?_
        refine g_iconst (v := nI (1)) hC dX4_comes_148 (by decide) ?_
        exact g_zret hC rfl rfl dX4_comes_149 (⟨rV (by rw [ha, actW_ok h1316 h_136]; rfl), (uWi u (updN (vWi u) a b)), ro, rfl, fun y hy => (by rw [ha, actW_ok h1316 h_136] at hy; cases hy; exact ⟨sm_rfl _, hrr⟩)⟩)
      · skip
        refine g_iconst (v := nI (0)) hC dX4_comes_139 (by decide) ?_
        exact g_zret hC rfl rfl dX4_comes_140 (⟨rV (by rw [ha, actW_no (fun z => absurd z.2 (by omega))]; rfl), u, ro, rfl, fun y hy => (by rw [ha, actW_no (fun z => absurd z.2 (by omega))] at hy; cases hy)⟩)
  · have hc := (ltr_in q1).2
    rw [hc] at hle ht0 ht1 ht97
    rw [if_neg (by decide), (ltr_in q2).2, Nat.add_sub_cancel_left] at ht0
    have ha : act lt s (stp lt ln s).1 u rf = actR u rf a := by rw [he]; exact act_r (v := u) (rf := rf) (e := s + 2) q1 q2
    refine g_aload_n hC dX4_comes_0 rfl rfl ?_
    refine gf_X4_told hC dX4_comes_1 rfl rfl ?_
    refine g_iconst (v := nI (2)) hC dX4_comes_4 (by decide) ?_
    refine g_iload_n hC dX4_comes_5 rfl ?_
    refine g_imulN hC dX4_comes_6 ?_
    refine g_iald (v := nI (a)) hC dX4_comes_7 rfl rfl (by omega) (by decide) (ht0) ?_
    refine g_istore_n hC dX4_comes_8 (by decide) rfl ?_
    refine g_aload_n hC dX4_comes_9 rfl rfl ?_
    refine gf_X4_told hC dX4_comes_10 rfl rfl ?_
    refine g_iconst (v := nI (2)) hC dX4_comes_13 (by decide) ?_
    refine g_iload_n hC dX4_comes_14 rfl ?_
    refine g_imulN hC dX4_comes_15 ?_
    refine g_iconst (v := nI (1)) hC dX4_comes_16 (by decide) ?_
    refine g_iaddN hC dX4_comes_17 ?_
    refine g_iald (v := td ((2 * k) + 1)) hC dX4_comes_18 rfl rfl (by omega) (by decide) (rfl) ?_
    refine g_istore_n hC dX4_comes_19 (by decide) rfl ?_
    refine g_aload_n hC dX4_comes_20 rfl rfl ?_
    refine gf_X4_letter hC dX4_comes_21 rfl rfl ?_
    refine g_iload_n hC dX4_comes_24 rfl ?_
    refine g_iald (v := nI (114)) hC dX4_comes_25 rfl rfl (by omega) (by decide) (by show nI (le k) = _; rw [hle]) ?_
    refine g_tabIn (off := 124) (tgt := 150) hC dX4_comes_26 (by decide) (by decide) (by decide) (by decide) ?_
    refine g_iload_n hC dX4_comes_150 rfl ?_
    refine gi_X4_117 hC (is := []) (st := []) (c_X4_isRoomN (n := a) (by omega)) dX4_comes_151 rfl ⟨by decide, by decide⟩ ⟨by decide, by decide⟩ rfl (by decide) rfl rfl ?_
    refine g_if_neB (tgt := 159) hC dX4_comes_154 (by decide) (fun h_154 => ?_) (fun h_154 => ?_)
    · skip
      have ha6 := of_decide_eq_true h_154
      have hra := (hrr.2 a ha6).1
      refine g_aload_n hC dX4_comes_159 rfl rfl ?_
      refine gf_X4_roof hC dX4_comes_160 rfl rfl ?_
      refine g_iload_n hC dX4_comes_163 rfl ?_
      refine g_iconst (v := nI (1)) hC dX4_comes_164 (by decide) ?_
      refine g_aload_n hC dX4_comes_165 rfl rfl ?_
      refine gf_X4_roof hC dX4_comes_166 rfl rfl ?_
      refine g_iload_n hC dX4_comes_169 rfl ?_
      refine g_ialdN hC dX4_comes_170 rfl (by omega) (by decide) ?_
      refine g_isubN hC dX4_comes_171 (by omega) ?_
      refine g_iastN hC dX4_comes_172 rfl (by omega) (by decide) ?_
      refine g_iconst (v := nI (1)) hC dX4_comes_173 (by decide) ?_
      exact g_zret hC rfl rfl dX4_comes_174 (⟨rV (by rw [ha, actR_ok ha6]; rfl), u, (updN ro a (1 - ro a)), rfl, fun y hy => (by rw [ha, actR_ok ha6] at hy; cases hy; exact ⟨sm_rfl _, rr_turn hrr ha6⟩)⟩)
    · skip
      have hno := of_decide_eq_false h_154
      refine g_iconst (v := nI (0)) hC dX4_comes_157 (by decide) ?_
      exact g_zret hC rfl rfl dX4_comes_158 (⟨rV (by rw [ha, actR_no hno]; rfl), u, ro, rfl, fun y hy => (by rw [ha, actR_no hno] at hy; cases hy)⟩)
  · have hc := (ltr_in q1).2
    rw [hc] at hle ht0 ht1 ht97
    rw [if_neg (by decide), (ltr_in q2).2, Nat.add_sub_cancel_left] at ht0
    have ha : act lt s (stp lt ln s).1 u rf = actN u rf a := by rw [he]; exact act_n (v := u) (rf := rf) (e := s + 2) q1 q2
    refine g_aload_n hC dX4_comes_0 rfl rfl ?_
    refine gf_X4_told hC dX4_comes_1 rfl rfl ?_
    refine g_iconst (v := nI (2)) hC dX4_comes_4 (by decide) ?_
    refine g_iload_n hC dX4_comes_5 rfl ?_
    refine g_imulN hC dX4_comes_6 ?_
    refine g_iald (v := nI (a)) hC dX4_comes_7 rfl rfl (by omega) (by decide) (ht0) ?_
    refine g_istore_n hC dX4_comes_8 (by decide) rfl ?_
    refine g_aload_n hC dX4_comes_9 rfl rfl ?_
    refine gf_X4_told hC dX4_comes_10 rfl rfl ?_
    refine g_iconst (v := nI (2)) hC dX4_comes_13 (by decide) ?_
    refine g_iload_n hC dX4_comes_14 rfl ?_
    refine g_imulN hC dX4_comes_15 ?_
    refine g_iconst (v := nI (1)) hC dX4_comes_16 (by decide) ?_
    refine g_iaddN hC dX4_comes_17 ?_
    refine g_iald (v := td ((2 * k) + 1)) hC dX4_comes_18 rfl rfl (by omega) (by decide) (rfl) ?_
    refine g_istore_n hC dX4_comes_19 (by decide) rfl ?_
    refine g_aload_n hC dX4_comes_20 rfl rfl ?_
    refine gf_X4_letter hC dX4_comes_21 rfl rfl ?_
    refine g_iload_n hC dX4_comes_24 rfl ?_
    refine g_iald (v := nI (110)) hC dX4_comes_25 rfl rfl (by omega) (by decide) (by show nI (le k) = _; rw [hle]) ?_
    refine g_tabIn (off := 149) (tgt := 175) hC dX4_comes_26 (by decide) (by decide) (by decide) (by decide) ?_
    refine g_aload_n hC dX4_comes_175 rfl rfl ?_
    refine g_iload_n hC dX4_comes_176 rfl ?_
    refine gp_X4_nose hC dX4_comes_177 rfl rfl ?_
    refine g_iload_n hC dX4_comes_180 rfl ?_
    refine g_if_leN (tgt := 188) hC dX4_comes_181 (by decide) (by omega) (fun h_181 => ?_) (fun h_181 => ?_)
    · skip
      refine g_iconst (v := nI (0)) hC dX4_comes_188 (by decide) ?_
      exact g_zret hC rfl rfl dX4_comes_189 (⟨rV (by rw [ha, actN_no (by omega)]; rfl), (uNo u a), ro, rfl, fun y hy => (by rw [ha, actN_no (by omega)] at hy; cases hy)⟩)
    · skip
      refine g_iconst (v := nI (1)) hC dX4_comes_184 (by decide) ?_
      refine g_goto (tgt := 189) hC dX4_comes_185 (by decide) ?_
      exact g_zret hC rfl rfl dX4_comes_189 (⟨rV (by rw [ha, actN_ok (by omega)]; rfl), (uNo u a), ro, rfl, fun y hy => (by rw [ha, actN_ok (by omega)] at hy; cases hy; exact ⟨sm_rfl _, hrr⟩)⟩)
  · have hc := (ltr_in q1).2
    rw [hc] at hle ht0 ht1 ht97
    rw [if_pos rfl, kin_in q2] at ht0
    have ht1 := ht1 (by decide) (by decide)
    have hg0 := (ltr_in (q5 0 (by omega)).2).2
    rw [Nat.add_zero] at hg0
    rw [hg0, Nat.add_sub_cancel_left] at ht1
    obtain ⟨hf, htl⟩ := ht97 rfl
    obtain ⟨m, rfl⟩ : ∃ m, n = m + 1 := ⟨n - 1, by omega⟩
    have ha : act lt s (stp lt ln s).1 u rf = actA u rf ki g (m + 1) := by rw [he]; exact act_a (v := u) (rf := rf) q1 q2 q5 q3
    have hki := kin_lt _ q2
    have hin := (ltr_in (q5 m (by omega)).2).1
    refine g_aload_n hC dX4_comes_0 rfl rfl ?_
    refine gf_X4_told hC dX4_comes_1 rfl rfl ?_
    refine g_iconst (v := nI (2)) hC dX4_comes_4 (by decide) ?_
    refine g_iload_n hC dX4_comes_5 rfl ?_
    refine g_imulN hC dX4_comes_6 ?_
    refine g_iald (v := nI (ki)) hC dX4_comes_7 rfl rfl (by omega) (by decide) (ht0) ?_
    refine g_istore_n hC dX4_comes_8 (by decide) rfl ?_
    refine g_aload_n hC dX4_comes_9 rfl rfl ?_
    refine gf_X4_told hC dX4_comes_10 rfl rfl ?_
    refine g_iconst (v := nI (2)) hC dX4_comes_13 (by decide) ?_
    refine g_iload_n hC dX4_comes_14 rfl ?_
    refine g_imulN hC dX4_comes_15 ?_
    refine g_iconst (v := nI (1)) hC dX4_comes_16 (by decide) ?_
    refine g_iaddN hC dX4_comes_17 ?_
    refine g_iald (v := nI (g 0)) hC dX4_comes_18 rfl rfl (by omega) (by decide) (ht1) ?_
    refine g_istore_n hC dX4_comes_19 (by decide) rfl ?_
    refine g_aload_n hC dX4_comes_20 rfl rfl ?_
    refine gf_X4_letter hC dX4_comes_21 rfl rfl ?_
    refine g_iload_n hC dX4_comes_24 rfl ?_
    refine g_iald (v := nI (97)) hC dX4_comes_25 rfl rfl (by omega) (by decide) (by show nI (le k) = _; rw [hle]) ?_
    refine g_tabOut (tgt := 190) hC dX4_comes_26 (Or.inl (by decide)) (by decide) ?_
    refine g_aload_n hC dX4_comes_190 rfl rfl ?_
    refine g_iload_n hC dX4_comes_191 rfl ?_
    refine g_invV (T := TX4) (N := 30) hC (is := [0]) (st := []) (c_X4_comesWalker u ro re lt len le la td fr ti pt st ke hi ik cu go num nin up fo hu hB (k := k) (ki := ki) (n := m) (s3 := s + 1 + 1 + 1) (g := g) rf hk (by omega) ht0 ht1 (fun i hi => (q5 i (by omega)).1) (by omega) hf (by rw [htl]; show s + 1 + 1 + (m + 1) = _; omega) (by omega) (fun i hi => by have := (ltr_in (q5 (i + 1) (by omega)).2).2; rw [← this]; congr 1; omega)) dX4_comes_192 tw_4_109 tw_4_111 ts_3_7 tw_1_5 tw_4_112 ⟨hy_X4_comesWalker.1.1, hy_X4_comesWalker.1.2, hy_X4_comesWalker.2⟩ ⟨by decide, by decide⟩ ⟨by decide, by decide⟩ rfl (by decide) rfl rfl rfl rfl rfl (Nat.le_of_ble_eq_true rfl) rfl rfl (fun r1 M1 hp => ?_)
    obtain ⟨rfl, u1, ro1, rfl, hy1⟩ := hp
    refine ⟨rfl, rfl, ?_⟩
    show G C 0 0 195 [aR 0 0 0, aI (nI (k)), aI (nI (ki)), aI (nI (g 0))] [aI (bI ((actA u rf ki g (m + 1)).isSome))] _
    exact g_zret hC rfl (bI_nar _) dX4_comes_195 (⟨rV (by rw [ha]), u1, ro1, rfl, fun y hy => (by rw [ha] at hy; obtain ⟨z1, rfl, z3⟩ := hy1 y hy; rw [z3]; exact ⟨z1, hrr⟩)⟩)

