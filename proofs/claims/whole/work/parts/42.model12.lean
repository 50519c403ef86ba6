/-- whether a room is let, as a bit -/
def letB (u : Vw) (f : Bool) (r : Nat) : Bool := if f = true then upTo3 u 3 r else !(anyB (fun w => decide (vPl u w = r)) (vN u))
theorem let_1 {u : Vw} {r : Nat} (h : ∀ m, ends u r 9 false (vN u) = some m → m < 2000) : decide (nI 0 ≤ oI (-9) (ends u r 9 false (vN u)) ∧ oI (-9) (ends u r 9 false (vN u)) ≤ nI 3) = upTo3 u 3 r := by
  unfold upTo3
  cases he : ends u r 9 false (vN u) with
  | none => exact decide_eq_false (by decide)
  | some a =>
    have := h a he
    refine decide_eq_decide.mpr ?_
    show nI 0 ≤ nI a ∧ nI a ≤ nI 3 ↔ a ≤ 3
    rw [Int32.le_iff_toInt_le, Int32.le_iff_toInt_le, nI_toInt (by omega), nI_toInt (by omega), nI_toInt (by omega)]
    omega
/-- rooms that are not let are taken out -/
def mskN (m : Nat) (p : Nat → Bool) : Nat → Nat
  | 0 => m
  | k + 1 => if p k then mskN m p k else mskN m p k &&& (63 ^^^ (1 <<< k))
theorem mskN_t {m : Nat} {p : Nat → Bool} {k : Nat} (h : p k = true) : mskN m p (k + 1) = mskN m p k := by show (if p k then _ else _) = _; rw [h]; rfl
theorem mskN_f {m : Nat} {p : Nat → Bool} {k : Nat} (h : p k = false) : mskN m p (k + 1) = mskN m p k &&& (63 ^^^ (1 <<< k)) := by show (if p k then _ else _) = _; rw [h]; rfl
theorem mskN_lt {m : Nat} {p : Nat → Bool} (h : m < 64) : ∀ k, k ≤ 6 → mskN m p k < 64
  | 0, _ => h
  | k + 1, hk => by
    have ih := mskN_lt (p := p) h k (by omega)
    unfold mskN
    split
    · exact ih
    · exact cl_lt _ ih _ (by omega)
theorem cl_tb : ∀ x, x < 64 → ∀ k, k < 6 → ∀ i, i < 6 → (x &&& (63 ^^^ (1 <<< k))).testBit i = (x.testBit i && decide (i ≠ k)) := by decide +kernel
theorem or_tb : ∀ x, x < 64 → ∀ k, k < 6 → ∀ i, i < 6 → (x ||| (1 <<< k)).testBit i = (x.testBit i || decide (i = k)) := by decide +kernel
theorem six_ext {a b : Nat} (ha : a < 64) (hb : b < 64) (h : ∀ i, i < 6 → a.testBit i = b.testBit i) : a = b := by
  apply Nat.eq_of_testBit_eq
  intro i
  by_cases hi : i < 6
  · exact h i hi
  · have h6 : 2 ^ 6 ≤ 2 ^ i := Nat.pow_le_pow_right (show 0 < 2 by decide) (show 6 ≤ i by omega)
    rw [Nat.testBit_lt_two_pow (by omega), Nat.testBit_lt_two_pow (by omega)]
theorem mskN_tb {m : Nat} {p : Nat → Bool} (h : m < 64) : ∀ k, k ≤ 6 → ∀ i, i < 6 → (mskN m p k).testBit i = (m.testBit i && (decide (k ≤ i) || p i))
  | 0, _, i, _ => by show m.testBit i = _; simp
  | k + 1, hk, i, hi => by
    have ih := mskN_tb (p := p) h k (by omega) i hi
    cases hp : p k with
    | true =>
      rw [mskN_t hp, ih]
      by_cases e : i = k
      · subst e; rw [hp]; simp
      · have : decide (k ≤ i) = decide (k + 1 ≤ i) := decide_eq_decide.mpr (by omega)
        rw [this]
    | false =>
      rw [mskN_f hp, cl_tb _ (mskN_lt h k (by omega)) _ (by omega) _ hi, ih]
      by_cases e : i = k
      · subst e; rw [hp]; simp
      · have : decide (k ≤ i) = decide (k + 1 ≤ i) := decide_eq_decide.mpr (by omega)
        rw [this]
        simp [e]
theorem maskOf_tb {p : Nat → Bool} : ∀ k, k ≤ 6 → ∀ i, i < 6 → (maskOf p k).testBit i = (decide (i < k) && p i)
  | 0, _, i, _ => by show (0 : Nat).testBit i = _; simp
  | k + 1, hk, i, hi => by
    have ih := maskOf_tb (p := p) k (by omega) i hi
    cases hp : p k with
    | true =>
      rw [maskOf_t hp, or_tb _ (maskOf_lt k (by omega)) _ (by omega) _ hi, ih]
      by_cases e : i = k
      · subst e; rw [hp]; simp
      · have : decide (i < k) = decide (i < k + 1) := decide_eq_decide.mpr (by omega)
        rw [this]; simp [e]
    | false =>
      rw [maskOf_f hp, ih]
      by_cases e : i = k
      · subst e; rw [hp]; simp
      · have : decide (i < k) = decide (i < k + 1) := decide_eq_decide.mpr (by omega)
        rw [this]
theorem emptyM_tb {B : Nat} {u : Vw} (h : wf B u) : ∀ k, k ≤ vN u → ∀ i, i < 6 → (emptyM u k).testBit i = !(anyB (fun w => decide (vPl u w = i)) k)
  | 0, _, i, hi => by
    show (63 : Nat).testBit i = true
    rcases (by omega : i = 0 ∨ i = 1 ∨ i = 2 ∨ i = 3 ∨ i = 4 ∨ i = 5) with rfl | rfl | rfl | rfl | rfl | rfl <;> rfl
  | k + 1, hk, i, hi => by
    show (emptyM u k &&& (63 ^^^ (1 <<< vPl u k))).testBit i = !(anyB (fun w => decide (vPl u w = i)) k || decide (vPl u k = i))
    rw [cl_tb _ (emptyM_lt h k (by omega)) _ (wf_pl h k (by omega)) _ hi, emptyM_tb h k (by omega) i hi]
    have : decide (i ≠ vPl u k) = !decide (vPl u k = i) := by
      by_cases e : i = vPl u k
      · simp [e]
      · have : ¬ vPl u k = i := fun z => e z.symm
        simp [e, this]
    rw [this, Bool.not_or]
theorem msk_reach {B : Nat} {u : Vw} (h : wf B u) {m : Nat} (hm : m < 64) (f : Bool) : mskN m (letB u f) 6 = m &&& (if f = true then maskOf (upTo3 u 3) 6 else emptyM u (vN u)) := by
  have h2 : (if f = true then maskOf (upTo3 u 3) 6 else emptyM u (vN u)) < 64 := by
    split
    · exact maskOf_lt 6 (Nat.le_refl _)
    · exact emptyM_lt h _ (Nat.le_refl _)
  refine six_ext (mskN_lt hm 6 (Nat.le_refl _)) (and2_lt _ hm _ h2) (fun i hi => ?_)
  rw [mskN_tb hm 6 (Nat.le_refl _) i hi, Nat.testBit_and, decide_eq_false (by omega), Bool.false_or]
  congr 1
  unfold letB
  cases f with
  | true =>
    rw [if_pos rfl, if_pos rfl, maskOf_tb 6 (Nat.le_refl _) i hi, decide_eq_true hi, Bool.true_and]
  | false =>
    rw [if_neg (by decide), if_neg (by decide), emptyM_tb h _ (Nat.le_refl _) i hi]
theorem and_m1 (x : Int32) : x &&& (-1 : Int32) = x := by
  apply Int32.toBitVec_inj.mp
  simp
set_option maxRecDepth 100000 in
set_option maxHeartbeats 4000000 in
theorem c_X4_isLet_f (u : Vw) (ro re lt : Nat → Nat) (len : Nat) (le la : Nat → Nat) (td : Nat → Int32) (fr ti : Nat → Nat) (pt st : Nat) (ke : Nat → Int32) (hi ik : Bool) (cu : Nat) (go num : Nat → Nat) (nin : Nat) (up fo : Nat → Nat) {B : Nat} (hu : wf B u) (hB : B ≤ 200) {r : Nat} (hr : r < 6) : ConF yX4_isLet cX4_isLet 4 (some .boolean) 2 [aR 0 0 0, aI (nI (r)), aI (bI (false))] [modW u ro re lt len le la td fr ti pt st ke hi ik cu go num nin up fo] (some (aI (bI (letB u false r)))) [modW u ro re lt len le la td fr ti pt st ke hi ik cu go num nin up fo] := by
  refine con_of RX4 pn_X4 rfl rfl (Nat.le_of_ble_eq_true rfl) (fun C hM0 hC => ?_)
  show G C 0 0 0 [aR 0 0 0, aI (nI (r)), aI (bI (false)), aK 9] [] [modW u ro re lt len le la td fr ti pt st ke hi ik cu go num nin up fo]
  have hn := wf_n hu
  have loop : ∀ d k, k + d = vN u → anyB (fun w => decide (vPl u w = r)) k = false → G C 0 0 20 [aR 0 0 0, aI (nI (r)), aI (bI (false)), aI (nI (k))] [] [modW u ro re lt len le la td fr ti pt st ke hi ik cu go num nin up fo] := by
    intro d
    induction d with
    | zero =>
      intro k hk hany
      refine g_iload_n hC dX4_isLet_20 rfl ?_
      refine g_aload_n hC dX4_isLet_21 rfl rfl ?_
      refine gf_X4_walkers hC dX4_isLet_22 rfl rfl ?_
      refine g_icmp_geN (tgt := 46) hC dX4_isLet_25 (by decide) (by omega) (by omega) (fun h_25 => ?_) (fun h_25 => ?_)
      · skip
        refine g_iconst (v := nI (1)) hC dX4_isLet_46 (by decide) ?_
        exact g_zret hC rfl rfl dX4_isLet_47 (⟨rV (by unfold letB; rw [if_neg (by decide), ← show k = vN u by omega, hany]; rfl), rfl⟩)
      · skip
        omega
    | succ d ih =>
      intro k hk hany
      have hpk := wf_pl hu k (by omega)
      refine g_iload_n hC dX4_isLet_20 rfl ?_
      refine g_aload_n hC dX4_isLet_21 rfl rfl ?_
      refine gf_X4_walkers hC dX4_isLet_22 rfl rfl ?_
      refine g_icmp_geN (tgt := 46) hC dX4_isLet_25 (by decide) (by omega) (by omega) (fun h_25 => ?_) (fun h_25 => ?_)
      · skip
        omega
      · skip
        refine g_aload_n hC dX4_isLet_28 rfl rfl ?_
        refine gf_X4_place hC dX4_isLet_29 rfl rfl ?_
        refine g_iload_n hC dX4_isLet_32 rfl ?_
        refine g_ialdN hC dX4_isLet_33 rfl (by omega) (by decide) ?_
        refine g_iload_n hC dX4_isLet_34 rfl ?_
        refine g_icmp_neN (tgt := 40) hC dX4_isLet_35 (by decide) (by omega) (by omega) (fun h_35 => ?_) (fun h_35 => ?_)
        · skip
          refine g_iincN hC dX4_isLet_40 rfl (by decide) rfl ?_
          refine g_goto (tgt := 20) hC dX4_isLet_43 (by decide) ?_
          exact ih (k + 1) (by omega) (anyB_f hany (decide_eq_false h_35))
        · skip
          refine g_iconst (v := nI (0)) hC dX4_isLet_38 (by decide) ?_
          exact g_zret hC rfl rfl dX4_isLet_39 (⟨rV (by unfold letB; rw [if_neg (by decide), anyB_t (p := (fun w => decide (vPl u w = r))) (k := k) (decide_eq_true h_35) _ (by omega)]; rfl), rfl⟩)
  refine g_iload_n hC dX4_isLet_0 rfl ?_
  refine g_if_eqB (tgt := 18) hC dX4_isLet_1 (by decide) (fun h_1 => ?_) (fun h_1 => ?_)
  · skip
    refine g_iconst (v := nI (0)) hC dX4_isLet_18 (by decide) ?_
    refine g_istore_n hC dX4_isLet_19 (by decide) rfl ?_
    exact loop (vN u) 0 (by omega) rfl
  · skip
    cases h_1

set_option maxRecDepth 100000 in
set_option maxHeartbeats 4000000 in
theorem c_X4_isLet_t (u : Vw) (ro re lt : Nat → Nat) (len : Nat) (le la : Nat → Nat) (td : Nat → Int32) (fr ti : Nat → Nat) (pt st : Nat) (ke : Nat → Int32) (hi ik : Bool) (cu : Nat) (go num : Nat → Nat) (nin : Nat) (up fo : Nat → Nat) {B : Nat} (hu : wf B u) (hB : B ≤ 200) {r : Nat} (hr : r < 6) : ConF yX4_isLet cX4_isLet 4 (some .boolean) 2 [aR 0 0 0, aI (nI (r)), aI (bI (true))] [modW u ro re lt len le la td fr ti pt st ke hi ik cu go num nin up fo] (some (aI (bI (letB u true r)))) [modW u ro re lt len le la td fr ti pt st ke hi ik cu go num nin up fo] := by
  refine con_of RX4 pn_X4 rfl rfl (Nat.le_of_ble_eq_true rfl) (fun C hM0 hC => ?_)
  show G C 0 0 0 [aR 0 0 0, aI (nI (r)), aI (bI (true)), aK 9] [] [modW u ro re lt len le la td fr ti pt st ke hi ik cu go num nin up fo]
  refine g_iload_n hC dX4_isLet_0 rfl ?_
  refine g_if_eqB (tgt := 18) hC dX4_isLet_1 (by decide) (fun h_1 => ?_) (fun h_1 => ?_)
  · skip
    cases h_1
  · skip
    refine g_aload_n hC dX4_isLet_4 rfl rfl ?_
    refine g_iload_n hC dX4_isLet_5 rfl ?_
    refine g_bipush (v := (-9)) hC dX4_isLet_6 (by decide) ?_
    refine g_iconst (v := nI (0)) hC dX4_isLet_8 (by decide) ?_
    refine gi_X4_161 hC (is := [0]) (st := []) (c_X4_endAge u ro re lt len le la td fr ti pt st ke hi ik cu go num nin up fo hu hB (s := 9) (as := -9) hr (by decide) false) dX4_isLet_9 rfl ⟨by decide, by decide⟩ ⟨by decide, by decide⟩ rfl (by decide) rfl rfl rfl ?_
    refine g_iconst (v := nI (0)) hC dX4_isLet_12 (by decide) ?_
    refine g_iconst (v := nI (3)) hC dX4_isLet_13 (by decide) ?_
    refine gi_X4_96 hC (is := []) (st := []) (c_X4_isIn (oI (-9) (ends u r 9 false (vN u))) (nI 0) (nI 3)) dX4_isLet_14 rfl ⟨by decide, by decide⟩ ⟨by decide, by decide⟩ rfl (by decide) rfl rfl ?_
    exact g_zret hC rfl (bI_nar _) dX4_isLet_17 (⟨rV (by rw [let_1 (ends_lt hu hB hr _)]; rfl), rfl⟩)

theorem c_X4_isLet (u : Vw) (ro re lt : Nat → Nat) (len : Nat) (le la : Nat → Nat) (td : Nat → Int32) (fr ti : Nat → Nat) (pt st : Nat) (ke : Nat → Int32) (hi ik : Bool) (cu : Nat) (go num : Nat → Nat) (nin : Nat) (up fo : Nat → Nat) {B : Nat} (hu : wf B u) (hB : B ≤ 200) {r : Nat} (hr : r < 6) (f : Bool) : ConF yX4_isLet cX4_isLet 4 (some .boolean) 2 [aR 0 0 0, aI (nI r), aI (bI f)] [modW u ro re lt len le la td fr ti pt st ke hi ik cu go num nin up fo] (some (aI (bI (letB u f r)))) [modW u ro re lt len le la td fr ti pt st ke hi ik cu go num nin up fo] := by
  cases f with
  | true => exact c_X4_isLet_t u ro re lt len le la td fr ti pt st ke hi ik cu go num nin up fo hu hB hr
  | false => exact c_X4_isLet_f u ro re lt len le la td fr ti pt st ke hi ik cu go num nin up fo hu hB hr

set_option maxRecDepth 100000 in
set_option maxHeartbeats 4000000 in
theorem c_X4_soonest (u : Vw) (ro re lt : Nat → Nat) (len : Nat) (le la : Nat → Nat) (td : Nat → Int32) (fr ti : Nat → Nat) (pt st : Nat) (ke : Nat → Int32) (hi ik : Bool) (cu : Nat) (go num : Nat → Nat) (nin : Nat) (up fo : Nat → Nat) {B : Nat} (hu : wf B u) (hB : B ≤ 99) {a b : Nat} (ha : a < 6) (hb : b < 6) (f : Bool) : Con yX4_soonest cX4_soonest 9 (some .int) 6 0 0 [aR 0 0 0, aI (nI (a)), aI (nI (b)), aI (bI (f))] [modW u ro re lt len le la td fr ti pt st ke hi ik cu go num nin up fo] (fun r M => r = some (aI (oI (-9) (fstB (soonB u f a b) 41))) ∧ PMs u ro re lt len ke hi num nin M) := by
  refine con_of RX4 pn_X4 rfl rfl (Nat.le_of_ble_eq_true rfl) (fun C hM0 hC => ?_)
  show G C 0 0 0 [aR 0 0 0, aI (nI (a)), aI (nI (b)), aI (bI (f)), aK 9, aK 9, aK 9, aK 9, aK 9] [] [modW u ro re lt len le la td fr ti pt st ke hi ik cu go num nin up fo]
  have loop : ∀ d k, k + d = 41 → G C 0 0 17 [aR 0 0 0, aI (nI (a)), aI (nI (b)), aI (bI (f)), aI (oI (-9) (fstB (soonB u f a b) k)), aI (nI (reach u f a k)), aI (nI (k)), aK 9, aK 9] [] [modW (goN u k) ro re lt len le la td fr ti pt st (kpt u ro ke (85 * 1)) hi true ((((((((((((85 * 1) + 6) + 6) + 6) + 4) + 4) + 4) + 24) + 24) + 1) + 1) + 1) (goG u go k) num nin up fo] := by
    intro d
    induction d with
    | zero =>
      intro k hk
      refine g_iload hC dX4_soonest_17 rfl ?_
      refine g_bipush (v := nI (40)) hC dX4_soonest_19 (by decide) ?_
      refine g_icmp_gtN (tgt := 145) hC dX4_soonest_21 (by decide) (by omega) (by omega) (fun h_21 => ?_) (fun h_21 => ?_)
      · skip
        refine g_aload_n hC dX4_soonest_145 rfl rfl ?_
        refine g_iconst (v := nI (1)) hC dX4_soonest_146 (by decide) ?_
        refine g_iconst (v := nI (0)) hC dX4_soonest_147 (by decide) ?_
        refine gi_X4_129 hC (is := [0]) (st := []) (c_X4_passesAll_R (goN u k) ro re lt len le la td fr ti pt st (kpt u ro ke (85 * 1)) hi true ((((((((((((85 * 1) + 6) + 6) + 6) + 4) + 4) + 4) + 24) + 24) + 1) + 1) + 1) (goG u go k) num nin up fo u ro (W := 1) (by decide) (fun j hj => kpt_at hj)) dX4_soonest_148 rfl ⟨by decide, by decide⟩ ⟨by decide, by decide⟩ rfl (by decide) rfl rfl rfl ?_
        refine g_iload hC dX4_soonest_151 rfl ?_
        exact g_iret hC rfl dX4_soonest_153 (⟨rV (by rw [show k = 41 by omega]), ⟨rst u _, cpyN ro ro 6, rst_sm hu, cpyN_same, _, _, _, _, _, _, _, _, _, _, _, _, _, fun j hj => kpt_lo (by omega), rfl⟩⟩)
      · skip
        omega
    | succ d ih =>
      intro k hk
      have hrl := reach_lt hu (f := f) ha k
      have hwm : wf 200 (goN u (k + 1)) := wf_up (wf_goN hu (k + 1)) (by omega)
      have hwl := within_lt hwm hrl 6 (Nat.le_refl _)
      refine g_iload hC dX4_soonest_17 rfl ?_
      refine g_bipush (v := nI (40)) hC dX4_soonest_19 (by decide) ?_
      refine g_icmp_gtN (tgt := 145) hC dX4_soonest_21 (by decide) (by omega) (by omega) (fun h_21 => ?_) (fun h_21 => ?_)
      · skip
        omega
      · skip
        refine g_iload hC dX4_soonest_24 rfl ?_
        refine g_if_geO (tgt := 145) hC dX4_soonest_26 (by decide) (by decide) (fun m q => by have := fst_lt _ m q; omega) (fun m h_26 => ?_) (fun h_26 => ?_)
        · skip
          refine g_aload_n hC dX4_soonest_145 rfl rfl ?_
          refine g_iconst (v := nI (1)) hC dX4_soonest_146 (by decide) ?_
          refine g_iconst (v := nI (0)) hC dX4_soonest_147 (by decide) ?_
          refine gi_X4_129 hC (is := [0]) (st := []) (c_X4_passesAll_R (goN u k) ro re lt len le la td fr ti pt st (kpt u ro ke (85 * 1)) hi true ((((((((((((85 * 1) + 6) + 6) + 6) + 4) + 4) + 4) + 24) + 24) + 1) + 1) + 1) (goG u go k) num nin up fo u ro (W := 1) (by decide) (fun j hj => kpt_at hj)) dX4_soonest_148 rfl ⟨by decide, by decide⟩ ⟨by decide, by decide⟩ rfl (by decide) rfl rfl rfl ?_
          refine g_iload hC dX4_soonest_151 rfl ?_
          exact g_iret hC rfl dX4_soonest_153 (⟨rV (by rw [fst_to h_26 (show k ≤ 41 by omega), h_26]), ⟨rst u _, cpyN ro ro 6, rst_sm hu, cpyN_same, _, _, _, _, _, _, _, _, _, _, _, _, _, fun j hj => kpt_lo (by omega), rfl⟩⟩)
        · skip
          refine g_iload hC dX4_soonest_29 rfl ?_
          refine g_iload_n hC dX4_soonest_31 rfl ?_
          refine g_ishr hC dX4_soonest_32 rfl ?_
          refine g_iconst (v := nI (1)) hC dX4_soonest_33 (by decide) ?_
          refine g_iand (v := nI (((reach u f a k).testBit b).toNat)) hC dX4_soonest_34 (shr_bit _ hrl _ hb) ?_
          refine g_iconst (v := nI (1)) hC dX4_soonest_35 (by decide) ?_
          refine g_icmp_neN (tgt := 43) hC dX4_soonest_36 (by decide) (bt_lt _) (by omega) (fun h_36 => ?_) (fun h_36 => ?_)
          · skip
            refine g_aload_n hC dX4_soonest_43 rfl rfl ?_
            refine gi_X4_177 hC (is := [0]) (st := []) (c_X4_goesMinute (goN u k) ro re lt len le la td fr ti pt st (kpt u ro ke (85 * 1)) hi true ((((((((((((85 * 1) + 6) + 6) + 6) + 4) + 4) + 4) + 24) + 24) + 1) + 1) + 1) (goG u go k) num nin up fo (wf_goN hu k) (by omega)) dX4_soonest_44 rfl ⟨by decide, by decide⟩ ⟨by decide, by decide⟩ rfl (by decide) rfl rfl rfl ?_
            refine g_iload hC dX4_soonest_47 rfl ?_
            refine g_istore hC dX4_soonest_49 (by decide) rfl ?_
            refine g_iconst (v := nI (0)) hC dX4_soonest_51 (by decide) ?_
            refine g_istore hC dX4_soonest_52 (by decide) rfl ?_
            have lp2 : ∀ e r, r + e = 6 → G C 0 0 54 [aR 0 0 0, aI (nI (a)), aI (nI (b)), aI (bI (f)), aI (oI (-9) (fstB (soonB u f a b) k)), aI (nI (reach u f a k)), aI (nI (k)), aI (nI (withinN (goN u (k + 1)) (reach u f a k) r)), aI (nI (r))] [] [modW (goN u (k + 1)) ro re lt len le la td fr ti pt st (kpt u ro ke (85 * 1)) hi true ((((((((((((85 * 1) + 6) + 6) + 6) + 4) + 4) + 4) + 24) + 24) + 1) + 1) + 1) (goG u go (k + 1)) num nin up fo] := by
              intro e
              induction e with
              | zero =>
                intro r hr
                obtain rfl : r = 6 := by omega
                refine g_iload hC dX4_soonest_54 rfl ?_
                refine g_bipush (v := nI (6)) hC dX4_soonest_56 (by decide) ?_
                refine g_icmp_geN (tgt := 94) hC dX4_soonest_58 (by decide) (by omega) (by omega) (fun h_58 => ?_) (fun h_58 => ?_)
                · skip
                  refine g_iconst (v := nI (0)) hC dX4_soonest_94 (by decide) ?_
                  refine g_istore hC dX4_soonest_95 (by decide) rfl ?_
                  have lp3 : ∀ e r, r + e = 6 → G C 0 0 97 [aR 0 0 0, aI (nI (a)), aI (nI (b)), aI (bI (f)), aI (oI (-9) (fstB (soonB u f a b) k)), aI (nI (reach u f a k)), aI (nI (k)), aI (nI (mskN (withinN (goN u (k + 1)) (reach u f a k) 6) (letB (goN u (k + 1)) f) r)), aI (nI (r))] [] [modW (goN u (k + 1)) ro re lt len le la td fr ti pt st (kpt u ro ke (85 * 1)) hi true ((((((((((((85 * 1) + 6) + 6) + 6) + 4) + 4) + 4) + 24) + 24) + 1) + 1) + 1) (goG u go (k + 1)) num nin up fo] := by
                    intro e
                    induction e with
                    | zero =>
                      intro r hr
                      obtain rfl : r = 6 := by omega
                      refine g_iload hC dX4_soonest_97 rfl ?_
                      refine g_bipush (v := nI (6)) hC dX4_soonest_99 (by decide) ?_
                      refine g_icmp_geN (tgt := 135) hC dX4_soonest_101 (by decide) (by omega) (by omega) (fun h_101 => ?_) (fun h_101 => ?_)
                      · skip
                        refine g_iload hC dX4_soonest_135 rfl ?_
                        refine g_istore hC dX4_soonest_137 (by decide) rfl ?_
                        refine g_iincN hC dX4_soonest_139 rfl (by decide) rfl ?_
                        refine g_goto (tgt := 17) hC dX4_soonest_142 (by decide) ?_
                        refine g_mask [true, true, true, true, true, true, true, false, false] ?_
                        have q := ih (k + 1) (by omega)
                        rw [fst_no h_26 (show soonB u f a b k = false from b0 h_36)] at q
                        rw [h_26]
                        rw [show reach u f a (k + 1) = mskN (withinN (goN u (k + 1)) (reach u f a k) 6) (letB (goN u (k + 1)) f) 6 from (msk_reach hwm hwl f).symm] at q
                        exact q
                      · skip
                        omega
                    | succ e ih3 =>
                      intro r hr
                      have hml := mskN_lt (p := letB (goN u (k + 1)) f) hwl r (by omega)
                      refine g_iload hC dX4_soonest_97 rfl ?_
                      refine g_bipush (v := nI (6)) hC dX4_soonest_99 (by decide) ?_
                      refine g_icmp_geN (tgt := 135) hC dX4_soonest_101 (by decide) (by omega) (by omega) (fun h_101 => ?_) (fun h_101 => ?_)
                      · skip
                        omega
                      · skip
                        refine g_iload hC dX4_soonest_104 rfl ?_
                        refine g_aload_n hC dX4_soonest_106 rfl rfl ?_
                        refine g_iload hC dX4_soonest_107 rfl ?_
                        refine g_iload_n hC dX4_soonest_109 rfl ?_
                        refine gi_X4_212 hC (is := [0]) (st := [aI (nI (mskN (withinN (goN u (k + 1)) (reach u f a k) 6) (letB (goN u (k + 1)) f) r))]) (c_X4_isLet (goN u (k + 1)) ro re lt len le la td fr ti pt st (kpt u ro ke (85 * 1)) hi true ((((((((((((85 * 1) + 6) + 6) + 6) + 4) + 4) + 4) + 24) + 24) + 1) + 1) + 1) (goG u go (k + 1)) num nin up fo hwm (by decide) (show r < 6 by omega) f) dX4_soonest_110 rfl ⟨by decide, by decide⟩ ⟨by decide, by decide⟩ rfl (by decide) rfl rfl rfl ?_
                        refine g_if_eqB (tgt := 120) hC dX4_soonest_113 (by decide) (fun h_113 => ?_) (fun h_113 => ?_)
                        · skip
                          refine g_iconst (v := nI (1)) hC dX4_soonest_120 (by decide) ?_
                          refine g_iload hC dX4_soonest_121 rfl ?_
                          refine g_ishl hC dX4_soonest_123 rfl ?_
                          refine g_iconst (v := (-1)) hC dX4_soonest_124 (by decide) ?_
                          refine g_ixor hC dX4_soonest_125 rfl ?_
                          refine g_iand (v := nI ((mskN (withinN (goN u (k + 1)) (reach u f a k) 6) (letB (goN u (k + 1)) f) r) &&& (63 ^^^ (1 <<< r)))) hC dX4_soonest_126 (cl_bit _ hml _ (by omega)) ?_
                          refine g_istore hC dX4_soonest_127 (by decide) rfl ?_
                          refine g_iincN hC dX4_soonest_129 rfl (by decide) rfl ?_
                          refine g_goto (tgt := 97) hC dX4_soonest_132 (by decide) ?_
                          have q := ih3 (r + 1) (by omega)
                          rw [mskN_f h_113] at q
                          exact q
                        · skip
                          refine g_iconst (v := (-1)) hC dX4_soonest_116 (by decide) ?_
                          refine g_goto (tgt := 126) hC dX4_soonest_117 (by decide) ?_
                          refine g_iand (v := nI (mskN (withinN (goN u (k + 1)) (reach u f a k) 6) (letB (goN u (k + 1)) f) r)) hC dX4_soonest_126 (and_m1 _) ?_
                          refine g_istore hC dX4_soonest_127 (by decide) rfl ?_
                          refine g_iincN hC dX4_soonest_129 rfl (by decide) rfl ?_
                          refine g_goto (tgt := 97) hC dX4_soonest_132 (by decide) ?_
                          have q := ih3 (r + 1) (by omega)
                          rw [mskN_t h_113] at q
                          exact q
                  exact lp3 6 0 (by omega)
                · skip
                  omega
              | succ e ih2 =>
                intro r hr
                have hwr := within_lt hwm hrl r (by omega)
                refine g_iload hC dX4_soonest_54 rfl ?_
                refine g_bipush (v := nI (6)) hC dX4_soonest_56 (by decide) ?_
                refine g_icmp_geN (tgt := 94) hC dX4_soonest_58 (by decide) (by omega) (by omega) (fun h_58 => ?_) (fun h_58 => ?_)
                · skip
                  omega
                · skip
                  refine g_iload hC dX4_soonest_61 rfl ?_
                  refine g_iload hC dX4_soonest_63 rfl ?_
                  refine g_iload hC dX4_soonest_65 rfl ?_
                  refine g_ishr hC dX4_soonest_67 rfl ?_
                  refine g_iconst (v := nI (1)) hC dX4_soonest_68 (by decide) ?_
                  refine g_iand (v := nI (((reach u f a k).testBit r).toNat)) hC dX4_soonest_69 (shr_bit _ hrl _ (by omega)) ?_
                  refine g_iconst (v := nI (1)) hC dX4_soonest_70 (by decide) ?_
                  refine g_icmp_neN (tgt := 84) hC dX4_soonest_71 (by decide) (bt_lt _) (by omega) (fun h_71 => ?_) (fun h_71 => ?_)
                  · skip
                    refine g_iconst (v := nI (0)) hC dX4_soonest_84 (by decide) ?_
                    refine g_ior (v := nI (withinN (goN u (k + 1)) (reach u f a k) r)) hC dX4_soonest_85 (or_0 _ hwr) ?_
                    refine g_istore hC dX4_soonest_86 (by decide) rfl ?_
                    refine g_iincN hC dX4_soonest_88 rfl (by decide) rfl ?_
                    refine g_goto (tgt := 54) hC dX4_soonest_91 (by decide) ?_
                    have q := ih2 (r + 1) (by omega)
                    rw [within_f (b0 h_71)] at q
                    exact q
                  · skip
                    refine g_aload_n hC dX4_soonest_74 rfl rfl ?_
                    refine gf_X4_paths hC dX4_soonest_75 rfl rfl ?_
                    refine g_iload hC dX4_soonest_78 rfl ?_
                    refine g_ialdN hC dX4_soonest_80 rfl (by omega) (by decide) ?_
                    refine g_goto (tgt := 85) hC dX4_soonest_81 (by decide) ?_
                    refine g_ior (v := nI (withinN (goN u (k + 1)) (reach u f a k) r ||| vPa (goN u (k + 1)) r)) hC dX4_soonest_85 (or_mask _ hwr _ (wf_pa hwm r (by omega))) ?_
                    refine g_istore hC dX4_soonest_86 (by decide) rfl ?_
                    refine g_iincN hC dX4_soonest_88 rfl (by decide) rfl ?_
                    refine g_goto (tgt := 54) hC dX4_soonest_91 (by decide) ?_
                    have q := ih2 (r + 1) (by omega)
                    rw [within_t (b1 h_71)] at q
                    exact q
            exact lp2 6 0 (by omega)
          · skip
            refine g_iload hC dX4_soonest_39 rfl ?_
            refine g_istore hC dX4_soonest_41 (by decide) rfl ?_
            refine g_aload_n hC dX4_soonest_43 rfl rfl ?_
            refine gi_X4_177 hC (is := [0]) (st := []) (c_X4_goesMinute (goN u k) ro re lt len le la td fr ti pt st (kpt u ro ke (85 * 1)) hi true ((((((((((((85 * 1) + 6) + 6) + 6) + 4) + 4) + 4) + 24) + 24) + 1) + 1) + 1) (goG u go k) num nin up fo (wf_goN hu k) (by omega)) dX4_soonest_44 rfl ⟨by decide, by decide⟩ ⟨by decide, by decide⟩ rfl (by decide) rfl rfl rfl ?_
            refine g_iload hC dX4_soonest_47 rfl ?_
            refine g_istore hC dX4_soonest_49 (by decide) rfl ?_
            refine g_iconst (v := nI (0)) hC dX4_soonest_51 (by decide) ?_
            refine g_istore hC dX4_soonest_52 (by decide) rfl ?_
            have lp2 : ∀ e r, r + e = 6 → G C 0 0 54 [aR 0 0 0, aI (nI (a)), aI (nI (b)), aI (bI (f)), aI (nI (k)), aI (nI (reach u f a k)), aI (nI (k)), aI (nI (withinN (goN u (k + 1)) (reach u f a k) r)), aI (nI (r))] [] [modW (goN u (k + 1)) ro re lt len le la td fr ti pt st (kpt u ro ke (85 * 1)) hi true ((((((((((((85 * 1) + 6) + 6) + 6) + 4) + 4) + 4) + 24) + 24) + 1) + 1) + 1) (goG u go (k + 1)) num nin up fo] := by
              intro e
              induction e with
              | zero =>
                intro r hr
                obtain rfl : r = 6 := by omega
                refine g_iload hC dX4_soonest_54 rfl ?_
                refine g_bipush (v := nI (6)) hC dX4_soonest_56 (by decide) ?_
                refine g_icmp_geN (tgt := 94) hC dX4_soonest_58 (by decide) (by omega) (by omega) (fun h_58 => ?_) (fun h_58 => ?_)
                · skip
                  refine g_iconst (v := nI (0)) hC dX4_soonest_94 (by decide) ?_
                  refine g_istore hC dX4_soonest_95 (by decide) rfl ?_
                  have lp3 : ∀ e r, r + e = 6 → G C 0 0 97 [aR 0 0 0, aI (nI (a)), aI (nI (b)), aI (bI (f)), aI (nI (k)), aI (nI (reach u f a k)), aI (nI (k)), aI (nI (mskN (withinN (goN u (k + 1)) (reach u f a k) 6) (letB (goN u (k + 1)) f) r)), aI (nI (r))] [] [modW (goN u (k + 1)) ro re lt len le la td fr ti pt st (kpt u ro ke (85 * 1)) hi true ((((((((((((85 * 1) + 6) + 6) + 6) + 4) + 4) + 4) + 24) + 24) + 1) + 1) + 1) (goG u go (k + 1)) num nin up fo] := by
                    intro e
                    induction e with
                    | zero =>
                      intro r hr
                      obtain rfl : r = 6 := by omega
                      refine g_iload hC dX4_soonest_97 rfl ?_
                      refine g_bipush (v := nI (6)) hC dX4_soonest_99 (by decide) ?_
                      refine g_icmp_geN (tgt := 135) hC dX4_soonest_101 (by decide) (by omega) (by omega) (fun h_101 => ?_) (fun h_101 => ?_)
                      · skip
                        refine g_iload hC dX4_soonest_135 rfl ?_
                        refine g_istore hC dX4_soonest_137 (by decide) rfl ?_
                        refine g_iincN hC dX4_soonest_139 rfl (by decide) rfl ?_
                        refine g_goto (tgt := 17) hC dX4_soonest_142 (by decide) ?_
                        refine g_mask [true, true, true, true, true, true, true, false, false] ?_
                        have q := ih (k + 1) (by omega)
                        rw [fst_at h_26 (show soonB u f a b k = true from b1 h_36) _ (Nat.lt_succ_self k)] at q
                        rw [show reach u f a (k + 1) = mskN (withinN (goN u (k + 1)) (reach u f a k) 6) (letB (goN u (k + 1)) f) 6 from (msk_reach hwm hwl f).symm] at q
                        exact q
                      · skip
                        omega
                    | succ e ih3 =>
                      intro r hr
                      have hml := mskN_lt (p := letB (goN u (k + 1)) f) hwl r (by omega)
                      refine g_iload hC dX4_soonest_97 rfl ?_
                      refine g_bipush (v := nI (6)) hC dX4_soonest_99 (by decide) ?_
                      refine g_icmp_geN (tgt := 135) hC dX4_soonest_101 (by decide) (by omega) (by omega) (fun h_101 => ?_) (fun h_101 => ?_)
                      · skip
                        omega
                      · skip
                        refine g_iload hC dX4_soonest_104 rfl ?_
                        refine g_aload_n hC dX4_soonest_106 rfl rfl ?_
                        refine g_iload hC dX4_soonest_107 rfl ?_
                        refine g_iload_n hC dX4_soonest_109 rfl ?_
                        refine gi_X4_212 hC (is := [0]) (st := [aI (nI (mskN (withinN (goN u (k + 1)) (reach u f a k) 6) (letB (goN u (k + 1)) f) r))]) (c_X4_isLet (goN u (k + 1)) ro re lt len le la td fr ti pt st (kpt u ro ke (85 * 1)) hi true ((((((((((((85 * 1) + 6) + 6) + 6) + 4) + 4) + 4) + 24) + 24) + 1) + 1) + 1) (goG u go (k + 1)) num nin up fo hwm (by decide) (show r < 6 by omega) f) dX4_soonest_110 rfl ⟨by decide, by decide⟩ ⟨by decide, by decide⟩ rfl (by decide) rfl rfl rfl ?_
                        refine g_if_eqB (tgt := 120) hC dX4_soonest_113 (by decide) (fun h_113 => ?_) (fun h_113 => ?_)
                        · skip
                          refine g_iconst (v := nI (1)) hC dX4_soonest_120 (by decide) ?_
                          refine g_iload hC dX4_soonest_121 rfl ?_
                          refine g_ishl hC dX4_soonest_123 rfl ?_
                          refine g_iconst (v := (-1)) hC dX4_soonest_124 (by decide) ?_
                          refine g_ixor hC dX4_soonest_125 rfl ?_
                          refine g_iand (v := nI ((mskN (withinN (goN u (k + 1)) (reach u f a k) 6) (letB (goN u (k + 1)) f) r) &&& (63 ^^^ (1 <<< r)))) hC dX4_soonest_126 (cl_bit _ hml _ (by omega)) ?_
                          refine g_istore hC dX4_soonest_127 (by decide) rfl ?_
                          refine g_iincN hC dX4_soonest_129 rfl (by decide) rfl ?_
                          refine g_goto (tgt := 97) hC dX4_soonest_132 (by decide) ?_
                          have q := ih3 (r + 1) (by omega)
                          rw [mskN_f h_113] at q
                          exact q
                        · skip
                          refine g_iconst (v := (-1)) hC dX4_soonest_116 (by decide) ?_
                          refine g_goto (tgt := 126) hC dX4_soonest_117 (by decide) ?_
                          refine g_iand (v := nI (mskN (withinN (goN u (k + 1)) (reach u f a k) 6) (letB (goN u (k + 1)) f) r)) hC dX4_soonest_126 (and_m1 _) ?_
                          refine g_istore hC dX4_soonest_127 (by decide) rfl ?_
                          refine g_iincN hC dX4_soonest_129 rfl (by decide) rfl ?_
                          refine g_goto (tgt := 97) hC dX4_soonest_132 (by decide) ?_
                          have q := ih3 (r + 1) (by omega)
                          rw [mskN_t h_113] at q
                          exact q
                  exact lp3 6 0 (by omega)
                · skip
                  omega
              | succ e ih2 =>
                intro r hr
                have hwr := within_lt hwm hrl r (by omega)
                refine g_iload hC dX4_soonest_54 rfl ?_
                refine g_bipush (v := nI (6)) hC dX4_soonest_56 (by decide) ?_
                refine g_icmp_geN (tgt := 94) hC dX4_soonest_58 (by decide) (by omega) (by omega) (fun h_58 => ?_) (fun h_58 => ?_)
                · skip
                  omega
                · skip
                  refine g_iload hC dX4_soonest_61 rfl ?_
                  refine g_iload hC dX4_soonest_63 rfl ?_
                  refine g_iload hC dX4_soonest_65 rfl ?_
                  refine g_ishr hC dX4_soonest_67 rfl ?_
                  refine g_iconst (v := nI (1)) hC dX4_soonest_68 (by decide) ?_
                  refine g_iand (v := nI (((reach u f a k).testBit r).toNat)) hC dX4_soonest_69 (shr_bit _ hrl _ (by omega)) ?_
                  refine g_iconst (v := nI (1)) hC dX4_soonest_70 (by decide) ?_
                  refine g_icmp_neN (tgt := 84) hC dX4_soonest_71 (by decide) (bt_lt _) (by omega) (fun h_71 => ?_) (fun h_71 => ?_)
                  · skip
                    refine g_iconst (v := nI (0)) hC dX4_soonest_84 (by decide) ?_
                    refine g_ior (v := nI (withinN (goN u (k + 1)) (reach u f a k) r)) hC dX4_soonest_85 (or_0 _ hwr) ?_
                    refine g_istore hC dX4_soonest_86 (by decide) rfl ?_
                    refine g_iincN hC dX4_soonest_88 rfl (by decide) rfl ?_
                    refine g_goto (tgt := 54) hC dX4_soonest_91 (by decide) ?_
                    have q := ih2 (r + 1) (by omega)
                    rw [within_f (b0 h_71)] at q
                    exact q
                  · skip
                    refine g_aload_n hC dX4_soonest_74 rfl rfl ?_
                    refine gf_X4_paths hC dX4_soonest_75 rfl rfl ?_
                    refine g_iload hC dX4_soonest_78 rfl ?_
                    refine g_ialdN hC dX4_soonest_80 rfl (by omega) (by decide) ?_
                    refine g_goto (tgt := 85) hC dX4_soonest_81 (by decide) ?_
                    refine g_ior (v := nI (withinN (goN u (k + 1)) (reach u f a k) r ||| vPa (goN u (k + 1)) r)) hC dX4_soonest_85 (or_mask _ hwr _ (wf_pa hwm r (by omega))) ?_
                    refine g_istore hC dX4_soonest_86 (by decide) rfl ?_
                    refine g_iincN hC dX4_soonest_88 rfl (by decide) rfl ?_
                    refine g_goto (tgt := 54) hC dX4_soonest_91 (by decide) ?_
                    have q := ih2 (r + 1) (by omega)
                    rw [within_t (b1 h_71)] at q
                    exact q
            exact lp2 6 0 (by omega)
  refine g_aload_n hC dX4_soonest_0 rfl rfl ?_
  refine g_iconst (v := nI (0)) hC dX4_soonest_1 (by decide) ?_
  refine gi_X4_186 hC (is := [0]) (st := []) (c_X4_goesAhead u ro re lt len le la td fr ti pt st ke hi ik cu go num nin up fo hu (n := 0) (by omega)) dX4_soonest_2 rfl ⟨by decide, by decide⟩ ⟨by decide, by decide⟩ rfl (by decide) rfl rfl rfl ?_
  refine g_bipush (v := (-9)) hC dX4_soonest_5 (by decide) ?_
  refine g_istore hC dX4_soonest_7 (by decide) rfl ?_
  refine g_iconst (v := nI (1)) hC dX4_soonest_9 (by decide) ?_
  refine g_iload_n hC dX4_soonest_10 rfl ?_
  refine g_ishl (v := nI (1 <<< a)) hC dX4_soonest_11 (sh_one _ ha) ?_
  refine g_istore hC dX4_soonest_12 (by decide) rfl ?_
  refine g_iconst (v := nI (0)) hC dX4_soonest_14 (by decide) ?_
  refine g_istore hC dX4_soonest_15 (by decide) rfl ?_
  exact loop 41 0 (by omega)

set_option maxRecDepth 100000 in
set_option maxHeartbeats 4000000 in
theorem c_X4_across (u : Vw) (ro re lt : Nat → Nat) (len : Nat) (le la : Nat → Nat) (td : Nat → Int32) (fr ti : Nat → Nat) (pt st : Nat) (ke : Nat → Int32) (hi ik : Bool) (cu : Nat) (go num : Nat → Nat) (nin : Nat) (up fo : Nat → Nat) {B : Nat} (hu : wf B u) (hB : B ≤ 99) (x y : Int32) : Con yX4_across cX4_across 3 (some .int) 7 0 0 [aR 0 0 0, aI (x), aI (y)] [modW u ro re lt len le la td fr ti pt st ke hi ik cu go num nin up fo] (fun r M => r = some (aI (ansOf (oSoon u false x y))) ∧ PMs u ro (bump re (oSoon u false x y)) lt len ke hi num nin M) := by
  refine con_of RX4 pn_X4 rfl rfl (Nat.le_of_ble_eq_true rfl) (fun C hM0 hC => ?_)
  show G C 0 0 0 [aR 0 0 0, aI (x), aI (y)] [] [modW u ro re lt len le la td fr ti pt st ke hi ik cu go num nin up fo]
  have hn4 := wf_n hu
  refine g_iload_n hC dX4_across_0 rfl ?_
  refine gi_X4_117 hC (is := []) (st := []) (c_X4_isRoom x) dX4_across_1 rfl ⟨by decide, by decide⟩ ⟨by decide, by decide⟩ rfl (by decide) rfl rfl ?_
  refine g_if_eqB (tgt := 24) hC dX4_across_4 (by decide) (fun h_4 => ?_) (fun h_4 => ?_)
  · skip
    have hno := of_decide_eq_false h_4
    refine g_aload_n hC dX4_across_24 rfl rfl ?_
    refine g_iconst (v := (-1)) hC dX4_across_25 (by decide) ?_
    refine gi_X4_85 hC (is := [0]) (st := []) (c_X4_no u ro re lt len le la td fr ti pt st ke hi ik cu go num nin up fo (k := 1) (by decide)) dX4_across_26 rfl ⟨by decide, by decide⟩ ⟨by decide, by decide⟩ rfl (by decide) rfl rfl rfl ?_
    exact g_iret hC rfl dX4_across_29 (by first | exact ⟨rV (by rw [oSoon_no (fun z => hno z.1)]; rfl), by rw [oSoon_no (fun z => hno z.1)]; exact ⟨_, _, sm_rfl _, fun _ _ => rfl, _, _, _, _, _, _, _, _, _, _, _, _, _, fun _ _ => rfl, rfl⟩⟩ | exact ⟨rV (by rw [oSoon_no (fun z => hno z.2)]; rfl), by rw [oSoon_no (fun z => hno z.2)]; exact ⟨_, _, sm_rfl _, fun _ _ => rfl, _, _, _, _, _, _, _, _, _, _, _, _, _, fun _ _ => rfl, rfl⟩⟩)
  · skip
    have hr := of_decide_eq_true h_4
    obtain ⟨a, ha0, rfl⟩ := rm_of hr
    refine g_iload_n hC dX4_across_7 rfl ?_
    refine gi_X4_117 hC (is := []) (st := []) (c_X4_isRoom y) dX4_across_8 rfl ⟨by decide, by decide⟩ ⟨by decide, by decide⟩ rfl (by decide) rfl rfl ?_
    refine g_if_eqB (tgt := 24) hC dX4_across_11 (by decide) (fun h_11 => ?_) (fun h_11 => ?_)
    · skip
      have hno := of_decide_eq_false h_11
      refine g_aload_n hC dX4_across_24 rfl rfl ?_
      refine g_iconst (v := (-1)) hC dX4_across_25 (by decide) ?_
      refine gi_X4_85 hC (is := [0]) (st := []) (c_X4_no u ro re lt len le la td fr ti pt st ke hi ik cu go num nin up fo (k := 1) (by decide)) dX4_across_26 rfl ⟨by decide, by decide⟩ ⟨by decide, by decide⟩ rfl (by decide) rfl rfl rfl ?_
      exact g_iret hC rfl dX4_across_29 (by first | exact ⟨rV (by rw [oSoon_no (fun z => hno z.1)]; rfl), by rw [oSoon_no (fun z => hno z.1)]; exact ⟨_, _, sm_rfl _, fun _ _ => rfl, _, _, _, _, _, _, _, _, _, _, _, _, _, fun _ _ => rfl, rfl⟩⟩ | exact ⟨rV (by rw [oSoon_no (fun z => hno z.2)]; rfl), by rw [oSoon_no (fun z => hno z.2)]; exact ⟨_, _, sm_rfl _, fun _ _ => rfl, _, _, _, _, _, _, _, _, _, _, _, _, _, fun _ _ => rfl, rfl⟩⟩)
    · skip
      have hr2 := of_decide_eq_true h_11
      obtain ⟨b, hb0, rfl⟩ := rm_of hr2
      refine g_aload_n hC dX4_across_14 rfl rfl ?_
      refine g_iload_n hC dX4_across_15 rfl ?_
      refine g_iload_n hC dX4_across_16 rfl ?_
      refine g_iconst (v := nI (0)) hC dX4_across_17 (by decide) ?_
      refine g_invV (T := TX4) (N := 30) hC (is := [0]) (st := []) (c_X4_soonest u ro re lt len le la td fr ti pt st ke hi ik cu go num nin up fo hu hB ha0 hb0 false) dX4_across_18 tw_5_17 tw_5_19 ts_4_9 tw_1_5 tw_5_20 ⟨hy_X4_soonest.1.1, hy_X4_soonest.1.2, hy_X4_soonest.2⟩ ⟨by decide, by decide⟩ ⟨by decide, by decide⟩ rfl (by decide) rfl rfl rfl rfl rfl (Nat.le_of_ble_eq_true rfl) rfl rfl (fun r1 M1 hp => ?_)
      obtain ⟨rfl, u1, ro1, hs1, hr1, le1, la1, td1, fr1, ti1, pt1, st1, k1, ik1, cu1, go1, up1, fo1, hk1, rfl⟩ := hp
      refine ⟨rfl, rfl, ?_⟩
      show G C 0 0 21 [aR 0 0 0, aI (nI (a)), aI (nI (b))] [aI (oI (-9) (fstB (soonB u false a b) 41))] _
      refine g_goto (tgt := 29) hC dX4_across_21 (by decide) ?_
      exact g_iret hC rfl dX4_across_29 (⟨rV (by rw [oSoon_ok (sm_rfl u) hu hr hr2 ha0 hb0]; rfl), by rw [oSoon_ok (sm_rfl u) hu hr hr2 ha0 hb0]; exact ⟨u1, ro1, hs1, hr1, _, _, _, _, _, _, _, _, _, _, _, _, _, hk1, rfl⟩⟩)

set_option maxRecDepth 100000 in
set_option maxHeartbeats 4000000 in
theorem c_X4_covered (u : Vw) (ro re lt : Nat → Nat) (len : Nat) (le la : Nat → Nat) (td : Nat → Int32) (fr ti : Nat → Nat) (pt st : Nat) (ke : Nat → Int32) (hi ik : Bool) (cu : Nat) (go num : Nat → Nat) (nin : Nat) (up fo : Nat → Nat) {B : Nat} (hu : wf B u) (hB : B ≤ 99) (x y : Int32) : Con yX4_covered cX4_covered 3 (some .int) 7 0 0 [aR 0 0 0, aI (x), aI (y)] [modW u ro re lt len le la td fr ti pt st ke hi ik cu go num nin up fo] (fun r M => r = some (aI (ansOf (oSoon u true x y))) ∧ PMs u ro (bump re (oSoon u true x y)) lt len ke hi num nin M) := by
  refine con_of RX4 pn_X4 rfl rfl (Nat.le_of_ble_eq_true rfl) (fun C hM0 hC => ?_)
  show G C 0 0 0 [aR 0 0 0, aI (x), aI (y)] [] [modW u ro re lt len le la td fr ti pt st ke hi ik cu go num nin up fo]
  have hn4 := wf_n hu
  refine g_iload_n hC dX4_covered_0 rfl ?_
  refine gi_X4_117 hC (is := []) (st := []) (c_X4_isRoom x) dX4_covered_1 rfl ⟨by decide, by decide⟩ ⟨by decide, by decide⟩ rfl (by decide) rfl rfl ?_
  refine g_if_eqB (tgt := 24) hC dX4_covered_4 (by decide) (fun h_4 => ?_) (fun h_4 => ?_)
  · skip
    have hno := of_decide_eq_false h_4
    refine g_aload_n hC dX4_covered_24 rfl rfl ?_
    refine g_iconst (v := (-1)) hC dX4_covered_25 (by decide) ?_
    refine gi_X4_85 hC (is := [0]) (st := []) (c_X4_no u ro re lt len le la td fr ti pt st ke hi ik cu go num nin up fo (k := 1) (by decide)) dX4_covered_26 rfl ⟨by decide, by decide⟩ ⟨by decide, by decide⟩ rfl (by decide) rfl rfl rfl ?_
    exact g_iret hC rfl dX4_covered_29 (by first | exact ⟨rV (by rw [oSoon_no (fun z => hno z.1)]; rfl), by rw [oSoon_no (fun z => hno z.1)]; exact ⟨_, _, sm_rfl _, fun _ _ => rfl, _, _, _, _, _, _, _, _, _, _, _, _, _, fun _ _ => rfl, rfl⟩⟩ | exact ⟨rV (by rw [oSoon_no (fun z => hno z.2)]; rfl), by rw [oSoon_no (fun z => hno z.2)]; exact ⟨_, _, sm_rfl _, fun _ _ => rfl, _, _, _, _, _, _, _, _, _, _, _, _, _, fun _ _ => rfl, rfl⟩⟩)
  · skip
    have hr := of_decide_eq_true h_4
    obtain ⟨a, ha0, rfl⟩ := rm_of hr
    refine g_iload_n hC dX4_covered_7 rfl ?_
    refine gi_X4_117 hC (is := []) (st := []) (c_X4_isRoom y) dX4_covered_8 rfl ⟨by decide, by decide⟩ ⟨by decide, by decide⟩ rfl (by decide) rfl rfl ?_
    refine g_if_eqB (tgt := 24) hC dX4_covered_11 (by decide) (fun h_11 => ?_) (fun h_11 => ?_)
    · skip
      have hno := of_decide_eq_false h_11
      refine g_aload_n hC dX4_covered_24 rfl rfl ?_
      refine g_iconst (v := (-1)) hC dX4_covered_25 (by decide) ?_
      refine gi_X4_85 hC (is := [0]) (st := []) (c_X4_no u ro re lt len le la td fr ti pt st ke hi ik cu go num nin up fo (k := 1) (by decide)) dX4_covered_26 rfl ⟨by decide, by decide⟩ ⟨by decide, by decide⟩ rfl (by decide) rfl rfl rfl ?_
      exact g_iret hC rfl dX4_covered_29 (by first | exact ⟨rV (by rw [oSoon_no (fun z => hno z.1)]; rfl), by rw [oSoon_no (fun z => hno z.1)]; exact ⟨_, _, sm_rfl _, fun _ _ => rfl, _, _, _, _, _, _, _, _, _, _, _, _, _, fun _ _ => rfl, rfl⟩⟩ | exact ⟨rV (by rw [oSoon_no (fun z => hno z.2)]; rfl), by rw [oSoon_no (fun z => hno z.2)]; exact ⟨_, _, sm_rfl _, fun _ _ => rfl, _, _, _, _, _, _, _, _, _, _, _, _, _, fun _ _ => rfl, rfl⟩⟩)
    · skip
      have hr2 := of_decide_eq_true h_11
      obtain ⟨b, hb0, rfl⟩ := rm_of hr2
      refine g_aload_n hC dX4_covered_14 rfl rfl ?_
      refine g_iload_n hC dX4_covered_15 rfl ?_
      refine g_iload_n hC dX4_covered_16 rfl ?_
      refine g_iconst (v := nI (1)) hC dX4_covered_17 (by decide) ?_
      refine g_invV (T := TX4) (N := 30) hC (is := [0]) (st := []) (c_X4_soonest u ro re lt len le la td fr ti pt st ke hi ik cu go num nin up fo hu hB ha0 hb0 true) dX4_covered_18 tw_5_17 tw_5_19 ts_4_9 tw_1_5 tw_5_20 ⟨hy_X4_soonest.1.1, hy_X4_soonest.1.2, hy_X4_soonest.2⟩ ⟨by decide, by decide⟩ ⟨by decide, by decide⟩ rfl (by decide) rfl rfl rfl rfl rfl (Nat.le_of_ble_eq_true rfl) rfl rfl (fun r1 M1 hp => ?_)
      obtain ⟨rfl, u1, ro1, hs1, hr1, le1, la1, td1, fr1, ti1, pt1, st1, k1, ik1, cu1, go1, up1, fo1, hk1, rfl⟩ := hp
      refine ⟨rfl, rfl, ?_⟩
      show G C 0 0 21 [aR 0 0 0, aI (nI (a)), aI (nI (b))] [aI (oI (-9) (fstB (soonB u true a b) 41))] _
      refine g_goto (tgt := 29) hC dX4_covered_21 (by decide) ?_
      exact g_iret hC rfl dX4_covered_29 (⟨rV (by rw [oSoon_ok (sm_rfl u) hu hr hr2 ha0 hb0]; rfl), by rw [oSoon_ok (sm_rfl u) hu hr hr2 ha0 hb0]; exact ⟨u1, ro1, hs1, hr1, _, _, _, _, _, _, _, _, _, _, _, _, _, hk1, rfl⟩⟩)

set_option maxRecDepth 100000 in
set_option maxHeartbeats 4000000 in
theorem c_X4_seeds (u : Vw) (ro re lt : Nat → Nat) (len : Nat) (le la : Nat → Nat) (td : Nat → Int32) (fr ti : Nat → Nat) (pt st : Nat) (ke : Nat → Int32) (hi ik : Bool) (cu : Nat) (go num : Nat → Nat) (nin : Nat) (up fo : Nat → Nat) {B : Nat} (hu : wf B u) (hB : B ≤ 99) (x z y : Int32) : Con yX4_seeds cX4_seeds 8 (some .int) 6 0 0 [aR 0 0 0, aI (x), aI (z), aI (y)] [modW u ro re lt len le la td fr ti pt st ke hi ik cu go num nin up fo] (fun r M => r = some (aI (ansOf (oSeeds u x z y))) ∧ PMs u ro (bump re (oSeeds u x z y)) lt len ke hi num nin M) := by
  refine con_of RX4 pn_X4 rfl rfl (Nat.le_of_ble_eq_true rfl) (fun C hM0 hC => ?_)
  show G C 0 0 0 [aR 0 0 0, aI (x), aI (z), aI (y), aK 9, aK 9, aK 9, aK 9] [] [modW u ro re lt len le la td fr ti pt st ke hi ik cu go num nin up fo]
  have hn4 := wf_n hu
  refine g_iload_n hC dX4_seeds_0 rfl ?_
  refine gi_X4_117 hC (is := []) (st := []) (c_X4_isRoom y) dX4_seeds_1 rfl ⟨by decide, by decide⟩ ⟨by decide, by decide⟩ rfl (by decide) rfl rfl ?_
  refine g_if_neB (tgt := 11) hC dX4_seeds_4 (by decide) (fun h_4 => ?_) (fun h_4 => ?_)
  · skip
    have hr := of_decide_eq_true h_4
    refine g_iload_n hC dX4_seeds_11 rfl ?_
    refine g_iconst (v := nI (1)) hC dX4_seeds_12 (by decide) ?_
    refine g_bipush (v := nI (30)) hC dX4_seeds_13 (by decide) ?_
    refine gi_X4_78 hC (is := []) (st := []) (c_X4_bound x (nI 1) (nI 30)) dX4_seeds_15 rfl ⟨by decide, by decide⟩ ⟨by decide, by decide⟩ rfl (by decide) rfl rfl ?_
    have hK : kSeeds x y = outN x (nI 1) (nI 30) := if_pos hr
    rw [show -(nI (outN x (nI 1) (nI 30))) = -(nI (kSeeds x y)) from by rw [hK]]
    refine g_istore hC dX4_seeds_18 (by decide) rfl ?_
    refine g_iload hC dX4_seeds_20 rfl ?_
    refine g_if_eq (tgt := 32) hC dX4_seeds_22 (by decide) (fun h_22 => ?_) (fun h_22 => ?_)
    · skip
      have hk := (neg_0 (kSeeds x y) (kSeeds_lt x y)).mp h_22
      have hx : outN x (nI 1) (nI 30) = 0 := by rw [← hK]; exact hk
      obtain ⟨r, hr0, rfl⟩ := rm_of hr
      obtain ⟨n, rfl, hn0, hn1⟩ := out_0 (by decide) (by decide) hx
      refine g_aload_n hC dX4_seeds_32 rfl rfl ?_
      refine g_iconst (v := nI (0)) hC dX4_seeds_33 (by decide) ?_
      refine gi_X4_186 hC (is := [0]) (st := []) (c_X4_goesAhead u ro re lt len le la td fr ti pt st ke hi ik cu go num nin up fo hu (n := 0) (by omega)) dX4_seeds_34 rfl ⟨by decide, by decide⟩ ⟨by decide, by decide⟩ rfl (by decide) rfl rfl rfl ?_
      refine g_iload_n hC dX4_seeds_37 rfl ?_
      refine g_istore hC dX4_seeds_38 (by decide) rfl ?_
      refine g_iconst (v := nI (0)) hC dX4_seeds_40 (by decide) ?_
      refine g_istore hC dX4_seeds_41 (by decide) rfl ?_
      have ho := Seeds_ok (v := u) (z := z) hk
      rw [tn_n (show n < 2 ^ 31 by omega), tn_n (show r < 2 ^ 31 by omega)] at ho
      have loop : ∀ d k, k + d = n → G C 0 0 43 [aR 0 0 0, aI (nI (n)), aK 9, aI (nI (r)), aK 9, aI ((sc u z k).2), aI (nI (k)), aK 9] [] [modW (sc u z k).1 ro re lt len le la td fr ti pt st (kpt u ro ke (85 * 1)) hi true ((((((((((((85 * 1) + 6) + 6) + 6) + 4) + 4) + 4) + 24) + 24) + 1) + 1) + 1) (scg u z go k) num nin up fo] := by
        intro d
        induction d with
        | zero =>
          intro k hk9
          have hwm : wf 200 (sc u z k).1 := wf_up (wf_sc hu z k) (by omega)
          refine g_iload hC dX4_seeds_43 rfl ?_
          refine g_iload_n hC dX4_seeds_45 rfl ?_
          refine g_icmp_geN (tgt := 106) hC dX4_seeds_46 (by decide) (by omega) (by omega) (fun h_46 => ?_) (fun h_46 => ?_)
          · skip
            refine g_aload_n hC dX4_seeds_106 rfl rfl ?_
            refine g_iload_n hC dX4_seeds_107 rfl ?_
            refine gi_X4_183 hC (is := [0]) (st := []) (c_X4_toldApart (sc u z k).1 ro re lt len le la td fr ti pt st (kpt u ro ke (85 * 1)) hi true ((((((((((((85 * 1) + 6) + 6) + 6) + 4) + 4) + 4) + 24) + 24) + 1) + 1) + 1) (scg u z go k) num nin up fo hwm (by decide) hr0) dX4_seeds_108 rfl ⟨by decide, by decide⟩ ⟨by decide, by decide⟩ rfl (by decide) rfl rfl rfl ?_
            refine g_istore hC dX4_seeds_111 (by decide) rfl ?_
            refine g_aload_n hC dX4_seeds_113 rfl rfl ?_
            refine g_iconst (v := nI (1)) hC dX4_seeds_114 (by decide) ?_
            refine g_iconst (v := nI (0)) hC dX4_seeds_115 (by decide) ?_
            refine gi_X4_129 hC (is := [0]) (st := []) (c_X4_passesAll_R (sc u z k).1 ro re lt len le la td fr ti pt st (kpt u ro ke (85 * 1)) hi true ((((((((((((85 * 1) + 6) + 6) + 6) + 4) + 4) + 4) + 24) + 24) + 1) + 1) + 1) (scg u z go k) num nin up fo u ro (W := 1) (by decide) (fun j hj => kpt_at hj)) dX4_seeds_116 rfl ⟨by decide, by decide⟩ ⟨by decide, by decide⟩ rfl (by decide) rfl rfl rfl ?_
            refine g_iload hC dX4_seeds_119 rfl ?_
            exact g_iret hC rfl dX4_seeds_121 (⟨rV (by rw [ho, show n = k by omega]; rfl), by rw [ho]; exact ⟨rst u _, cpyN ro ro 6, rst_sm hu, cpyN_same, _, _, _, _, _, _, _, _, _, _, _, _, _, fun j hj => kpt_lo (by omega), rfl⟩⟩)
          · skip
            omega
        | succ d ih =>
          intro k hk9
          have hwk := wf_sc hu z k
          have hnk := wf_n hwk
          refine g_iload hC dX4_seeds_43 rfl ?_
          refine g_iload_n hC dX4_seeds_45 rfl ?_
          refine g_icmp_geN (tgt := 106) hC dX4_seeds_46 (by decide) (by omega) (by omega) (fun h_46 => ?_) (fun h_46 => ?_)
          · skip
            omega
          · skip
            refine g_iconst (v := nI (0)) hC dX4_seeds_49 (by decide) ?_
            refine g_istore hC dX4_seeds_50 (by decide) rfl ?_
            have inner : ∀ d9 k9, k9 + d9 = vN (sc u z k).1 → G C 0 0 52 [aR 0 0 0, aI (nI (n)), aK 9, aI (nI (r)), aK 9, aI (sd (sc u z k).2 k9), aI (nI (k)), aI (nI (k9))] [] [modW (scatV (sc u z k).1 (sc u z k).2 k9) ro re lt len le la td fr ti pt st (kpt u ro ke (85 * 1)) hi true ((((((((((((85 * 1) + 6) + 6) + 6) + 4) + 4) + 4) + 24) + 24) + 1) + 1) + 1) (scg u z go k) num nin up fo] := by
              intro d9
              induction d9 with
              | zero =>
                intro k9 hk8
                have hfn : vN (scatV (sc u z k).1 (sc u z k).2 k9) = vN (sc u z k).1 := rfl
                refine g_iload hC dX4_seeds_52 rfl ?_
                refine g_aload_n hC dX4_seeds_54 rfl rfl ?_
                refine gf_X4_walkers hC dX4_seeds_55 rfl rfl ?_
                refine g_icmp_geN (tgt := 96) hC dX4_seeds_58 (by decide) (by omega) (by omega) (fun h_58 => ?_) (fun h_58 => ?_)
                · skip
                  refine g_aload_n hC dX4_seeds_96 rfl rfl ?_
                  refine gi_X4_177 hC (is := [0]) (st := []) (c_X4_goesMinute (scatV (sc u z k).1 (sc u z k).2 k9) ro re lt len le la td fr ti pt st (kpt u ro ke (85 * 1)) hi true ((((((((((((85 * 1) + 6) + 6) + 6) + 4) + 4) + 4) + 24) + 24) + 1) + 1) + 1) (scg u z go k) num nin up fo (wf_scat hwk _ _) (by omega)) dX4_seeds_97 rfl ⟨by decide, by decide⟩ ⟨by decide, by decide⟩ rfl (by decide) rfl rfl rfl ?_
                  refine g_iincN hC dX4_seeds_100 rfl (by decide) rfl ?_
                  refine g_goto (tgt := 43) hC dX4_seeds_103 (by decide) ?_
                  obtain rfl : k9 = vN (sc u z k).1 := by omega
                  refine g_mask [true, true, false, true, false, true, true, false] ?_
                  exact ih (k + 1) (by omega)
                · skip
                  omega
              | succ d9 ih9 =>
                intro k9 hk8
                have hfn : vN (scatV (sc u z k).1 (sc u z k).2 k9) = vN (sc u z k).1 := rfl
                refine g_iload hC dX4_seeds_52 rfl ?_
                refine g_aload_n hC dX4_seeds_54 rfl rfl ?_
                refine gf_X4_walkers hC dX4_seeds_55 rfl rfl ?_
                refine g_icmp_geN (tgt := 96) hC dX4_seeds_58 (by decide) (by omega) (by omega) (fun h_58 => ?_) (fun h_58 => ?_)
                · skip
                  omega
                · skip
                  refine g_iload hC dX4_seeds_61 rfl ?_
                  refine g_ldc (v := nI (1664525)) hC dX4_seeds_63 tw_5_53 ?_
                  refine g_imul hC dX4_seeds_65 rfl ?_
                  refine g_ldc (v := nI (1013904223)) hC dX4_seeds_66 tw_5_54 ?_
                  refine g_iadd (v := sd (sc u z k).2 (k9 + 1)) hC dX4_seeds_68 (rfl) ?_
                  refine g_istore hC dX4_seeds_69 (by decide) rfl ?_
                  refine g_aload_n hC dX4_seeds_71 rfl rfl ?_
                  refine gf_X4_place hC dX4_seeds_72 rfl rfl ?_
                  refine g_iload hC dX4_seeds_75 rfl ?_
                  refine g_iload hC dX4_seeds_77 rfl ?_
                  refine g_ldc (v := nI (2147483647)) hC dX4_seeds_79 tw_5_55 ?_
                  refine g_iand (v := nI ((sd (sc u z k).2 (k9 + 1)).toBitVec.toNat % 2 ^ 31)) hC dX4_seeds_81 (pk_and _ 31 (by decide)) ?_
                  refine g_sipush (v := nI (256)) hC dX4_seeds_82 (by decide) ?_
                  refine g_idivN hC dX4_seeds_85 (Nat.mod_lt _ (by decide)) (by omega) (by omega) ?_
                  refine g_bipush (v := nI (6)) hC dX4_seeds_86 (by decide) ?_
                  refine g_iremN hC dX4_seeds_88 (Nat.lt_of_le_of_lt (Nat.div_le_self _ _) (Nat.mod_lt _ (by decide))) (by omega) (by omega) ?_
                  refine g_iastN hC dX4_seeds_89 rfl (by omega) (by decide) ?_
                  refine g_iincN hC dX4_seeds_90 rfl (by decide) rfl ?_
                  refine g_goto (tgt := 52) hC dX4_seeds_93 (by decide) ?_
                  refine g_mask [true, true, false, true, false, true, true, true] ?_
                  have q := ih9 (k9 + 1) (by omega)
                  rw [scat_succ] at q
                  exact q
            refine g_mask [true, true, false, true, false, true, true, true] ?_
            have q := inner (vN (sc u z k).1) 0 (by omega)
            rw [scat_zero] at q
            exact q
      refine g_mask [true, true, false, true, false, true, true, false] ?_
      exact loop n 0 (by omega)
    · skip
      have hk : kSeeds x y ≠ 0 := fun z => h_22 ((neg_0 (kSeeds x y) (kSeeds_lt x y)).mpr z)
      refine g_aload_n hC dX4_seeds_25 rfl rfl ?_
      refine g_iload hC dX4_seeds_26 rfl ?_
      refine gi_X4_85 hC (is := [0]) (st := []) (c_X4_no u ro re lt len le la td fr ti pt st ke hi ik cu go num nin up fo (k := (kSeeds x y)) (kSeeds_lt x y)) dX4_seeds_28 rfl ⟨by decide, by decide⟩ ⟨by decide, by decide⟩ rfl (by decide) rfl rfl rfl ?_
      exact g_iret hC rfl dX4_seeds_31 (⟨rV (by rw [Seeds_no hk]; rfl), by rw [Seeds_no hk]; exact ⟨_, _, sm_rfl _, fun _ _ => rfl, _, _, _, _, _, _, _, _, _, _, _, _, _, fun _ _ => rfl, rfl⟩⟩)
  · skip
    have hr := of_decide_eq_false h_4
    refine g_iconst (v := (-1)) hC dX4_seeds_7 (by decide) ?_
    refine g_goto (tgt := 18) hC dX4_seeds_8 (by decide) ?_
    have hK : kSeeds x y = 1 := if_neg hr
    show G C 0 0 _ _ (aI (-(nI 1)) :: []) _
    rw [show -(nI 1) = -(nI (kSeeds x y)) from by rw [hK]]
    refine g_istore hC dX4_seeds_18 (by decide) rfl ?_
    refine g_iload hC dX4_seeds_20 rfl ?_
    refine g_if_eq (tgt := 32) hC dX4_seeds_22 (by decide) (fun h_22 => ?_) (fun h_22 => ?_)
    · skip
      have hk := (neg_0 (kSeeds x y) (kSeeds_lt x y)).mp h_22
      rw [hK] at hk
      cases hk
    · skip
      have hk : kSeeds x y ≠ 0 := fun z => h_22 ((neg_0 (kSeeds x y) (kSeeds_lt x y)).mpr z)
      refine g_aload_n hC dX4_seeds_25 rfl rfl ?_
      refine g_iload hC dX4_seeds_26 rfl ?_
      refine gi_X4_85 hC (is := [0]) (st := []) (c_X4_no u ro re lt len le la td fr ti pt st ke hi ik cu go num nin up fo (k := (kSeeds x y)) (kSeeds_lt x y)) dX4_seeds_28 rfl ⟨by decide, by decide⟩ ⟨by decide, by decide⟩ rfl (by decide) rfl rfl rfl ?_
      exact g_iret hC rfl dX4_seeds_31 (⟨rV (by rw [Seeds_no hk]; rfl), by rw [Seeds_no hk]; exact ⟨_, _, sm_rfl _, fun _ _ => rfl, _, _, _, _, _, _, _, _, _, _, _, _, _, fun _ _ => rfl, rfl⟩⟩)

