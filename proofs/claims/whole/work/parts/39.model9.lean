theorem cpyN_if {rt ro : Nat → Nat} {n : Nat} : ∀ r, r < n → cpyN rt ro n r = rt r := fun r hr => if_pos hr
theorem outN_k {x : Int32} {a b k : Nat} (h : outN x (nI a) (nI b) = k) : outN x (nI a) (nI b) = k := h
theorem outN_nI {n a b : Nat} (hn : n < 2 ^ 31) (ha : a < 2 ^ 31) (hb : b < 2 ^ 31) : outN (nI n) (nI a) (nI b) = if n < a then 4 else if b < n then 6 else 0 := by
  unfold outN
  have e1 : nI n < nI a ↔ n < a := by rw [Int32.lt_iff_toInt_lt, nI_toInt hn, nI_toInt ha]; omega
  have e2 : nI b < nI n ↔ b < n := by rw [Int32.lt_iff_toInt_lt, nI_toInt hn, nI_toInt hb]; omega
  by_cases h1 : n < a
  · rw [if_pos h1, if_pos (e1.mpr h1)]
  · rw [if_neg h1, if_neg (fun z => h1 (e1.mp z))]
    by_cases h2 : b < n
    · rw [if_pos h2, if_pos (e2.mpr h2)]
    · rw [if_neg h2, if_neg (fun z => h2 (e2.mp z))]
theorem kPass_1 {v : Vw} {x : Int32} (hmi : vMi v ≤ 99) (h : outN x (nI 1) (nI 40) ≠ 0) : kPass v x = outN x (nI 1) (nI 40) := by
  unfold kPass
  unfold outN at h ⊢
  by_cases h1 : x < nI 1
  · rw [if_pos h1, if_pos h1]
  · rw [if_neg h1, if_neg h1]
    rw [if_neg h1] at h
    by_cases h2 : nI 40 < x
    · have h3 : nI (min 40 (99 - vMi v)) < x := by
        rw [Int32.lt_iff_toInt_lt, nI_toInt (by omega)] at h2 ⊢
        omega
      rw [if_pos h2, if_pos h3]
    · rw [if_neg h2] at h
      exact absurd rfl h
theorem kPass_0 {v : Vw} {n : Nat} (h1 : 1 ≤ n) (h2 : n ≤ 40) (h3 : vMi v + n ≤ 99) : kPass v (nI n) = 0 := by
  unfold kPass
  rw [outN_nI (by omega) (by omega) (by omega), if_neg (by omega), if_neg (by omega)]
theorem kPass_6 {v : Vw} {n : Nat} (h1 : 1 ≤ n) (h2 : n ≤ 40) (hmi : vMi v ≤ 99) (h3 : 99 < vMi v + n) : kPass v (nI n) = 6 := by
  unfold kPass
  rw [outN_nI (by omega) (by omega) (by omega), if_neg (by omega), if_pos (by omega)]
def nbB (u : Vw) (r w j : Nat) : Bool := !(anyB (sameB u r w) j) && (vLf u w r).isSome
theorem nb_new (u : Vw) (r w : Nat) : nbB u r w w = isNew u r w := by unfold nbB isNew; rw [Bool.and_comm]
theorem nb_t {u : Vw} {r w j : Nat} (h : nbB u r w j = true) : (vLf u w r).isSome = true ∧ anyB (sameB u r w) j = false := by
  unfold nbB at h
  simp only [Bool.and_eq_true, Bool.not_eq_true'] at h
  exact ⟨h.2, h.1⟩
theorem nb_f {u : Vw} {r w j : Nat} (h : nbB u r w j = false) : ∀ n, j ≤ n → nbB u r w n = false := by
  intro n hn
  obtain ⟨d, rfl⟩ : ∃ d, n = j + d := ⟨n - j, by omega⟩
  clear hn
  induction d with
  | zero => exact h
  | succ d ih =>
    unfold nbB at ih ⊢
    show (!(anyB (sameB u r w) (j + d) || sameB u r w (j + d)) && (vLf u w r).isSome) = false
    cases h1 : anyB (sameB u r w) (j + d) with
    | true => rfl
    | false =>
      rw [h1] at ih
      have : (vLf u w r).isSome = false := ih
      rw [this, Bool.and_false]
theorem nb_s {u : Vw} {r w j : Nat} (h : nbB u r w j = true) (h2 : sameB u r w j = false) : nbB u r w (j + 1) = true := by
  obtain ⟨h3, h4⟩ := nb_t h
  unfold nbB
  rw [anyB_f h4 h2, h3]
  rfl
theorem nb_o {u : Vw} {r w j : Nat} (h2 : sameB u r w j = true) : nbB u r w (j + 1) = false := by
  unfold nbB
  rw [anyB_t h2 _ (Nat.lt_succ_self j)]
  rfl
theorem or_0 : ∀ p, p < 64 → nI p ||| nI 0 = nI p := by decide +kernel
set_option maxRecDepth 100000 in
set_option maxHeartbeats 4000000 in
theorem c_X4_goesAhead (u : Vw) (ro re lt : Nat → Nat) (len : Nat) (le la : Nat → Nat) (td : Nat → Int32) (fr ti : Nat → Nat) (pt st : Nat) (ke : Nat → Int32) (hi ik : Bool) (cu : Nat) (go num : Nat → Nat) (nin : Nat) (up fo : Nat → Nat) {B : Nat} (hu : wf B u) {n : Nat} (hn : B + n ≤ 200) : ConF yX4_goesAhead cX4_goesAhead 3 none 5 [aR 0 0 0, aI (nI (n))] [modW u ro re lt len le la td fr ti pt st ke hi ik cu go num nin up fo] none [modW (goN u n) ro re lt len le la td fr ti pt st (kpt u ro ke (85 * 1)) hi true ((((((((((((85 * 1) + 6) + 6) + 6) + 4) + 4) + 4) + 24) + 24) + 1) + 1) + 1) (goG u go n) num nin up fo] := by
  refine con_of RX4 pn_X4 rfl rfl (Nat.le_of_ble_eq_true rfl) (fun C hM0 hC => ?_)
  show G C 0 0 0 [aR 0 0 0, aI (nI (n)), aK 9] [] [modW u ro re lt len le la td fr ti pt st ke hi ik cu go num nin up fo]
  have loop : ∀ d k, k + d = n → G C 0 0 8 [aR 0 0 0, aI (nI (n)), aI (nI (k))] [] [modW (goN u k) ro re lt len le la td fr ti pt st (kpt u ro ke (85 * 1)) hi true ((((((((((((85 * 1) + 6) + 6) + 6) + 4) + 4) + 4) + 24) + 24) + 1) + 1) + 1) (goG u go k) num nin up fo] := by
    intro d
    induction d with
    | zero =>
      intro k hk
      refine g_iload_n hC dX4_goesAhead_8 rfl ?_
      refine g_iload_n hC dX4_goesAhead_9 rfl ?_
      refine g_icmp_geN (tgt := 23) hC dX4_goesAhead_10 (by decide) (by omega) (by omega) (fun h_10 => ?_) (fun h_10 => ?_)
      · skip
        exact g_vret hC rfl dX4_goesAhead_23 (⟨rfl, by rw [show k = n by omega]⟩)
      · skip
        omega
    | succ d ih =>
      intro k hk
      refine g_iload_n hC dX4_goesAhead_8 rfl ?_
      refine g_iload_n hC dX4_goesAhead_9 rfl ?_
      refine g_icmp_geN (tgt := 23) hC dX4_goesAhead_10 (by decide) (by omega) (by omega) (fun h_10 => ?_) (fun h_10 => ?_)
      · skip
        omega
      · skip
        refine g_aload_n hC dX4_goesAhead_13 rfl rfl ?_
        refine gi_X4_177 hC (is := [0]) (st := []) (c_X4_goesMinute (goN u k) ro re lt len le la td fr ti pt st (kpt u ro ke (85 * 1)) hi true ((((((((((((85 * 1) + 6) + 6) + 6) + 4) + 4) + 4) + 24) + 24) + 1) + 1) + 1) (goG u go k) num nin up fo (wf_goN hu k) (by omega)) dX4_goesAhead_14 rfl ⟨by decide, by decide⟩ ⟨by decide, by decide⟩ rfl (by decide) rfl rfl rfl ?_
        refine g_iincN hC dX4_goesAhead_17 rfl (by decide) rfl ?_
        refine g_goto (tgt := 8) hC dX4_goesAhead_20 (by decide) ?_
        refine g_mask [true, true, true] ?_
        have q := ih (k + 1) (by omega)
        exact q
  refine g_aload_n hC dX4_goesAhead_0 rfl rfl ?_
  refine g_iconst (v := nI (1)) hC dX4_goesAhead_1 (by decide) ?_
  refine g_iconst (v := nI (1)) hC dX4_goesAhead_2 (by decide) ?_
  refine gi_X4_129 hC (is := [0]) (st := []) (c_X4_passesAll_K u ro re lt len le la td fr ti pt st ke hi ik cu go num nin up fo (W := 1) (by decide)) dX4_goesAhead_3 rfl ⟨by decide, by decide⟩ ⟨by decide, by decide⟩ rfl (by decide) rfl rfl rfl ?_
  refine g_iconst (v := nI (0)) hC dX4_goesAhead_6 (by decide) ?_
  refine g_istore_n hC dX4_goesAhead_7 (by decide) rfl ?_
  exact loop n 0 (by omega)

set_option maxRecDepth 100000 in
set_option maxHeartbeats 4000000 in
theorem c_X4_image (u : Vw) (ro re lt : Nat → Nat) (len : Nat) (le la : Nat → Nat) (td : Nat → Int32) (fr ti : Nat → Nat) (pt st : Nat) (ke : Nat → Int32) (hi ik : Bool) (cu : Nat) (go num : Nat → Nat) (nin : Nat) (up fo : Nat → Nat)  : Con yX4_image cX4_image 1 (some .int) 2 0 0 [aR 0 0 0] [modW u ro re lt len le la td fr ti pt st ke hi ik cu go num nin up fo] (fun r M => r = some (aI (ansOf (oImage u))) ∧ PM u ro (bump re (oImage u)) lt len (kpt u ro ke (85 * 0)) true num nin M) := by
  refine con_of RX4 pn_X4 rfl rfl (Nat.le_of_ble_eq_true rfl) (fun C hM0 hC => ?_)
  show G C 0 0 0 [aR 0 0 0] [] [modW u ro re lt len le la td fr ti pt st ke hi ik cu go num nin up fo]
  refine g_aload_n hC dX4_image_0 rfl rfl ?_
  refine g_iconst (v := nI (1)) hC dX4_image_1 (by decide) ?_
  refine gp_X4_hasImage hC dX4_image_2 rfl rfl rfl rfl ?_
  refine g_aload_n hC dX4_image_5 rfl rfl ?_
  refine g_iconst (v := nI (0)) hC dX4_image_6 (by decide) ?_
  refine g_iconst (v := nI (1)) hC dX4_image_7 (by decide) ?_
  refine gi_X4_129 hC (is := [0]) (st := []) (c_X4_passesAll_K u ro re lt len le la td fr ti pt st ke true ik cu go num nin up fo (W := 0) (by decide)) dX4_image_8 rfl ⟨by decide, by decide⟩ ⟨by decide, by decide⟩ rfl (by decide) rfl rfl rfl ?_
  refine g_aload_n hC dX4_image_11 rfl rfl ?_
  refine gf_X4_minute hC dX4_image_12 rfl rfl ?_
  exact g_iret hC rfl dX4_image_15 (⟨rfl, ⟨_, _, _, _, _, _, _, _, _, _, _, _, _, fun _ _ => rfl, rfl⟩⟩)

set_option maxRecDepth 100000 in
set_option maxHeartbeats 4000000 in
theorem c_X4_on_t (u : Vw) (ro re lt : Nat → Nat) (len : Nat) (le la : Nat → Nat) (td : Nat → Int32) (fr ti : Nat → Nat) (pt st : Nat) (ke : Nat → Int32) (hi ik : Bool) (cu : Nat) (go num : Nat → Nat) (nin : Nat) (up fo : Nat → Nat) (t : Vw) (rt : Nat → Nat) {B : Nat} (ht : wf B t) (hhi : hi = true) (hk : ∀ j, j < 81 → ke j = encd t rt j) : Con yX4_on cX4_on 1 (some .int) 2 0 0 [aR 0 0 0] [modW u ro re lt len le la td fr ti pt st ke hi ik cu go num nin up fo] (fun r M => r = some (aI (nI (vMi t))) ∧ PMs t rt re lt len ke hi num nin M) := by
  refine con_of RX4 pn_X4 rfl rfl (Nat.le_of_ble_eq_true rfl) (fun C hM0 hC => ?_)
  show G C 0 0 0 [aR 0 0 0] [] [modW u ro re lt len le la td fr ti pt st ke hi ik cu go num nin up fo]
  refine g_aload_n hC dX4_on_0 rfl rfl ?_
  refine gf_X4_hasImage hC dX4_on_1 rfl rfl ?_
  refine g_if_neB (tgt := 14) hC dX4_on_4 (by decide) (fun h_4 => ?_) (fun h_4 => ?_)
  · skip
    refine g_aload_n hC dX4_on_14 rfl rfl ?_
    refine g_iconst (v := nI (0)) hC dX4_on_15 (by decide) ?_
    refine g_iconst (v := nI (0)) hC dX4_on_16 (by decide) ?_
    refine gi_X4_129 hC (is := [0]) (st := []) (c_X4_passesAll_R u ro re lt len le la td fr ti pt st ke hi ik cu go num nin up fo t rt (W := 0) (by decide) (fun j hj => by rw [show 85 * 0 + j = j by omega]; exact hk j hj)) dX4_on_17 rfl ⟨by decide, by decide⟩ ⟨by decide, by decide⟩ rfl (by decide) rfl rfl rfl ?_
    refine g_aload_n hC dX4_on_20 rfl rfl ?_
    refine gf_X4_minute hC dX4_on_21 rfl rfl ?_
    exact g_iret hC rfl dX4_on_24 (⟨rfl, rst t u, cpyN rt ro 6, rst_sm ht, cpyN_if, _, _, _, _, _, _, _, _, _, _, _, _, _, fun _ _ => rfl, rfl⟩)
  · skip
    rw [hhi] at h_4; cases h_4

set_option maxRecDepth 100000 in
set_option maxHeartbeats 4000000 in
theorem c_X4_on_f (u : Vw) (ro re lt : Nat → Nat) (len : Nat) (le la : Nat → Nat) (td : Nat → Int32) (fr ti : Nat → Nat) (pt st : Nat) (ke : Nat → Int32) (hi ik : Bool) (cu : Nat) (go num : Nat → Nat) (nin : Nat) (up fo : Nat → Nat) (hhi : hi = false) : Con yX4_on cX4_on 1 (some .int) 2 0 0 [aR 0 0 0] [modW u ro re lt len le la td fr ti pt st ke hi ik cu go num nin up fo] (fun r M => r = some (aI (-(nI 3))) ∧ PM u ro (updN re 3 (re 3 + 1)) lt len ke hi num nin M) := by
  refine con_of RX4 pn_X4 rfl rfl (Nat.le_of_ble_eq_true rfl) (fun C hM0 hC => ?_)
  show G C 0 0 0 [aR 0 0 0] [] [modW u ro re lt len le la td fr ti pt st ke hi ik cu go num nin up fo]
  refine g_aload_n hC dX4_on_0 rfl rfl ?_
  refine gf_X4_hasImage hC dX4_on_1 rfl rfl ?_
  refine g_if_neB (tgt := 14) hC dX4_on_4 (by decide) (fun h_4 => ?_) (fun h_4 => ?_)
  · skip
    rw [hhi] at h_4; cases h_4
  · skip
    refine g_aload_n hC dX4_on_7 rfl rfl ?_
    refine g_bipush (v := (-3)) hC dX4_on_8 (by decide) ?_
    refine gi_X4_85 hC (is := [0]) (st := []) (c_X4_no u ro re lt len le la td fr ti pt st ke hi ik cu go num nin up fo (k := 3) (by decide)) dX4_on_10 rfl ⟨by decide, by decide⟩ ⟨by decide, by decide⟩ rfl (by decide) rfl rfl rfl ?_
    exact g_iret hC rfl dX4_on_13 (⟨rfl, ⟨_, _, _, _, _, _, _, _, _, _, _, _, _, fun _ _ => rfl, rfl⟩⟩)

set_option maxRecDepth 100000 in
set_option maxHeartbeats 4000000 in
theorem c_X4_pass (u : Vw) (ro re lt : Nat → Nat) (len : Nat) (le la : Nat → Nat) (td : Nat → Int32) (fr ti : Nat → Nat) (pt st : Nat) (ke : Nat → Int32) (hi ik : Bool) (cu : Nat) (go num : Nat → Nat) (nin : Nat) (up fo : Nat → Nat) {B : Nat} (hu : wf B u) (hB : B ≤ 99) (x : Int32) : Con yX4_pass cX4_pass 4 (some .int) 5 0 0 [aR 0 0 0, aI (x)] [modW u ro re lt len le la td fr ti pt st ke hi ik cu go num nin up fo] (fun r M => r = some (aI (ansOf (oPass u x))) ∧ PM (nPass u x) ro (bump re (oPass u x)) lt len ke hi num nin M) := by
  refine con_of RX4 pn_X4 rfl rfl (Nat.le_of_ble_eq_true rfl) (fun C hM0 hC => ?_)
  show G C 0 0 0 [aR 0 0 0, aI (x), aK 9, aK 9] [] [modW u ro re lt len le la td fr ti pt st ke hi ik cu go num nin up fo]
  have hmi := wf_mi hu
  refine g_iload_n hC dX4_pass_0 rfl ?_
  refine g_iconst (v := nI (1)) hC dX4_pass_1 (by decide) ?_
  refine g_bipush (v := nI (40)) hC dX4_pass_2 (by decide) ?_
  refine gi_X4_78 hC (is := []) (st := []) (c_X4_bound x (nI 1) (nI 40)) dX4_pass_4 rfl ⟨by decide, by decide⟩ ⟨by decide, by decide⟩ rfl (by decide) rfl rfl ?_
  refine g_istore_n hC dX4_pass_7 (by decide) rfl ?_
  refine g_iload_n hC dX4_pass_8 rfl ?_
  refine g_if_ne (tgt := 26) hC dX4_pass_9 (by decide) (fun h_9 => ?_) (fun h_9 => ?_)
  · skip
    have hk0 : (outN x (nI 1) (nI 40)) ≠ 0 := fun z => h_9 ((neg_0 _ (outN_lt _ _ _)).mpr z)
    have hk := kPass_1 (v := u) (by omega) hk0
    have ho := Pass_no (v := u) (x := x) (by rw [hk]; exact hk0)
    rw [hk] at ho
    refine g_iload_n hC dX4_pass_26 rfl ?_
    refine g_if_eq (tgt := 36) hC dX4_pass_27 (by decide) (fun h_27 => ?_) (fun h_27 => ?_)
    · skip
      exact absurd h_27 h_9
    · skip
      refine g_aload_n hC dX4_pass_30 rfl rfl ?_
      refine g_iload_n hC dX4_pass_31 rfl ?_
      refine gi_X4_85 hC (is := [0]) (st := []) (c_X4_no u ro re lt len le la td fr ti pt st ke hi ik cu go num nin up fo (k := (outN x (nI 1) (nI 40))) (outN_lt _ _ _)) dX4_pass_32 rfl ⟨by decide, by decide⟩ ⟨by decide, by decide⟩ rfl (by decide) rfl rfl rfl ?_
      exact g_iret hC rfl dX4_pass_35 (⟨rV (by rw [(ho).1]; rfl), by rw [(ho).1, (ho).2]; exact ⟨_, _, _, _, _, _, _, _, _, _, _, _, _, fun _ _ => rfl, rfl⟩⟩)
  · skip
    have hk0 := (neg_0 _ (outN_lt _ _ _)).mp h_9
    obtain ⟨n, rfl, hn0, hn1⟩ := out_0 (by decide) (by decide) hk0
    refine g_aload_n hC dX4_pass_12 rfl rfl ?_
    refine gf_X4_minute hC dX4_pass_13 rfl rfl ?_
    refine g_iload_n hC dX4_pass_16 rfl ?_
    refine g_iaddN hC dX4_pass_17 ?_
    refine g_bipush (v := nI (99)) hC dX4_pass_18 (by decide) ?_
    refine g_icmp_leN (tgt := 26) hC dX4_pass_20 (by decide) (by omega) (by omega) (fun h_20 => ?_) (fun h_20 => ?_)
    · skip
      have hk : kPass u (nI n) = 0 := kPass_0 hn0 hn1 h_20
      refine g_iload_n hC dX4_pass_26 rfl ?_
      refine g_if_eq (tgt := 36) hC dX4_pass_27 (by decide) (fun h_27 => ?_) (fun h_27 => ?_)
      · skip
        refine g_iconst (v := nI (0)) hC dX4_pass_36 (by decide) ?_
        refine g_istore_n hC dX4_pass_37 (by decide) rfl ?_
        have ho := Pass_ok (v := u) hk
        rw [tn_n (show n < 2 ^ 31 by omega)] at ho
        have loop : ∀ d k, k + d = n → G C 0 0 38 [aR 0 0 0, aI (nI (n)), aK 9, aI (nI (k))] [] [modW (goN u k) ro re lt len le la td fr ti pt st ke hi ik cu (goG u go k) num nin up fo] := by
          intro d
          induction d with
          | zero =>
            intro k hk
            refine g_iload_n hC dX4_pass_38 rfl ?_
            refine g_iload_n hC dX4_pass_39 rfl ?_
            refine g_icmp_geN (tgt := 53) hC dX4_pass_40 (by decide) (by omega) (by omega) (fun h_40 => ?_) (fun h_40 => ?_)
            · skip
              refine g_aload_n hC dX4_pass_53 rfl rfl ?_
              refine gf_X4_minute hC dX4_pass_54 rfl rfl ?_
              obtain rfl : k = n := by omega
              exact g_iret hC rfl dX4_pass_57 (⟨rV (by rw [ho.1, ← goN_mi (v := u) k]; rfl), by rw [ho.1, ho.2]; exact ⟨_, _, _, _, _, _, _, _, _, _, _, _, _, fun _ _ => rfl, rfl⟩⟩)
            · skip
              omega
          | succ d ih =>
            intro k hk
            refine g_iload_n hC dX4_pass_38 rfl ?_
            refine g_iload_n hC dX4_pass_39 rfl ?_
            refine g_icmp_geN (tgt := 53) hC dX4_pass_40 (by decide) (by omega) (by omega) (fun h_40 => ?_) (fun h_40 => ?_)
            · skip
              omega
            · skip
              refine g_aload_n hC dX4_pass_43 rfl rfl ?_
              refine gi_X4_177 hC (is := [0]) (st := []) (c_X4_goesMinute (goN u k) ro re lt len le la td fr ti pt st ke hi ik cu (goG u go k) num nin up fo (wf_goN hu k) (by omega)) dX4_pass_44 rfl ⟨by decide, by decide⟩ ⟨by decide, by decide⟩ rfl (by decide) rfl rfl rfl ?_
              refine g_iincN hC dX4_pass_47 rfl (by decide) rfl ?_
              refine g_goto (tgt := 38) hC dX4_pass_50 (by decide) ?_
              refine g_mask [true, true, false, true] ?_
              have q := ih (k + 1) (by omega)
              exact q
        refine g_mask [true, true, false, true] ?_
        exact loop n 0 (by omega)
      · skip
        exact absurd h_9 h_27
    · skip
      have hk := kPass_6 (v := u) hn0 hn1 (by omega) (by omega)
      have ho := Pass_no (v := u) (x := nI n) (by rw [hk]; decide)
      rw [hk] at ho
      refine g_bipush (v := (-6)) hC dX4_pass_23 (by decide) ?_
      refine g_istore_n hC dX4_pass_25 (by decide) rfl ?_
      refine g_iload_n hC dX4_pass_26 rfl ?_
      refine g_if_eq (tgt := 36) hC dX4_pass_27 (by decide) (fun h_27 => ?_) (fun h_27 => ?_)
      · skip
        exact absurd h_27 (by decide)
      · skip
        refine g_aload_n hC dX4_pass_30 rfl rfl ?_
        refine g_iload_n hC dX4_pass_31 rfl ?_
        refine gi_X4_85 hC (is := [0]) (st := []) (c_X4_no u ro re lt len le la td fr ti pt st ke hi ik cu go num nin up fo (k := 6) (by decide)) dX4_pass_32 rfl ⟨by decide, by decide⟩ ⟨by decide, by decide⟩ rfl (by decide) rfl rfl rfl ?_
        exact g_iret hC rfl dX4_pass_35 (⟨rV (by rw [(ho).1]; rfl), by rw [(ho).1, (ho).2]; exact ⟨_, _, _, _, _, _, _, _, _, _, _, _, _, fun _ _ => rfl, rfl⟩⟩)

set_option maxRecDepth 100000 in
set_option maxHeartbeats 4000000 in
theorem c_X4_toldApart (u : Vw) (ro re lt : Nat → Nat) (len : Nat) (le la : Nat → Nat) (td : Nat → Int32) (fr ti : Nat → Nat) (pt st : Nat) (ke : Nat → Int32) (hi ik : Bool) (cu : Nat) (go num : Nat → Nat) (nin : Nat) (up fo : Nat → Nat) {B : Nat} (hu : wf B u) (hB : B ≤ 200) {r : Nat} (hr : r < 6) : ConF yX4_toldApart cX4_toldApart 6 (some .int) 2 [aR 0 0 0, aI (nI (r))] [modW u ro re lt len le la td fr ti pt st ke hi ik cu go num nin up fo] (some (aI (nI (apart u r)))) [modW u ro re lt len le la td fr ti pt st ke hi ik cu go num nin up fo] := by
  refine con_of RX4 pn_X4 rfl rfl (Nat.le_of_ble_eq_true rfl) (fun C hM0 hC => ?_)
  show G C 0 0 0 [aR 0 0 0, aI (nI (r)), aK 9, aK 9, aK 9, aK 9] [] [modW u ro re lt len le la td fr ti pt st ke hi ik cu go num nin up fo]
  have hn := wf_n hu
  have hno := wf_no hu
  have loop : ∀ d k, k + d = vN u → G C 0 0 4 [aR 0 0 0, aI (nI (r)), aI (nI (cnt (isNew u r) k)), aI (nI (k)), aK 9, aK 9] [] [modW u ro re lt len le la td fr ti pt st ke hi ik cu go num nin up fo] := by
    intro d
    induction d with
    | zero =>
      intro k hk
      refine g_iload_n hC dX4_toldApart_4 rfl ?_
      refine g_aload_n hC dX4_toldApart_5 rfl rfl ?_
      refine gf_X4_walkers hC dX4_toldApart_6 rfl rfl ?_
      refine g_icmp_geN (tgt := 102) hC dX4_toldApart_9 (by decide) (by omega) (by omega) (fun h_9 => ?_) (fun h_9 => ?_)
      · skip
        refine g_iload_n hC dX4_toldApart_102 rfl ?_
        exact g_iret hC rfl dX4_toldApart_103 (⟨rV (by rw [show k = vN u by omega]; rfl), rfl⟩)
      · skip
        omega
    | succ d ih =>
      intro k hk
      refine g_iload_n hC dX4_toldApart_4 rfl ?_
      refine g_aload_n hC dX4_toldApart_5 rfl rfl ?_
      refine gf_X4_walkers hC dX4_toldApart_6 rfl rfl ?_
      refine g_icmp_geN (tgt := 102) hC dX4_toldApart_9 (by decide) (by omega) (by omega) (fun h_9 => ?_) (fun h_9 => ?_)
      · skip
        omega
      · skip
        refine g_aload_n hC dX4_toldApart_12 rfl rfl ?_
        refine g_iload_n hC dX4_toldApart_13 rfl ?_
        refine g_iload_n hC dX4_toldApart_14 rfl ?_
        refine gi_X4_153 hC (is := [0]) (st := []) (c_X4_isTraceN u ro re lt len le la td fr ti pt st ke hi ik cu go num nin up fo hu hB (w := k) (by omega) hr) dX4_toldApart_15 rfl ⟨by decide, by decide⟩ ⟨by decide, by decide⟩ rfl (by decide) rfl rfl rfl ?_
        refine g_istore hC dX4_toldApart_18 (by decide) rfl ?_
        refine g_iconst (v := nI (0)) hC dX4_toldApart_20 (by decide) ?_
        refine g_istore hC dX4_toldApart_21 (by decide) rfl ?_
        have inner : ∀ d j, j + d = k → G C 0 0 23 [aR 0 0 0, aI (nI (r)), aI (nI (cnt (isNew u r) k)), aI (nI (k)), aI (bI (nbB u r k j)), aI (nI (j))] [] [modW u ro re lt len le la td fr ti pt st ke hi ik cu go num nin up fo] := by
          intro d2
          induction d2 with
          | zero =>
            intro j hj
            refine g_iload hC dX4_toldApart_23 rfl ?_
            refine g_iload_n hC dX4_toldApart_25 rfl ?_
            refine g_icmp_geN (tgt := 83) hC dX4_toldApart_26 (by decide) (by omega) (by omega) (fun h_26 => ?_) (fun h_26 => ?_)
            · skip
              refine g_iload_n hC dX4_toldApart_83 rfl ?_
              refine g_iload hC dX4_toldApart_84 rfl ?_
              refine g_if_eqB (tgt := 93) hC dX4_toldApart_86 (by decide) (fun h_86 => ?_) (fun h_86 => ?_)
              · skip
                refine g_iconst (v := nI (0)) hC dX4_toldApart_93 (by decide) ?_
                refine g_iaddN hC dX4_toldApart_94 ?_
                refine g_istore_n hC dX4_toldApart_95 (by decide) rfl ?_
                refine g_iincN hC dX4_toldApart_96 rfl (by decide) rfl ?_
                refine g_goto (tgt := 4) hC dX4_toldApart_99 (by decide) ?_
                refine g_mask [true, true, true, true, false, false] ?_
                have q := ih (k + 1) (by omega)
                rw [cnt_f (p := isNew u r) (by rw [← nb_new]; rw [show k = j by omega]; rw [show k = j by omega] at h_86; exact h_86)] at q
                exact q
              · skip
                refine g_iconst (v := nI (1)) hC dX4_toldApart_89 (by decide) ?_
                refine g_goto (tgt := 94) hC dX4_toldApart_90 (by decide) ?_
                refine g_iaddN hC dX4_toldApart_94 ?_
                refine g_istore_n hC dX4_toldApart_95 (by decide) rfl ?_
                refine g_iincN hC dX4_toldApart_96 rfl (by decide) rfl ?_
                refine g_goto (tgt := 4) hC dX4_toldApart_99 (by decide) ?_
                refine g_mask [true, true, true, true, false, false] ?_
                have q := ih (k + 1) (by omega)
                rw [cnt_t (p := isNew u r) (by rw [← nb_new]; rw [show k = j by omega]; rw [show k = j by omega] at h_86; exact h_86)] at q
                exact q
            · skip
              omega
          | succ d2 ih2 =>
            intro j hj
            refine g_iload hC dX4_toldApart_23 rfl ?_
            refine g_iload_n hC dX4_toldApart_25 rfl ?_
            refine g_icmp_geN (tgt := 83) hC dX4_toldApart_26 (by decide) (by omega) (by omega) (fun h_26 => ?_) (fun h_26 => ?_)
            · skip
              omega
            · skip
              refine g_iload hC dX4_toldApart_29 rfl ?_
              refine g_if_eqB (tgt := 83) hC dX4_toldApart_31 (by decide) (fun h_31 => ?_) (fun h_31 => ?_)
              · skip
                refine g_iload_n hC dX4_toldApart_83 rfl ?_
                refine g_iload hC dX4_toldApart_84 rfl ?_
                refine g_if_eqB (tgt := 93) hC dX4_toldApart_86 (by decide) (fun h_86 => ?_) (fun h_86 => ?_)
                · skip
                  refine g_iconst (v := nI (0)) hC dX4_toldApart_93 (by decide) ?_
                  refine g_iaddN hC dX4_toldApart_94 ?_
                  refine g_istore_n hC dX4_toldApart_95 (by decide) rfl ?_
                  refine g_iincN hC dX4_toldApart_96 rfl (by decide) rfl ?_
                  refine g_goto (tgt := 4) hC dX4_toldApart_99 (by decide) ?_
                  refine g_mask [true, true, true, true, false, false] ?_
                  have q := ih (k + 1) (by omega)
                  rw [cnt_f (p := isNew u r) (by rw [← nb_new]; exact nb_f h_31 _ (by omega))] at q
                  exact q
                · skip
                  rw [h_31] at h_86; cases h_86
              · skip
                obtain ⟨hsk, hany⟩ := nb_t h_31
                obtain ⟨mk, hmk⟩ := Option.isSome_iff_exists.mp hsk
                have hak := age_lt hu hB (show 0 ≤ 50 by omega) hr _ (age_some (l := 0) hmk)
                refine g_aload_n hC dX4_toldApart_34 rfl rfl ?_
                refine g_iload hC dX4_toldApart_35 rfl ?_
                refine g_iload_n hC dX4_toldApart_37 rfl ?_
                refine gi_X4_153 hC (is := [0]) (st := []) (c_X4_isTraceN u ro re lt len le la td fr ti pt st ke hi ik cu go num nin up fo hu hB (w := j) (by omega) hr) dX4_toldApart_38 rfl ⟨by decide, by decide⟩ ⟨by decide, by decide⟩ rfl (by decide) rfl rfl rfl ?_
                refine g_if_eqB (tgt := 70) hC dX4_toldApart_41 (by decide) (fun h_41 => ?_) (fun h_41 => ?_)
                · skip
                  refine g_iconst (v := nI (1)) hC dX4_toldApart_70 (by decide) ?_
                  refine g_goto (tgt := 75) hC dX4_toldApart_71 (by decide) ?_
                  refine g_istore hC dX4_toldApart_75 (by decide) rfl ?_
                  refine g_iincN hC dX4_toldApart_77 rfl (by decide) rfl ?_
                  refine g_goto (tgt := 23) hC dX4_toldApart_80 (by decide) ?_
                  have q := ih2 (j + 1) (by omega)
                  rw [show nbB u r k (j + 1) = true from nb_s h_31 (by unfold sameB; rw [h_41]; rfl)] at q
                  exact q
                · skip
                  obtain ⟨mj, hmj⟩ := Option.isSome_iff_exists.mp h_41
                  have haj := age_lt hu hB (show 0 ≤ 50 by omega) hr _ (age_some (l := 0) hmj)
                  refine g_aload_n hC dX4_toldApart_44 rfl rfl ?_
                  refine g_iload hC dX4_toldApart_45 rfl ?_
                  refine g_iload_n hC dX4_toldApart_47 rfl ?_
                  refine gi_X4_157 hC (is := [0]) (st := []) (c_X4_ageOf u ro re lt len le la td fr ti pt st ke hi ik cu go num nin up fo hu hB (show j < vN u by omega) hr hmj) dX4_toldApart_48 rfl ⟨by decide, by decide⟩ ⟨by decide, by decide⟩ rfl (by decide) rfl rfl rfl ?_
                  refine g_aload_n hC dX4_toldApart_51 rfl rfl ?_
                  refine gf_X4_nose hC dX4_toldApart_52 rfl rfl ?_
                  refine g_idivN hC dX4_toldApart_55 (by omega) (by omega) (by omega) ?_
                  refine g_aload_n hC dX4_toldApart_56 rfl rfl ?_
                  refine g_iload_n hC dX4_toldApart_57 rfl ?_
                  refine g_iload_n hC dX4_toldApart_58 rfl ?_
                  refine gi_X4_157 hC (is := [0]) (st := [aI (nI ((ageIn u j r 0 mj) / (vNo u)))]) (c_X4_ageOf u ro re lt len le la td fr ti pt st ke hi ik cu go num nin up fo hu hB (show k < vN u by omega) hr hmk) dX4_toldApart_59 rfl ⟨by decide, by decide⟩ ⟨by decide, by decide⟩ rfl (by decide) rfl rfl rfl ?_
                  refine g_aload_n hC dX4_toldApart_62 rfl rfl ?_
                  refine gf_X4_nose hC dX4_toldApart_63 rfl rfl ?_
                  refine g_idivN hC dX4_toldApart_66 (by omega) (by omega) (by omega) ?_
                  refine g_icmp_eqN (tgt := 74) hC dX4_toldApart_67 (by decide) (Nat.lt_of_le_of_lt (Nat.div_le_self _ _) (by omega)) (Nat.lt_of_le_of_lt (Nat.div_le_self _ _) (by omega)) (fun h_67 => ?_) (fun h_67 => ?_)
                  · skip
                    refine g_iconst (v := nI (0)) hC dX4_toldApart_74 (by decide) ?_
                    refine g_istore hC dX4_toldApart_75 (by decide) rfl ?_
                    refine g_iincN hC dX4_toldApart_77 rfl (by decide) rfl ?_
                    refine g_goto (tgt := 23) hC dX4_toldApart_80 (by decide) ?_
                    have q := ih2 (j + 1) (by omega)
                    rw [show nbB u r k (j + 1) = false from nb_o (by unfold sameB; rw [h_41, smell_some hmj, smell_some hmk, h_67]; simp)] at q
                    exact q
                  · skip
                    refine g_iconst (v := nI (1)) hC dX4_toldApart_70 (by decide) ?_
                    refine g_goto (tgt := 75) hC dX4_toldApart_71 (by decide) ?_
                    refine g_istore hC dX4_toldApart_75 (by decide) rfl ?_
                    refine g_iincN hC dX4_toldApart_77 rfl (by decide) rfl ?_
                    refine g_goto (tgt := 23) hC dX4_toldApart_80 (by decide) ?_
                    have q := ih2 (j + 1) (by omega)
                    rw [show nbB u r k (j + 1) = true from nb_s h_31 (by unfold sameB; rw [h_41, smell_some hmj, smell_some hmk]; simp; exact h_67)] at q
                    exact q
        exact inner k 0 (by omega)
  refine g_iconst (v := nI (0)) hC dX4_toldApart_0 (by decide) ?_
  refine g_istore_n hC dX4_toldApart_1 (by decide) rfl ?_
  refine g_iconst (v := nI (0)) hC dX4_toldApart_2 (by decide) ?_
  refine g_istore_n hC dX4_toldApart_3 (by decide) rfl ?_
  refine g_mask [true, true, true, true, false, false] ?_
  exact loop (vN u) 0 (by omega)

set_option maxRecDepth 100000 in
set_option maxHeartbeats 4000000 in
theorem c_X4_smelt (u : Vw) (ro re lt : Nat → Nat) (len : Nat) (le la : Nat → Nat) (td : Nat → Int32) (fr ti : Nat → Nat) (pt st : Nat) (ke : Nat → Int32) (hi ik : Bool) (cu : Nat) (go num : Nat → Nat) (nin : Nat) (up fo : Nat → Nat) {B : Nat} (hu : wf B u) (hB : B ≤ 200) (x w : Int32) : Con yX4_smelt cX4_smelt 3 (some .int) 3 0 0 [aR 0 0 0, aI (x), aI (w)] [modW u ro re lt len le la td fr ti pt st ke hi ik cu go num nin up fo] (fun r M => r = some (aI (ansOf (oSmelt u x w))) ∧ PM u ro (bump re (oSmelt u x w)) lt len ke hi num nin M) := by
  refine con_of RX4 pn_X4 rfl rfl (Nat.le_of_ble_eq_true rfl) (fun C hM0 hC => ?_)
  show G C 0 0 0 [aR 0 0 0, aI (x), aI (w)] [] [modW u ro re lt len le la td fr ti pt st ke hi ik cu go num nin up fo]
  have hn4 := wf_n hu
  refine g_iload_n hC dX4_smelt_0 rfl ?_
  refine gi_X4_117 hC (is := []) (st := []) (c_X4_isRoom x) dX4_smelt_1 rfl ⟨by decide, by decide⟩ ⟨by decide, by decide⟩ rfl (by decide) rfl rfl ?_
  refine g_if_neB (tgt := 13) hC dX4_smelt_4 (by decide) (fun h_4 => ?_) (fun h_4 => ?_)
  · skip
    have hr := of_decide_eq_true h_4
    obtain ⟨r, hr0, rfl⟩ := rm_of hr
    refine g_iload_n hC dX4_smelt_13 rfl ?_
    rcases tab_cases w 3 (by decide) with ⟨i, hi9, rfl⟩ | hout
    · rcases (by omega : i = 0 ∨ i = 1 ∨ i = 2 ∨ i = 3) with rfl | rfl | rfl | rfl
      · refine g_tabIn (off := 30) (tgt := 44) hC dX4_smelt_14 (by decide) (by decide) (by decide) (by decide) ?_
        refine g_aload_n hC dX4_smelt_44 rfl rfl ?_
        refine g_iload_n hC dX4_smelt_45 rfl ?_
        refine gi_X4_180 hC (is := [0]) (st := []) (c_X4_tracesIn u ro re lt len le la td fr ti pt st ke hi ik cu go num nin up fo hu hB hr0) dX4_smelt_46 rfl ⟨by decide, by decide⟩ ⟨by decide, by decide⟩ rfl (by decide) rfl rfl rfl ?_
        exact g_iret hC rfl dX4_smelt_49 (⟨rV (by rw [oSmelt_0 hr hr0]; rfl), by rw [oSmelt_0 hr hr0]; exact ⟨_, _, _, _, _, _, _, _, _, _, _, _, _, fun _ _ => rfl, rfl⟩⟩)
      · refine g_tabIn (off := 36) (tgt := 50) hC dX4_smelt_14 (by decide) (by decide) (by decide) (by decide) ?_
        refine g_aload_n hC dX4_smelt_50 rfl rfl ?_
        refine g_iload_n hC dX4_smelt_51 rfl ?_
        refine g_bipush (v := (-9)) hC dX4_smelt_52 (by decide) ?_
        refine g_iconst (v := nI (0)) hC dX4_smelt_54 (by decide) ?_
        refine gi_X4_161 hC (is := [0]) (st := []) (c_X4_endAge u ro re lt len le la td fr ti pt st ke hi ik cu go num nin up fo hu hB (s := 9) (as := -9) hr0 (by decide) false) dX4_smelt_55 rfl ⟨by decide, by decide⟩ ⟨by decide, by decide⟩ rfl (by decide) rfl rfl rfl ?_
        exact g_iret hC rfl dX4_smelt_58 (⟨rV (by rw [oSmelt_1 hr hr0]; rfl), by rw [oSmelt_1 hr hr0]; exact ⟨_, _, _, _, _, _, _, _, _, _, _, _, _, fun _ _ => rfl, rfl⟩⟩)
      · refine g_tabIn (off := 45) (tgt := 59) hC dX4_smelt_14 (by decide) (by decide) (by decide) (by decide) ?_
        refine g_aload_n hC dX4_smelt_59 rfl rfl ?_
        refine g_iload_n hC dX4_smelt_60 rfl ?_
        refine g_bipush (v := (-9)) hC dX4_smelt_61 (by decide) ?_
        refine g_iconst (v := nI (1)) hC dX4_smelt_63 (by decide) ?_
        refine gi_X4_161 hC (is := [0]) (st := []) (c_X4_endAge u ro re lt len le la td fr ti pt st ke hi ik cu go num nin up fo hu hB (s := 9) (as := -9) hr0 (by decide) true) dX4_smelt_64 rfl ⟨by decide, by decide⟩ ⟨by decide, by decide⟩ rfl (by decide) rfl rfl rfl ?_
        exact g_iret hC rfl dX4_smelt_67 (⟨rV (by rw [oSmelt_2 hr hr0]; rfl), by rw [oSmelt_2 hr hr0]; exact ⟨_, _, _, _, _, _, _, _, _, _, _, _, _, fun _ _ => rfl, rfl⟩⟩)
      · refine g_tabIn (off := 54) (tgt := 68) hC dX4_smelt_14 (by decide) (by decide) (by decide) (by decide) ?_
        refine g_aload_n hC dX4_smelt_68 rfl rfl ?_
        refine g_iload_n hC dX4_smelt_69 rfl ?_
        refine gi_X4_183 hC (is := [0]) (st := []) (c_X4_toldApart u ro re lt len le la td fr ti pt st ke hi ik cu go num nin up fo hu hB hr0) dX4_smelt_70 rfl ⟨by decide, by decide⟩ ⟨by decide, by decide⟩ rfl (by decide) rfl rfl rfl ?_
        exact g_iret hC rfl dX4_smelt_73 (⟨rV (by rw [oSmelt_3 hr hr0]; rfl), by rw [oSmelt_3 hr hr0]; exact ⟨_, _, _, _, _, _, _, _, _, _, _, _, _, fun _ _ => rfl, rfl⟩⟩)
    · refine g_tabOut (tgt := 74) hC dX4_smelt_14 hout (by decide) ?_
      refine g_aload_n hC dX4_smelt_74 rfl rfl ?_
      refine g_bipush (v := (-2)) hC dX4_smelt_75 (by decide) ?_
      refine gi_X4_85 hC (is := [0]) (st := []) (c_X4_no u ro re lt len le la td fr ti pt st ke hi ik cu go num nin up fo (k := 2) (by decide)) dX4_smelt_77 rfl ⟨by decide, by decide⟩ ⟨by decide, by decide⟩ rfl (by decide) rfl rfl rfl ?_
      exact g_iret hC rfl dX4_smelt_80 (⟨rV (by rw [oSmelt_out hr hout]; rfl), by rw [oSmelt_out hr hout]; exact ⟨_, _, _, _, _, _, _, _, _, _, _, _, _, fun _ _ => rfl, rfl⟩⟩)
  · skip
    have hno := of_decide_eq_false h_4
    refine g_aload_n hC dX4_smelt_7 rfl rfl ?_
    refine g_iconst (v := (-1)) hC dX4_smelt_8 (by decide) ?_
    refine gi_X4_85 hC (is := [0]) (st := []) (c_X4_no u ro re lt len le la td fr ti pt st ke hi ik cu go num nin up fo (k := 1) (by decide)) dX4_smelt_9 rfl ⟨by decide, by decide⟩ ⟨by decide, by decide⟩ rfl (by decide) rfl rfl rfl ?_
    exact g_iret hC rfl dX4_smelt_12 (⟨rV (by rw [oSmelt_no hno]; rfl), by rw [oSmelt_no hno]; exact ⟨_, _, _, _, _, _, _, _, _, _, _, _, _, fun _ _ => rfl, rfl⟩⟩)

set_option maxRecDepth 100000 in
set_option maxHeartbeats 4000000 in
theorem c_X4_behind (u : Vw) (ro re lt : Nat → Nat) (len : Nat) (le la : Nat → Nat) (td : Nat → Int32) (fr ti : Nat → Nat) (pt st : Nat) (ke : Nat → Int32) (hi ik : Bool) (cu : Nat) (go num : Nat → Nat) (nin : Nat) (up fo : Nat → Nat) {B : Nat} (hu : wf B u) (hB : B ≤ 99) (x y : Int32) : Con yX4_behind cX4_behind 5 (some .int) 6 0 0 [aR 0 0 0, aI (x), aI (y)] [modW u ro re lt len le la td fr ti pt st ke hi ik cu go num nin up fo] (fun r M => r = some (aI (ansOf (oBehind u x y))) ∧ PMs u ro (bump re (oBehind u x y)) lt len ke hi num nin M) := by
  refine con_of RX4 pn_X4 rfl rfl (Nat.le_of_ble_eq_true rfl) (fun C hM0 hC => ?_)
  show G C 0 0 0 [aR 0 0 0, aI (x), aI (y), aK 9, aK 9] [] [modW u ro re lt len le la td fr ti pt st ke hi ik cu go num nin up fo]
  have hn4 := wf_n hu
  refine g_aload_n hC dX4_behind_0 rfl rfl ?_
  refine g_iload_n hC dX4_behind_1 rfl ?_
  refine gi_X4_174 hC (is := [0]) (st := []) (c_X4_isWalker u ro re lt len le la td fr ti pt st ke hi ik cu go num nin up fo x) dX4_behind_2 rfl ⟨by decide, by decide⟩ ⟨by decide, by decide⟩ rfl (by decide) rfl rfl rfl ?_
  refine g_if_neB (tgt := 12) hC dX4_behind_5 (by decide) (fun h_5 => ?_) (fun h_5 => ?_)
  · skip
    have hr := of_decide_eq_true h_5
    refine g_iload_n hC dX4_behind_12 rfl ?_
    refine g_iconst (v := nI (0)) hC dX4_behind_13 (by decide) ?_
    refine g_bipush (v := nI (40)) hC dX4_behind_14 (by decide) ?_
    refine gi_X4_78 hC (is := []) (st := []) (c_X4_bound y (nI 0) (nI 40)) dX4_behind_16 rfl ⟨by decide, by decide⟩ ⟨by decide, by decide⟩ rfl (by decide) rfl rfl ?_
    have hK : kBehind u x y = outN y (nI 0) (nI 40) := if_pos hr
    rw [show -(nI (outN y (nI 0) (nI 40))) = -(nI (kBehind u x y)) from by rw [hK]]
    refine g_istore_n hC dX4_behind_19 (by decide) rfl ?_
    refine g_iload_n hC dX4_behind_20 rfl ?_
    refine g_if_eq (tgt := 30) hC dX4_behind_21 (by decide) (fun h_21 => ?_) (fun h_21 => ?_)
    · skip
      have hk := (neg_0 (kBehind u x y) (kBehind_lt u x y)).mp h_21
      have hy : outN y (nI 0) (nI 40) = 0 := by rw [← hK]; exact hk
      obtain ⟨a, ha0, rfl⟩ := wk_of hn4 hr
      obtain ⟨n, rfl, hn0, hn1⟩ := out_0 (by decide) (by decide) hy
      refine g_aload_n hC dX4_behind_30 rfl rfl ?_
      refine g_iload_n hC dX4_behind_31 rfl ?_
      refine gi_X4_186 hC (is := [0]) (st := []) (c_X4_goesAhead u ro re lt len le la td fr ti pt st ke hi ik cu go num nin up fo hu (n := n) (by omega)) dX4_behind_32 rfl ⟨by decide, by decide⟩ ⟨by decide, by decide⟩ rfl (by decide) rfl rfl rfl ?_
      refine g_aload_n hC dX4_behind_35 rfl rfl ?_
      refine gf_X4_place hC dX4_behind_36 rfl rfl ?_
      refine g_iload_n hC dX4_behind_39 rfl ?_
      refine g_ialdN hC dX4_behind_40 rfl (by omega) (by decide) ?_
      refine g_istore hC dX4_behind_41 (by decide) rfl ?_
      refine g_aload_n hC dX4_behind_43 rfl rfl ?_
      refine g_iconst (v := nI (1)) hC dX4_behind_44 (by decide) ?_
      refine g_iconst (v := nI (0)) hC dX4_behind_45 (by decide) ?_
      refine gi_X4_129 hC (is := [0]) (st := []) (c_X4_passesAll_R (goN u n) ro re lt len le la td fr ti pt st (kpt u ro ke (85 * 1)) hi true ((((((((((((85 * 1) + 6) + 6) + 6) + 4) + 4) + 4) + 24) + 24) + 1) + 1) + 1) (goG u go n) num nin up fo u ro (W := 1) (by decide) (fun j hj => kpt_at hj)) dX4_behind_46 rfl ⟨by decide, by decide⟩ ⟨by decide, by decide⟩ rfl (by decide) rfl rfl rfl ?_
      refine g_iload hC dX4_behind_49 rfl ?_
      have ho := Behind_ok (v := u) hk
      rw [tn_n (show a < 2 ^ 31 by omega), tn_n (show n < 2 ^ 31 by omega)] at ho
      exact g_iret hC rfl dX4_behind_51 (⟨rV (by rw [ho]; rfl), by rw [ho]; exact ⟨rst u _, cpyN ro ro 6, rst_sm hu, cpyN_same, _, _, _, _, _, _, _, _, _, _, _, _, _, fun j hj => kpt_lo (by omega), rfl⟩⟩)
    · skip
      have hk : kBehind u x y ≠ 0 := fun z => h_21 ((neg_0 (kBehind u x y) (kBehind_lt u x y)).mpr z)
      refine g_aload_n hC dX4_behind_24 rfl rfl ?_
      refine g_iload_n hC dX4_behind_25 rfl ?_
      refine gi_X4_85 hC (is := [0]) (st := []) (c_X4_no u ro re lt len le la td fr ti pt st ke hi ik cu go num nin up fo (k := (kBehind u x y)) (kBehind_lt u x y)) dX4_behind_26 rfl ⟨by decide, by decide⟩ ⟨by decide, by decide⟩ rfl (by decide) rfl rfl rfl ?_
      exact g_iret hC rfl dX4_behind_29 (⟨rV (by rw [Behind_no hk]; rfl), by rw [Behind_no hk]; exact ⟨_, _, sm_rfl _, fun _ _ => rfl, _, _, _, _, _, _, _, _, _, _, _, _, _, fun _ _ => rfl, rfl⟩⟩)
  · skip
    have hr := of_decide_eq_false h_5
    refine g_iconst (v := (-1)) hC dX4_behind_8 (by decide) ?_
    refine g_goto (tgt := 19) hC dX4_behind_9 (by decide) ?_
    have hK : kBehind u x y = 1 := if_neg hr
    show G C 0 0 _ _ (aI (-(nI 1)) :: []) _
    rw [show -(nI 1) = -(nI (kBehind u x y)) from by rw [hK]]
    refine g_istore_n hC dX4_behind_19 (by decide) rfl ?_
    refine g_iload_n hC dX4_behind_20 rfl ?_
    refine g_if_eq (tgt := 30) hC dX4_behind_21 (by decide) (fun h_21 => ?_) (fun h_21 => ?_)
    · skip
      have hk := (neg_0 (kBehind u x y) (kBehind_lt u x y)).mp h_21
      rw [hK] at hk
      cases hk
    · skip
      have hk : kBehind u x y ≠ 0 := fun z => h_21 ((neg_0 (kBehind u x y) (kBehind_lt u x y)).mpr z)
      refine g_aload_n hC dX4_behind_24 rfl rfl ?_
      refine g_iload_n hC dX4_behind_25 rfl ?_
      refine gi_X4_85 hC (is := [0]) (st := []) (c_X4_no u ro re lt len le la td fr ti pt st ke hi ik cu go num nin up fo (k := (kBehind u x y)) (kBehind_lt u x y)) dX4_behind_26 rfl ⟨by decide, by decide⟩ ⟨by decide, by decide⟩ rfl (by decide) rfl rfl rfl ?_
      exact g_iret hC rfl dX4_behind_29 (⟨rV (by rw [Behind_no hk]; rfl), by rw [Behind_no hk]; exact ⟨_, _, sm_rfl _, fun _ _ => rfl, _, _, _, _, _, _, _, _, _, _, _, _, _, fun _ _ => rfl, rfl⟩⟩)

set_option maxRecDepth 100000 in
set_option maxHeartbeats 4000000 in
theorem c_X4_freshest (u : Vw) (ro re lt : Nat → Nat) (len : Nat) (le la : Nat → Nat) (td : Nat → Int32) (fr ti : Nat → Nat) (pt st : Nat) (ke : Nat → Int32) (hi ik : Bool) (cu : Nat) (go num : Nat → Nat) (nin : Nat) (up fo : Nat → Nat) {B : Nat} (hu : wf B u) (hB : B ≤ 99) (x y : Int32) : Con yX4_freshest cX4_freshest 5 (some .int) 6 0 0 [aR 0 0 0, aI (x), aI (y)] [modW u ro re lt len le la td fr ti pt st ke hi ik cu go num nin up fo] (fun r M => r = some (aI (ansOf (oFresh u x y))) ∧ PMs u ro (bump re (oFresh u x y)) lt len ke hi num nin M) := by
  refine con_of RX4 pn_X4 rfl rfl (Nat.le_of_ble_eq_true rfl) (fun C hM0 hC => ?_)
  show G C 0 0 0 [aR 0 0 0, aI (x), aI (y), aK 9, aK 9] [] [modW u ro re lt len le la td fr ti pt st ke hi ik cu go num nin up fo]
  have hn4 := wf_n hu
  refine g_iload_n hC dX4_freshest_0 rfl ?_
  refine gi_X4_117 hC (is := []) (st := []) (c_X4_isRoom x) dX4_freshest_1 rfl ⟨by decide, by decide⟩ ⟨by decide, by decide⟩ rfl (by decide) rfl rfl ?_
  refine g_if_neB (tgt := 11) hC dX4_freshest_4 (by decide) (fun h_4 => ?_) (fun h_4 => ?_)
  · skip
    have hr := of_decide_eq_true h_4
    refine g_iload_n hC dX4_freshest_11 rfl ?_
    refine g_iconst (v := nI (0)) hC dX4_freshest_12 (by decide) ?_
    refine g_bipush (v := nI (40)) hC dX4_freshest_13 (by decide) ?_
    refine gi_X4_78 hC (is := []) (st := []) (c_X4_bound y (nI 0) (nI 40)) dX4_freshest_15 rfl ⟨by decide, by decide⟩ ⟨by decide, by decide⟩ rfl (by decide) rfl rfl ?_
    have hK : kFresh x y = outN y (nI 0) (nI 40) := if_pos hr
    rw [show -(nI (outN y (nI 0) (nI 40))) = -(nI (kFresh x y)) from by rw [hK]]
    refine g_istore_n hC dX4_freshest_18 (by decide) rfl ?_
    refine g_iload_n hC dX4_freshest_19 rfl ?_
    refine g_if_eq (tgt := 29) hC dX4_freshest_20 (by decide) (fun h_20 => ?_) (fun h_20 => ?_)
    · skip
      have hk := (neg_0 (kFresh x y) (kFresh_lt x y)).mp h_20
      have hy : outN y (nI 0) (nI 40) = 0 := by rw [← hK]; exact hk
      obtain ⟨r, hr0, rfl⟩ := rm_of hr
      obtain ⟨n, rfl, hn0, hn1⟩ := out_0 (by decide) (by decide) hy
      refine g_aload_n hC dX4_freshest_29 rfl rfl ?_
      refine g_iload_n hC dX4_freshest_30 rfl ?_
      refine gi_X4_186 hC (is := [0]) (st := []) (c_X4_goesAhead u ro re lt len le la td fr ti pt st ke hi ik cu go num nin up fo hu (n := n) (by omega)) dX4_freshest_31 rfl ⟨by decide, by decide⟩ ⟨by decide, by decide⟩ rfl (by decide) rfl rfl rfl ?_
      refine g_aload_n hC dX4_freshest_34 rfl rfl ?_
      refine g_iload_n hC dX4_freshest_35 rfl ?_
      refine g_bipush (v := (-9)) hC dX4_freshest_36 (by decide) ?_
      refine g_iconst (v := nI (0)) hC dX4_freshest_38 (by decide) ?_
      refine gi_X4_161 hC (is := [0]) (st := []) (c_X4_endAge (goN u n) ro re lt len le la td fr ti pt st (kpt u ro ke (85 * 1)) hi true ((((((((((((85 * 1) + 6) + 6) + 6) + 4) + 4) + 4) + 24) + 24) + 1) + 1) + 1) (goG u go n) num nin up fo (wf_up (wf_goN hu n) (show B + n ≤ 200 by omega)) (by decide) (s := 9) (as := -9) hr0 (by decide) false) dX4_freshest_39 rfl ⟨by decide, by decide⟩ ⟨by decide, by decide⟩ rfl (by decide) rfl rfl rfl ?_
      refine g_istore hC dX4_freshest_42 (by decide) rfl ?_
      refine g_aload_n hC dX4_freshest_44 rfl rfl ?_
      refine g_iconst (v := nI (1)) hC dX4_freshest_45 (by decide) ?_
      refine g_iconst (v := nI (0)) hC dX4_freshest_46 (by decide) ?_
      refine gi_X4_129 hC (is := [0]) (st := []) (c_X4_passesAll_R (goN u n) ro re lt len le la td fr ti pt st (kpt u ro ke (85 * 1)) hi true ((((((((((((85 * 1) + 6) + 6) + 6) + 4) + 4) + 4) + 24) + 24) + 1) + 1) + 1) (goG u go n) num nin up fo u ro (W := 1) (by decide) (fun j hj => kpt_at hj)) dX4_freshest_47 rfl ⟨by decide, by decide⟩ ⟨by decide, by decide⟩ rfl (by decide) rfl rfl rfl ?_
      refine g_iload hC dX4_freshest_50 rfl ?_
      have ho := Fresh_ok (v := u) hk
      rw [tn_n (show r < 2 ^ 31 by omega), tn_n (show n < 2 ^ 31 by omega)] at ho
      exact g_iret hC rfl dX4_freshest_52 (⟨rV (by rw [ho]; rfl), by rw [ho]; exact ⟨rst u _, cpyN ro ro 6, rst_sm hu, cpyN_same, _, _, _, _, _, _, _, _, _, _, _, _, _, fun j hj => kpt_lo (by omega), rfl⟩⟩)
    · skip
      have hk : kFresh x y ≠ 0 := fun z => h_20 ((neg_0 (kFresh x y) (kFresh_lt x y)).mpr z)
      refine g_aload_n hC dX4_freshest_23 rfl rfl ?_
      refine g_iload_n hC dX4_freshest_24 rfl ?_
      refine gi_X4_85 hC (is := [0]) (st := []) (c_X4_no u ro re lt len le la td fr ti pt st ke hi ik cu go num nin up fo (k := (kFresh x y)) (kFresh_lt x y)) dX4_freshest_25 rfl ⟨by decide, by decide⟩ ⟨by decide, by decide⟩ rfl (by decide) rfl rfl rfl ?_
      exact g_iret hC rfl dX4_freshest_28 (⟨rV (by rw [Fresh_no hk]; rfl), by rw [Fresh_no hk]; exact ⟨_, _, sm_rfl _, fun _ _ => rfl, _, _, _, _, _, _, _, _, _, _, _, _, _, fun _ _ => rfl, rfl⟩⟩)
  · skip
    have hr := of_decide_eq_false h_4
    refine g_iconst (v := (-1)) hC dX4_freshest_7 (by decide) ?_
    refine g_goto (tgt := 18) hC dX4_freshest_8 (by decide) ?_
    have hK : kFresh x y = 1 := if_neg hr
    show G C 0 0 _ _ (aI (-(nI 1)) :: []) _
    rw [show -(nI 1) = -(nI (kFresh x y)) from by rw [hK]]
    refine g_istore_n hC dX4_freshest_18 (by decide) rfl ?_
    refine g_iload_n hC dX4_freshest_19 rfl ?_
    refine g_if_eq (tgt := 29) hC dX4_freshest_20 (by decide) (fun h_20 => ?_) (fun h_20 => ?_)
    · skip
      have hk := (neg_0 (kFresh x y) (kFresh_lt x y)).mp h_20
      rw [hK] at hk
      cases hk
    · skip
      have hk : kFresh x y ≠ 0 := fun z => h_20 ((neg_0 (kFresh x y) (kFresh_lt x y)).mpr z)
      refine g_aload_n hC dX4_freshest_23 rfl rfl ?_
      refine g_iload_n hC dX4_freshest_24 rfl ?_
      refine gi_X4_85 hC (is := [0]) (st := []) (c_X4_no u ro re lt len le la td fr ti pt st ke hi ik cu go num nin up fo (k := (kFresh x y)) (kFresh_lt x y)) dX4_freshest_25 rfl ⟨by decide, by decide⟩ ⟨by decide, by decide⟩ rfl (by decide) rfl rfl rfl ?_
      exact g_iret hC rfl dX4_freshest_28 (⟨rV (by rw [Fresh_no hk]; rfl), by rw [Fresh_no hk]; exact ⟨_, _, sm_rfl _, fun _ _ => rfl, _, _, _, _, _, _, _, _, _, _, _, _, _, fun _ _ => rfl, rfl⟩⟩)

set_option maxRecDepth 100000 in
set_option maxHeartbeats 4000000 in
theorem c_X4_scented (u : Vw) (ro re lt : Nat → Nat) (len : Nat) (le la : Nat → Nat) (td : Nat → Int32) (fr ti : Nat → Nat) (pt st : Nat) (ke : Nat → Int32) (hi ik : Bool) (cu : Nat) (go num : Nat → Nat) (nin : Nat) (up fo : Nat → Nat) {B : Nat} (hu : wf B u) (hB : B ≤ 99) (x : Int32) : Con yX4_scented cX4_scented 5 (some .int) 6 0 0 [aR 0 0 0, aI (x)] [modW u ro re lt len le la td fr ti pt st ke hi ik cu go num nin up fo] (fun r M => r = some (aI (ansOf (oScent u x))) ∧ PMs u ro (bump re (oScent u x)) lt len ke hi num nin M) := by
  refine con_of RX4 pn_X4 rfl rfl (Nat.le_of_ble_eq_true rfl) (fun C hM0 hC => ?_)
  show G C 0 0 0 [aR 0 0 0, aI (x), aK 9, aK 9, aK 9] [] [modW u ro re lt len le la td fr ti pt st ke hi ik cu go num nin up fo]
  have hn4 := wf_n hu
  refine g_iload_n hC dX4_scented_0 rfl ?_
  refine g_iconst (v := nI (0)) hC dX4_scented_1 (by decide) ?_
  refine g_bipush (v := nI (40)) hC dX4_scented_2 (by decide) ?_
  refine gi_X4_78 hC (is := []) (st := []) (c_X4_bound x (nI 0) (nI 40)) dX4_scented_4 rfl ⟨by decide, by decide⟩ ⟨by decide, by decide⟩ rfl (by decide) rfl rfl ?_
  refine g_istore_n hC dX4_scented_7 (by decide) rfl ?_
  refine g_iload_n hC dX4_scented_8 rfl ?_
  refine g_if_eq (tgt := 18) hC dX4_scented_9 (by decide) (fun h_9 => ?_) (fun h_9 => ?_)
  · skip
    have hk := (neg_0 (kScent x) (outN_lt _ _ _)).mp h_9
    obtain ⟨n, rfl, hn0, hn1⟩ := out_0 (by decide) (by decide) hk
    refine g_aload_n hC dX4_scented_18 rfl rfl ?_
    refine g_iload_n hC dX4_scented_19 rfl ?_
    refine gi_X4_186 hC (is := [0]) (st := []) (c_X4_goesAhead u ro re lt len le la td fr ti pt st ke hi ik cu go num nin up fo hu (n := n) (by omega)) dX4_scented_20 rfl ⟨by decide, by decide⟩ ⟨by decide, by decide⟩ rfl (by decide) rfl rfl rfl ?_
    refine g_iconst (v := nI (0)) hC dX4_scented_23 (by decide) ?_
    refine g_istore_n hC dX4_scented_24 (by decide) rfl ?_
    refine g_iconst (v := nI (0)) hC dX4_scented_25 (by decide) ?_
    refine g_istore hC dX4_scented_26 (by decide) rfl ?_
    have hwg : wf 200 (goN u n) := wf_up (wf_goN hu n) (by omega)
    have hng := wf_n hwg
    have ho := Scent_ok (v := u) hk
    rw [tn_n (show n < 2 ^ 31 by omega)] at ho
    have loop : ∀ d k, k + d = vN (goN u n) → G C 0 0 28 [aR 0 0 0, aI (nI (n)), aK 9, aI (nI (maskOf (among (goN u n)) k)), aI (nI (k))] [] [modW (goN u n) ro re lt len le la td fr ti pt st (kpt u ro ke (85 * 1)) hi true ((((((((((((85 * 1) + 6) + 6) + 6) + 4) + 4) + 4) + 24) + 24) + 1) + 1) + 1) (goG u go n) num nin up fo] := by
      intro d
      induction d with
      | zero =>
        intro k hk
        refine g_iload hC dX4_scented_28 rfl ?_
        refine g_aload_n hC dX4_scented_30 rfl rfl ?_
        refine gf_X4_walkers hC dX4_scented_31 rfl rfl ?_
        refine g_icmp_geN (tgt := 71) hC dX4_scented_34 (by decide) (by omega) (by omega) (fun h_34 => ?_) (fun h_34 => ?_)
        · skip
          refine g_aload_n hC dX4_scented_71 rfl rfl ?_
          refine g_iconst (v := nI (1)) hC dX4_scented_72 (by decide) ?_
          refine g_iconst (v := nI (0)) hC dX4_scented_73 (by decide) ?_
          refine gi_X4_129 hC (is := [0]) (st := []) (c_X4_passesAll_R (goN u n) ro re lt len le la td fr ti pt st (kpt u ro ke (85 * 1)) hi true ((((((((((((85 * 1) + 6) + 6) + 6) + 4) + 4) + 4) + 24) + 24) + 1) + 1) + 1) (goG u go n) num nin up fo u ro (W := 1) (by decide) (fun j hj => kpt_at hj)) dX4_scented_74 rfl ⟨by decide, by decide⟩ ⟨by decide, by decide⟩ rfl (by decide) rfl rfl rfl ?_
          refine g_iload_n hC dX4_scented_77 rfl ?_
          exact g_iret hC rfl dX4_scented_78 (⟨rV (by rw [ho, show k = vN (goN u n) by omega]; rfl), by rw [ho]; exact ⟨rst u _, cpyN ro ro 6, rst_sm hu, cpyN_same, _, _, _, _, _, _, _, _, _, _, _, _, _, fun j hj => kpt_lo (by omega), rfl⟩⟩)
        · skip
          omega
      | succ d ih =>
        intro k hk
        refine g_iload hC dX4_scented_28 rfl ?_
        refine g_aload_n hC dX4_scented_30 rfl rfl ?_
        refine gf_X4_walkers hC dX4_scented_31 rfl rfl ?_
        refine g_icmp_geN (tgt := 71) hC dX4_scented_34 (by decide) (by omega) (by omega) (fun h_34 => ?_) (fun h_34 => ?_)
        · skip
          omega
        · skip
          refine g_iload_n hC dX4_scented_37 rfl ?_
          refine g_aload_n hC dX4_scented_38 rfl rfl ?_
          refine g_aload_n hC dX4_scented_39 rfl rfl ?_
          refine gf_X4_place hC dX4_scented_40 rfl rfl ?_
          refine g_iload hC dX4_scented_43 rfl ?_
          refine g_ialdN hC dX4_scented_45 rfl (by omega) (by decide) ?_
          refine g_iload hC dX4_scented_46 rfl ?_
          refine g_iconst (v := nI (0)) hC dX4_scented_48 (by decide) ?_
          refine gi_X4_161 hC (is := [0]) (st := [aI (nI (maskOf (among (goN u n)) k))]) (c_X4_endAge (goN u n) ro re lt len le la td fr ti pt st (kpt u ro ke (85 * 1)) hi true ((((((((((((85 * 1) + 6) + 6) + 6) + 4) + 4) + 4) + 24) + 24) + 1) + 1) + 1) (goG u go n) num nin up fo hwg (by decide) (wf_pl hwg k (by omega)) (s := k) (as := nI k) (fun j hj => nI_eq (by omega) (by omega)) false) dX4_scented_49 rfl ⟨by decide, by decide⟩ ⟨by decide, by decide⟩ rfl (by decide) rfl rfl rfl ?_
          refine g_if_ltO (tgt := 62) hC dX4_scented_52 (by decide) (by decide) (fun m q => by have := ends_lt hwg (by decide) (wf_pl hwg k (by omega)) _ m q; omega) (fun h_52 => ?_) (fun a h_52 => ?_)
          · skip
            refine g_iconst (v := nI (0)) hC dX4_scented_62 (by decide) ?_
            refine g_ior (v := nI (maskOf (among (goN u n)) k)) hC dX4_scented_63 (or_0 _ (maskOf_lt k (by omega))) ?_
            refine g_istore_n hC dX4_scented_64 (by decide) rfl ?_
            refine g_iincN hC dX4_scented_65 rfl (by decide) rfl ?_
            refine g_goto (tgt := 28) hC dX4_scented_68 (by decide) ?_
            refine g_mask [true, true, false, true, true] ?_
            have q := ih (k + 1) (by omega)
            rw [maskOf_f (p := among (goN u n)) (by unfold among; rw [h_52]; rfl)] at q
            exact q
          · skip
            refine g_iconst (v := nI (1)) hC dX4_scented_55 (by decide) ?_
            refine g_iload hC dX4_scented_56 rfl ?_
            refine g_ishl hC dX4_scented_58 rfl ?_
            refine g_goto (tgt := 63) hC dX4_scented_59 (by decide) ?_
            refine g_ior (v := nI (maskOf (among (goN u n)) k ||| (1 <<< k))) hC dX4_scented_63 (or_bit _ (maskOf_lt k (by omega)) _ (by omega)) ?_
            refine g_istore_n hC dX4_scented_64 (by decide) rfl ?_
            refine g_iincN hC dX4_scented_65 rfl (by decide) rfl ?_
            refine g_goto (tgt := 28) hC dX4_scented_68 (by decide) ?_
            refine g_mask [true, true, false, true, true] ?_
            have q := ih (k + 1) (by omega)
            rw [maskOf_t (p := among (goN u n)) (by unfold among; rw [h_52]; rfl)] at q
            exact q
    refine g_mask [true, true, false, true, true] ?_
    exact loop (vN (goN u n)) 0 (by omega)
  · skip
    have hk : kScent x ≠ 0 := fun z => h_9 ((neg_0 (kScent x) (outN_lt _ _ _)).mpr z)
    refine g_aload_n hC dX4_scented_12 rfl rfl ?_
    refine g_iload_n hC dX4_scented_13 rfl ?_
    refine gi_X4_85 hC (is := [0]) (st := []) (c_X4_no u ro re lt len le la td fr ti pt st ke hi ik cu go num nin up fo (k := (kScent x)) (outN_lt _ _ _)) dX4_scented_14 rfl ⟨by decide, by decide⟩ ⟨by decide, by decide⟩ rfl (by decide) rfl rfl rfl ?_
    exact g_iret hC rfl dX4_scented_17 (⟨rV (by rw [Scent_no hk]; rfl), by rw [Scent_no hk]; exact ⟨_, _, sm_rfl _, fun _ _ => rfl, _, _, _, _, _, _, _, _, _, _, _, _, _, fun _ _ => rfl, rfl⟩⟩)

