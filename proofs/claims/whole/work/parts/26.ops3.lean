def kBehind (v : Vw) (x y : Int32) : Nat := if (0 ≤ x ∧ x < nI (vN v)) then outN y (nI 0) (nI 40) else 1
theorem kBehind_lt (v : Vw) (x y : Int32) : kBehind v x y < 7 := by
  unfold kBehind
  split
  · exact outN_lt _ _ _
  · decide
def oBehind (v : Vw) (x y : Int32) : Ans := if kBehind v x y = 0 then .inr (nI (vPl (goN v (tn y)) (tn x))) else .inl (kBehind v x y)
theorem Behind_no {v : Vw} {x y : Int32} (h : kBehind v x y ≠ 0) : oBehind v x y = .inl (kBehind v x y) := if_neg h
theorem Behind_ok {v : Vw} {x y : Int32} (h : kBehind v x y = 0) : oBehind v x y = .inr (nI (vPl (goN v (tn y)) (tn x))) := if_pos h
def kFresh (x y : Int32) : Nat := if (0 ≤ x ∧ x < nI 6) then outN y (nI 0) (nI 40) else 1
theorem kFresh_lt (x y : Int32) : kFresh x y < 7 := by
  unfold kFresh
  split
  · exact outN_lt _ _ _
  · decide
def oFresh (v : Vw) (x y : Int32) : Ans := if kFresh x y = 0 then .inr (oI (-9) (ends (goN v (tn y)) (tn x) 9 false (vN (goN v (tn y))))) else .inl (kFresh x y)
theorem Fresh_no {v : Vw} {x y : Int32} (h : kFresh x y ≠ 0) : oFresh v x y = .inl (kFresh x y) := if_neg h
theorem Fresh_ok {v : Vw} {x y : Int32} (h : kFresh x y = 0) : oFresh v x y = .inr (oI (-9) (ends (goN v (tn y)) (tn x) 9 false (vN (goN v (tn y))))) := if_pos h
def kScent (x : Int32) : Nat := outN x (nI 0) (nI 40)
def oScent (v : Vw) (x : Int32) : Ans := if kScent x = 0 then .inr (nI (maskOf (among (goN v (tn x))) (vN (goN v (tn x))))) else .inl (kScent x)
theorem Scent_no {v : Vw} {x : Int32} (h : kScent x ≠ 0) : oScent v x = .inl (kScent x) := if_neg h
theorem Scent_ok {v : Vw} {x : Int32} (h : kScent x = 0) : oScent v x = .inr (nI (maskOf (among (goN v (tn x))) (vN (goN v (tn x))))) := if_pos h
/-- the first of the numbers below n -/
def fstB (p : Nat → Bool) : Nat → Option Nat
  | 0 => none
  | k + 1 => match fstB p k with
    | some r => some r
    | none => if p k then some k else none
theorem fst_no {p : Nat → Bool} {k : Nat} (h : fstB p k = none) (h2 : p k = false) : fstB p (k + 1) = none := by
  unfold fstB
  rw [h, h2]
  rfl
theorem fst_at {p : Nat → Bool} {k : Nat} (h : fstB p k = none) (h2 : p k = true) : ∀ n, k < n → fstB p n = some k
  | 0, hn => absurd hn (Nat.not_lt_zero _)
  | n + 1, hn => by
    by_cases e : k = n
    · subst e
      unfold fstB
      rw [h, h2]
      rfl
    · have ih := fst_at h h2 n (by omega)
      unfold fstB
      rw [ih]
theorem fst_congr {p q : Nat → Bool} : ∀ k, (∀ i, i < k → p i = q i) → fstB p k = fstB q k
  | 0, _ => rfl
  | k + 1, h => by
    unfold fstB
    rw [fst_congr k (fun i hi => h i (Nat.lt_succ_of_lt hi)), h k (Nat.lt_succ_self k)]
/-- the room whose number is wrong -/
def badR (v : Vw) (num : Nat → Nat) (r : Nat) : Bool := if num r = 30 then (ends v r 9 false (vN v)).isSome else decide (ends v r 9 false (vN v) ≠ some (num r))
def oJudge (v : Vw) (num : Nat → Nat) (nin : Nat) : Ans := .inr (match fstB (badR v num) (min nin 6) with
  | some r => nI r
  | none => if nin = 6 then -9 else nI (min nin 6))
theorem judge_at {v : Vw} {num : Nat → Nat} {nin r : Nat} (h : fstB (badR v num) (min nin 6) = some r) : ansOf (oJudge v num nin) = nI r := by
  show (match fstB (badR v num) (min nin 6) with
  | some r => nI r
  | none => if nin = 6 then -9 else nI (min nin 6)) = _
  rw [h]
theorem judge_no {v : Vw} {num : Nat → Nat} {nin : Nat} (h : fstB (badR v num) (min nin 6) = none) : ansOf (oJudge v num nin) = if nin = 6 then -9 else nI (min nin 6) := by
  show (match fstB (badR v num) (min nin 6) with
  | some r => nI r
  | none => if nin = 6 then -9 else nI (min nin 6)) = _
  rw [h]
theorem oI9_nI {o : Option Nat} {n : Nat} (ho : ∀ m, o = some m → m < 2 ^ 31) (hn : n < 2 ^ 31) : oI (-9) o = nI n ↔ o = some n := by
  cases o with
  | none =>
    constructor
    · intro h
      have h1 : (nI n).toInt = n := nI_toInt hn
      have h2 : (-9 : Int32) = nI n := h
      rw [← h2] at h1
      have h3 : (-9 : Int32).toInt = -9 := by decide
      omega
    · intro h; cases h
  | some m =>
    constructor
    · intro h
      have h1 : (nI n).toInt = n := nI_toInt hn
      have h2 : (nI m).toInt = m := nI_toInt (ho m rfl)
      have h3 : nI m = nI n := h
      rw [h3] at h2
      rw [h1] at h2
      have : n = m := by omega
      rw [this]
    · intro h
      cases h
      rfl
def kWalks (nin : Nat) (x y : Int32) : Nat := if x < 0 ∨ y < 0 then 4 else if nI 8 < x ∨ x < y then 6 else if nin = 6 then 0 else 3
theorem kWalks_lt (nin : Nat) (x y : Int32) : kWalks nin x y < 7 := by
  unfold kWalks
  split
  · decide
  · split
    · decide
    · split <;> decide
theorem walks_0 {nin : Nat} {x y : Int32} (h : kWalks nin x y = 0) : nin = 6 ∧ ∃ n k, x = nI n ∧ y = nI k ∧ n ≤ 8 ∧ k ≤ n := by
  unfold kWalks at h
  split at h
  · cases h
  next h1 =>
    split at h
    · cases h
    next h2 =>
      split at h
      next h3 =>
        obtain ⟨n, rfl, -, hn⟩ := nI_betw (a := 0) (by decide) (by decide) (Int32.not_lt.mp (fun z => h1 (Or.inl z))) (Int32.not_lt.mp (fun z => h2 (Or.inl z)))
        obtain ⟨k, rfl, -, hk⟩ := nI_betw (a := 0) (by decide) (by omega) (Int32.not_lt.mp (fun z => h1 (Or.inr z))) (Int32.not_lt.mp (fun z => h2 (Or.inr z)))
        exact ⟨h3, n, k, rfl, rfl, hn, hk⟩
      · cases h
theorem toF_at (v : Vw) (num : Nat → Nat) (n : Nat) (to : Nat → Nat → Nat) {m r : Nat} (hm : m ≤ n) (hr : r < 6) : toF v num n to (n + 1) 0 m r = toW v num n m r := if_pos ⟨Or.inl (by omega), hr⟩
theorem onR_at (v : Vw) (num : Nat → Nat) (n : Nat) (on : Nat → Nat → Nat) {m r : Nat} (hm : m ≤ n) (hr : r < 6) : onR v num n on 0 m r = onW v num n (n - m) r := if_pos ⟨Nat.zero_le _, hm, hr⟩
theorem com_congr {f g : Nat → Nat} : ∀ k, (∀ i, i < k → f i = g i) → com f k = com g k
  | 0, _ => rfl
  | k + 1, h => by
    unfold com
    rw [com_congr k (fun i hi => h i (Nat.lt_succ_of_lt hi)), h k (Nat.lt_succ_self k)]
theorem thru_at (v : Vw) (num : Nat → Nat) (n : Nat) (to on : Nat → Nat → Nat) {m r : Nat} (hm : m ≤ n) (hr : r < 6) : toF v num n to (n + 1) 0 m r * onR v num n on 0 m r = thru v num n m r := by rw [toF_at v num n to hm hr, onR_at v num n on hm hr]; rfl
def kWalked (nin : Nat) (x : Int32) : Nat := kWalks nin x (nI 0)
def oWalked (v : Vw) (num : Nat → Nat) (nin : Nat) (x : Int32) : Ans := if kWalked nin x = 0 then .inr (nI (sumN (toW v num (tn x) (tn x)) 6)) else .inl (kWalked nin x)
theorem Walked_no {v : Vw} {num : Nat → Nat} {nin : Nat} {x : Int32} (h : kWalked nin x ≠ 0) : oWalked v num nin x = .inl (kWalked nin x) := if_neg h
theorem Walked_ok {v : Vw} {num : Nat → Nat} {nin : Nat} {x : Int32} (h : kWalked nin x = 0) : oWalked v num nin x = .inr (nI (sumN (toW v num (tn x) (tn x)) 6)) := if_pos h
def kLikeliest (nin : Nat) (x y : Int32) : Nat := kWalks nin x y
def oLikeliest (v : Vw) (num : Nat → Nat) (nin : Nat) (x y : Int32) : Ans := if kLikeliest nin x y = 0 then .inr (oI (-9) (com (thru v num (tn x) (tn y)) 6).1) else .inl (kLikeliest nin x y)
theorem Likeliest_no {v : Vw} {num : Nat → Nat} {nin : Nat} {x y : Int32} (h : kLikeliest nin x y ≠ 0) : oLikeliest v num nin x y = .inl (kLikeliest nin x y) := if_neg h
theorem Likeliest_ok {v : Vw} {num : Nat → Nat} {nin : Nat} {x y : Int32} (h : kLikeliest nin x y = 0) : oLikeliest v num nin x y = .inr (oI (-9) (com (thru v num (tn x) (tn y)) 6).1) := if_pos h
def kSure (nin : Nat) (x y : Int32) : Nat := kWalks nin x y
def oSure (v : Vw) (num : Nat → Nat) (nin : Nat) (x y : Int32) : Ans := if kSure nin x y = 0 then .inr (nI (maskOf (fun r => decide (0 < thru v num (tn x) (tn y) r)) 6)) else .inl (kSure nin x y)
theorem Sure_no {v : Vw} {num : Nat → Nat} {nin : Nat} {x y : Int32} (h : kSure nin x y ≠ 0) : oSure v num nin x y = .inl (kSure nin x y) := if_neg h
theorem Sure_ok {v : Vw} {num : Nat → Nat} {nin : Nat} {x y : Int32} (h : kSure nin x y = 0) : oSure v num nin x y = .inr (nI (maskOf (fun r => decide (0 < thru v num (tn x) (tn y) r)) 6)) := if_pos h
set_option maxRecDepth 100000 in
set_option maxHeartbeats 4000000 in
theorem c_X3_think (v : Vw) (rf : Nat) (go : Nat → Nat) (vm : Vw) (rm : Nat) (gm : Nat → Nat) (vt : Vw) (rt : Nat) (gt : Nat → Nat) (tk : Bool) (lt : Nat → Nat) (len : Nat) (op : Nat → Nat) (to on : Nat → Nat → Nat) (last : Nat) (num : Nat → Nat) (nin : Nat) (re : Nat → Nat) {n : Nat} (hv : wf 99 v) (hn : n ≤ 40) : ConF yX3_think cX3_think 2 none 5 [aR 0 0 0, aI (nI (n))] (mainW v rf go vm rm gm vt rt gt tk lt len op to on last num nin re) none (mainW v rf go (goN (becm vm v) n) rf (goG (becm vm v) gm n) vt rt gt tk lt len op to on last num nin re) := by
  refine con_of RX3 pn_X3 rfl rfl (Nat.le_of_ble_eq_true rfl) (fun C hM0 hC => ?_)
  show G C 0 0 0 [aR 0 0 0, aI (nI (n))] [] (mainW v rf go vm rm gm vt rt gt tk lt len op to on last num nin re)
  have hn4 := wf_n hv
  refine g_aload_n hC dX3_think_0 rfl rfl ?_
  refine gf_X3_mind hC dX3_think_1 rfl rfl ?_
  refine g_aload_n hC dX3_think_4 rfl rfl ?_
  refine gf_X3_now hC dX3_think_5 rfl rfl ?_
  refine gi_X3_148 hC (is := [2, 1]) (st := []) (c_X1_become vm v rm rf gm go hn4) dX3_think_8 rfl ⟨by decide, by decide⟩ ⟨by decide, by decide⟩ rfl (by decide) rfl rfl rfl ?_
  refine g_aload_n hC dX3_think_11 rfl rfl ?_
  refine gf_X3_mind hC dX3_think_12 rfl rfl ?_
  refine g_iload_n hC dX3_think_15 rfl ?_
  refine gi_X3_124 hC (is := [2]) (st := []) (c_X1_goOn (becm vm v) rf gm (wf_becm vm hv) (show 99 + n ≤ 200 by omega)) dX3_think_16 rfl ⟨by decide, by decide⟩ ⟨by decide, by decide⟩ rfl (by decide) rfl rfl rfl ?_
  exact g_vret hC rfl dX3_think_19 (⟨rfl, rfl⟩)

set_option maxRecDepth 100000 in
set_option maxHeartbeats 4000000 in
theorem c_X3_behind (v : Vw) (rf : Nat) (go : Nat → Nat) (vm : Vw) (rm : Nat) (gm : Nat → Nat) (vt : Vw) (rt : Nat) (gt : Nat → Nat) (tk : Bool) (lt : Nat → Nat) (len : Nat) (op : Nat → Nat) (to on : Nat → Nat → Nat) (last : Nat) (num : Nat → Nat) (nin : Nat) (re : Nat → Nat) (x y : Int32) (hv : wf 99 v) : Con yX3_behind cX3_behind 4 (some .int) 6 0 0 [aR 0 0 0, aI (x), aI (y)] (mainW v rf go vm rm gm vt rt gt tk lt len op to on last num nin re) (fun r M => r = some (aI (ansOf (oBehind v x y))) ∧ PX v rf vt rt tk lt len num nin (bump re (oBehind v x y)) M) := by
  refine con_of RX3 pn_X3 rfl rfl (Nat.le_of_ble_eq_true rfl) (fun C hM0 hC => ?_)
  show G C 0 0 0 [aR 0 0 0, aI (x), aI (y), aK 9] [] (mainW v rf go vm rm gm vt rt gt tk lt len op to on last num nin re)
  have hn4 := wf_n hv
  refine g_aload_n hC dX3_behind_0 rfl rfl ?_
  refine gf_X3_now hC dX3_behind_1 rfl rfl ?_
  refine g_iload_n hC dX3_behind_4 rfl ?_
  refine gi_X3_82 hC (is := [1]) (st := []) (c_X1_isWalker v rf go x) dX3_behind_5 rfl ⟨by decide, by decide⟩ ⟨by decide, by decide⟩ rfl (by decide) rfl rfl rfl ?_
  refine g_if_eqB (tgt := 21) hC dX3_behind_8 (by decide) (fun h_8 => ?_) (fun h_8 => ?_)
  · skip
    have hr := of_decide_eq_false h_8
    refine g_iconst (v := (-1)) hC dX3_behind_21 (by decide) ?_
    have hK : kBehind v x y = 1 := if_neg hr
    show G C 0 0 _ _ (aI (-(nI 1)) :: []) _
    rw [show -(nI 1) = -(nI (kBehind v x y)) from by rw [hK]]
    refine g_istore_n hC dX3_behind_22 (by decide) rfl ?_
    refine g_iload_n hC dX3_behind_23 rfl ?_
    refine g_if_eq (tgt := 33) hC dX3_behind_24 (by decide) (fun h_24 => ?_) (fun h_24 => ?_)
    · skip
      have hk := (neg_0 (kBehind v x y) (kBehind_lt v x y)).mp h_24
      rw [hK] at hk
      cases hk
    · skip
      have hk : kBehind v x y ≠ 0 := fun z => h_24 ((neg_0 (kBehind v x y) (kBehind_lt v x y)).mpr z)
      refine g_aload_n hC dX3_behind_27 rfl rfl ?_
      refine g_iload_n hC dX3_behind_28 rfl ?_
      refine gi_X3_51 hC (is := [0, 1, 2, 3, 4, 5, 6, 7]) (st := []) (c_X3_refuse v rf go vm rm gm vt rt gt tk lt len op to on last num nin re (k := (kBehind v x y)) (kBehind_lt v x y)) dX3_behind_29 rfl ⟨by decide, by decide⟩ ⟨by decide, by decide⟩ rfl (by decide) rfl rfl rfl ?_
      exact g_iret hC rfl dX3_behind_32 (⟨rV (by rw [Behind_no hk]; rfl), by rw [Behind_no hk]; exact ⟨_, _, _, _, _, _, _, _, _, rfl⟩⟩)
  · skip
    have hr := of_decide_eq_true h_8
    refine g_iload_n hC dX3_behind_11 rfl ?_
    refine g_iconst (v := nI (0)) hC dX3_behind_12 (by decide) ?_
    refine g_bipush (v := nI (40)) hC dX3_behind_13 (by decide) ?_
    refine gi_X3_101 hC (is := []) (st := []) (c_X3_outside y (nI 0) (nI 40)) dX3_behind_15 rfl ⟨by decide, by decide⟩ ⟨by decide, by decide⟩ rfl (by decide) rfl rfl ?_
    refine g_goto (tgt := 22) hC dX3_behind_18 (by decide) ?_
    have hK : kBehind v x y = outN y (nI 0) (nI 40) := if_pos hr
    rw [show -(nI (outN y (nI 0) (nI 40))) = -(nI (kBehind v x y)) from by rw [hK]]
    refine g_istore_n hC dX3_behind_22 (by decide) rfl ?_
    refine g_iload_n hC dX3_behind_23 rfl ?_
    refine g_if_eq (tgt := 33) hC dX3_behind_24 (by decide) (fun h_24 => ?_) (fun h_24 => ?_)
    · skip
      have hk := (neg_0 (kBehind v x y) (kBehind_lt v x y)).mp h_24
      have hy : outN y (nI 0) (nI 40) = 0 := by rw [← hK]; exact hk
      obtain ⟨u, hu0, rfl⟩ := wk_of hn4 hr
      obtain ⟨n, rfl, hn0, hn1⟩ := out_0 (by decide) (by decide) hy
      have hsm := sm_goN (sm_bec vm hv) (wf_becm vm hv) n
      have hwm : wf 200 (goN (becm vm v) n) := wf_up (wf_goN (wf_becm vm hv) n) (by omega)
      refine g_aload_n hC dX3_behind_33 rfl rfl ?_
      refine g_iload_n hC dX3_behind_34 rfl ?_
      refine gi_X3_145 hC (is := [0, 1, 2, 3, 4, 5, 6, 7]) (st := []) (c_X3_think v rf go vm rm gm vt rt gt tk lt len op to on last num nin re hv (by omega)) dX3_behind_35 rfl ⟨by decide, by decide⟩ ⟨by decide, by decide⟩ rfl (by decide) rfl rfl rfl ?_
      refine g_aload_n hC dX3_behind_38 rfl rfl ?_
      refine gf_X3_mind hC dX3_behind_39 rfl rfl ?_
      refine g_iload_n hC dX3_behind_42 rfl ?_
      refine gi_X3_88 hC (is := [2]) (st := []) (c_X1_placeOf (goN (becm vm v) n) rf (goG (becm vm v) gm n) (show u < 4 by omega)) dX3_behind_43 rfl ⟨by decide, by decide⟩ ⟨by decide, by decide⟩ rfl (by decide) rfl rfl rfl ?_
      have ho := Behind_ok (v := v) hk
      rw [tn_n (show u < 2 ^ 31 by omega), tn_n (show n < 2 ^ 31 by omega), ← sm_pl hsm u (by rw [goN_n]; exact hu0)] at ho
      exact g_iret hC rfl dX3_behind_46 (⟨rV (by rw [ho]; rfl), by rw [ho]; exact ⟨_, _, _, _, _, _, _, _, _, rfl⟩⟩)
    · skip
      have hk : kBehind v x y ≠ 0 := fun z => h_24 ((neg_0 (kBehind v x y) (kBehind_lt v x y)).mpr z)
      refine g_aload_n hC dX3_behind_27 rfl rfl ?_
      refine g_iload_n hC dX3_behind_28 rfl ?_
      refine gi_X3_51 hC (is := [0, 1, 2, 3, 4, 5, 6, 7]) (st := []) (c_X3_refuse v rf go vm rm gm vt rt gt tk lt len op to on last num nin re (k := (kBehind v x y)) (kBehind_lt v x y)) dX3_behind_29 rfl ⟨by decide, by decide⟩ ⟨by decide, by decide⟩ rfl (by decide) rfl rfl rfl ?_
      exact g_iret hC rfl dX3_behind_32 (⟨rV (by rw [Behind_no hk]; rfl), by rw [Behind_no hk]; exact ⟨_, _, _, _, _, _, _, _, _, rfl⟩⟩)

set_option maxRecDepth 100000 in
set_option maxHeartbeats 4000000 in
theorem c_X3_freshest (v : Vw) (rf : Nat) (go : Nat → Nat) (vm : Vw) (rm : Nat) (gm : Nat → Nat) (vt : Vw) (rt : Nat) (gt : Nat → Nat) (tk : Bool) (lt : Nat → Nat) (len : Nat) (op : Nat → Nat) (to on : Nat → Nat → Nat) (last : Nat) (num : Nat → Nat) (nin : Nat) (re : Nat → Nat) (x y : Int32) (hv : wf 99 v) : Con yX3_freshest cX3_freshest 4 (some .int) 6 0 0 [aR 0 0 0, aI (x), aI (y)] (mainW v rf go vm rm gm vt rt gt tk lt len op to on last num nin re) (fun r M => r = some (aI (ansOf (oFresh v x y))) ∧ PX v rf vt rt tk lt len num nin (bump re (oFresh v x y)) M) := by
  refine con_of RX3 pn_X3 rfl rfl (Nat.le_of_ble_eq_true rfl) (fun C hM0 hC => ?_)
  show G C 0 0 0 [aR 0 0 0, aI (x), aI (y), aK 9] [] (mainW v rf go vm rm gm vt rt gt tk lt len op to on last num nin re)
  have hn4 := wf_n hv
  refine g_iload_n hC dX3_freshest_0 rfl ?_
  refine gi_X3_69 hC (is := []) (st := []) (c_X3_isRoom x) dX3_freshest_1 rfl ⟨by decide, by decide⟩ ⟨by decide, by decide⟩ rfl (by decide) rfl rfl ?_
  refine g_if_eqB (tgt := 17) hC dX3_freshest_4 (by decide) (fun h_4 => ?_) (fun h_4 => ?_)
  · skip
    have hr := of_decide_eq_false h_4
    refine g_iconst (v := (-1)) hC dX3_freshest_17 (by decide) ?_
    have hK : kFresh x y = 1 := if_neg hr
    show G C 0 0 _ _ (aI (-(nI 1)) :: []) _
    rw [show -(nI 1) = -(nI (kFresh x y)) from by rw [hK]]
    refine g_istore_n hC dX3_freshest_18 (by decide) rfl ?_
    refine g_iload_n hC dX3_freshest_19 rfl ?_
    refine g_if_eq (tgt := 29) hC dX3_freshest_20 (by decide) (fun h_20 => ?_) (fun h_20 => ?_)
    · skip
      have hk := (neg_0 (kFresh x y) (kFresh_lt x y)).mp h_20
      rw [hK] at hk
      cases hk
    · skip
      have hk : kFresh x y ≠ 0 := fun z => h_20 ((neg_0 (kFresh x y) (kFresh_lt x y)).mpr z)
      refine g_aload_n hC dX3_freshest_23 rfl rfl ?_
      refine g_iload_n hC dX3_freshest_24 rfl ?_
      refine gi_X3_51 hC (is := [0, 1, 2, 3, 4, 5, 6, 7]) (st := []) (c_X3_refuse v rf go vm rm gm vt rt gt tk lt len op to on last num nin re (k := (kFresh x y)) (kFresh_lt x y)) dX3_freshest_25 rfl ⟨by decide, by decide⟩ ⟨by decide, by decide⟩ rfl (by decide) rfl rfl rfl ?_
      exact g_iret hC rfl dX3_freshest_28 (⟨rV (by rw [Fresh_no hk]; rfl), by rw [Fresh_no hk]; exact ⟨_, _, _, _, _, _, _, _, _, rfl⟩⟩)
  · skip
    have hr := of_decide_eq_true h_4
    refine g_iload_n hC dX3_freshest_7 rfl ?_
    refine g_iconst (v := nI (0)) hC dX3_freshest_8 (by decide) ?_
    refine g_bipush (v := nI (40)) hC dX3_freshest_9 (by decide) ?_
    refine gi_X3_101 hC (is := []) (st := []) (c_X3_outside y (nI 0) (nI 40)) dX3_freshest_11 rfl ⟨by decide, by decide⟩ ⟨by decide, by decide⟩ rfl (by decide) rfl rfl ?_
    refine g_goto (tgt := 18) hC dX3_freshest_14 (by decide) ?_
    have hK : kFresh x y = outN y (nI 0) (nI 40) := if_pos hr
    rw [show -(nI (outN y (nI 0) (nI 40))) = -(nI (kFresh x y)) from by rw [hK]]
    refine g_istore_n hC dX3_freshest_18 (by decide) rfl ?_
    refine g_iload_n hC dX3_freshest_19 rfl ?_
    refine g_if_eq (tgt := 29) hC dX3_freshest_20 (by decide) (fun h_20 => ?_) (fun h_20 => ?_)
    · skip
      have hk := (neg_0 (kFresh x y) (kFresh_lt x y)).mp h_20
      have hy : outN y (nI 0) (nI 40) = 0 := by rw [← hK]; exact hk
      obtain ⟨r, hr0, rfl⟩ := rm_of hr
      obtain ⟨n, rfl, hn0, hn1⟩ := out_0 (by decide) (by decide) hy
      have hsm := sm_goN (sm_bec vm hv) (wf_becm vm hv) n
      have hwm : wf 200 (goN (becm vm v) n) := wf_up (wf_goN (wf_becm vm hv) n) (by omega)
      refine g_aload_n hC dX3_freshest_29 rfl rfl ?_
      refine g_iload_n hC dX3_freshest_30 rfl ?_
      refine gi_X3_145 hC (is := [0, 1, 2, 3, 4, 5, 6, 7]) (st := []) (c_X3_think v rf go vm rm gm vt rt gt tk lt len op to on last num nin re hv (by omega)) dX3_freshest_31 rfl ⟨by decide, by decide⟩ ⟨by decide, by decide⟩ rfl (by decide) rfl rfl rfl ?_
      refine g_aload_n hC dX3_freshest_34 rfl rfl ?_
      refine gf_X3_mind hC dX3_freshest_35 rfl rfl ?_
      refine g_iload_n hC dX3_freshest_38 rfl ?_
      refine gi_X3_136 hC (is := [2]) (st := []) (c_X1_leastAge (goN (becm vm v) n) rf (goG (becm vm v) gm n) hwm (by decide) hr0) dX3_freshest_39 rfl ⟨by decide, by decide⟩ ⟨by decide, by decide⟩ rfl (by decide) rfl rfl rfl ?_
      have ho := Fresh_ok (v := v) hk
      rw [tn_n (show r < 2 ^ 31 by omega), tn_n (show n < 2 ^ 31 by omega), ← sm_endsN hsm hr0] at ho
      exact g_iret hC rfl dX3_freshest_42 (⟨rV (by rw [ho]; rfl), by rw [ho]; exact ⟨_, _, _, _, _, _, _, _, _, rfl⟩⟩)
    · skip
      have hk : kFresh x y ≠ 0 := fun z => h_20 ((neg_0 (kFresh x y) (kFresh_lt x y)).mpr z)
      refine g_aload_n hC dX3_freshest_23 rfl rfl ?_
      refine g_iload_n hC dX3_freshest_24 rfl ?_
      refine gi_X3_51 hC (is := [0, 1, 2, 3, 4, 5, 6, 7]) (st := []) (c_X3_refuse v rf go vm rm gm vt rt gt tk lt len op to on last num nin re (k := (kFresh x y)) (kFresh_lt x y)) dX3_freshest_25 rfl ⟨by decide, by decide⟩ ⟨by decide, by decide⟩ rfl (by decide) rfl rfl rfl ?_
      exact g_iret hC rfl dX3_freshest_28 (⟨rV (by rw [Fresh_no hk]; rfl), by rw [Fresh_no hk]; exact ⟨_, _, _, _, _, _, _, _, _, rfl⟩⟩)

set_option maxRecDepth 100000 in
set_option maxHeartbeats 4000000 in
theorem c_X3_scented (v : Vw) (rf : Nat) (go : Nat → Nat) (vm : Vw) (rm : Nat) (gm : Nat → Nat) (vt : Vw) (rt : Nat) (gt : Nat → Nat) (tk : Bool) (lt : Nat → Nat) (len : Nat) (op : Nat → Nat) (to on : Nat → Nat → Nat) (last : Nat) (num : Nat → Nat) (nin : Nat) (re : Nat → Nat) (x : Int32) (hv : wf 99 v) : Con yX3_scented cX3_scented 3 (some .int) 6 0 0 [aR 0 0 0, aI (x)] (mainW v rf go vm rm gm vt rt gt tk lt len op to on last num nin re) (fun r M => r = some (aI (ansOf (oScent v x))) ∧ PX v rf vt rt tk lt len num nin (bump re (oScent v x)) M) := by
  refine con_of RX3 pn_X3 rfl rfl (Nat.le_of_ble_eq_true rfl) (fun C hM0 hC => ?_)
  show G C 0 0 0 [aR 0 0 0, aI (x), aK 9] [] (mainW v rf go vm rm gm vt rt gt tk lt len op to on last num nin re)
  have hn4 := wf_n hv
  refine g_iload_n hC dX3_scented_0 rfl ?_
  refine g_iconst (v := nI (0)) hC dX3_scented_1 (by decide) ?_
  refine g_bipush (v := nI (40)) hC dX3_scented_2 (by decide) ?_
  refine gi_X3_101 hC (is := []) (st := []) (c_X3_outside x (nI 0) (nI 40)) dX3_scented_4 rfl ⟨by decide, by decide⟩ ⟨by decide, by decide⟩ rfl (by decide) rfl rfl ?_
  refine g_istore_n hC dX3_scented_7 (by decide) rfl ?_
  refine g_iload_n hC dX3_scented_8 rfl ?_
  refine g_if_eq (tgt := 18) hC dX3_scented_9 (by decide) (fun h_9 => ?_) (fun h_9 => ?_)
  · skip
    have hk := (neg_0 (kScent x) (outN_lt _ _ _)).mp h_9
    obtain ⟨n, rfl, hn0, hn1⟩ := out_0 (by decide) (by decide) hk
    have hsm := sm_goN (sm_bec vm hv) (wf_becm vm hv) n
    have hwm : wf 200 (goN (becm vm v) n) := wf_up (wf_goN (wf_becm vm hv) n) (by omega)
    refine g_aload_n hC dX3_scented_18 rfl rfl ?_
    refine g_iload_n hC dX3_scented_19 rfl ?_
    refine gi_X3_145 hC (is := [0, 1, 2, 3, 4, 5, 6, 7]) (st := []) (c_X3_think v rf go vm rm gm vt rt gt tk lt len op to on last num nin re hv (by omega)) dX3_scented_20 rfl ⟨by decide, by decide⟩ ⟨by decide, by decide⟩ rfl (by decide) rfl rfl rfl ?_
    refine g_aload_n hC dX3_scented_23 rfl rfl ?_
    refine gf_X3_mind hC dX3_scented_24 rfl rfl ?_
    refine gi_X3_152 hC (is := [2]) (st := []) (c_X1_walkersAmongOthersTraces (goN (becm vm v) n) rf (goG (becm vm v) gm n) hwm (by decide)) dX3_scented_27 rfl ⟨by decide, by decide⟩ ⟨by decide, by decide⟩ rfl (by decide) rfl rfl rfl ?_
    have ho := Scent_ok (v := v) hk
    rw [tn_n (show n < 2 ^ 31 by omega), ← sm_amongM hsm (wf_goN (wf_becm vm hv) n)] at ho
    exact g_iret hC rfl dX3_scented_30 (⟨rV (by rw [ho]; rfl), by rw [ho]; exact ⟨_, _, _, _, _, _, _, _, _, rfl⟩⟩)
  · skip
    have hk : kScent x ≠ 0 := fun z => h_9 ((neg_0 (kScent x) (outN_lt _ _ _)).mpr z)
    refine g_aload_n hC dX3_scented_12 rfl rfl ?_
    refine g_iload_n hC dX3_scented_13 rfl ?_
    refine gi_X3_51 hC (is := [0, 1, 2, 3, 4, 5, 6, 7]) (st := []) (c_X3_refuse v rf go vm rm gm vt rt gt tk lt len op to on last num nin re (k := (kScent x)) (outN_lt _ _ _)) dX3_scented_14 rfl ⟨by decide, by decide⟩ ⟨by decide, by decide⟩ rfl (by decide) rfl rfl rfl ?_
    exact g_iret hC rfl dX3_scented_17 (⟨rV (by rw [Scent_no hk]; rfl), by rw [Scent_no hk]; exact ⟨_, _, _, _, _, _, _, _, _, rfl⟩⟩)

set_option maxRecDepth 100000 in
set_option maxHeartbeats 4000000 in
theorem c_X3_firstWrong (v : Vw) (rf : Nat) (go : Nat → Nat) (vm : Vw) (rm : Nat) (gm : Nat → Nat) (vt : Vw) (rt : Nat) (gt : Nat → Nat) (tk : Bool) (lt : Nat → Nat) (len : Nat) (op : Nat → Nat) (to on : Nat → Nat → Nat) (last : Nat) (num : Nat → Nat) (nin : Nat) (re : Nat → Nat) (hv : wf 99 v) (hnin : nin ≤ 12) (hnum : ∀ r, r < 12 → num r ≤ 30) : ConF yX3_firstWrong cX3_firstWrong 5 (some .int) 3 [aR 0 0 0] (mainW v rf go vm rm gm vt rt gt tk lt len op to on last num nin re) (some (aI (ansOf (oJudge v num nin)))) (mainW v rf go vm rm gm vt rt gt tk lt len op to on last num nin re) := by
  refine con_of RX3 pn_X3 rfl rfl (Nat.le_of_ble_eq_true rfl) (fun C hM0 hC => ?_)
  show G C 0 0 0 [aR 0 0 0, aK 9, aK 9, aK 9, aK 9] [] (mainW v rf go vm rm gm vt rt gt tk lt len op to on last num nin re)
  have loop : ∀ d k, k + d = min nin 6 → fstB (badR v num) k = none → G C 0 0 12 [aR 0 0 0, aI (nI (min nin 6)), aI (nI (k)), aK 9, aK 9] [] (mainW v rf go vm rm gm vt rt gt tk lt len op to on last num nin re) := by
    intro d
    induction d with
    | zero =>
      intro k hk hf
      obtain rfl : k = min nin 6 := by omega
      refine g_iload_n hC dX3_firstWrong_12 rfl ?_
      refine g_iload_n hC dX3_firstWrong_13 rfl ?_
      refine g_icmp_geN (tgt := 81) hC dX3_firstWrong_14 (by decide) (by omega) (by omega) (fun h_14 => ?_) (fun h_14 => ?_)
      · skip
        refine g_aload_n hC dX3_firstWrong_81 rfl rfl ?_
        refine gf_X3_numbersIn hC dX3_firstWrong_82 rfl rfl ?_
        refine g_bipush (v := nI (6)) hC dX3_firstWrong_85 (by decide) ?_
        refine g_icmp_neN (tgt := 95) hC dX3_firstWrong_87 (by decide) (by omega) (by omega) (fun h_87 => ?_) (fun h_87 => ?_)
        · skip
          refine g_iload_n hC dX3_firstWrong_95 rfl ?_
          exact g_iret hC rfl dX3_firstWrong_96 (⟨rV (by rw [judge_no hf, if_neg h_87]), rfl⟩)
        · skip
          refine g_bipush (v := (-9)) hC dX3_firstWrong_90 (by decide) ?_
          refine g_goto (tgt := 96) hC dX3_firstWrong_92 (by decide) ?_
          exact g_iret hC rfl dX3_firstWrong_96 (⟨rV (by rw [judge_no hf, if_pos h_87]), rfl⟩)
      · skip
        omega
    | succ d ih =>
      intro k hk hf
      have hnk := hnum k (by omega)
      have hbd : ∀ m, ends v k 9 false (vN v) = some m → m < 2 ^ 31 := fun m q => by have := ends_lt hv (by decide) (show k < 6 by omega) _ m q; omega
      refine g_iload_n hC dX3_firstWrong_12 rfl ?_
      refine g_iload_n hC dX3_firstWrong_13 rfl ?_
      refine g_icmp_geN (tgt := 81) hC dX3_firstWrong_14 (by decide) (by omega) (by omega) (fun h_14 => ?_) (fun h_14 => ?_)
      · skip
        omega
      · skip
        refine g_aload_n hC dX3_firstWrong_17 rfl rfl ?_
        refine gf_X3_now hC dX3_firstWrong_18 rfl rfl ?_
        refine g_iload_n hC dX3_firstWrong_21 rfl ?_
        refine gi_X3_136 hC (is := [1]) (st := []) (c_X1_leastAge v rf go hv (by decide) (show k < 6 by omega)) dX3_firstWrong_22 rfl ⟨by decide, by decide⟩ ⟨by decide, by decide⟩ rfl (by decide) rfl rfl rfl ?_
        refine g_istore_n hC dX3_firstWrong_25 (by decide) rfl ?_
        refine g_aload_n hC dX3_firstWrong_26 rfl rfl ?_
        refine gf_X3_numbers hC dX3_firstWrong_27 rfl rfl ?_
        refine g_iload_n hC dX3_firstWrong_30 rfl ?_
        refine g_ialdN hC dX3_firstWrong_31 rfl (by omega) (by decide) ?_
        refine g_bipush (v := nI (30)) hC dX3_firstWrong_32 (by decide) ?_
        refine g_icmp_neN (tgt := 51) hC dX3_firstWrong_34 (by decide) (by omega) (by omega) (fun h_34 => ?_) (fun h_34 => ?_)
        · skip
          refine g_iload_n hC dX3_firstWrong_51 rfl ?_
          refine g_aload_n hC dX3_firstWrong_52 rfl rfl ?_
          refine gf_X3_numbers hC dX3_firstWrong_53 rfl rfl ?_
          refine g_iload_n hC dX3_firstWrong_56 rfl ?_
          refine g_ialdN hC dX3_firstWrong_57 rfl (by omega) (by decide) ?_
          refine g_icmp_ne (tgt := 65) hC dX3_firstWrong_58 (by decide) (fun h_58 => ?_) (fun h_58 => ?_)
          · skip
            refine g_iconst (v := nI (0)) hC dX3_firstWrong_65 (by decide) ?_
            refine g_istore hC dX3_firstWrong_66 (by decide) rfl ?_
            refine g_iload hC dX3_firstWrong_68 rfl ?_
            refine g_if_neN (tgt := 75) hC dX3_firstWrong_70 (by decide) (by omega) (fun h_70 => ?_) (fun h_70 => ?_)
            · skip
              omega
            · skip
              refine g_iload_n hC dX3_firstWrong_73 rfl ?_
              exact g_iret hC rfl dX3_firstWrong_74 (⟨rV (by rw [judge_at (fst_at hf (by unfold badR; rw [if_neg h_34]; exact decide_eq_true (fun z => h_58 ((oI9_nI hbd (by omega)).mpr z))) _ (by omega))]), rfl⟩)
          · skip
            refine g_iconst (v := nI (1)) hC dX3_firstWrong_61 (by decide) ?_
            refine g_goto (tgt := 66) hC dX3_firstWrong_62 (by decide) ?_
            refine g_istore hC dX3_firstWrong_66 (by decide) rfl ?_
            refine g_iload hC dX3_firstWrong_68 rfl ?_
            refine g_if_neN (tgt := 75) hC dX3_firstWrong_70 (by decide) (by omega) (fun h_70 => ?_) (fun h_70 => ?_)
            · skip
              refine g_iincN hC dX3_firstWrong_75 rfl (by decide) rfl ?_
              refine g_goto (tgt := 12) hC dX3_firstWrong_78 (by decide) ?_
              refine g_mask [true, true, true, false, false] ?_
              exact ih (k + 1) (by omega) (fst_no hf (by unfold badR; rw [if_neg h_34]; exact decide_eq_false (fun z => z ((oI9_nI hbd (by omega)).mp h_58))))
            · skip
              omega
        · skip
          refine g_iload_n hC dX3_firstWrong_37 rfl ?_
          refine g_bipush (v := (-9)) hC dX3_firstWrong_38 (by decide) ?_
          refine g_icmp_neO (tgt := 47) hC dX3_firstWrong_40 (by decide) (by decide) hbd (fun m_40 h_40 => ?_) (fun h_40 => ?_)
          · skip
            refine g_iconst (v := nI (0)) hC dX3_firstWrong_47 (by decide) ?_
            refine g_goto (tgt := 66) hC dX3_firstWrong_48 (by decide) ?_
            refine g_istore hC dX3_firstWrong_66 (by decide) rfl ?_
            refine g_iload hC dX3_firstWrong_68 rfl ?_
            refine g_if_neN (tgt := 75) hC dX3_firstWrong_70 (by decide) (by omega) (fun h_70 => ?_) (fun h_70 => ?_)
            · skip
              omega
            · skip
              refine g_iload_n hC dX3_firstWrong_73 rfl ?_
              exact g_iret hC rfl dX3_firstWrong_74 (⟨rV (by rw [judge_at (fst_at hf (by unfold badR; rw [if_pos h_34, h_40]; rfl) _ (by omega))]), rfl⟩)
          · skip
            refine g_iconst (v := nI (1)) hC dX3_firstWrong_43 (by decide) ?_
            refine g_goto (tgt := 66) hC dX3_firstWrong_44 (by decide) ?_
            refine g_istore hC dX3_firstWrong_66 (by decide) rfl ?_
            refine g_iload hC dX3_firstWrong_68 rfl ?_
            refine g_if_neN (tgt := 75) hC dX3_firstWrong_70 (by decide) (by omega) (fun h_70 => ?_) (fun h_70 => ?_)
            · skip
              refine g_iincN hC dX3_firstWrong_75 rfl (by decide) rfl ?_
              refine g_goto (tgt := 12) hC dX3_firstWrong_78 (by decide) ?_
              refine g_mask [true, true, true, false, false] ?_
              exact ih (k + 1) (by omega) (fst_no hf (by unfold badR; rw [if_pos h_34, h_40]; rfl))
            · skip
              omega
  refine g_aload_n hC dX3_firstWrong_0 rfl rfl ?_
  refine gf_X3_numbersIn hC dX3_firstWrong_1 rfl rfl ?_
  refine g_bipush (v := nI (6)) hC dX3_firstWrong_4 (by decide) ?_
  refine g_min (v := nI (min nin 6)) hC dX3_firstWrong_6 tw_2_203 tw_1_202 tw_1_8 tw_1_203 (by decide) (Nat.le_of_ble_eq_true rfl) (by decide) (by decide) (min_nI (by omega) (by decide)) ?_
  refine g_istore_n hC dX3_firstWrong_9 (by decide) rfl ?_
  refine g_iconst (v := nI (0)) hC dX3_firstWrong_10 (by decide) ?_
  refine g_istore_n hC dX3_firstWrong_11 (by decide) rfl ?_
  exact loop (min nin 6) 0 (by omega) rfl

set_option maxRecDepth 100000 in
set_option maxHeartbeats 4000000 in
theorem c_X3_judge (v : Vw) (rf : Nat) (go : Nat → Nat) (vm : Vw) (rm : Nat) (gm : Nat → Nat) (vt : Vw) (rt : Nat) (gt : Nat → Nat) (tk : Bool) (lt : Nat → Nat) (len : Nat) (op : Nat → Nat) (to on : Nat → Nat → Nat) (last : Nat) (num : Nat → Nat) (nin : Nat) (re : Nat → Nat) (hv : wf 99 v) (hnin : nin ≤ 12) (hnum : ∀ r, r < 12 → num r ≤ 30) : Con yX3_judge cX3_judge 2 (some .int) 4 0 0 [aR 0 0 0] (mainW v rf go vm rm gm vt rt gt tk lt len op to on last num nin re) (fun r M => r = some (aI (ansOf (oJudge v num nin))) ∧ PX v rf vt rt tk lt len num 0 (bump re (oJudge v num nin)) M) := by
  refine con_of RX3 pn_X3 rfl rfl (Nat.le_of_ble_eq_true rfl) (fun C hM0 hC => ?_)
  show G C 0 0 0 [aR 0 0 0, aK 9] [] (mainW v rf go vm rm gm vt rt gt tk lt len op to on last num nin re)
  refine g_aload_n hC dX3_judge_0 rfl rfl ?_
  refine gi_X3_179 hC (is := [0, 1, 2, 3, 4, 5, 6, 7]) (st := []) (c_X3_firstWrong v rf go vm rm gm vt rt gt tk lt len op to on last num nin re hv hnin hnum) dX3_judge_1 rfl ⟨by decide, by decide⟩ ⟨by decide, by decide⟩ rfl (by decide) rfl rfl rfl ?_
  refine g_istore_n hC dX3_judge_4 (by decide) rfl ?_
  refine g_aload_n hC dX3_judge_5 rfl rfl ?_
  refine g_iconst (v := nI (0)) hC dX3_judge_6 (by decide) ?_
  refine gp_X3_numbersIn hC dX3_judge_7 rfl rfl ?_
  refine g_iload_n hC dX3_judge_10 rfl ?_
  exact g_iret hC rfl dX3_judge_11 (⟨rfl, ⟨_, _, _, _, _, _, _, _, _, rfl⟩⟩)

set_option maxRecDepth 100000 in
set_option maxHeartbeats 4000000 in
theorem c_X3_walksRefusal (v : Vw) (rf : Nat) (go : Nat → Nat) (vm : Vw) (rm : Nat) (gm : Nat → Nat) (vt : Vw) (rt : Nat) (gt : Nat → Nat) (tk : Bool) (lt : Nat → Nat) (len : Nat) (op : Nat → Nat) (to on : Nat → Nat → Nat) (last : Nat) (num : Nat → Nat) (nin : Nat) (re : Nat → Nat) (x y : Int32) (hnin : nin ≤ 12) : ConF yX3_walksRefusal cX3_walksRefusal 3 (some .int) 0 [aR 0 0 0, aI (x), aI (y)] (mainW v rf go vm rm gm vt rt gt tk lt len op to on last num nin re) (some (aI (-(nI (kWalks nin x y))))) (mainW v rf go vm rm gm vt rt gt tk lt len op to on last num nin re) := by
  refine con_of RX3 pn_X3 rfl rfl (Nat.le_of_ble_eq_true rfl) (fun C hM0 hC => ?_)
  show G C 0 0 0 [aR 0 0 0, aI (x), aI (y)] [] (mainW v rf go vm rm gm vt rt gt tk lt len op to on last num nin re)
  refine g_iload_n hC dX3_walksRefusal_0 rfl ?_
  refine g_if_lt (tgt := 8) hC dX3_walksRefusal_1 (by decide) (fun h_1 => ?_) (fun h_1 => ?_)
  · skip
    refine g_bipush (v := (-4)) hC dX3_walksRefusal_8 (by decide) ?_
    exact g_iret hC rfl dX3_walksRefusal_10 (⟨rV (by unfold kWalks; rw [if_pos (Or.inl h_1)]; rfl), rfl⟩)
  · skip
    refine g_iload_n hC dX3_walksRefusal_4 rfl ?_
    refine g_if_ge (tgt := 11) hC dX3_walksRefusal_5 (by decide) (fun h_5 => ?_) (fun h_5 => ?_)
    · skip
      refine g_iload_n hC dX3_walksRefusal_11 rfl ?_
      refine g_bipush (v := nI (8)) hC dX3_walksRefusal_12 (by decide) ?_
      refine g_icmp_gt (tgt := 22) hC dX3_walksRefusal_14 (by decide) (fun h_14 => ?_) (fun h_14 => ?_)
      · skip
        refine g_bipush (v := (-6)) hC dX3_walksRefusal_22 (by decide) ?_
        exact g_iret hC rfl dX3_walksRefusal_24 (⟨rV (by unfold kWalks; rw [if_neg (fun z => z.elim h_1 (Int32.not_lt.mpr h_5)), if_pos (Or.inl h_14)]; rfl), rfl⟩)
      · skip
        refine g_iload_n hC dX3_walksRefusal_17 rfl ?_
        refine g_iload_n hC dX3_walksRefusal_18 rfl ?_
        refine g_icmp_le (tgt := 25) hC dX3_walksRefusal_19 (by decide) (fun h_19 => ?_) (fun h_19 => ?_)
        · skip
          refine g_aload_n hC dX3_walksRefusal_25 rfl rfl ?_
          refine gf_X3_numbersIn hC dX3_walksRefusal_26 rfl rfl ?_
          refine g_bipush (v := nI (6)) hC dX3_walksRefusal_29 (by decide) ?_
          refine g_icmp_neN (tgt := 38) hC dX3_walksRefusal_31 (by decide) (by omega) (by omega) (fun h_31 => ?_) (fun h_31 => ?_)
          · skip
            refine g_bipush (v := (-3)) hC dX3_walksRefusal_38 (by decide) ?_
            exact g_iret hC rfl dX3_walksRefusal_40 (⟨rV (by unfold kWalks; rw [if_neg (fun z => z.elim h_1 (Int32.not_lt.mpr h_5)), if_neg (fun z => z.elim h_14 (Int32.not_lt.mpr h_19)), if_neg h_31]; rfl), rfl⟩)
          · skip
            refine g_iconst (v := nI (0)) hC dX3_walksRefusal_34 (by decide) ?_
            refine g_goto (tgt := 40) hC dX3_walksRefusal_35 (by decide) ?_
            exact g_iret hC rfl dX3_walksRefusal_40 (⟨rV (by unfold kWalks; rw [if_neg (fun z => z.elim h_1 (Int32.not_lt.mpr h_5)), if_neg (fun z => z.elim h_14 (Int32.not_lt.mpr h_19)), if_pos h_31]; rfl), rfl⟩)
        · skip
          refine g_bipush (v := (-6)) hC dX3_walksRefusal_22 (by decide) ?_
          exact g_iret hC rfl dX3_walksRefusal_24 (⟨rV (by unfold kWalks; rw [if_neg (fun z => z.elim h_1 (Int32.not_lt.mpr h_5)), if_pos (Or.inr (Int32.not_le.mp h_19))]; rfl), rfl⟩)
    · skip
      refine g_bipush (v := (-4)) hC dX3_walksRefusal_8 (by decide) ?_
      exact g_iret hC rfl dX3_walksRefusal_10 (⟨rV (by unfold kWalks; rw [if_pos (Or.inr (Int32.not_le.mp h_5))]; rfl), rfl⟩)

set_option maxRecDepth 100000 in
set_option maxHeartbeats 4000000 in
theorem c_X3_walked (v : Vw) (rf : Nat) (go : Nat → Nat) (vm : Vw) (rm : Nat) (gm : Nat → Nat) (vt : Vw) (rt : Nat) (gt : Nat → Nat) (tk : Bool) (lt : Nat → Nat) (len : Nat) (op : Nat → Nat) (to on : Nat → Nat → Nat) (last : Nat) (num : Nat → Nat) (nin : Nat) (re : Nat → Nat) (x : Int32) (hv : wf 99 v) (hnin : nin ≤ 12) (hnum : ∀ r, r < 12 → num r ≤ 30) : Con yX3_walked cX3_walked 3 (some .int) 4 0 0 [aR 0 0 0, aI (x)] (mainW v rf go vm rm gm vt rt gt tk lt len op to on last num nin re) (fun r M => r = some (aI (ansOf (oWalked v num nin x))) ∧ PX v rf vt rt tk lt len num nin (bump re (oWalked v num nin x)) M) := by
  refine con_of RX3 pn_X3 rfl rfl (Nat.le_of_ble_eq_true rfl) (fun C hM0 hC => ?_)
  show G C 0 0 0 [aR 0 0 0, aI (x), aK 9] [] (mainW v rf go vm rm gm vt rt gt tk lt len op to on last num nin re)
  have hn4 := wf_n hv
  refine g_aload_n hC dX3_walked_0 rfl rfl ?_
  refine g_iload_n hC dX3_walked_1 rfl ?_
  refine g_iconst (v := nI (0)) hC dX3_walked_2 (by decide) ?_
  refine gi_X3_155 hC (is := [0, 1, 2, 3, 4, 5, 6, 7]) (st := []) (c_X3_walksRefusal v rf go vm rm gm vt rt gt tk lt len op to on last num nin re x (nI 0) hnin) dX3_walked_3 rfl ⟨by decide, by decide⟩ ⟨by decide, by decide⟩ rfl (by decide) rfl rfl rfl ?_
  refine g_istore_n hC dX3_walked_6 (by decide) rfl ?_
  refine g_iload_n hC dX3_walked_7 rfl ?_
  refine g_if_eq (tgt := 17) hC dX3_walked_8 (by decide) (fun h_8 => ?_) (fun h_8 => ?_)
  · skip
    have hk := (neg_0 (kWalked nin x) (kWalks_lt nin x (nI 0))).mp h_8
    obtain ⟨h6, n, k, rfl, hk0, hn8, hkn⟩ := walks_0 hk
    refine g_aload_n hC dX3_walked_17 rfl rfl ?_
    refine gf_X3_walks hC dX3_walked_18 rfl rfl ?_
    refine g_aload_n hC dX3_walked_21 rfl rfl ?_
    refine gf_X3_numbers hC dX3_walked_22 rfl rfl ?_
    refine g_iload_n hC dX3_walked_25 rfl ?_
    refine g_aload_n hC dX3_walked_26 rfl rfl ?_
    refine gf_X3_now hC dX3_walked_27 rfl rfl ?_
    refine gi_X3_158 hC (is := [5, 6, 1]) (st := []) (c_X2_find v rf go hv (by decide) op to on last num (fun r hr => by have := hnum r (by omega); omega) (show n ≤ 8 by omega)) dX3_walked_30 rfl ⟨by decide, by decide⟩ ⟨by decide, by decide⟩ rfl (by decide) rfl rfl rfl ?_
    refine g_aload_n hC dX3_walked_33 rfl rfl ?_
    refine gf_X3_walks hC dX3_walked_34 rfl rfl ?_
    refine gi_X3_162 hC (is := [5]) (st := []) (c_X2_ways (opF num n op (n + 1)) (toF v num n to (n + 1) 0) (onR v num n on 0) n (show n < 9 by omega)) dX3_walked_37 rfl ⟨by decide, by decide⟩ ⟨by decide, by decide⟩ rfl (by decide) rfl rfl rfl ?_
    have ho := Walked_ok (v := v) (num := num) hk
    rw [tn_n (show n < 2 ^ 31 by omega), ← sumN_congr (f := (toF v num n to (n + 1) 0) n) 6 (fun r hr => toF_at v num n to (Nat.le_refl n) hr)] at ho
    exact g_iret hC rfl dX3_walked_40 (⟨rV (by rw [ho]; rfl), by rw [ho]; exact ⟨_, _, _, _, _, _, _, _, _, rfl⟩⟩)
  · skip
    have hk : kWalked nin x ≠ 0 := fun z => h_8 ((neg_0 (kWalked nin x) (kWalks_lt nin x (nI 0))).mpr z)
    refine g_aload_n hC dX3_walked_11 rfl rfl ?_
    refine g_iload_n hC dX3_walked_12 rfl ?_
    refine gi_X3_51 hC (is := [0, 1, 2, 3, 4, 5, 6, 7]) (st := []) (c_X3_refuse v rf go vm rm gm vt rt gt tk lt len op to on last num nin re (k := (kWalked nin x)) (kWalks_lt nin x (nI 0))) dX3_walked_13 rfl ⟨by decide, by decide⟩ ⟨by decide, by decide⟩ rfl (by decide) rfl rfl rfl ?_
    exact g_iret hC rfl dX3_walked_16 (⟨rV (by rw [Walked_no hk]; rfl), by rw [Walked_no hk]; exact ⟨_, _, _, _, _, _, _, _, _, rfl⟩⟩)

set_option maxRecDepth 100000 in
set_option maxHeartbeats 4000000 in
theorem c_X3_likeliest (v : Vw) (rf : Nat) (go : Nat → Nat) (vm : Vw) (rm : Nat) (gm : Nat → Nat) (vt : Vw) (rt : Nat) (gt : Nat → Nat) (tk : Bool) (lt : Nat → Nat) (len : Nat) (op : Nat → Nat) (to on : Nat → Nat → Nat) (last : Nat) (num : Nat → Nat) (nin : Nat) (re : Nat → Nat) (x y : Int32) (hv : wf 99 v) (hnin : nin ≤ 12) (hnum : ∀ r, r < 12 → num r ≤ 30) : Con yX3_likeliest cX3_likeliest 4 (some .int) 4 0 0 [aR 0 0 0, aI (x), aI (y)] (mainW v rf go vm rm gm vt rt gt tk lt len op to on last num nin re) (fun r M => r = some (aI (ansOf (oLikeliest v num nin x y))) ∧ PX v rf vt rt tk lt len num nin (bump re (oLikeliest v num nin x y)) M) := by
  refine con_of RX3 pn_X3 rfl rfl (Nat.le_of_ble_eq_true rfl) (fun C hM0 hC => ?_)
  show G C 0 0 0 [aR 0 0 0, aI (x), aI (y), aK 9] [] (mainW v rf go vm rm gm vt rt gt tk lt len op to on last num nin re)
  have hn4 := wf_n hv
  refine g_aload_n hC dX3_likeliest_0 rfl rfl ?_
  refine g_iload_n hC dX3_likeliest_1 rfl ?_
  refine g_iload_n hC dX3_likeliest_2 rfl ?_
  refine gi_X3_155 hC (is := [0, 1, 2, 3, 4, 5, 6, 7]) (st := []) (c_X3_walksRefusal v rf go vm rm gm vt rt gt tk lt len op to on last num nin re x y hnin) dX3_likeliest_3 rfl ⟨by decide, by decide⟩ ⟨by decide, by decide⟩ rfl (by decide) rfl rfl rfl ?_
  refine g_istore_n hC dX3_likeliest_6 (by decide) rfl ?_
  refine g_iload_n hC dX3_likeliest_7 rfl ?_
  refine g_if_eq (tgt := 17) hC dX3_likeliest_8 (by decide) (fun h_8 => ?_) (fun h_8 => ?_)
  · skip
    have hk := (neg_0 (kLikeliest nin x y) (kWalks_lt nin x y)).mp h_8
    obtain ⟨h6, n, k, rfl, rfl, hn8, hkn⟩ := walks_0 hk
    refine g_aload_n hC dX3_likeliest_17 rfl rfl ?_
    refine gf_X3_walks hC dX3_likeliest_18 rfl rfl ?_
    refine g_aload_n hC dX3_likeliest_21 rfl rfl ?_
    refine gf_X3_numbers hC dX3_likeliest_22 rfl rfl ?_
    refine g_iload_n hC dX3_likeliest_25 rfl ?_
    refine g_aload_n hC dX3_likeliest_26 rfl rfl ?_
    refine gf_X3_now hC dX3_likeliest_27 rfl rfl ?_
    refine gi_X3_158 hC (is := [5, 6, 1]) (st := []) (c_X2_find v rf go hv (by decide) op to on last num (fun r hr => by have := hnum r (by omega); omega) (show n ≤ 8 by omega)) dX3_likeliest_30 rfl ⟨by decide, by decide⟩ ⟨by decide, by decide⟩ rfl (by decide) rfl rfl rfl ?_
    refine g_aload_n hC dX3_likeliest_33 rfl rfl ?_
    refine gf_X3_walks hC dX3_likeliest_34 rfl rfl ?_
    refine g_iload_n hC dX3_likeliest_37 rfl ?_
    refine gi_X3_165 hC (is := [5]) (st := []) (c_X2_commonestRoom (opF num n op (n + 1)) (toF v num n to (n + 1) 0) (onR v num n on 0) n (show k < 9 by omega) (fun r hr => by rw [thru_at v num n to on hkn hr]; exact thru_lt v num hn8 hkn hr)) dX3_likeliest_38 rfl ⟨by decide, by decide⟩ ⟨by decide, by decide⟩ rfl (by decide) rfl rfl rfl ?_
    have ho := Likeliest_ok (v := v) (num := num) hk
    rw [tn_n (show n < 2 ^ 31 by omega), tn_n (show k < 2 ^ 31 by omega), ← com_congr (f := (fun r => (toF v num n to (n + 1) 0) k r * (onR v num n on 0) k r)) 6 (fun r hr => thru_at v num n to on hkn hr)] at ho
    exact g_iret hC rfl dX3_likeliest_41 (⟨rV (by rw [ho]; rfl), by rw [ho]; exact ⟨_, _, _, _, _, _, _, _, _, rfl⟩⟩)
  · skip
    have hk : kLikeliest nin x y ≠ 0 := fun z => h_8 ((neg_0 (kLikeliest nin x y) (kWalks_lt nin x y)).mpr z)
    refine g_aload_n hC dX3_likeliest_11 rfl rfl ?_
    refine g_iload_n hC dX3_likeliest_12 rfl ?_
    refine gi_X3_51 hC (is := [0, 1, 2, 3, 4, 5, 6, 7]) (st := []) (c_X3_refuse v rf go vm rm gm vt rt gt tk lt len op to on last num nin re (k := (kLikeliest nin x y)) (kWalks_lt nin x y)) dX3_likeliest_13 rfl ⟨by decide, by decide⟩ ⟨by decide, by decide⟩ rfl (by decide) rfl rfl rfl ?_
    exact g_iret hC rfl dX3_likeliest_16 (⟨rV (by rw [Likeliest_no hk]; rfl), by rw [Likeliest_no hk]; exact ⟨_, _, _, _, _, _, _, _, _, rfl⟩⟩)

set_option maxRecDepth 100000 in
set_option maxHeartbeats 4000000 in
theorem c_X3_sure (v : Vw) (rf : Nat) (go : Nat → Nat) (vm : Vw) (rm : Nat) (gm : Nat → Nat) (vt : Vw) (rt : Nat) (gt : Nat → Nat) (tk : Bool) (lt : Nat → Nat) (len : Nat) (op : Nat → Nat) (to on : Nat → Nat → Nat) (last : Nat) (num : Nat → Nat) (nin : Nat) (re : Nat → Nat) (x y : Int32) (hv : wf 99 v) (hnin : nin ≤ 12) (hnum : ∀ r, r < 12 → num r ≤ 30) : Con yX3_sure cX3_sure 4 (some .int) 4 0 0 [aR 0 0 0, aI (x), aI (y)] (mainW v rf go vm rm gm vt rt gt tk lt len op to on last num nin re) (fun r M => r = some (aI (ansOf (oSure v num nin x y))) ∧ PX v rf vt rt tk lt len num nin (bump re (oSure v num nin x y)) M) := by
  refine con_of RX3 pn_X3 rfl rfl (Nat.le_of_ble_eq_true rfl) (fun C hM0 hC => ?_)
  show G C 0 0 0 [aR 0 0 0, aI (x), aI (y), aK 9] [] (mainW v rf go vm rm gm vt rt gt tk lt len op to on last num nin re)
  have hn4 := wf_n hv
  refine g_aload_n hC dX3_sure_0 rfl rfl ?_
  refine g_iload_n hC dX3_sure_1 rfl ?_
  refine g_iload_n hC dX3_sure_2 rfl ?_
  refine gi_X3_155 hC (is := [0, 1, 2, 3, 4, 5, 6, 7]) (st := []) (c_X3_walksRefusal v rf go vm rm gm vt rt gt tk lt len op to on last num nin re x y hnin) dX3_sure_3 rfl ⟨by decide, by decide⟩ ⟨by decide, by decide⟩ rfl (by decide) rfl rfl rfl ?_
  refine g_istore_n hC dX3_sure_6 (by decide) rfl ?_
  refine g_iload_n hC dX3_sure_7 rfl ?_
  refine g_if_eq (tgt := 17) hC dX3_sure_8 (by decide) (fun h_8 => ?_) (fun h_8 => ?_)
  · skip
    have hk := (neg_0 (kSure nin x y) (kWalks_lt nin x y)).mp h_8
    obtain ⟨h6, n, k, rfl, rfl, hn8, hkn⟩ := walks_0 hk
    refine g_aload_n hC dX3_sure_17 rfl rfl ?_
    refine gf_X3_walks hC dX3_sure_18 rfl rfl ?_
    refine g_aload_n hC dX3_sure_21 rfl rfl ?_
    refine gf_X3_numbers hC dX3_sure_22 rfl rfl ?_
    refine g_iload_n hC dX3_sure_25 rfl ?_
    refine g_aload_n hC dX3_sure_26 rfl rfl ?_
    refine gf_X3_now hC dX3_sure_27 rfl rfl ?_
    refine gi_X3_158 hC (is := [5, 6, 1]) (st := []) (c_X2_find v rf go hv (by decide) op to on last num (fun r hr => by have := hnum r (by omega); omega) (show n ≤ 8 by omega)) dX3_sure_30 rfl ⟨by decide, by decide⟩ ⟨by decide, by decide⟩ rfl (by decide) rfl rfl rfl ?_
    refine g_aload_n hC dX3_sure_33 rfl rfl ?_
    refine gf_X3_walks hC dX3_sure_34 rfl rfl ?_
    refine g_iload_n hC dX3_sure_37 rfl ?_
    refine gi_X3_168 hC (is := [5]) (st := []) (c_X2_roomsThen (opF num n op (n + 1)) (toF v num n to (n + 1) 0) (onR v num n on 0) n (show k < 9 by omega) (fun r hr => by rw [thru_at v num n to on hkn hr]; exact thru_lt v num hn8 hkn hr)) dX3_sure_38 rfl ⟨by decide, by decide⟩ ⟨by decide, by decide⟩ rfl (by decide) rfl rfl rfl ?_
    have ho := Sure_ok (v := v) (num := num) hk
    rw [tn_n (show n < 2 ^ 31 by omega), tn_n (show k < 2 ^ 31 by omega), ← maskOf_congr (p := (fun r => decide (0 < (toF v num n to (n + 1) 0) k r * (onR v num n on 0) k r))) 6 (fun r hr => by rw [thru_at v num n to on hkn hr])] at ho
    exact g_iret hC rfl dX3_sure_41 (⟨rV (by rw [ho]; rfl), by rw [ho]; exact ⟨_, _, _, _, _, _, _, _, _, rfl⟩⟩)
  · skip
    have hk : kSure nin x y ≠ 0 := fun z => h_8 ((neg_0 (kSure nin x y) (kWalks_lt nin x y)).mpr z)
    refine g_aload_n hC dX3_sure_11 rfl rfl ?_
    refine g_iload_n hC dX3_sure_12 rfl ?_
    refine gi_X3_51 hC (is := [0, 1, 2, 3, 4, 5, 6, 7]) (st := []) (c_X3_refuse v rf go vm rm gm vt rt gt tk lt len op to on last num nin re (k := (kSure nin x y)) (kWalks_lt nin x y)) dX3_sure_13 rfl ⟨by decide, by decide⟩ ⟨by decide, by decide⟩ rfl (by decide) rfl rfl rfl ?_
    exact g_iret hC rfl dX3_sure_16 (⟨rV (by rw [Sure_no hk]; rfl), by rw [Sure_no hk]; exact ⟨_, _, _, _, _, _, _, _, _, rfl⟩⟩)

