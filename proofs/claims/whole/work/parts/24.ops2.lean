def oImage (v : Vw) : Ans := .inr (nI (vMi v))
def kOn (tk : Bool) : Nat := if tk = true then 0 else 3
def oOn (v : Vw) (rf : Nat) (vt : Vw) (rt : Nat) (tk : Bool) : Ans := if kOn tk = 0 then .inr (nI (vMi vt)) else .inl (kOn tk)
def nOn (v : Vw) (rf : Nat) (vt : Vw) (rt : Nat) (tk : Bool) : Vw := if kOn tk = 0 then becm v vt else v
def rOn (v : Vw) (rf : Nat) (vt : Vw) (rt : Nat) (tk : Bool) : Nat := if kOn tk = 0 then rt else rf
theorem On_no {v : Vw} {rf : Nat} {vt : Vw} {rt : Nat} {tk : Bool} (h : kOn tk ≠ 0) : oOn v rf vt rt tk = .inl (kOn tk) ∧ nOn v rf vt rt tk = v ∧ rOn v rf vt rt tk = rf := ⟨if_neg h, if_neg h, if_neg h⟩
theorem On_ok {v : Vw} {rf : Nat} {vt : Vw} {rt : Nat} {tk : Bool} (h : kOn tk = 0) : oOn v rf vt rt tk = .inr (nI (vMi vt)) ∧ nOn v rf vt rt tk = becm v vt ∧ rOn v rf vt rt tk = rt := ⟨if_pos h, if_pos h, if_pos h⟩
def oCount (v : Vw) (nin len : Nat) (re : Nat → Nat) (x : Int32) : Ans := match whi x 6 with
  | some 0 => .inr (nI (vN v))
  | some 1 => .inr (nI (sumN (fun r => pop (vPa v r)) 6 / 2))
  | some 2 => .inr (nI (vMi v))
  | some 3 => .inr (nI (vNo v))
  | some 4 => .inr (nI (sumN (traces v) 6))
  | some 5 => .inr (nI nin)
  | some 6 => .inr (nI len)
  | _ => if nI 11 ≤ x ∧ x ≤ nI 16 then .inr (nI (re (tn x - 10))) else .inr (-9)
theorem oCount_0 (v : Vw) (nin len : Nat) (re : Nat → Nat) : oCount v nin len re (nI 0) = .inr (nI (vN v)) := by
  unfold oCount
  rw [whi_in (by decide) (by decide)]
  rfl
theorem oCount_1 (v : Vw) (nin len : Nat) (re : Nat → Nat) : oCount v nin len re (nI 1) = .inr (nI (sumN (fun r => pop (vPa v r)) 6 / 2)) := by
  unfold oCount
  rw [whi_in (by decide) (by decide)]
  rfl
theorem oCount_2 (v : Vw) (nin len : Nat) (re : Nat → Nat) : oCount v nin len re (nI 2) = .inr (nI (vMi v)) := by
  unfold oCount
  rw [whi_in (by decide) (by decide)]
  rfl
theorem oCount_3 (v : Vw) (nin len : Nat) (re : Nat → Nat) : oCount v nin len re (nI 3) = .inr (nI (vNo v)) := by
  unfold oCount
  rw [whi_in (by decide) (by decide)]
  rfl
theorem oCount_4 (v : Vw) (nin len : Nat) (re : Nat → Nat) : oCount v nin len re (nI 4) = .inr (nI (sumN (traces v) 6)) := by
  unfold oCount
  rw [whi_in (by decide) (by decide)]
  rfl
theorem oCount_5 (v : Vw) (nin len : Nat) (re : Nat → Nat) : oCount v nin len re (nI 5) = .inr (nI nin) := by
  unfold oCount
  rw [whi_in (by decide) (by decide)]
  rfl
theorem oCount_6 (v : Vw) (nin len : Nat) (re : Nat → Nat) : oCount v nin len re (nI 6) = .inr (nI len) := by
  unfold oCount
  rw [whi_in (by decide) (by decide)]
  rfl
theorem oCount_re {v : Vw} {nin len : Nat} {re : Nat → Nat} {n : Nat} (h1 : 11 ≤ n) (h2 : n ≤ 16) : oCount v nin len re (nI n) = .inr (nI (re (n - 10))) := by
  unfold oCount
  rw [whi_out (Or.inr (by rw [nI_toInt (by omega)]; omega))]
  show (if _ then _ else _) = _
  rw [if_pos ⟨by rw [Int32.le_iff_toInt_le, nI_toInt (by omega), nI_toInt (by omega)]; omega, by rw [Int32.le_iff_toInt_le, nI_toInt (by omega), nI_toInt (by omega)]; omega⟩, tn_n (by omega)]
theorem oCount_no {v : Vw} {nin len : Nat} {re : Nat → Nat} {x : Int32} (h : x.toInt < 0 ∨ ((6 : Nat) : Int) < x.toInt) (h2 : ¬ (nI 11 ≤ x ∧ x ≤ nI 16)) : oCount v nin len re x = .inr (-9) := by
  unfold oCount
  rw [whi_out h]
  exact if_neg h2
theorem gt_10 {x : Int32} (h : ¬ x ≤ nI 10) : nI 11 ≤ x := by
  rw [Int32.le_iff_toInt_le, nI_toInt (by decide)] at h
  rw [Int32.le_iff_toInt_le, nI_toInt (by decide)]
  omega
theorem le_10 {x : Int32} (h : x ≤ nI 10) : ¬ nI 11 ≤ x := by
  rw [Int32.le_iff_toInt_le, nI_toInt (by decide)] at h
  rw [Int32.le_iff_toInt_le, nI_toInt (by decide)]
  omega
def kLetter (len : Nat) (x : Int32) : Nat := if x < 0 then 4 else if nI 255 < x ∨ 96 ≤ len then 6 else 0
theorem kLetter_4 {len : Nat} {x : Int32} (h : ¬ 0 ≤ x) : kLetter len x = 4 := if_pos (Int32.not_le.mp h)
theorem kLetter_6 {len : Nat} {x : Int32} (h : 0 ≤ x) (h2 : nI 255 < x ∨ 96 ≤ len) : kLetter len x = 6 := by
  unfold kLetter
  rw [if_neg (Int32.not_lt.mpr h), if_pos h2]
theorem kLetter_0 {len : Nat} {x : Int32} (h : 0 ≤ x) (h2 : ¬ nI 255 < x) (h3 : len < 96) : kLetter len x = 0 := by
  unfold kLetter
  rw [if_neg (Int32.not_lt.mpr h), if_neg (fun z => z.elim h2 (fun q => by omega))]
def oLetter (lt : Nat → Nat) (len : Nat) (x : Int32) : Ans := if kLetter len x = 0 then .inr (nI (len + 1)) else .inl (kLetter len x)
def tLetter (lt : Nat → Nat) (len : Nat) (x : Int32) : Nat → Nat := if kLetter len x = 0 then updN lt len (tn x) else lt
def lLetter (lt : Nat → Nat) (len : Nat) (x : Int32) : Nat := if kLetter len x = 0 then len + 1 else len
theorem Letter_no {lt : Nat → Nat} {len : Nat} {x : Int32} (h : kLetter len x ≠ 0) : oLetter lt len x = .inl (kLetter len x) ∧ tLetter lt len x = lt ∧ lLetter lt len x = len := ⟨if_neg h, if_neg h, if_neg h⟩
theorem Letter_ok {lt : Nat → Nat} {len : Nat} {x : Int32} (h : kLetter len x = 0) : oLetter lt len x = .inr (nI (len + 1)) ∧ tLetter lt len x = updN lt len (tn x) ∧ lLetter lt len x = len + 1 := ⟨if_pos h, if_pos h, if_pos h⟩
def kRow (nin : Nat) (x : Int32) : Nat := if x < 0 then 4 else if nI 30 < x ∨ 12 ≤ nin then 6 else 0
theorem kRow_4 {nin : Nat} {x : Int32} (h : ¬ 0 ≤ x) : kRow nin x = 4 := if_pos (Int32.not_le.mp h)
theorem kRow_6 {nin : Nat} {x : Int32} (h : 0 ≤ x) (h2 : nI 30 < x ∨ 12 ≤ nin) : kRow nin x = 6 := by
  unfold kRow
  rw [if_neg (Int32.not_lt.mpr h), if_pos h2]
theorem kRow_0 {nin : Nat} {x : Int32} (h : 0 ≤ x) (h2 : ¬ nI 30 < x) (h3 : nin < 12) : kRow nin x = 0 := by
  unfold kRow
  rw [if_neg (Int32.not_lt.mpr h), if_neg (fun z => z.elim h2 (fun q => by omega))]
def oRow (num : Nat → Nat) (nin : Nat) (x : Int32) : Ans := if kRow nin x = 0 then .inr (nI (nin + 1)) else .inl (kRow nin x)
def tRow (num : Nat → Nat) (nin : Nat) (x : Int32) : Nat → Nat := if kRow nin x = 0 then updN num nin (tn x) else num
def lRow (num : Nat → Nat) (nin : Nat) (x : Int32) : Nat := if kRow nin x = 0 then nin + 1 else nin
theorem Row_no {num : Nat → Nat} {nin : Nat} {x : Int32} (h : kRow nin x ≠ 0) : oRow num nin x = .inl (kRow nin x) ∧ tRow num nin x = num ∧ lRow num nin x = nin := ⟨if_neg h, if_neg h, if_neg h⟩
theorem Row_ok {num : Nat → Nat} {nin : Nat} {x : Int32} (h : kRow nin x = 0) : oRow num nin x = .inr (nI (nin + 1)) ∧ tRow num nin x = updN num nin (tn x) ∧ lRow num nin x = nin + 1 := ⟨if_pos h, if_pos h, if_pos h⟩
def oClear (nin : Nat) : Ans := .inr (nI nin)
set_option maxRecDepth 100000 in
set_option maxHeartbeats 4000000 in
theorem c_X3_image (v : Vw) (rf : Nat) (go : Nat → Nat) (vm : Vw) (rm : Nat) (gm : Nat → Nat) (vt : Vw) (rt : Nat) (gt : Nat → Nat) (tk : Bool) (lt : Nat → Nat) (len : Nat) (op : Nat → Nat) (to on : Nat → Nat → Nat) (last : Nat) (num : Nat → Nat) (nin : Nat) (re : Nat → Nat) (hv : wf 99 v) : Con yX3_image cX3_image 1 (some .int) 4 0 0 [aR 0 0 0] (mainW v rf go vm rm gm vt rt gt tk lt len op to on last num nin re) (fun r M => r = some (aI (ansOf (oImage v))) ∧ PX v rf (becm vt v) rf true lt len num nin (bump re (oImage v)) M) := by
  refine con_of RX3 pn_X3 rfl rfl (Nat.le_of_ble_eq_true rfl) (fun C hM0 hC => ?_)
  show G C 0 0 0 [aR 0 0 0] [] (mainW v rf go vm rm gm vt rt gt tk lt len op to on last num nin re)
  have hn4 := wf_n hv
  refine g_aload_n hC dX3_image_0 rfl rfl ?_
  refine gf_X3_taken hC dX3_image_1 rfl rfl ?_
  refine g_aload_n hC dX3_image_4 rfl rfl ?_
  refine gf_X3_now hC dX3_image_5 rfl rfl ?_
  refine gi_X3_148 hC (is := [3, 1]) (st := []) (c_X1_become vt v rt rf gt go hn4) dX3_image_8 rfl ⟨by decide, by decide⟩ ⟨by decide, by decide⟩ rfl (by decide) rfl rfl rfl ?_
  refine g_aload_n hC dX3_image_11 rfl rfl ?_
  refine g_iconst (v := nI (1)) hC dX3_image_12 (by decide) ?_
  refine gp_X3_isTaken hC dX3_image_13 rfl rfl rfl rfl ?_
  refine g_aload_n hC dX3_image_16 rfl rfl ?_
  refine gf_X3_now hC dX3_image_17 rfl rfl ?_
  refine gi_X3_115 hC (is := [1]) (st := []) (c_X1_minuteNow v rf go) dX3_image_20 rfl ⟨by decide, by decide⟩ ⟨by decide, by decide⟩ rfl (by decide) rfl rfl rfl ?_
  exact g_iret hC rfl dX3_image_23 (⟨rfl, ⟨_, _, _, _, _, _, _, _, _, rfl⟩⟩)

set_option maxRecDepth 100000 in
set_option maxHeartbeats 4000000 in
theorem c_X3_on (v : Vw) (rf : Nat) (go : Nat → Nat) (vm : Vw) (rm : Nat) (gm : Nat → Nat) (vt : Vw) (rt : Nat) (gt : Nat → Nat) (tk : Bool) (lt : Nat → Nat) (len : Nat) (op : Nat → Nat) (to on : Nat → Nat → Nat) (last : Nat) (num : Nat → Nat) (nin : Nat) (re : Nat → Nat) (hv : wf 99 v) (hvt : tk = true → wf 99 vt) : Con yX3_on cX3_on 1 (some .int) 4 0 0 [aR 0 0 0] (mainW v rf go vm rm gm vt rt gt tk lt len op to on last num nin re) (fun r M => r = some (aI (ansOf (oOn v rf vt rt tk))) ∧ PX (nOn v rf vt rt tk) (rOn v rf vt rt tk) vt rt tk lt len num nin (bump re (oOn v rf vt rt tk)) M) := by
  refine con_of RX3 pn_X3 rfl rfl (Nat.le_of_ble_eq_true rfl) (fun C hM0 hC => ?_)
  show G C 0 0 0 [aR 0 0 0] [] (mainW v rf go vm rm gm vt rt gt tk lt len op to on last num nin re)
  refine g_aload_n hC dX3_on_0 rfl rfl ?_
  refine gf_X3_isTaken hC dX3_on_1 rfl rfl ?_
  refine g_if_neB (tgt := 14) hC dX3_on_4 (by decide) (fun h_4 => ?_) (fun h_4 => ?_)
  · skip
    have hk : kOn tk = 0 := if_pos h_4
    refine g_aload_n hC dX3_on_14 rfl rfl ?_
    refine gf_X3_now hC dX3_on_15 rfl rfl ?_
    refine g_aload_n hC dX3_on_18 rfl rfl ?_
    refine gf_X3_taken hC dX3_on_19 rfl rfl ?_
    refine gi_X3_148 hC (is := [1, 3]) (st := []) (c_X1_become v vt rf rt go gt (wf_n (hvt h_4))) dX3_on_22 rfl ⟨by decide, by decide⟩ ⟨by decide, by decide⟩ rfl (by decide) rfl rfl rfl ?_
    refine g_aload_n hC dX3_on_25 rfl rfl ?_
    refine gf_X3_now hC dX3_on_26 rfl rfl ?_
    refine gi_X3_115 hC (is := [1]) (st := []) (c_X1_minuteNow (becm v vt) rt go) dX3_on_29 rfl ⟨by decide, by decide⟩ ⟨by decide, by decide⟩ rfl (by decide) rfl rfl rfl ?_
    exact g_iret hC rfl dX3_on_32 (⟨rV (by rw [(On_ok (v := v) (rf := rf) (vt := vt) (rt := rt) hk).1]; rfl), by rw [(On_ok (v := v) (rf := rf) (vt := vt) (rt := rt) hk).1, (On_ok (v := v) (rf := rf) (vt := vt) (rt := rt) hk).2.1, (On_ok (v := v) (rf := rf) (vt := vt) (rt := rt) hk).2.2]; exact ⟨_, _, _, _, _, _, _, _, _, rfl⟩⟩)
  · skip
    have hk3 : kOn tk = 3 := if_neg (by rw [h_4]; decide)
    have hk : kOn tk ≠ 0 := by rw [hk3]; decide
    refine g_aload_n hC dX3_on_7 rfl rfl ?_
    refine g_bipush (v := (-3)) hC dX3_on_8 (by decide) ?_
    refine gi_X3_51 hC (is := [0, 1, 2, 3, 4, 5, 6, 7]) (st := []) (c_X3_refuse v rf go vm rm gm vt rt gt tk lt len op to on last num nin re (k := 3) (by decide)) dX3_on_10 rfl ⟨by decide, by decide⟩ ⟨by decide, by decide⟩ rfl (by decide) rfl rfl rfl ?_
    have ho := On_no (v := v) (rf := rf) (vt := vt) (rt := rt) hk
    rw [hk3] at ho
    exact g_iret hC rfl dX3_on_13 (⟨rV (by rw [(ho).1]; rfl), by rw [(ho).1, (ho).2.1, (ho).2.2]; exact ⟨_, _, _, _, _, _, _, _, _, rfl⟩⟩)

set_option maxRecDepth 100000 in
set_option maxHeartbeats 4000000 in
theorem c_X3_count (v : Vw) (rf : Nat) (go : Nat → Nat) (vm : Vw) (rm : Nat) (gm : Nat → Nat) (vt : Vw) (rt : Nat) (gt : Nat → Nat) (tk : Bool) (lt : Nat → Nat) (len : Nat) (op : Nat → Nat) (to on : Nat → Nat → Nat) (last : Nat) (num : Nat → Nat) (nin : Nat) (re : Nat → Nat) (x : Int32) (hv : wf 99 v) : Con yX3_count cX3_count 2 (some .int) 3 0 0 [aR 0 0 0, aI (x)] (mainW v rf go vm rm gm vt rt gt tk lt len op to on last num nin re) (fun r M => r = some (aI (ansOf (oCount v nin len re x))) ∧ PX v rf vt rt tk lt len num nin (bump re (oCount v nin len re x)) M) := by
  refine con_of RX3 pn_X3 rfl rfl (Nat.le_of_ble_eq_true rfl) (fun C hM0 hC => ?_)
  show G C 0 0 0 [aR 0 0 0, aI (x)] [] (mainW v rf go vm rm gm vt rt gt tk lt len op to on last num nin re)
  refine g_iload_n hC dX3_count_0 rfl ?_
  rcases tab_cases x 6 (by decide) with ⟨i, hi, rfl⟩ | hout
  · rcases (by omega : i = 0 ∨ i = 1 ∨ i = 2 ∨ i = 3 ∨ i = 4 ∨ i = 5 ∨ i = 6) with rfl | rfl | rfl | rfl | rfl | rfl | rfl
    · refine g_tabIn (off := 43) (tgt := 44) hC dX3_count_1 (by decide) (by decide) (by decide) (by decide) ?_
      refine g_aload_n hC dX3_count_44 rfl rfl ?_
      refine gf_X3_now hC dX3_count_45 rfl rfl ?_
      refine gi_X3_185 hC (is := [1]) (st := []) (c_X1_walkersIn v rf go) dX3_count_48 rfl ⟨by decide, by decide⟩ ⟨by decide, by decide⟩ rfl (by decide) rfl rfl rfl ?_
      exact g_iret hC rfl dX3_count_51 (⟨rV (by rw [oCount_0 v nin len re]; rfl), by rw [oCount_0 v nin len re]; exact ⟨_, _, _, _, _, _, _, _, _, rfl⟩⟩)
    · refine g_tabIn (off := 51) (tgt := 52) hC dX3_count_1 (by decide) (by decide) (by decide) (by decide) ?_
      refine g_aload_n hC dX3_count_52 rfl rfl ?_
      refine gf_X3_now hC dX3_count_53 rfl rfl ?_
      refine gi_X3_188 hC (is := [1]) (st := []) (c_X1_pathsIn v rf go hv (by decide)) dX3_count_56 rfl ⟨by decide, by decide⟩ ⟨by decide, by decide⟩ rfl (by decide) rfl rfl rfl ?_
      exact g_iret hC rfl dX3_count_59 (⟨rV (by rw [oCount_1 v nin len re]; rfl), by rw [oCount_1 v nin len re]; exact ⟨_, _, _, _, _, _, _, _, _, rfl⟩⟩)
    · refine g_tabIn (off := 59) (tgt := 60) hC dX3_count_1 (by decide) (by decide) (by decide) (by decide) ?_
      refine g_aload_n hC dX3_count_60 rfl rfl ?_
      refine gf_X3_now hC dX3_count_61 rfl rfl ?_
      refine gi_X3_115 hC (is := [1]) (st := []) (c_X1_minuteNow v rf go) dX3_count_64 rfl ⟨by decide, by decide⟩ ⟨by decide, by decide⟩ rfl (by decide) rfl rfl rfl ?_
      exact g_iret hC rfl dX3_count_67 (⟨rV (by rw [oCount_2 v nin len re]; rfl), by rw [oCount_2 v nin len re]; exact ⟨_, _, _, _, _, _, _, _, _, rfl⟩⟩)
    · refine g_tabIn (off := 67) (tgt := 68) hC dX3_count_1 (by decide) (by decide) (by decide) (by decide) ?_
      refine g_aload_n hC dX3_count_68 rfl rfl ?_
      refine gf_X3_now hC dX3_count_69 rfl rfl ?_
      refine gi_X3_108 hC (is := [1]) (st := []) (c_X1_noseNow v rf go) dX3_count_72 rfl ⟨by decide, by decide⟩ ⟨by decide, by decide⟩ rfl (by decide) rfl rfl rfl ?_
      exact g_iret hC rfl dX3_count_75 (⟨rV (by rw [oCount_3 v nin len re]; rfl), by rw [oCount_3 v nin len re]; exact ⟨_, _, _, _, _, _, _, _, _, rfl⟩⟩)
    · refine g_tabIn (off := 75) (tgt := 76) hC dX3_count_1 (by decide) (by decide) (by decide) (by decide) ?_
      refine g_aload_n hC dX3_count_76 rfl rfl ?_
      refine gf_X3_now hC dX3_count_77 rfl rfl ?_
      refine gi_X3_191 hC (is := [1]) (st := []) (c_X1_allTraces v rf go hv (by decide)) dX3_count_80 rfl ⟨by decide, by decide⟩ ⟨by decide, by decide⟩ rfl (by decide) rfl rfl rfl ?_
      exact g_iret hC rfl dX3_count_83 (⟨rV (by rw [oCount_4 v nin len re]; rfl), by rw [oCount_4 v nin len re]; exact ⟨_, _, _, _, _, _, _, _, _, rfl⟩⟩)
    · refine g_tabIn (off := 83) (tgt := 84) hC dX3_count_1 (by decide) (by decide) (by decide) (by decide) ?_
      refine g_aload_n hC dX3_count_84 rfl rfl ?_
      refine gf_X3_numbersIn hC dX3_count_85 rfl rfl ?_
      exact g_iret hC rfl dX3_count_88 (⟨rV (by rw [oCount_5 v nin len re]; rfl), by rw [oCount_5 v nin len re]; exact ⟨_, _, _, _, _, _, _, _, _, rfl⟩⟩)
    · refine g_tabIn (off := 88) (tgt := 89) hC dX3_count_1 (by decide) (by decide) (by decide) (by decide) ?_
      refine g_aload_n hC dX3_count_89 rfl rfl ?_
      refine gf_X3_telling hC dX3_count_90 rfl rfl ?_
      refine gi_X3_194 hC (is := [4]) (st := []) (c_X0_lettersIn lt len) dX3_count_93 rfl ⟨by decide, by decide⟩ ⟨by decide, by decide⟩ rfl (by decide) rfl rfl rfl ?_
      exact g_iret hC rfl dX3_count_96 (⟨rV (by rw [oCount_6 v nin len re]; rfl), by rw [oCount_6 v nin len re]; exact ⟨_, _, _, _, _, _, _, _, _, rfl⟩⟩)
  · refine g_tabOut (tgt := 97) hC dX3_count_1 hout (by decide) ?_
    refine g_iload_n hC dX3_count_97 rfl ?_
    refine g_bipush (v := nI (10)) hC dX3_count_98 (by decide) ?_
    refine g_icmp_le (tgt := 121) hC dX3_count_100 (by decide) (fun h_100 => ?_) (fun h_100 => ?_)
    · skip
      refine g_bipush (v := (-9)) hC dX3_count_121 (by decide) ?_
      exact g_iret hC rfl dX3_count_123 (by first | exact ⟨rV (by rw [oCount_no hout (fun z => le_10 h_100 z.1)]; rfl), by rw [oCount_no hout (fun z => le_10 h_100 z.1)]; exact ⟨_, _, _, _, _, _, _, _, _, rfl⟩⟩ | exact ⟨rV (by rw [oCount_no hout (fun z => Int32.not_le.mpr h_106 z.2)]; rfl), by rw [oCount_no hout (fun z => Int32.not_le.mpr h_106 z.2)]; exact ⟨_, _, _, _, _, _, _, _, _, rfl⟩⟩)
    · skip
      refine g_iload_n hC dX3_count_103 rfl ?_
      refine g_bipush (v := nI (16)) hC dX3_count_104 (by decide) ?_
      refine g_icmp_gt (tgt := 121) hC dX3_count_106 (by decide) (fun h_106 => ?_) (fun h_106 => ?_)
      · skip
        refine g_bipush (v := (-9)) hC dX3_count_121 (by decide) ?_
        exact g_iret hC rfl dX3_count_123 (by first | exact ⟨rV (by rw [oCount_no hout (fun z => le_10 h_100 z.1)]; rfl), by rw [oCount_no hout (fun z => le_10 h_100 z.1)]; exact ⟨_, _, _, _, _, _, _, _, _, rfl⟩⟩ | exact ⟨rV (by rw [oCount_no hout (fun z => Int32.not_le.mpr h_106 z.2)]; rfl), by rw [oCount_no hout (fun z => Int32.not_le.mpr h_106 z.2)]; exact ⟨_, _, _, _, _, _, _, _, _, rfl⟩⟩)
      · skip
        obtain ⟨n, rfl, hn0, hn1⟩ := nI_betw (by decide) (by decide) (gt_10 h_100) (Int32.not_lt.mp h_106)
        refine g_aload_n hC dX3_count_109 rfl rfl ?_
        refine gf_X3_refused hC dX3_count_110 rfl rfl ?_
        refine g_iload_n hC dX3_count_113 rfl ?_
        refine g_bipush (v := nI (10)) hC dX3_count_114 (by decide) ?_
        refine g_isubN hC dX3_count_116 (by omega) ?_
        refine g_ialdN hC dX3_count_117 rfl (by omega) (by decide) ?_
        refine g_goto (tgt := 123) hC dX3_count_118 (by decide) ?_
        exact g_iret hC rfl dX3_count_123 (⟨rV (by rw [oCount_re hn0 hn1]; rfl), by rw [oCount_re hn0 hn1]; exact ⟨_, _, _, _, _, _, _, _, _, rfl⟩⟩)

set_option maxRecDepth 100000 in
set_option maxHeartbeats 4000000 in
theorem c_X3_letter (v : Vw) (rf : Nat) (go : Nat → Nat) (vm : Vw) (rm : Nat) (gm : Nat → Nat) (vt : Vw) (rt : Nat) (gt : Nat → Nat) (tk : Bool) (lt : Nat → Nat) (len : Nat) (op : Nat → Nat) (to on : Nat → Nat → Nat) (last : Nat) (num : Nat → Nat) (nin : Nat) (re : Nat → Nat) (x : Int32) (hlen : len ≤ 96) (hlt : ∀ j, j < len → lt j < 256) : Con yX3_letter cX3_letter 2 (some .int) 2 0 0 [aR 0 0 0, aI (x)] (mainW v rf go vm rm gm vt rt gt tk lt len op to on last num nin re) (fun r M => r = some (aI (ansOf (oLetter lt len x))) ∧ PX v rf vt rt tk (tLetter lt len x) (lLetter lt len x) num nin (bump re (oLetter lt len x)) M) := by
  refine con_of RX3 pn_X3 rfl rfl (Nat.le_of_ble_eq_true rfl) (fun C hM0 hC => ?_)
  show G C 0 0 0 [aR 0 0 0, aI (x)] [] (mainW v rf go vm rm gm vt rt gt tk lt len op to on last num nin re)
  refine g_iload_n hC dX3_letter_0 rfl ?_
  refine g_if_ge (tgt := 11) hC dX3_letter_1 (by decide) (fun h_1 => ?_) (fun h_1 => ?_)
  · skip
    refine g_iload_n hC dX3_letter_11 rfl ?_
    refine g_sipush (v := nI (255)) hC dX3_letter_12 (by decide) ?_
    refine g_icmp_gt (tgt := 28) hC dX3_letter_15 (by decide) (fun h_15 => ?_) (fun h_15 => ?_)
    · skip
      have h6 := kLetter_6 (len := len) h_1 (Or.inl h_15)
      refine g_aload_n hC dX3_letter_28 rfl rfl ?_
      refine g_bipush (v := (-6)) hC dX3_letter_29 (by decide) ?_
      refine gi_X3_51 hC (is := [0, 1, 2, 3, 4, 5, 6, 7]) (st := []) (c_X3_refuse v rf go vm rm gm vt rt gt tk lt len op to on last num nin re (k := 6) (by decide)) dX3_letter_31 rfl ⟨by decide, by decide⟩ ⟨by decide, by decide⟩ rfl (by decide) rfl rfl rfl ?_
      have ho := Letter_no (lt := lt) (len := len) (x := x) (by rw [h6]; decide)
      rw [h6] at ho
      exact g_iret hC rfl dX3_letter_34 (⟨rV (by rw [(ho).1]; rfl), by rw [(ho).1, (ho).2.1, (ho).2.2]; exact ⟨_, _, _, _, _, _, _, _, _, rfl⟩⟩)
    · skip
      refine g_aload_n hC dX3_letter_18 rfl rfl ?_
      refine gf_X3_telling hC dX3_letter_19 rfl rfl ?_
      refine gi_X3_55 hC (is := [4]) (st := []) (c_X0_isFull lt len hlen hlt) dX3_letter_22 rfl ⟨by decide, by decide⟩ ⟨by decide, by decide⟩ rfl (by decide) rfl rfl rfl ?_
      refine g_if_eqB (tgt := 35) hC dX3_letter_25 (by decide) (fun h_25 => ?_) (fun h_25 => ?_)
      · skip
        have hf := of_decide_eq_false h_25
        have hk := kLetter_0 (len := len) h_1 h_15 (by omega)
        obtain ⟨n, rfl, hn0, hn1⟩ := nI_betw (a := 0) (by decide) (by decide) h_1 (Int32.not_lt.mp h_15)
        refine g_aload_n hC dX3_letter_35 rfl rfl ?_
        refine gf_X3_telling hC dX3_letter_36 rfl rfl ?_
        refine g_iload_n hC dX3_letter_39 rfl ?_
        refine gi_X3_59 hC (is := [4]) (st := []) (c_X0_take lt len n (by omega) hlt) dX3_letter_40 rfl ⟨by decide, by decide⟩ ⟨by decide, by decide⟩ rfl (by decide) rfl rfl rfl ?_
        have ho := Letter_ok (lt := lt) hk
        rw [tn_n (show n < 2 ^ 31 by omega)] at ho
        exact g_iret hC rfl dX3_letter_43 (⟨rV (by rw [(ho).1]; rfl), by rw [(ho).1, (ho).2.1, (ho).2.2]; exact ⟨_, _, _, _, _, _, _, _, _, rfl⟩⟩)
      · skip
        have h6 := kLetter_6 (x := x) h_1 (Or.inr (of_decide_eq_true h_25))
        refine g_aload_n hC dX3_letter_28 rfl rfl ?_
        refine g_bipush (v := (-6)) hC dX3_letter_29 (by decide) ?_
        refine gi_X3_51 hC (is := [0, 1, 2, 3, 4, 5, 6, 7]) (st := []) (c_X3_refuse v rf go vm rm gm vt rt gt tk lt len op to on last num nin re (k := 6) (by decide)) dX3_letter_31 rfl ⟨by decide, by decide⟩ ⟨by decide, by decide⟩ rfl (by decide) rfl rfl rfl ?_
        have ho := Letter_no (lt := lt) (len := len) (x := x) (by rw [h6]; decide)
        rw [h6] at ho
        exact g_iret hC rfl dX3_letter_34 (⟨rV (by rw [(ho).1]; rfl), by rw [(ho).1, (ho).2.1, (ho).2.2]; exact ⟨_, _, _, _, _, _, _, _, _, rfl⟩⟩)
  · skip
    have h4 := kLetter_4 (len := len) h_1
    refine g_aload_n hC dX3_letter_4 rfl rfl ?_
    refine g_bipush (v := (-4)) hC dX3_letter_5 (by decide) ?_
    refine gi_X3_51 hC (is := [0, 1, 2, 3, 4, 5, 6, 7]) (st := []) (c_X3_refuse v rf go vm rm gm vt rt gt tk lt len op to on last num nin re (k := 4) (by decide)) dX3_letter_7 rfl ⟨by decide, by decide⟩ ⟨by decide, by decide⟩ rfl (by decide) rfl rfl rfl ?_
    have ho := Letter_no (lt := lt) (len := len) (x := x) (by rw [h4]; decide)
    rw [h4] at ho
    exact g_iret hC rfl dX3_letter_10 (⟨rV (by rw [(ho).1]; rfl), by rw [(ho).1, (ho).2.1, (ho).2.2]; exact ⟨_, _, _, _, _, _, _, _, _, rfl⟩⟩)

set_option maxRecDepth 100000 in
set_option maxHeartbeats 4000000 in
theorem c_X3_row (v : Vw) (rf : Nat) (go : Nat → Nat) (vm : Vw) (rm : Nat) (gm : Nat → Nat) (vt : Vw) (rt : Nat) (gt : Nat → Nat) (tk : Bool) (lt : Nat → Nat) (len : Nat) (op : Nat → Nat) (to on : Nat → Nat → Nat) (last : Nat) (num : Nat → Nat) (nin : Nat) (re : Nat → Nat) (x : Int32) (hnin : nin ≤ 12) : Con yX3_row cX3_row 2 (some .int) 1 0 0 [aR 0 0 0, aI (x)] (mainW v rf go vm rm gm vt rt gt tk lt len op to on last num nin re) (fun r M => r = some (aI (ansOf (oRow num nin x))) ∧ PX v rf vt rt tk lt len (tRow num nin x) (lRow num nin x) (bump re (oRow num nin x)) M) := by
  refine con_of RX3 pn_X3 rfl rfl (Nat.le_of_ble_eq_true rfl) (fun C hM0 hC => ?_)
  show G C 0 0 0 [aR 0 0 0, aI (x)] [] (mainW v rf go vm rm gm vt rt gt tk lt len op to on last num nin re)
  refine g_iload_n hC dX3_row_0 rfl ?_
  refine g_if_ge (tgt := 11) hC dX3_row_1 (by decide) (fun h_1 => ?_) (fun h_1 => ?_)
  · skip
    refine g_iload_n hC dX3_row_11 rfl ?_
    refine g_bipush (v := nI (30)) hC dX3_row_12 (by decide) ?_
    refine g_icmp_gt (tgt := 26) hC dX3_row_14 (by decide) (fun h_14 => ?_) (fun h_14 => ?_)
    · skip
      have h6 := kRow_6 (nin := nin) h_1 (Or.inl h_14)
      refine g_aload_n hC dX3_row_26 rfl rfl ?_
      refine g_bipush (v := (-6)) hC dX3_row_27 (by decide) ?_
      refine gi_X3_51 hC (is := [0, 1, 2, 3, 4, 5, 6, 7]) (st := []) (c_X3_refuse v rf go vm rm gm vt rt gt tk lt len op to on last num nin re (k := 6) (by decide)) dX3_row_29 rfl ⟨by decide, by decide⟩ ⟨by decide, by decide⟩ rfl (by decide) rfl rfl rfl ?_
      have ho := Row_no (num := num) (nin := nin) (x := x) (by rw [h6]; decide)
      rw [h6] at ho
      exact g_iret hC rfl dX3_row_32 (⟨rV (by rw [(ho).1]; rfl), by rw [(ho).1, (ho).2.1, (ho).2.2]; exact ⟨_, _, _, _, _, _, _, _, _, rfl⟩⟩)
    · skip
      refine g_aload_n hC dX3_row_17 rfl rfl ?_
      refine gf_X3_numbersIn hC dX3_row_18 rfl rfl ?_
      refine g_bipush (v := nI (12)) hC dX3_row_21 (by decide) ?_
      refine g_icmp_ltN (tgt := 33) hC dX3_row_23 (by decide) (by omega) (by omega) (fun h_23 => ?_) (fun h_23 => ?_)
      · skip
        have hk := kRow_0 (nin := nin) h_1 h_14 (by omega)
        obtain ⟨n, rfl, hn0, hn1⟩ := nI_betw (a := 0) (by decide) (by decide) h_1 (Int32.not_lt.mp h_14)
        refine g_aload_n hC dX3_row_33 rfl rfl ?_
        refine gf_X3_numbers hC dX3_row_34 rfl rfl ?_
        refine g_aload_n hC dX3_row_37 rfl rfl ?_
        refine gf_X3_numbersIn hC dX3_row_38 rfl rfl ?_
        refine g_iload_n hC dX3_row_41 rfl ?_
        refine g_iastN hC dX3_row_42 rfl (by omega) (by decide) ?_
        refine g_aload_n hC dX3_row_43 rfl rfl ?_
        refine g_dup hC dX3_row_44 rfl ?_
        refine gf_X3_numbersIn hC dX3_row_45 rfl rfl ?_
        refine g_iconst (v := nI (1)) hC dX3_row_48 (by decide) ?_
        refine g_iaddN hC dX3_row_49 ?_
        refine gp_X3_numbersIn hC dX3_row_50 rfl rfl ?_
        refine g_aload_n hC dX3_row_53 rfl rfl ?_
        refine gf_X3_numbersIn hC dX3_row_54 rfl rfl ?_
        have ho := Row_ok (num := num) hk
        rw [tn_n (show n < 2 ^ 31 by omega)] at ho
        exact g_iret hC rfl dX3_row_57 (⟨rV (by rw [(ho).1]; rfl), by rw [(ho).1, (ho).2.1, (ho).2.2]; exact ⟨_, _, _, _, _, _, _, _, _, rfl⟩⟩)
      · skip
        have h6 := kRow_6 (x := x) h_1 (Or.inr h_23)
        refine g_aload_n hC dX3_row_26 rfl rfl ?_
        refine g_bipush (v := (-6)) hC dX3_row_27 (by decide) ?_
        refine gi_X3_51 hC (is := [0, 1, 2, 3, 4, 5, 6, 7]) (st := []) (c_X3_refuse v rf go vm rm gm vt rt gt tk lt len op to on last num nin re (k := 6) (by decide)) dX3_row_29 rfl ⟨by decide, by decide⟩ ⟨by decide, by decide⟩ rfl (by decide) rfl rfl rfl ?_
        have ho := Row_no (num := num) (nin := nin) (x := x) (by rw [h6]; decide)
        rw [h6] at ho
        exact g_iret hC rfl dX3_row_32 (⟨rV (by rw [(ho).1]; rfl), by rw [(ho).1, (ho).2.1, (ho).2.2]; exact ⟨_, _, _, _, _, _, _, _, _, rfl⟩⟩)
  · skip
    have h4 := kRow_4 (nin := nin) h_1
    refine g_aload_n hC dX3_row_4 rfl rfl ?_
    refine g_bipush (v := (-4)) hC dX3_row_5 (by decide) ?_
    refine gi_X3_51 hC (is := [0, 1, 2, 3, 4, 5, 6, 7]) (st := []) (c_X3_refuse v rf go vm rm gm vt rt gt tk lt len op to on last num nin re (k := 4) (by decide)) dX3_row_7 rfl ⟨by decide, by decide⟩ ⟨by decide, by decide⟩ rfl (by decide) rfl rfl rfl ?_
    have ho := Row_no (num := num) (nin := nin) (x := x) (by rw [h4]; decide)
    rw [h4] at ho
    exact g_iret hC rfl dX3_row_10 (⟨rV (by rw [(ho).1]; rfl), by rw [(ho).1, (ho).2.1, (ho).2.2]; exact ⟨_, _, _, _, _, _, _, _, _, rfl⟩⟩)

set_option maxRecDepth 100000 in
set_option maxHeartbeats 4000000 in
theorem c_X3_clear (v : Vw) (rf : Nat) (go : Nat → Nat) (vm : Vw) (rm : Nat) (gm : Nat → Nat) (vt : Vw) (rt : Nat) (gt : Nat → Nat) (tk : Bool) (lt : Nat → Nat) (len : Nat) (op : Nat → Nat) (to on : Nat → Nat → Nat) (last : Nat) (num : Nat → Nat) (nin : Nat) (re : Nat → Nat)  : Con yX3_clear cX3_clear 2 (some .int) 0 0 0 [aR 0 0 0] (mainW v rf go vm rm gm vt rt gt tk lt len op to on last num nin re) (fun r M => r = some (aI (ansOf (oClear nin))) ∧ PX v rf vt rt tk lt len num 0 (bump re (oClear nin)) M) := by
  refine con_of RX3 pn_X3 rfl rfl (Nat.le_of_ble_eq_true rfl) (fun C hM0 hC => ?_)
  show G C 0 0 0 [aR 0 0 0, aK 9] [] (mainW v rf go vm rm gm vt rt gt tk lt len op to on last num nin re)
  refine g_aload_n hC dX3_clear_0 rfl rfl ?_
  refine gf_X3_numbersIn hC dX3_clear_1 rfl rfl ?_
  refine g_istore_n hC dX3_clear_4 (by decide) rfl ?_
  refine g_aload_n hC dX3_clear_5 rfl rfl ?_
  refine g_iconst (v := nI (0)) hC dX3_clear_6 (by decide) ?_
  refine gp_X3_numbersIn hC dX3_clear_7 rfl rfl ?_
  refine g_iload_n hC dX3_clear_10 rfl ?_
  exact g_iret hC rfl dX3_clear_11 (⟨rfl, ⟨_, _, _, _, _, _, _, _, _, rfl⟩⟩)

