/-! ===== letters ===== -/
def kix (c : Nat) : Option Nat := if c = 119 then some 0 else if c = 108 then some 1 else if c = 102 then some 2 else if c = 115 then some 3 else if c = 98 then some 4 else if c = 99 then some 5 else none
theorem ki_hit : ∀ c, c < 256 → ∀ k, k < 6 → txt.getD k 0 = (nI c).toInt8.toInt32 → kix c = some k := by decide +kernel
theorem ki_miss : ∀ c, c < 256 → (∀ k, k < 6 → txt.getD k 0 ≠ (nI c).toInt8.toInt32) → kix c = none := by decide +kernel
theorem i2c_b : ∀ c, c < 256 → ((nI c).toUInt32 % 65536).toInt32 = nI c := by decide +kernel
def tellG (lt : Nat → Nat) (len : Nat) : List ACell := [cO 0 [sR 1, sI (nI len)], cA 96 (fun j => nI (lt j))]
def ltr (lt : Nat → Nat) (len p : Nat) : Option Nat := if p < len then some (lt p) else none
theorem ltr_some {lt : Nat → Nat} {len p : Nat} (h : p < len) : ltr lt len p = some (lt p) := if_pos h
theorem ltr_none {lt : Nat → Nat} {len p : Nat} (h : len ≤ p) : ltr lt len p = none := if_neg (by omega)
theorem ltr_lt {lt : Nat → Nat} {len p : Nat} (h : ∀ j, j < len → lt j < 256) : ∀ c, ltr lt len p = some c → c < 256 := by
  intro c q
  unfold ltr at q
  split at q
  next h1 => cases q; exact h _ h1
  next => cases q
theorem ltr_in {lt : Nat → Nat} {len p c : Nat} (h : ltr lt len p = some c) : p < len ∧ lt p = c := by
  unfold ltr at h
  split at h
  next h1 => cases h; exact ⟨h1, rfl⟩
  next => cases h
def dig (o : Option Nat) : Bool := match o with
  | some c => decide (48 ≤ c) && decide (c ≤ 57)
  | none => false
theorem ni_lt : ∀ a, a < 256 → ∀ b, b < 256 → (nI a < nI b ↔ a < b) := by
  intro a ha b hb
  rw [Int32.lt_iff_toInt_lt, nI_toInt (by omega), nI_toInt (by omega)]
  omega
theorem dig_no1 {o : Option Nat} (ho : ∀ c, o = some c → c < 256) (h : oI (-1) o < nI 48) : dig o = false := by
  cases o with
  | none => rfl
  | some c =>
    have := (ni_lt c (ho c rfl) 48 (by decide)).mp h
    show (decide (48 ≤ c) && decide (c ≤ 57)) = false
    rw [decide_eq_false (by omega)]
    rfl
theorem dig_no2 {o : Option Nat} (ho : ∀ c, o = some c → c < 256) (h : nI 57 < oI (-1) o) : dig o = false := by
  cases o with
  | none => rfl
  | some c =>
    have := (ni_lt 57 (by decide) c (ho c rfl)).mp h
    show (decide (48 ≤ c) && decide (c ≤ 57)) = false
    rw [decide_eq_false (show ¬ c ≤ 57 by omega), Bool.and_false]
theorem dig_yes {o : Option Nat} (ho : ∀ c, o = some c → c < 256) (h : ¬ oI (-1) o < nI 48) (h2 : ¬ nI 57 < oI (-1) o) : dig o = true := by
  cases o with
  | none => exact absurd (by decide) h
  | some c =>
    have h3 : ¬ c < 48 := fun z => h ((ni_lt c (ho c rfl) 48 (by decide)).mpr z)
    have h4 : ¬ 57 < c := fun z => h2 ((ni_lt 57 (by decide) c (ho c rfl)).mpr z)
    show (decide (48 ≤ c) && decide (c ≤ 57)) = true
    rw [decide_eq_true (by omega), decide_eq_true (by omega)]
    rfl
theorem dig_some {o : Option Nat} (h : dig o = true) : ∃ d, d < 10 ∧ o = some (48 + d) := by
  cases o with
  | none => cases h
  | some c =>
    have h : (decide (48 ≤ c) && decide (c ≤ 57)) = true := h
    simp only [Bool.and_eq_true, decide_eq_true_eq] at h
    exact ⟨c - 48, by omega, by congr 1; omega⟩
def kin (o : Option Nat) : Option Nat := match o with
  | some c => kix c
  | none => none
theorem kix_lt {c k : Nat} (h : kix c = some k) : k < 6 := by
  unfold kix at h
  repeat' split at h
  all_goals (cases h; try omega)
theorem kin_lt {o : Option Nat} : ∀ k, kin o = some k → k < 6 := by
  intro k h
  cases o with
  | none => cases h
  | some c => exact kix_lt h
/-- the least digits of a statement, by its head -/
def ld (o : Option Nat) : Nat := if o = some 112 ∨ o = some 119 then 2 else if o = some 114 ∨ o = some 110 ∨ o = some 97 then 1 else 0
def md (o : Option Nat) : Nat := if o = some 97 then 7 else ld o
theorem md_ne {o : Option Nat} (h : o ≠ some 97) : md o = ld o := if_neg h
theorem ld_0 {o : Option Nat} (h1 : o ≠ some 97) (h2 : o ≠ some 110) (h3 : o ≠ some 112) (h4 : o ≠ some 114) (h5 : o ≠ some 119) : ld o = 0 := by unfold ld; rw [if_neg (by simp [h3, h5]), if_neg (by simp [h1, h2, h4])]
theorem ld_off {o : Option Nat} (ho : ∀ c, o = some c → c < 256) (h1 : o ≠ some 97) (h2 : o ≠ some 110) (h3 : o ≠ some 112) (h4 : o ≠ some 114) (h5 : o ≠ some 119) : Op.lookupswitch.offset #[(97, 53), (110, 53), (112, 51), (114, 53), (119, 51)].toList 55 (oI (-1) o).toInt = 55 := by
  cases o with
  | none => decide
  | some c =>
    have hc := ho c rfl
    have e1 : c ≠ 97 := fun z => h1 (by rw [z])
    have e2 : c ≠ 110 := fun z => h2 (by rw [z])
    have e3 : c ≠ 112 := fun z => h3 (by rw [z])
    have e4 : c ≠ 114 := fun z => h4 (by rw [z])
    have e5 : c ≠ 119 := fun z => h5 (by rw [z])
    show Op.lookupswitch.offset _ 55 (nI c).toInt = 55
    rw [nI_toInt (by omega)]
    simp [Op.lookupswitch.offset, Op.lookupswitch.offset_cons]
    omega
theorem ld_le (o : Option Nat) : ld o ≤ 2 := by
  unfold ld
  split
  · omega
  · split <;> omega
theorem md_le (o : Option Nat) : md o ≤ 7 := by
  unfold md
  split
  · exact Nat.le_refl _
  · have := ld_le o; omega
/-- how many of the first m hold without a gap -/
def rn (d : Nat → Bool) : Nat → Nat
  | 0 => 0
  | m + 1 => if rn d m = m ∧ d m = true then m + 1 else rn d m
theorem rn_spec (d : Nat → Bool) : ∀ m, rn d m ≤ m ∧ (∀ i, i < rn d m → d i = true) ∧ (rn d m < m → d (rn d m) = false)
  | 0 => ⟨Nat.le_refl _, fun i h => absurd h (Nat.not_lt_zero _), fun h => absurd h (Nat.not_lt_zero _)⟩
  | m + 1 => by
    obtain ⟨a, b, c⟩ := rn_spec d m
    unfold rn
    split
    next h =>
      refine ⟨Nat.le_refl _, fun i hi => ?_, fun h => absurd h (Nat.lt_irrefl _)⟩
      by_cases e : i = m
      · rw [e]; exact h.2
      · exact b i (by rw [h.1]; omega)
    next h =>
      refine ⟨by omega, b, fun _ => ?_⟩
      by_cases e : rn d m = m
      · rw [e]
        cases q : d m
        · rfl
        · exact absurd ⟨e, q⟩ h
      · exact c (by omega)
theorem rn_eq {d : Nat → Bool} {m k : Nat} (h : ∀ i, i < k → d i = true) (h2 : k = m ∨ (k < m ∧ d k = false)) : rn d m = k := by
  obtain ⟨a, b, c⟩ := rn_spec d m
  rcases Nat.lt_trichotomy (rn d m) k with q | q | q
  · have h3 := c (by omega)
    rw [h _ q] at h3
    cases h3
  · exact q
  · rcases h2 with e | ⟨e1, e2⟩
    · omega
    · have h3 := b k q
      rw [e2] at h3
      cases h3
set_option maxRecDepth 100000 in
set_option maxHeartbeats 4000000 in
theorem c_J0_isLatin1_aae02  : ConF yJ0_isLatin1_aae02 cJ0_isLatin1_aae02 1 (some .boolean) 0 [aK 1] [] (some (aI (bI true))) [] := by
  refine con_of RJ0 pn_J0 rfl rfl (Nat.le_of_ble_eq_true rfl) (fun C hM0 hC => ?_)
  show G C 0 0 0 [aK 1] [] []
  refine g_compact hC dJ0_isLatin1_aae02_0 ?_
  refine g_if_eqN (tgt := 17) hC dJ0_isLatin1_aae02_3 (by decide) (by omega) (fun h_3 => ?_) (fun h_3 => ?_)
  · skip
    omega
  · skip
    refine g_aload_n hC dJ0_isLatin1_aae02_6 rfl rfl ?_
    refine g_txtC hC dJ0_isLatin1_aae02_7 ?_
    refine g_if_neN (tgt := 17) hC dJ0_isLatin1_aae02_10 (by decide) (by omega) (fun h_10 => ?_) (fun h_10 => ?_)
    · skip
      omega
    · skip
      refine g_iconst (v := nI (1)) hC dJ0_isLatin1_aae02_13 (by decide) ?_
      refine g_goto (tgt := 18) hC dJ0_isLatin1_aae02_14 (by decide) ?_
      exact g_zret hC rfl rfl dJ0_isLatin1_aae02_18 (⟨rfl, rfl⟩)

set_option maxRecDepth 100000 in
set_option maxHeartbeats 4000000 in
theorem c_J0_coder_7d493  : ConF yJ0_coder_7d493 cJ0_coder_7d493 1 (some .byte) 0 [aK 1] [] (some (aI (nI 0))) [] := by
  refine con_of RJ0 pn_J0 rfl rfl (Nat.le_of_ble_eq_true rfl) (fun C hM0 hC => ?_)
  show G C 0 0 0 [aK 1] [] []
  refine g_compact hC dJ0_coder_7d493_0 ?_
  refine g_if_eqN (tgt := 13) hC dJ0_coder_7d493_3 (by decide) (by omega) (fun h_3 => ?_) (fun h_3 => ?_)
  · skip
    omega
  · skip
    refine g_aload_n hC dJ0_coder_7d493_6 rfl rfl ?_
    refine g_txtC hC dJ0_coder_7d493_7 ?_
    refine g_goto (tgt := 14) hC dJ0_coder_7d493_10 (by decide) ?_
    exact g_zret hC rfl rfl dJ0_coder_7d493_14 (⟨rfl, rfl⟩)

set_option maxRecDepth 100000 in
set_option maxHeartbeats 4000000 in
theorem c_J0_length_8abf5  : ConF yJ0_length_8abf5 cJ0_length_8abf5 1 (some .int) 1 [aK 1] [] (some (aI (nI 6))) [] := by
  refine con_of RJ0 pn_J0 rfl rfl (Nat.le_of_ble_eq_true rfl) (fun C hM0 hC => ?_)
  show G C 0 0 0 [aK 1] [] []
  refine g_aload_n hC dJ0_length_8abf5_0 rfl rfl ?_
  refine g_txtV hC dJ0_length_8abf5_1 ?_
  refine g_txtL hC dJ0_length_8abf5_4 ?_
  refine g_aload_n hC dJ0_length_8abf5_5 rfl rfl ?_
  refine g_invTF (is := []) (st := [aI (nI (6))]) hC (c_J0_coder_7d493) dJ0_length_8abf5_6 tw_1_188 tw_1_189 tw_1_190 tw_1_6 tw_1_191 rfl hy_J0_coder_7d493 rfl ⟨by decide, by decide⟩ ⟨by decide, by decide⟩ rfl (by decide) rfl rfl ?_
  refine g_ishr (v := nI (6)) hC dJ0_length_8abf5_9 (by decide) ?_
  exact g_iret hC rfl dJ0_length_8abf5_10 (⟨rfl, rfl⟩)

set_option maxRecDepth 100000 in
set_option maxHeartbeats 4000000 in
theorem c_J1_canEncode_9a6ad {c : Nat} (hc : c < 256) : ConF yJ1_canEncode_9a6ad cJ1_canEncode_9a6ad 1 (some .boolean) 0 [aI (nI (c))] [] (some (aI (bI true))) [] := by
  refine con_of RJ1 pn_J1 rfl rfl (Nat.le_of_ble_eq_true rfl) (fun C hM0 hC => ?_)
  show G C 0 0 0 [aI (nI (c))] [] []
  refine g_iload_n hC dJ1_canEncode_9a6ad_0 rfl ?_
  refine g_if_ltN (tgt := 15) hC dJ1_canEncode_9a6ad_1 (by decide) (by omega) (fun h_1 => ?_) (fun h_1 => ?_)
  · skip
    omega
  · skip
    refine g_iload_n hC dJ1_canEncode_9a6ad_4 rfl ?_
    refine g_sipush (v := nI (255)) hC dJ1_canEncode_9a6ad_5 (by decide) ?_
    refine g_icmp_gtN (tgt := 15) hC dJ1_canEncode_9a6ad_8 (by decide) (by omega) (by omega) (fun h_8 => ?_) (fun h_8 => ?_)
    · skip
      omega
    · skip
      refine g_iconst (v := nI (1)) hC dJ1_canEncode_9a6ad_11 (by decide) ?_
      refine g_goto (tgt := 16) hC dJ1_canEncode_9a6ad_12 (by decide) ?_
      exact g_zret hC rfl rfl dJ1_canEncode_9a6ad_16 (⟨rfl, rfl⟩)

set_option maxRecDepth 100000 in
set_option maxHeartbeats 4000000 in
theorem c_J1_indexOfChar_4cfef {c : Nat} (hc : c < 256) : ConF yJ1_indexOfChar_4cfef cJ1_indexOfChar_4cfef 6 (some .int) 0 [aK 2, aI (nI (c)), aI (nI (0)), aI (nI (6))] [] (some (aI (oI (-1) (kix c)))) [] := by
  refine con_of RJ1 pn_J1 rfl rfl (Nat.le_of_ble_eq_true rfl) (fun C hM0 hC => ?_)
  show G C 0 0 0 [aK 2, aI (nI (c)), aI (nI (0)), aI (nI (6)), aK 9, aK 9] [] []
  refine g_iload_n hC dJ1_indexOfChar_4cfef_0 rfl ?_
  refine g_i2b (v := (nI c).toInt8.toInt32) hC dJ1_indexOfChar_4cfef_1 (rfl) ?_
  refine g_istore hC dJ1_indexOfChar_4cfef_2 (by decide) rfl ?_
  refine g_iload_n hC dJ1_indexOfChar_4cfef_4 rfl ?_
  refine g_istore hC dJ1_indexOfChar_4cfef_5 (by decide) rfl ?_
  refine g_iload hC dJ1_indexOfChar_4cfef_7 rfl ?_
  refine g_iload_n hC dJ1_indexOfChar_4cfef_9 rfl ?_
  refine g_icmp_geN (tgt := 31) hC dJ1_indexOfChar_4cfef_10 (by decide) (by omega) (by omega) (fun h_10 => ?_) (fun h_10 => ?_)
  · skip
    omega
  · skip
    refine g_aload_n hC dJ1_indexOfChar_4cfef_13 rfl rfl ?_
    refine g_iload hC dJ1_indexOfChar_4cfef_14 rfl ?_
    refine g_txtB (v := 119) hC dJ1_indexOfChar_4cfef_16 (by decide) rfl ?_
    refine g_iload hC dJ1_indexOfChar_4cfef_17 rfl ?_
    refine g_icmp_ne (tgt := 25) hC dJ1_indexOfChar_4cfef_19 (by decide) (fun hx0 => ?_) (fun hx0 => ?_)
    · skip
      refine g_iincN hC dJ1_indexOfChar_4cfef_25 rfl (by decide) rfl ?_
      refine g_goto (tgt := 7) hC dJ1_indexOfChar_4cfef_28 (by decide) ?_
      refine g_iload hC dJ1_indexOfChar_4cfef_7 rfl ?_
      refine g_iload_n hC dJ1_indexOfChar_4cfef_9 rfl ?_
      refine g_icmp_geN (tgt := 31) hC dJ1_indexOfChar_4cfef_10 (by decide) (by omega) (by omega) (fun h_10 => ?_) (fun h_10 => ?_)
      · skip
        omega
      · skip
        refine g_aload_n hC dJ1_indexOfChar_4cfef_13 rfl rfl ?_
        refine g_iload hC dJ1_indexOfChar_4cfef_14 rfl ?_
        refine g_txtB (v := 108) hC dJ1_indexOfChar_4cfef_16 (by decide) rfl ?_
        refine g_iload hC dJ1_indexOfChar_4cfef_17 rfl ?_
        refine g_icmp_ne (tgt := 25) hC dJ1_indexOfChar_4cfef_19 (by decide) (fun hx1 => ?_) (fun hx1 => ?_)
        · skip
          refine g_iincN hC dJ1_indexOfChar_4cfef_25 rfl (by decide) rfl ?_
          refine g_goto (tgt := 7) hC dJ1_indexOfChar_4cfef_28 (by decide) ?_
          refine g_iload hC dJ1_indexOfChar_4cfef_7 rfl ?_
          refine g_iload_n hC dJ1_indexOfChar_4cfef_9 rfl ?_
          refine g_icmp_geN (tgt := 31) hC dJ1_indexOfChar_4cfef_10 (by decide) (by omega) (by omega) (fun h_10 => ?_) (fun h_10 => ?_)
          · skip
            omega
          · skip
            refine g_aload_n hC dJ1_indexOfChar_4cfef_13 rfl rfl ?_
            refine g_iload hC dJ1_indexOfChar_4cfef_14 rfl ?_
            refine g_txtB (v := 102) hC dJ1_indexOfChar_4cfef_16 (by decide) rfl ?_
            refine g_iload hC dJ1_indexOfChar_4cfef_17 rfl ?_
            refine g_icmp_ne (tgt := 25) hC dJ1_indexOfChar_4cfef_19 (by decide) (fun hx2 => ?_) (fun hx2 => ?_)
            · skip
              refine g_iincN hC dJ1_indexOfChar_4cfef_25 rfl (by decide) rfl ?_
              refine g_goto (tgt := 7) hC dJ1_indexOfChar_4cfef_28 (by decide) ?_
              refine g_iload hC dJ1_indexOfChar_4cfef_7 rfl ?_
              refine g_iload_n hC dJ1_indexOfChar_4cfef_9 rfl ?_
              refine g_icmp_geN (tgt := 31) hC dJ1_indexOfChar_4cfef_10 (by decide) (by omega) (by omega) (fun h_10 => ?_) (fun h_10 => ?_)
              · skip
                omega
              · skip
                refine g_aload_n hC dJ1_indexOfChar_4cfef_13 rfl rfl ?_
                refine g_iload hC dJ1_indexOfChar_4cfef_14 rfl ?_
                refine g_txtB (v := 115) hC dJ1_indexOfChar_4cfef_16 (by decide) rfl ?_
                refine g_iload hC dJ1_indexOfChar_4cfef_17 rfl ?_
                refine g_icmp_ne (tgt := 25) hC dJ1_indexOfChar_4cfef_19 (by decide) (fun hx3 => ?_) (fun hx3 => ?_)
                · skip
                  refine g_iincN hC dJ1_indexOfChar_4cfef_25 rfl (by decide) rfl ?_
                  refine g_goto (tgt := 7) hC dJ1_indexOfChar_4cfef_28 (by decide) ?_
                  refine g_iload hC dJ1_indexOfChar_4cfef_7 rfl ?_
                  refine g_iload_n hC dJ1_indexOfChar_4cfef_9 rfl ?_
                  refine g_icmp_geN (tgt := 31) hC dJ1_indexOfChar_4cfef_10 (by decide) (by omega) (by omega) (fun h_10 => ?_) (fun h_10 => ?_)
                  · skip
                    omega
                  · skip
                    refine g_aload_n hC dJ1_indexOfChar_4cfef_13 rfl rfl ?_
                    refine g_iload hC dJ1_indexOfChar_4cfef_14 rfl ?_
                    refine g_txtB (v := 98) hC dJ1_indexOfChar_4cfef_16 (by decide) rfl ?_
                    refine g_iload hC dJ1_indexOfChar_4cfef_17 rfl ?_
                    refine g_icmp_ne (tgt := 25) hC dJ1_indexOfChar_4cfef_19 (by decide) (fun hx4 => ?_) (fun hx4 => ?_)
                    · skip
                      refine g_iincN hC dJ1_indexOfChar_4cfef_25 rfl (by decide) rfl ?_
                      refine g_goto (tgt := 7) hC dJ1_indexOfChar_4cfef_28 (by decide) ?_
                      refine g_iload hC dJ1_indexOfChar_4cfef_7 rfl ?_
                      refine g_iload_n hC dJ1_indexOfChar_4cfef_9 rfl ?_
                      refine g_icmp_geN (tgt := 31) hC dJ1_indexOfChar_4cfef_10 (by decide) (by omega) (by omega) (fun h_10 => ?_) (fun h_10 => ?_)
                      · skip
                        omega
                      · skip
                        refine g_aload_n hC dJ1_indexOfChar_4cfef_13 rfl rfl ?_
                        refine g_iload hC dJ1_indexOfChar_4cfef_14 rfl ?_
                        refine g_txtB (v := 99) hC dJ1_indexOfChar_4cfef_16 (by decide) rfl ?_
                        refine g_iload hC dJ1_indexOfChar_4cfef_17 rfl ?_
                        refine g_icmp_ne (tgt := 25) hC dJ1_indexOfChar_4cfef_19 (by decide) (fun hx5 => ?_) (fun hx5 => ?_)
                        · skip
                          refine g_iincN hC dJ1_indexOfChar_4cfef_25 rfl (by decide) rfl ?_
                          refine g_goto (tgt := 7) hC dJ1_indexOfChar_4cfef_28 (by decide) ?_
                          refine g_iload hC dJ1_indexOfChar_4cfef_7 rfl ?_
                          refine g_iload_n hC dJ1_indexOfChar_4cfef_9 rfl ?_
                          refine g_icmp_geN (tgt := 31) hC dJ1_indexOfChar_4cfef_10 (by decide) (by omega) (by omega) (fun h_10 => ?_) (fun h_10 => ?_)
                          · skip
                            refine g_iconst (v := (-1)) hC dJ1_indexOfChar_4cfef_31 (by decide) ?_
                            exact g_iret hC rfl dJ1_indexOfChar_4cfef_32 (⟨rV (by rw [ki_miss c hc (fun k hk => by match k, hk with | 0, _ => exact hx0 | 1, _ => exact hx1 | 2, _ => exact hx2 | 3, _ => exact hx3 | 4, _ => exact hx4 | 5, _ => exact hx5)]; rfl), rfl⟩)
                          · skip
                            omega
                        · skip
                          refine g_iload hC dJ1_indexOfChar_4cfef_22 rfl ?_
                          exact g_iret hC rfl dJ1_indexOfChar_4cfef_24 (⟨rV (by rw [ki_hit c hc 5 (by decide) hx5]; rfl), rfl⟩)
                    · skip
                      refine g_iload hC dJ1_indexOfChar_4cfef_22 rfl ?_
                      exact g_iret hC rfl dJ1_indexOfChar_4cfef_24 (⟨rV (by rw [ki_hit c hc 4 (by decide) hx4]; rfl), rfl⟩)
                · skip
                  refine g_iload hC dJ1_indexOfChar_4cfef_22 rfl ?_
                  exact g_iret hC rfl dJ1_indexOfChar_4cfef_24 (⟨rV (by rw [ki_hit c hc 3 (by decide) hx3]; rfl), rfl⟩)
            · skip
              refine g_iload hC dJ1_indexOfChar_4cfef_22 rfl ?_
              exact g_iret hC rfl dJ1_indexOfChar_4cfef_24 (⟨rV (by rw [ki_hit c hc 2 (by decide) hx2]; rfl), rfl⟩)
        · skip
          refine g_iload hC dJ1_indexOfChar_4cfef_22 rfl ?_
          exact g_iret hC rfl dJ1_indexOfChar_4cfef_24 (⟨rV (by rw [ki_hit c hc 1 (by decide) hx1]; rfl), rfl⟩)
    · skip
      refine g_iload hC dJ1_indexOfChar_4cfef_22 rfl ?_
      exact g_iret hC rfl dJ1_indexOfChar_4cfef_24 (⟨rV (by rw [ki_hit c hc 0 (by decide) hx0]; rfl), rfl⟩)

set_option maxRecDepth 100000 in
set_option maxHeartbeats 4000000 in
theorem c_J1_indexOf_4cfef {c : Nat} (hc : c < 256) : ConF yJ1_indexOf_4cfef cJ1_indexOf_4cfef 4 (some .int) 1 [aK 2, aI (nI (c)), aI (nI (0)), aI (nI (6))] [] (some (aI (oI (-1) (kix c)))) [] := by
  refine con_of RJ1 pn_J1 rfl rfl (Nat.le_of_ble_eq_true rfl) (fun C hM0 hC => ?_)
  show G C 0 0 0 [aK 2, aI (nI (c)), aI (nI (0)), aI (nI (6))] [] []
  refine g_iload_n hC dJ1_indexOf_4cfef_0 rfl ?_
  refine gi_J1_88 hC (is := []) (st := []) (c_J1_canEncode_9a6ad hc) dJ1_indexOf_4cfef_1 rfl ⟨by decide, by decide⟩ ⟨by decide, by decide⟩ rfl (by decide) rfl rfl ?_
  refine g_if_neN (tgt := 9) hC dJ1_indexOf_4cfef_4 (by decide) (by omega) (fun h_4 => ?_) (fun h_4 => ?_)
  · skip
    refine g_iload_n hC dJ1_indexOf_4cfef_9 rfl ?_
    refine g_iconst (v := nI (0)) hC dJ1_indexOf_4cfef_10 (by decide) ?_
    refine g_max (v := nI 0) hC dJ1_indexOf_4cfef_11 tw_1_198 tw_1_199 tw_1_8 tw_1_200 (by decide) (by decide) (by decide) (by decide) (by decide) ?_
    refine g_istore_n hC dJ1_indexOf_4cfef_14 (by decide) rfl ?_
    refine g_iload_n hC dJ1_indexOf_4cfef_15 rfl ?_
    refine g_aload_n hC dJ1_indexOf_4cfef_16 rfl rfl ?_
    refine g_txtL hC dJ1_indexOf_4cfef_17 ?_
    refine g_min (v := nI 6) hC dJ1_indexOf_4cfef_18 tw_1_201 tw_1_202 tw_1_8 tw_1_203 (by decide) (by decide) (by decide) (by decide) (by decide) ?_
    refine g_istore_n hC dJ1_indexOf_4cfef_21 (by decide) rfl ?_
    refine g_iload_n hC dJ1_indexOf_4cfef_22 rfl ?_
    refine g_iload_n hC dJ1_indexOf_4cfef_23 rfl ?_
    refine g_icmp_ltN (tgt := 29) hC dJ1_indexOf_4cfef_24 (by decide) (by omega) (by omega) (fun h_24 => ?_) (fun h_24 => ?_)
    · skip
      refine g_aload_n hC dJ1_indexOf_4cfef_29 rfl rfl ?_
      refine g_iload_n hC dJ1_indexOf_4cfef_30 rfl ?_
      refine g_iload_n hC dJ1_indexOf_4cfef_31 rfl ?_
      refine g_iload_n hC dJ1_indexOf_4cfef_32 rfl ?_
      refine gi_J1_95 hC (is := []) (st := []) (c_J1_indexOfChar_4cfef hc) dJ1_indexOf_4cfef_33 rfl ⟨by decide, by decide⟩ ⟨by decide, by decide⟩ rfl (by decide) rfl rfl ?_
      exact g_iret hC rfl dJ1_indexOf_4cfef_36 (⟨rfl, rfl⟩)
    · skip
      omega
  · skip
    omega

set_option maxRecDepth 100000 in
set_option maxHeartbeats 4000000 in
theorem c_J0_indexOf_7cf53 {c : Nat} (hc : c < 256) : ConF yJ0_indexOf_7cf53 cJ0_indexOf_7cf53 3 (some .int) 2 [aK 1, aI (nI (c)), aI (nI (0))] [] (some (aI (oI (-1) (kix c)))) [] := by
  refine con_of RJ0 pn_J0 rfl rfl (Nat.le_of_ble_eq_true rfl) (fun C hM0 hC => ?_)
  show G C 0 0 0 [aK 1, aI (nI (c)), aI (nI (0))] [] []
  refine g_aload_n hC dJ0_indexOf_7cf53_0 rfl rfl ?_
  refine g_invTF (is := []) (st := []) hC (c_J0_isLatin1_aae02) dJ0_indexOf_7cf53_1 tw_1_178 tw_1_179 tw_1_180 tw_1_6 tw_1_181 rfl hy_J0_isLatin1_aae02 rfl ⟨by decide, by decide⟩ ⟨by decide, by decide⟩ rfl (by decide) rfl rfl ?_
  refine g_if_eqN (tgt := 23) hC dJ0_indexOf_7cf53_4 (by decide) (by omega) (fun h_4 => ?_) (fun h_4 => ?_)
  · skip
    omega
  · skip
    refine g_aload_n hC dJ0_indexOf_7cf53_7 rfl rfl ?_
    refine g_txtV hC dJ0_indexOf_7cf53_8 ?_
    refine g_iload_n hC dJ0_indexOf_7cf53_11 rfl ?_
    refine g_iload_n hC dJ0_indexOf_7cf53_12 rfl ?_
    refine g_aload_n hC dJ0_indexOf_7cf53_13 rfl rfl ?_
    refine g_invTF (is := []) (st := [aI (nI (0)), aI (nI (c)), aK 2]) hC (c_J0_length_8abf5) dJ0_indexOf_7cf53_14 tw_1_184 tw_1_185 tw_1_186 tw_1_6 tw_1_187 rfl hy_J0_length_8abf5 rfl ⟨by decide, by decide⟩ ⟨by decide, by decide⟩ rfl (by decide) rfl rfl ?_
    refine gi_J0_637 hC (is := []) (st := []) (c_J1_indexOf_4cfef hc) dJ0_indexOf_7cf53_17 rfl ⟨by decide, by decide⟩ ⟨by decide, by decide⟩ rfl (by decide) rfl rfl ?_
    refine g_goto (tgt := 36) hC dJ0_indexOf_7cf53_20 (by decide) ?_
    exact g_iret hC rfl dJ0_indexOf_7cf53_36 (⟨rfl, rfl⟩)

set_option maxRecDepth 100000 in
set_option maxHeartbeats 4000000 in
theorem c_J0_indexOf_0f7a4 {c : Nat} (hc : c < 256) : ConF yJ0_indexOf_0f7a4 cJ0_indexOf_0f7a4 2 (some .int) 3 [aK 1, aI (nI (c))] [] (some (aI (oI (-1) (kix c)))) [] := by
  refine con_of RJ0 pn_J0 rfl rfl (Nat.le_of_ble_eq_true rfl) (fun C hM0 hC => ?_)
  show G C 0 0 0 [aK 1, aI (nI (c))] [] []
  refine g_aload_n hC dJ0_indexOf_0f7a4_0 rfl rfl ?_
  refine g_iload_n hC dJ0_indexOf_0f7a4_1 rfl ?_
  refine g_iconst (v := nI (0)) hC dJ0_indexOf_0f7a4_2 (by decide) ?_
  refine g_invTF (is := []) (st := []) hC (c_J0_indexOf_7cf53 hc) dJ0_indexOf_0f7a4_3 tw_1_174 tw_1_175 tw_1_176 tw_1_6 tw_1_177 rfl hy_J0_indexOf_7cf53 rfl ⟨by decide, by decide⟩ ⟨by decide, by decide⟩ rfl (by decide) rfl rfl ?_
  exact g_iret hC rfl dJ0_indexOf_0f7a4_6 (⟨rfl, rfl⟩)

set_option maxRecDepth 100000 in
set_option maxHeartbeats 4000000 in
theorem c_X0_isFull (lt : Nat → Nat) (len : Nat) (hlen : len ≤ 96) (hlt : ∀ j, j < len → lt j < 256) : ConF yX0_isFull cX0_isFull 1 (some .boolean) 0 [aR 0 0 0] [tellG lt len] (some (aI (bI (decide (96 ≤ len))))) [tellG lt len] := by
  refine con_of RX0 pn_X0 rfl rfl (Nat.le_of_ble_eq_true rfl) (fun C hM0 hC => ?_)
  show G C 0 0 0 [aR 0 0 0] [] [tellG lt len]
  refine g_aload_n hC dX0_isFull_0 rfl rfl ?_
  refine gf_X0_length hC dX0_isFull_1 rfl rfl ?_
  refine g_bipush (v := nI (96)) hC dX0_isFull_4 (by decide) ?_
  refine g_icmp_ltN (tgt := 13) hC dX0_isFull_6 (by decide) (by omega) (by omega) (fun h_6 => ?_) (fun h_6 => ?_)
  · skip
    refine g_iconst (v := nI (0)) hC dX0_isFull_13 (by decide) ?_
    exact g_zret hC rfl rfl dX0_isFull_14 (⟨rB0 (by omega), rfl⟩)
  · skip
    refine g_iconst (v := nI (1)) hC dX0_isFull_9 (by decide) ?_
    refine g_goto (tgt := 14) hC dX0_isFull_10 (by decide) ?_
    exact g_zret hC rfl rfl dX0_isFull_14 (⟨rB1 (by omega), rfl⟩)

set_option maxRecDepth 100000 in
set_option maxHeartbeats 4000000 in
theorem c_X0_lettersIn (lt : Nat → Nat) (len : Nat) : ConF yX0_lettersIn cX0_lettersIn 1 (some .int) 0 [aR 0 0 0] [tellG lt len] (some (aI (nI len))) [tellG lt len] := by
  refine con_of RX0 pn_X0 rfl rfl (Nat.le_of_ble_eq_true rfl) (fun C hM0 hC => ?_)
  show G C 0 0 0 [aR 0 0 0] [] [tellG lt len]
  refine g_aload_n hC dX0_lettersIn_0 rfl rfl ?_
  refine gf_X0_length hC dX0_lettersIn_1 rfl rfl ?_
  exact g_iret hC rfl dX0_lettersIn_4 (⟨rfl, rfl⟩)

set_option maxRecDepth 100000 in
set_option maxHeartbeats 4000000 in
theorem c_X0_forget (lt : Nat → Nat) (len : Nat) : ConF yX0_forget cX0_forget 1 none 0 [aR 0 0 0] [tellG lt len] none [tellG lt 0] := by
  refine con_of RX0 pn_X0 rfl rfl (Nat.le_of_ble_eq_true rfl) (fun C hM0 hC => ?_)
  show G C 0 0 0 [aR 0 0 0] [] [tellG lt len]
  refine g_aload_n hC dX0_forget_0 rfl rfl ?_
  refine g_iconst (v := nI (0)) hC dX0_forget_1 (by decide) ?_
  refine gp_X0_length hC dX0_forget_2 rfl rfl ?_
  exact g_vret hC rfl dX0_forget_5 (⟨rfl, rfl⟩)

set_option maxRecDepth 100000 in
set_option maxHeartbeats 4000000 in
theorem c_X0_take (lt : Nat → Nat) (len : Nat) (c : Nat) (hlen : len < 96) (hlt : ∀ j, j < len → lt j < 256) : ConF yX0_take cX0_take 2 (some .int) 1 [aR 0 0 0, aI (nI (c))] [tellG lt len] (some (aI (nI (len + 1)))) [tellG (updN lt len c) (len + 1)] := by
  refine con_of RX0 pn_X0 rfl rfl (Nat.le_of_ble_eq_true rfl) (fun C hM0 hC => ?_)
  show G C 0 0 0 [aR 0 0 0, aI (nI (c))] [] [tellG lt len]
  refine g_aload_n hC dX0_take_0 rfl rfl ?_
  refine gi_X0_19 hC (is := [0]) (st := []) (c_X0_isFull lt len (by omega) hlt) dX0_take_1 rfl ⟨by decide, by decide⟩ ⟨by decide, by decide⟩ rfl (by decide) rfl rfl rfl ?_
  refine g_if_neB (tgt := 27) hC dX0_take_4 (by decide) (fun h_4 => ?_) (fun h_4 => ?_)
  · skip
    have := of_decide_eq_true h_4; omega
  · skip
    refine g_aload_n hC dX0_take_7 rfl rfl ?_
    refine gf_X0_letters hC dX0_take_8 rfl rfl ?_
    refine g_aload_n hC dX0_take_11 rfl rfl ?_
    refine gf_X0_length hC dX0_take_12 rfl rfl ?_
    refine g_iload_n hC dX0_take_15 rfl ?_
    refine g_iastN hC dX0_take_16 rfl (by omega) (by decide) ?_
    refine g_aload_n hC dX0_take_17 rfl rfl ?_
    refine g_dup hC dX0_take_18 rfl ?_
    refine gf_X0_length hC dX0_take_19 rfl rfl ?_
    refine g_iconst (v := nI (1)) hC dX0_take_22 (by decide) ?_
    refine g_iaddN hC dX0_take_23 ?_
    refine gp_X0_length hC dX0_take_24 rfl rfl ?_
    refine g_aload_n hC dX0_take_27 rfl rfl ?_
    refine gf_X0_length hC dX0_take_28 rfl rfl ?_
    exact g_iret hC rfl dX0_take_31 (⟨rfl, rfl⟩)

set_option maxRecDepth 100000 in
set_option maxHeartbeats 4000000 in
theorem c_X0_letterAt (lt : Nat → Nat) (len : Nat) (hlen : len ≤ 96) (hlt : ∀ j, j < len → lt j < 256) {p : Nat} (hp : p < 200) : ConF yX0_letterAt cX0_letterAt 2 (some .int) 0 [aR 0 0 0, aI (nI (p))] [tellG lt len] (some (aI (oI (-1) (ltr lt len p)))) [tellG lt len] := by
  refine con_of RX0 pn_X0 rfl rfl (Nat.le_of_ble_eq_true rfl) (fun C hM0 hC => ?_)
  show G C 0 0 0 [aR 0 0 0, aI (nI (p))] [] [tellG lt len]
  refine g_iload_n hC dX0_letterAt_0 rfl ?_
  refine g_if_ltN (tgt := 21) hC dX0_letterAt_1 (by decide) (by omega) (fun h_1 => ?_) (fun h_1 => ?_)
  · skip
    omega
  · skip
    refine g_iload_n hC dX0_letterAt_4 rfl ?_
    refine g_aload_n hC dX0_letterAt_5 rfl rfl ?_
    refine gf_X0_length hC dX0_letterAt_6 rfl rfl ?_
    refine g_icmp_geN (tgt := 21) hC dX0_letterAt_9 (by decide) (by omega) (by omega) (fun h_9 => ?_) (fun h_9 => ?_)
    · skip
      refine g_iconst (v := (-1)) hC dX0_letterAt_21 (by decide) ?_
      exact g_iret hC rfl dX0_letterAt_22 (⟨rV (by rw [ltr_none h_9]; rfl), rfl⟩)
    · skip
      refine g_aload_n hC dX0_letterAt_12 rfl rfl ?_
      refine gf_X0_letters hC dX0_letterAt_13 rfl rfl ?_
      refine g_iload_n hC dX0_letterAt_16 rfl ?_
      refine g_ialdN hC dX0_letterAt_17 rfl (by omega) (by decide) ?_
      refine g_goto (tgt := 22) hC dX0_letterAt_18 (by decide) ?_
      exact g_iret hC rfl dX0_letterAt_22 (⟨rV (by rw [ltr_some h_9]; rfl), rfl⟩)

set_option maxRecDepth 100000 in
set_option maxHeartbeats 4000000 in
theorem c_X0_isDigit (lt : Nat → Nat) (len : Nat) (hlen : len ≤ 96) (hlt : ∀ j, j < len → lt j < 256) {p : Nat} (hp : p < 200) : ConF yX0_isDigit cX0_isDigit 3 (some .boolean) 1 [aR 0 0 0, aI (nI (p))] [tellG lt len] (some (aI (bI (dig (ltr lt len p))))) [tellG lt len] := by
  refine con_of RX0 pn_X0 rfl rfl (Nat.le_of_ble_eq_true rfl) (fun C hM0 hC => ?_)
  show G C 0 0 0 [aR 0 0 0, aI (nI (p)), aK 9] [] [tellG lt len]
  refine g_aload_n hC dX0_isDigit_0 rfl rfl ?_
  refine g_iload_n hC dX0_isDigit_1 rfl ?_
  refine gi_X0_23 hC (is := [0]) (st := []) (c_X0_letterAt lt len hlen hlt (p := p) (by omega)) dX0_isDigit_2 rfl ⟨by decide, by decide⟩ ⟨by decide, by decide⟩ rfl (by decide) rfl rfl rfl ?_
  refine g_istore_n hC dX0_isDigit_5 (by decide) rfl ?_
  refine g_iload_n hC dX0_isDigit_6 rfl ?_
  refine g_bipush (v := nI (48)) hC dX0_isDigit_7 (by decide) ?_
  refine g_icmp_lt (tgt := 22) hC dX0_isDigit_9 (by decide) (fun h_9 => ?_) (fun h_9 => ?_)
  · skip
    refine g_iconst (v := nI (0)) hC dX0_isDigit_22 (by decide) ?_
    exact g_zret hC rfl rfl dX0_isDigit_23 (⟨rV (by rw [show dig (ltr lt len p) = false from by first | exact dig_no1 (ltr_lt hlt) h_9 | exact dig_no2 (ltr_lt hlt) h_15]; rfl), rfl⟩)
  · skip
    refine g_iload_n hC dX0_isDigit_12 rfl ?_
    refine g_bipush (v := nI (57)) hC dX0_isDigit_13 (by decide) ?_
    refine g_icmp_gt (tgt := 22) hC dX0_isDigit_15 (by decide) (fun h_15 => ?_) (fun h_15 => ?_)
    · skip
      refine g_iconst (v := nI (0)) hC dX0_isDigit_22 (by decide) ?_
      exact g_zret hC rfl rfl dX0_isDigit_23 (⟨rV (by rw [show dig (ltr lt len p) = false from by first | exact dig_no1 (ltr_lt hlt) h_9 | exact dig_no2 (ltr_lt hlt) h_15]; rfl), rfl⟩)
    · skip
      refine g_iconst (v := nI (1)) hC dX0_isDigit_18 (by decide) ?_
      refine g_goto (tgt := 23) hC dX0_isDigit_19 (by decide) ?_
      exact g_zret hC rfl rfl dX0_isDigit_23 (⟨rV (by rw [show dig (ltr lt len p) = true from dig_yes (ltr_lt hlt) h_9 h_15]; rfl), rfl⟩)

set_option maxRecDepth 100000 in
set_option maxHeartbeats 4000000 in
theorem c_X0_digitAt (lt : Nat → Nat) (len : Nat) (hlen : len ≤ 96) (hlt : ∀ j, j < len → lt j < 256) {p d : Nat} (hp : p < 200) (hd : ltr lt len p = some (48 + d)) : ConF yX0_digitAt cX0_digitAt 2 (some .int) 1 [aR 0 0 0, aI (nI (p))] [tellG lt len] (some (aI (nI d))) [tellG lt len] := by
  refine con_of RX0 pn_X0 rfl rfl (Nat.le_of_ble_eq_true rfl) (fun C hM0 hC => ?_)
  show G C 0 0 0 [aR 0 0 0, aI (nI (p))] [] [tellG lt len]
  refine g_aload_n hC dX0_digitAt_0 rfl rfl ?_
  refine g_iload_n hC dX0_digitAt_1 rfl ?_
  refine gi_X0_23 hC (is := [0]) (st := []) (c_X0_letterAt lt len hlen hlt (p := p) (by omega)) dX0_digitAt_2 rfl ⟨by decide, by decide⟩ ⟨by decide, by decide⟩ rfl (by decide) rfl rfl rfl ?_
  rw [hd]
  show G C 0 0 5 _ (aI (nI (48 + d)) :: []) _
  refine g_bipush (v := nI (48)) hC dX0_digitAt_5 (by decide) ?_
  refine g_isubN hC dX0_digitAt_7 (by omega) ?_
  exact g_iret hC rfl dX0_digitAt_8 (⟨rV (by rw [Nat.add_sub_cancel_left]), rfl⟩)

set_option maxRecDepth 100000 in
set_option maxHeartbeats 4000000 in
theorem c_X0_kindAt (lt : Nat → Nat) (len : Nat) (hlen : len ≤ 96) (hlt : ∀ j, j < len → lt j < 256) {p : Nat} (hp : p < 200) : ConF yX0_kindAt cX0_kindAt 3 (some .int) 4 [aR 0 0 0, aI (nI (p))] [tellG lt len] (some (aI (oI (-1) (kin (ltr lt len p))))) [tellG lt len] := by
  refine con_of RX0 pn_X0 rfl rfl (Nat.le_of_ble_eq_true rfl) (fun C hM0 hC => ?_)
  show G C 0 0 0 [aR 0 0 0, aI (nI (p)), aK 9] [] [tellG lt len]
  refine g_aload_n hC dX0_kindAt_0 rfl rfl ?_
  refine g_iload_n hC dX0_kindAt_1 rfl ?_
  refine gi_X0_23 hC (is := [0]) (st := []) (c_X0_letterAt lt len hlen hlt (p := p) (by omega)) dX0_kindAt_2 rfl ⟨by decide, by decide⟩ ⟨by decide, by decide⟩ rfl (by decide) rfl rfl rfl ?_
  refine g_istore_n hC dX0_kindAt_5 (by decide) rfl ?_
  refine g_iload_n hC dX0_kindAt_6 rfl ?_
  refine g_if_geO (tgt := 14) hC dX0_kindAt_7 (by decide) (by decide) (fun m q => by have := ltr_lt hlt m q; omega) (fun m h_7 => ?_) (fun h_7 => ?_)
  · skip
    refine g_ldcS hC dX0_kindAt_14 ?_
    refine g_iload_n hC dX0_kindAt_16 rfl ?_
    refine g_i2c (v := nI (m)) hC dX0_kindAt_17 (by rw [h_7]; exact i2c_b m (ltr_lt hlt m h_7)) ?_
    refine g_invTF (is := []) (st := []) hC (c_J0_indexOf_0f7a4 (ltr_lt hlt m h_7)) dX0_kindAt_18 tw_1_170 tw_1_171 tw_1_172 tw_1_6 tw_1_173 rfl hy_J0_indexOf_0f7a4 rfl ⟨by decide, by decide⟩ ⟨by decide, by decide⟩ rfl (by decide) rfl rfl ?_
    exact g_iret hC rfl dX0_kindAt_21 (⟨rV (by rw [h_7]; rfl), rfl⟩)
  · skip
    refine g_iconst (v := (-1)) hC dX0_kindAt_10 (by decide) ?_
    refine g_goto (tgt := 21) hC dX0_kindAt_11 (by decide) ?_
    exact g_iret hC rfl dX0_kindAt_21 (⟨rV (by rw [h_7]; rfl), rfl⟩)

set_option maxRecDepth 100000 in
set_option maxHeartbeats 4000000 in
theorem c_X0_leastDigits {o : Option Nat} (ho : ∀ c, o = some c → c < 256) : ConF yX0_leastDigits cX0_leastDigits 1 (some .int) 0 [aI (oI (-1) (o))] [] (some (aI (nI (ld o)))) [] := by
  refine con_of RX0 pn_X0 rfl rfl (Nat.le_of_ble_eq_true rfl) (fun C hM0 hC => ?_)
  show G C 0 0 0 [aI (oI (-1) (o))] [] []
  refine g_iload_n hC dX0_leastDigits_0 rfl ?_
  by_cases h97 : o = some 97
  · subst h97
    refine g_lookup (off := 53) (tgt := 54) hC dX0_leastDigits_1 (by decide) (by decide) (by decide) ?_
    refine g_iconst (v := nI (1)) hC dX0_leastDigits_54 (by decide) ?_
    exact g_iret hC rfl dX0_leastDigits_55 (⟨rfl, rfl⟩)
  by_cases h110 : o = some 110
  · subst h110
    refine g_lookup (off := 53) (tgt := 54) hC dX0_leastDigits_1 (by decide) (by decide) (by decide) ?_
    refine g_iconst (v := nI (1)) hC dX0_leastDigits_54 (by decide) ?_
    exact g_iret hC rfl dX0_leastDigits_55 (⟨rfl, rfl⟩)
  by_cases h112 : o = some 112
  · subst h112
    refine g_lookup (off := 51) (tgt := 52) hC dX0_leastDigits_1 (by decide) (by decide) (by decide) ?_
    refine g_iconst (v := nI (2)) hC dX0_leastDigits_52 (by decide) ?_
    exact g_iret hC rfl dX0_leastDigits_53 (⟨rfl, rfl⟩)
  by_cases h114 : o = some 114
  · subst h114
    refine g_lookup (off := 53) (tgt := 54) hC dX0_leastDigits_1 (by decide) (by decide) (by decide) ?_
    refine g_iconst (v := nI (1)) hC dX0_leastDigits_54 (by decide) ?_
    exact g_iret hC rfl dX0_leastDigits_55 (⟨rfl, rfl⟩)
  by_cases h119 : o = some 119
  · subst h119
    refine g_lookup (off := 51) (tgt := 52) hC dX0_leastDigits_1 (by decide) (by decide) (by decide) ?_
    refine g_iconst (v := nI (2)) hC dX0_leastDigits_52 (by decide) ?_
    exact g_iret hC rfl dX0_leastDigits_53 (⟨rfl, rfl⟩)
  refine g_lookup (off := 55) (tgt := 56) hC dX0_leastDigits_1 (by decide) (ld_off ho h97 h110 h112 h114 h119) (by decide) ?_
  refine g_iconst (v := nI (0)) hC dX0_leastDigits_56 (by decide) ?_
  exact g_iret hC rfl dX0_leastDigits_57 (⟨rV (by rw [ld_0 h97 h110 h112 h114 h119]), rfl⟩)

set_option maxRecDepth 100000 in
set_option maxHeartbeats 4000000 in
theorem c_X0_mostDigits {o : Option Nat} (ho : ∀ c, o = some c → c < 256) : ConF yX0_mostDigits cX0_mostDigits 1 (some .int) 1 [aI (oI (-1) (o))] [] (some (aI (nI (md o)))) [] := by
  refine con_of RX0 pn_X0 rfl rfl (Nat.le_of_ble_eq_true rfl) (fun C hM0 hC => ?_)
  show G C 0 0 0 [aI (oI (-1) (o))] [] []
  refine g_iload_n hC dX0_mostDigits_0 rfl ?_
  refine g_bipush (v := nI (97)) hC dX0_mostDigits_1 (by decide) ?_
  refine g_icmp_neQ (tgt := 11) hC dX0_mostDigits_3 (by decide) (fun c q => by have := ho c q; omega) (by omega) (fun h_3 => ?_) (fun h_3 => ?_)
  · skip
    refine g_iload_n hC dX0_mostDigits_11 rfl ?_
    refine gi_X0_34 hC (is := []) (st := []) (c_X0_leastDigits ho) dX0_mostDigits_12 rfl ⟨by decide, by decide⟩ ⟨by decide, by decide⟩ rfl (by decide) rfl rfl ?_
    exact g_iret hC rfl dX0_mostDigits_15 (⟨rV (by rw [md_ne h_3]), rfl⟩)
  · skip
    refine g_bipush (v := nI (7)) hC dX0_mostDigits_6 (by decide) ?_
    refine g_goto (tgt := 15) hC dX0_mostDigits_8 (by decide) ?_
    exact g_iret hC rfl dX0_mostDigits_15 (⟨rV (by rw [h_3]; rfl), rfl⟩)

set_option maxRecDepth 100000 in
set_option maxHeartbeats 4000000 in
theorem c_X0_digitsFrom (lt : Nat → Nat) (len : Nat) (hlen : len ≤ 96) (hlt : ∀ j, j < len → lt j < 256) {p m : Nat} (hp : p < 190) (hm : m ≤ 7) : ConF yX0_digitsFrom cX0_digitsFrom 4 (some .int) 2 [aR 0 0 0, aI (nI (p)), aI (nI (m))] [tellG lt len] (some (aI (nI (rn (fun i => dig (ltr lt len (p + i))) m)))) [tellG lt len] := by
  refine con_of RX0 pn_X0 rfl rfl (Nat.le_of_ble_eq_true rfl) (fun C hM0 hC => ?_)
  show G C 0 0 0 [aR 0 0 0, aI (nI (p)), aI (nI (m)), aK 9] [] [tellG lt len]
  have loop : ∀ d k, k + d = m → (∀ i, i < k → dig (ltr lt len (p + i)) = true) → G C 0 0 2 [aR 0 0 0, aI (nI (p)), aI (nI (m)), aI (nI (k))] [] [tellG lt len] := by
    intro d
    induction d with
    | zero =>
      intro k hk hall
      refine g_iload_n hC dX0_digitsFrom_2 rfl ?_
      refine g_iload_n hC dX0_digitsFrom_3 rfl ?_
      refine g_icmp_geN (tgt := 23) hC dX0_digitsFrom_4 (by decide) (by omega) (by omega) (fun h_4 => ?_) (fun h_4 => ?_)
      · skip
        refine g_iload_n hC dX0_digitsFrom_23 rfl ?_
        exact g_iret hC rfl dX0_digitsFrom_24 (⟨rV (by rw [rn_eq (d := (fun i => dig (ltr lt len (p + i)))) (m := m) (k := k) hall (Or.inl (by omega))]), rfl⟩)
      · skip
        omega
    | succ d ih =>
      intro k hk hall
      refine g_iload_n hC dX0_digitsFrom_2 rfl ?_
      refine g_iload_n hC dX0_digitsFrom_3 rfl ?_
      refine g_icmp_geN (tgt := 23) hC dX0_digitsFrom_4 (by decide) (by omega) (by omega) (fun h_4 => ?_) (fun h_4 => ?_)
      · skip
        omega
      · skip
        refine g_aload_n hC dX0_digitsFrom_7 rfl rfl ?_
        refine g_iload_n hC dX0_digitsFrom_8 rfl ?_
        refine g_iload_n hC dX0_digitsFrom_9 rfl ?_
        refine g_iaddN hC dX0_digitsFrom_10 ?_
        refine gi_X0_37 hC (is := [0]) (st := []) (c_X0_isDigit lt len hlen hlt (p := p + k) (by omega)) dX0_digitsFrom_11 rfl ⟨by decide, by decide⟩ ⟨by decide, by decide⟩ rfl (by decide) rfl rfl rfl ?_
        refine g_if_eqB (tgt := 23) hC dX0_digitsFrom_14 (by decide) (fun h_14 => ?_) (fun h_14 => ?_)
        · skip
          refine g_iload_n hC dX0_digitsFrom_23 rfl ?_
          exact g_iret hC rfl dX0_digitsFrom_24 (⟨rV (by rw [rn_eq (d := (fun i => dig (ltr lt len (p + i)))) (m := m) (k := k) hall (Or.inr ⟨by omega, h_14⟩)]), rfl⟩)
        · skip
          refine g_iincN hC dX0_digitsFrom_17 rfl (by decide) rfl ?_
          refine g_goto (tgt := 2) hC dX0_digitsFrom_20 (by decide) ?_
          refine ih (k + 1) (by omega) (fun i hi => ?_)
          by_cases e : i = k
          · subst e; exact h_14
          · exact hall i (by omega)
  refine g_iconst (v := nI (0)) hC dX0_digitsFrom_0 (by decide) ?_
  refine g_istore_n hC dX0_digitsFrom_1 (by decide) rfl ?_
  exact loop m 0 (by omega) (fun i hi => absurd hi (Nat.not_lt_zero _))
