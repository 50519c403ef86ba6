theorem pn_J6 : plainName RJ6 = true := by decide +kernel
/-- how many bits of six -/
def pop (p : Nat) : Nat := cnt (fun b => p.testBit b) 6
theorem bc_eq : ∀ p, p < 64 → ((((((((nI (p)) - ((((nI (p)).toUInt32 >>> ((nI (1)).toUInt32 &&& Int32.toUInt32 31)).toInt32) &&& (nI (1431655765)))) &&& (nI (858993459))) + (((((nI (p)) - ((((nI (p)).toUInt32 >>> ((nI (1)).toUInt32 &&& Int32.toUInt32 31)).toInt32) &&& (nI (1431655765)))).toUInt32 >>> ((nI (2)).toUInt32 &&& Int32.toUInt32 31)).toInt32) &&& (nI (858993459)))) + ((((((nI (p)) - ((((nI (p)).toUInt32 >>> ((nI (1)).toUInt32 &&& Int32.toUInt32 31)).toInt32) &&& (nI (1431655765)))) &&& (nI (858993459))) + (((((nI (p)) - ((((nI (p)).toUInt32 >>> ((nI (1)).toUInt32 &&& Int32.toUInt32 31)).toInt32) &&& (nI (1431655765)))).toUInt32 >>> ((nI (2)).toUInt32 &&& Int32.toUInt32 31)).toInt32) &&& (nI (858993459)))).toUInt32 >>> ((nI (4)).toUInt32 &&& Int32.toUInt32 31)).toInt32)) &&& (nI (252645135))) + ((((((((nI (p)) - ((((nI (p)).toUInt32 >>> ((nI (1)).toUInt32 &&& Int32.toUInt32 31)).toInt32) &&& (nI (1431655765)))) &&& (nI (858993459))) + (((((nI (p)) - ((((nI (p)).toUInt32 >>> ((nI (1)).toUInt32 &&& Int32.toUInt32 31)).toInt32) &&& (nI (1431655765)))).toUInt32 >>> ((nI (2)).toUInt32 &&& Int32.toUInt32 31)).toInt32) &&& (nI (858993459)))) + ((((((nI (p)) - ((((nI (p)).toUInt32 >>> ((nI (1)).toUInt32 &&& Int32.toUInt32 31)).toInt32) &&& (nI (1431655765)))) &&& (nI (858993459))) + (((((nI (p)) - ((((nI (p)).toUInt32 >>> ((nI (1)).toUInt32 &&& Int32.toUInt32 31)).toInt32) &&& (nI (1431655765)))).toUInt32 >>> ((nI (2)).toUInt32 &&& Int32.toUInt32 31)).toInt32) &&& (nI (858993459)))).toUInt32 >>> ((nI (4)).toUInt32 &&& Int32.toUInt32 31)).toInt32)) &&& (nI (252645135))).toUInt32 >>> ((nI (8)).toUInt32 &&& Int32.toUInt32 31)).toInt32)) + (((((((((nI (p)) - ((((nI (p)).toUInt32 >>> ((nI (1)).toUInt32 &&& Int32.toUInt32 31)).toInt32) &&& (nI (1431655765)))) &&& (nI (858993459))) + (((((nI (p)) - ((((nI (p)).toUInt32 >>> ((nI (1)).toUInt32 &&& Int32.toUInt32 31)).toInt32) &&& (nI (1431655765)))).toUInt32 >>> ((nI (2)).toUInt32 &&& Int32.toUInt32 31)).toInt32) &&& (nI (858993459)))) + ((((((nI (p)) - ((((nI (p)).toUInt32 >>> ((nI (1)).toUInt32 &&& Int32.toUInt32 31)).toInt32) &&& (nI (1431655765)))) &&& (nI (858993459))) + (((((nI (p)) - ((((nI (p)).toUInt32 >>> ((nI (1)).toUInt32 &&& Int32.toUInt32 31)).toInt32) &&& (nI (1431655765)))).toUInt32 >>> ((nI (2)).toUInt32 &&& Int32.toUInt32 31)).toInt32) &&& (nI (858993459)))).toUInt32 >>> ((nI (4)).toUInt32 &&& Int32.toUInt32 31)).toInt32)) &&& (nI (252645135))) + ((((((((nI (p)) - ((((nI (p)).toUInt32 >>> ((nI (1)).toUInt32 &&& Int32.toUInt32 31)).toInt32) &&& (nI (1431655765)))) &&& (nI (858993459))) + (((((nI (p)) - ((((nI (p)).toUInt32 >>> ((nI (1)).toUInt32 &&& Int32.toUInt32 31)).toInt32) &&& (nI (1431655765)))).toUInt32 >>> ((nI (2)).toUInt32 &&& Int32.toUInt32 31)).toInt32) &&& (nI (858993459)))) + ((((((nI (p)) - ((((nI (p)).toUInt32 >>> ((nI (1)).toUInt32 &&& Int32.toUInt32 31)).toInt32) &&& (nI (1431655765)))) &&& (nI (858993459))) + (((((nI (p)) - ((((nI (p)).toUInt32 >>> ((nI (1)).toUInt32 &&& Int32.toUInt32 31)).toInt32) &&& (nI (1431655765)))).toUInt32 >>> ((nI (2)).toUInt32 &&& Int32.toUInt32 31)).toInt32) &&& (nI (858993459)))).toUInt32 >>> ((nI (4)).toUInt32 &&& Int32.toUInt32 31)).toInt32)) &&& (nI (252645135))).toUInt32 >>> ((nI (8)).toUInt32 &&& Int32.toUInt32 31)).toInt32)).toUInt32 >>> ((nI (16)).toUInt32 &&& Int32.toUInt32 31)).toInt32)) &&& (nI (63)) = nI (pop p) := by decide +kernel
theorem pop_le : ∀ p, p < 64 → pop p ≤ 6 := by decide +kernel
section GCN
variable {C : Cx} {cc : ByteArray} {own : String} {nL : Nat} {R : Room} {E : State → Array Value → List Frame → Method → (State → Prop) → Prop} {cs ss pc : Nat} {ls st : List AV} {M : AM}
theorem cpy_N (f f1 : Nat → Nat) (n : Nat) : cpy (fun j => nI (f j)) (fun j => nI (f1 j)) n = fun j => nI (cpyN f f1 n j) := by
  funext j
  unfold cpy cpyN
  split <;> rfl
def cpyRow {α : Type} (f f1 : Nat → Nat → α) (rr n : Nat) : Nat → Nat → α := fun a b => if a = rr ∧ b < n then f a b else f1 a b
theorem cpy_R {α : Type} (h : α → Int32) (f f1 : Nat → Nat → α) (rr n : Nat) : updR (fun a b => h (f1 a b)) rr (cpy (fun b => h (f rr b)) (fun b => h (f1 rr b)) n) = fun a b => h (cpyRow f f1 rr n a b) := by
  funext a b
  unfold updR cpy cpyRow
  by_cases h1 : a = rr
  · subst h1
    by_cases h2 : b < n <;> simp [h2]
  · simp [h1]
theorem g_copyN (hC : Ok C cc own nL R E) {index g k n0 g1 k1 n1 n : Nat} {f f1 : Nat → Nat} (hd : decode cc pc = .ok (.invokestatic index, 3)) (w1 : Cond.methodLink own index arraycopyName ∈ tbG) (w2 : Cond.native arraycopyName ∈ tbG) (w3 : Cond.static arraycopyName ∈ tbG) (w4 : Cond.initialized "java/lang/System" ∈ tbG)
    (hM : getM M g k = some (cA n0 (fun j => nI (f j)))) (hM1 : getM M g1 k1 = some (cA n1 (fun j => nI (f1 j)))) (hl0 : n ≤ n0) (hl1 : n ≤ n1) (hn : n < 2 ^ 31) (hfr : 1 ≤ R.frames) (hlo : 0 + (nativeFrameWords "java/lang/System" "arraycopy" 5 + 11) ≤ R.locals)
    (kk : G C cs ss (pc + 3) ls [] (setM M g1 k1 (cA n1 (fun j => nI (cpyN f f1 n j))))) : G C cs ss pc ls [aI (nI n), aI (nI 0), aR g1 k1 0, aI (nI 0), aR g k 0] M :=
  g_copy hC hd w1 w2 w3 w4 hM hM1 rfl rfl rfl hl0 hl1 hn hfr hlo (by rw [cpy_N]; exact kk)
theorem g_copy2N (hC : Ok C cc own nL R E) {index g k r0 rr n0 g1 k1 r1 n1 n : Nat} {f f1 : Nat → Nat → Nat} (hd : decode cc pc = .ok (.invokestatic index, 3)) (w1 : Cond.methodLink own index arraycopyName ∈ tbG) (w2 : Cond.native arraycopyName ∈ tbG) (w3 : Cond.static arraycopyName ∈ tbG) (w4 : Cond.initialized "java/lang/System" ∈ tbG)
    (hM : getM M g k = some (cG r0 n0 (fun a b => nI (f a b)))) (hr : rr < r0) (hM1 : getM M g1 k1 = some (cG r1 n1 (fun a b => nI (f1 a b)))) (hr1 : rr < r1) (hl0 : n ≤ n0) (hl1 : n ≤ n1) (hn : n < 2 ^ 31) (hfr : 1 ≤ R.frames) (hlo : 0 + (nativeFrameWords "java/lang/System" "arraycopy" 5 + 11) ≤ R.locals)
    (kk : G C cs ss (pc + 3) ls [] (setM M g1 k1 (cG r1 n1 (fun a b => nI (cpyRow f f1 rr n a b))))) : G C cs ss pc ls [aI (nI n), aI (nI 0), aR g1 k1 (rr + 1), aI (nI 0), aR g k (rr + 1)] M := by
  exact g_copy2 hC hd w1 w2 w3 w4 hM hr hM1 hr1 rfl rfl rfl hl0 hl1 hn hfr hlo (by rw [cpy_R (fun z => nI z)]; exact kk)
theorem g_copy2O (hC : Ok C cc own nL R E) {index g k r0 rr n0 g1 k1 r1 n1 n : Nat} {e : Int32} {f f1 : Nat → Nat → Option Nat} (hd : decode cc pc = .ok (.invokestatic index, 3)) (w1 : Cond.methodLink own index arraycopyName ∈ tbG) (w2 : Cond.native arraycopyName ∈ tbG) (w3 : Cond.static arraycopyName ∈ tbG) (w4 : Cond.initialized "java/lang/System" ∈ tbG)
    (hM : getM M g k = some (cG r0 n0 (fun a b => oI e (f a b)))) (hr : rr < r0) (hM1 : getM M g1 k1 = some (cG r1 n1 (fun a b => oI e (f1 a b)))) (hr1 : rr < r1) (hl0 : n ≤ n0) (hl1 : n ≤ n1) (hn : n < 2 ^ 31) (hfr : 1 ≤ R.frames) (hlo : 0 + (nativeFrameWords "java/lang/System" "arraycopy" 5 + 11) ≤ R.locals)
    (kk : G C cs ss (pc + 3) ls [] (setM M g1 k1 (cG r1 n1 (fun a b => oI e (cpyRow f f1 rr n a b))))) : G C cs ss pc ls [aI (nI n), aI (nI 0), aR g1 k1 (rr + 1), aI (nI 0), aR g k (rr + 1)] M := by
  exact g_copy2 hC hd w1 w2 w3 w4 hM hr hM1 hr1 rfl rfl rfl hl0 hl1 hn hfr hlo (by rw [cpy_R (fun z => oI e z)]; exact kk)
end GCN
theorem cpyN_zero (f g : Nat → Nat) : cpyN f g 0 = g := by funext j; simp [cpyN]
theorem cpyN_succ (f g : Nat → Nat) (k : Nat) : cpyN f g (k + 1) = updN (cpyN f g k) k (f k) := by
  funext j
  show (if j < k + 1 then f j else g j) = if j = k then f k else if j < k then f j else g j
  by_cases h1 : j = k
  · subst h1; simp
  · by_cases h2 : j < k
    · rw [if_pos (by omega), if_neg h1, if_pos h2]
    · rw [if_neg (by omega), if_neg h1, if_neg h2]
theorem cpyR_zero {α : Type} (f g : Nat → Nat → α) (m : Nat) : cpyR f g 0 m = g := by funext a b; simp [cpyR]
theorem cpyR_succ {α : Type} (f g : Nat → Nat → α) (k m : Nat) : cpyR f g (k + 1) m = cpyRow f (cpyR f g k m) k m := by
  funext a b
  show (if a < k + 1 ∧ b < m then f a b else g a b) = if a = k ∧ b < m then f a b else if a < k ∧ b < m then f a b else g a b
  by_cases h0 : b < m
  · by_cases h1 : a = k
    · subst h1; simp [h0]
    · by_cases h2 : a < k
      · simp [h0, h2, Nat.lt_succ_of_lt h2]
      · have : ¬ a < k + 1 := by omega
        simp [h0, h1, h2, this]
  · simp [h0]
/-- all of another town, over what stood there: behind k walkers -/
def becT (v o : Vw) (k : Nat) : Vw := (cpyN (vWi o) (vWi v) 6, cpyN (vPa o) (vPa v) 6, vN o, cpyN (vKi o) (vKi v) k, cpyN (vPl o) (vPl v) k, cpyN (vPL o) (vPL v) k, cpyR (vPp o) (vPp v) k 6, cpyR (vLf o) (vLf v) k 6, vMi v, vNo v)
def becm (v o : Vw) : Vw := (cpyN (vWi o) (vWi v) 6, cpyN (vPa o) (vPa v) 6, vN o, cpyN (vKi o) (vKi v) (vN o), cpyN (vPl o) (vPl v) (vN o), cpyN (vPL o) (vPL v) (vN o), cpyR (vPp o) (vPp v) (vN o) 6, cpyR (vLf o) (vLf v) (vN o) 6, vMi o, vNo o)
theorem becT_zero (v o : Vw) : becT v o 0 = (cpyN (vWi o) (vWi v) 6, cpyN (vPa o) (vPa v) 6, vN o, vKi v, vPl v, vPL v, vPp v, vLf v, vMi v, vNo v) := by
  unfold becT
  rw [cpyN_zero, cpyN_zero, cpyN_zero, cpyR_zero, cpyR_zero]
theorem becT_succ (v o : Vw) (k : Nat) : becT v o (k + 1) = (cpyN (vWi o) (vWi v) 6, cpyN (vPa o) (vPa v) 6, vN o, updN (cpyN (vKi o) (vKi v) k) k (vKi o k), updN (cpyN (vPl o) (vPl v) k) k (vPl o k), updN (cpyN (vPL o) (vPL v) k) k (vPL o k), cpyRow (vPp o) (cpyR (vPp o) (vPp v) k 6) k 6, cpyRow (vLf o) (cpyR (vLf o) (vLf v) k 6) k 6, vMi v, vNo v) := by
  unfold becT
  rw [cpyN_succ (vKi o) (vKi v) k, cpyN_succ (vPl o) (vPl v) k, cpyN_succ (vPL o) (vPL v) k, cpyR_succ (vPp o), cpyR_succ (vLf o)]
set_option maxRecDepth 100000 in
set_option maxHeartbeats 4000000 in
theorem c_J6_bitCount_0f7a4 {p : Nat} (hp : p < 64) : ConF yJ6_bitCount_0f7a4 cJ6_bitCount_0f7a4 1 (some .int) 0 [aI (nI (p))] [] (some (aI (nI (pop p)))) [] := by
  refine con_of RJ6 pn_J6 rfl rfl (Nat.le_of_ble_eq_true rfl) (fun C hM0 hC => ?_)
  show G C 0 0 0 [aI (nI (p))] [] []
  refine g_iload_n hC dJ6_bitCount_0f7a4_0 rfl ?_
  refine g_iload_n hC dJ6_bitCount_0f7a4_1 rfl ?_
  refine g_iconst (v := nI (1)) hC dJ6_bitCount_0f7a4_2 (by decide) ?_
  refine g_iushr hC dJ6_bitCount_0f7a4_3 rfl ?_
  refine g_ldcw (v := nI (1431655765)) hC dJ6_bitCount_0f7a4_4 tw_3_67 ?_
  refine g_iand hC dJ6_bitCount_0f7a4_7 rfl ?_
  refine g_isub hC dJ6_bitCount_0f7a4_8 rfl ?_
  refine g_istore_n hC dJ6_bitCount_0f7a4_9 (by decide) rfl ?_
  refine g_iload_n hC dJ6_bitCount_0f7a4_10 rfl ?_
  refine g_ldcw (v := nI (858993459)) hC dJ6_bitCount_0f7a4_11 tw_3_68 ?_
  refine g_iand hC dJ6_bitCount_0f7a4_14 rfl ?_
  refine g_iload_n hC dJ6_bitCount_0f7a4_15 rfl ?_
  refine g_iconst (v := nI (2)) hC dJ6_bitCount_0f7a4_16 (by decide) ?_
  refine g_iushr hC dJ6_bitCount_0f7a4_17 rfl ?_
  refine g_ldcw (v := nI (858993459)) hC dJ6_bitCount_0f7a4_18 tw_3_68 ?_
  refine g_iand hC dJ6_bitCount_0f7a4_21 rfl ?_
  refine g_iadd hC dJ6_bitCount_0f7a4_22 rfl ?_
  refine g_istore_n hC dJ6_bitCount_0f7a4_23 (by decide) rfl ?_
  refine g_iload_n hC dJ6_bitCount_0f7a4_24 rfl ?_
  refine g_iload_n hC dJ6_bitCount_0f7a4_25 rfl ?_
  refine g_iconst (v := nI (4)) hC dJ6_bitCount_0f7a4_26 (by decide) ?_
  refine g_iushr hC dJ6_bitCount_0f7a4_27 rfl ?_
  refine g_iadd hC dJ6_bitCount_0f7a4_28 rfl ?_
  refine g_ldcw (v := nI (252645135)) hC dJ6_bitCount_0f7a4_29 tw_3_69 ?_
  refine g_iand hC dJ6_bitCount_0f7a4_32 rfl ?_
  refine g_istore_n hC dJ6_bitCount_0f7a4_33 (by decide) rfl ?_
  refine g_iload_n hC dJ6_bitCount_0f7a4_34 rfl ?_
  refine g_iload_n hC dJ6_bitCount_0f7a4_35 rfl ?_
  refine g_bipush (v := nI (8)) hC dJ6_bitCount_0f7a4_36 (by decide) ?_
  refine g_iushr hC dJ6_bitCount_0f7a4_38 rfl ?_
  refine g_iadd hC dJ6_bitCount_0f7a4_39 rfl ?_
  refine g_istore_n hC dJ6_bitCount_0f7a4_40 (by decide) rfl ?_
  refine g_iload_n hC dJ6_bitCount_0f7a4_41 rfl ?_
  refine g_iload_n hC dJ6_bitCount_0f7a4_42 rfl ?_
  refine g_bipush (v := nI (16)) hC dJ6_bitCount_0f7a4_43 (by decide) ?_
  refine g_iushr hC dJ6_bitCount_0f7a4_45 rfl ?_
  refine g_iadd hC dJ6_bitCount_0f7a4_46 rfl ?_
  refine g_istore_n hC dJ6_bitCount_0f7a4_47 (by decide) rfl ?_
  refine g_iload_n hC dJ6_bitCount_0f7a4_48 rfl ?_
  refine g_bipush (v := nI (63)) hC dJ6_bitCount_0f7a4_49 (by decide) ?_
  refine g_iand hC dJ6_bitCount_0f7a4_51 rfl ?_
  exact g_iret hC rfl dJ6_bitCount_0f7a4_52 (⟨rV (bc_eq p hp), rfl⟩)

set_option maxRecDepth 100000 in
set_option maxHeartbeats 4000000 in
theorem c_X1_pathsIn (v : Vw) (rf : Nat) (go : Nat → Nat) {B : Nat} (hv : wf B v) (hB : B ≤ 200) : ConF yX1_pathsIn cX1_pathsIn 3 (some .int) 1 [aR 0 0 0] [townG v rf go] (some (aI (nI (sumN (fun r => pop (vPa v r)) 6 / 2)))) [townG v rf go] := by
  refine con_of RX1 pn_X1 rfl rfl (Nat.le_of_ble_eq_true rfl) (fun C hM0 hC => ?_)
  show G C 0 0 0 [aR 0 0 0, aK 9, aK 9] [] [townG v rf go]
  have loop : ∀ d k, k + d = 6 → G C 0 0 4 [aR 0 0 0, aI (nI (sumN (fun r => pop (vPa v r)) k)), aI (nI (k))] [] [townG v rf go] := by
    intro d
    induction d with
    | zero =>
      intro k hk
      refine g_iload_n hC dX1_pathsIn_4 rfl ?_
      refine g_bipush (v := nI (6)) hC dX1_pathsIn_5 (by decide) ?_
      refine g_icmp_geN (tgt := 28) hC dX1_pathsIn_7 (by decide) (by omega) (by omega) (fun h_7 => ?_) (fun h_7 => ?_)
      · skip
        refine g_iload_n hC dX1_pathsIn_28 rfl ?_
        refine g_iconst (v := nI (2)) hC dX1_pathsIn_29 (by decide) ?_
        refine g_idivN hC dX1_pathsIn_30 (by have := sumN_le (f := fun r => pop (vPa v r)) (c := 6) k (fun i hi => pop_le _ (wf_pa hv i (by omega))); omega) (by omega) (by omega) ?_
        exact g_iret hC rfl dX1_pathsIn_31 (⟨rV (by rw [show k = 6 by omega]), rfl⟩)
      · skip
        omega
    | succ d ih =>
      intro k hk
      refine g_iload_n hC dX1_pathsIn_4 rfl ?_
      refine g_bipush (v := nI (6)) hC dX1_pathsIn_5 (by decide) ?_
      refine g_icmp_geN (tgt := 28) hC dX1_pathsIn_7 (by decide) (by omega) (by omega) (fun h_7 => ?_) (fun h_7 => ?_)
      · skip
        omega
      · skip
        refine g_iload_n hC dX1_pathsIn_10 rfl ?_
        refine g_aload_n hC dX1_pathsIn_11 rfl rfl ?_
        refine gf_X1_paths hC dX1_pathsIn_12 rfl rfl ?_
        refine g_iload_n hC dX1_pathsIn_15 rfl ?_
        refine g_ialdN hC dX1_pathsIn_16 rfl (by omega) (by decide) ?_
        refine gi_X1_57 hC (is := []) (st := [aI (nI (sumN (fun r => pop (vPa v r)) k))]) (c_J6_bitCount_0f7a4 (wf_pa hv k (by omega))) dX1_pathsIn_17 rfl ⟨by decide, by decide⟩ ⟨by decide, by decide⟩ rfl (by decide) rfl rfl ?_
        refine g_iaddN hC dX1_pathsIn_20 ?_
        refine g_istore_n hC dX1_pathsIn_21 (by decide) rfl ?_
        refine g_iincN hC dX1_pathsIn_22 rfl (by decide) rfl ?_
        refine g_goto (tgt := 4) hC dX1_pathsIn_25 (by decide) ?_
        refine g_mask [true, true, true] ?_
        have q := ih (k + 1) (by omega)
        exact q
  refine g_iconst (v := nI (0)) hC dX1_pathsIn_0 (by decide) ?_
  refine g_istore_n hC dX1_pathsIn_1 (by decide) rfl ?_
  refine g_iconst (v := nI (0)) hC dX1_pathsIn_2 (by decide) ?_
  refine g_istore_n hC dX1_pathsIn_3 (by decide) rfl ?_
  refine g_mask [true, true, true] ?_
  exact loop 6 0 (by omega)

set_option maxRecDepth 100000 in
set_option maxHeartbeats 4000000 in
theorem c_X1_become (v o : Vw) (rf rfo : Nat) (go goo : Nat → Nat) (hn : vN o ≤ 4) : ConF yX1_become cX1_become 3 none 3 [aR 0 0 0, aR 1 0 0] [townG v rf go, townG o rfo goo] none [townG (becm v o) rfo go, townG o rfo goo] := by
  refine con_of RX1 pn_X1 rfl rfl (Nat.le_of_ble_eq_true rfl) (fun C hM0 hC => ?_)
  show G C 0 0 0 [aR 0 0 0, aR 1 0 0, aK 9] [] [townG v rf go, townG o rfo goo]
  have loop : ∀ d k, k + d = vN o → G C 0 0 48 [aR 0 0 0, aR 1 0 0, aI (nI (k))] [] [townG (becT v o k) rfo go, townG o rfo goo] := by
    intro d
    induction d with
    | zero =>
      intro k hk
      have hfn : vN (becT v o k) = vN o := rfl
      refine g_iload_n hC dX1_become_48 rfl ?_
      refine g_aload_n hC dX1_become_49 rfl rfl ?_
      refine gf_X1_walkers hC dX1_become_50 rfl rfl ?_
      refine g_icmp_geN (tgt := 136) hC dX1_become_53 (by decide) (by omega) (by omega) (fun h_53 => ?_) (fun h_53 => ?_)
      · skip
        refine g_aload_n hC dX1_become_136 rfl rfl ?_
        refine g_aload_n hC dX1_become_137 rfl rfl ?_
        refine gf_X1_minute hC dX1_become_138 rfl rfl ?_
        refine gp_X1_minute hC dX1_become_141 rfl rfl ?_
        refine g_aload_n hC dX1_become_144 rfl rfl ?_
        refine g_aload_n hC dX1_become_145 rfl rfl ?_
        refine gf_X1_nose hC dX1_become_146 rfl rfl ?_
        refine gp_X1_nose hC dX1_become_149 rfl rfl ?_
        exact g_vret hC rfl dX1_become_152 (⟨rfl, by rw [show k = vN o by omega]; rfl⟩)
      · skip
        omega
    | succ d ih =>
      intro k hk
      have hfn : vN (becT v o k) = vN o := rfl
      refine g_iload_n hC dX1_become_48 rfl ?_
      refine g_aload_n hC dX1_become_49 rfl rfl ?_
      refine gf_X1_walkers hC dX1_become_50 rfl rfl ?_
      refine g_icmp_geN (tgt := 136) hC dX1_become_53 (by decide) (by omega) (by omega) (fun h_53 => ?_) (fun h_53 => ?_)
      · skip
        omega
      · skip
        refine g_aload_n hC dX1_become_56 rfl rfl ?_
        refine gf_X1_kinds hC dX1_become_57 rfl rfl ?_
        refine g_iload_n hC dX1_become_60 rfl ?_
        refine g_aload_n hC dX1_become_61 rfl rfl ?_
        refine gf_X1_kinds hC dX1_become_62 rfl rfl ?_
        refine g_iload_n hC dX1_become_65 rfl ?_
        refine g_ialdN hC dX1_become_66 rfl (by omega) (by decide) ?_
        refine g_iastN hC dX1_become_67 rfl (by omega) (by decide) ?_
        refine g_aload_n hC dX1_become_68 rfl rfl ?_
        refine gf_X1_places hC dX1_become_69 rfl rfl ?_
        refine g_iload_n hC dX1_become_72 rfl ?_
        refine g_aload_n hC dX1_become_73 rfl rfl ?_
        refine gf_X1_places hC dX1_become_74 rfl rfl ?_
        refine g_iload_n hC dX1_become_77 rfl ?_
        refine g_ialdN hC dX1_become_78 rfl (by omega) (by decide) ?_
        refine g_iastN hC dX1_become_79 rfl (by omega) (by decide) ?_
        refine g_aload_n hC dX1_become_80 rfl rfl ?_
        refine gf_X1_planLengths hC dX1_become_81 rfl rfl ?_
        refine g_iload_n hC dX1_become_84 rfl ?_
        refine g_aload_n hC dX1_become_85 rfl rfl ?_
        refine gf_X1_planLengths hC dX1_become_86 rfl rfl ?_
        refine g_iload_n hC dX1_become_89 rfl ?_
        refine g_ialdN hC dX1_become_90 rfl (by omega) (by decide) ?_
        refine g_iastN hC dX1_become_91 rfl (by omega) (by decide) ?_
        refine g_aload_n hC dX1_become_92 rfl rfl ?_
        refine gf_X1_plans hC dX1_become_93 rfl rfl ?_
        refine g_iload_n hC dX1_become_96 rfl ?_
        refine g_aaldN hC dX1_become_97 rfl (by omega) (by decide) ?_
        refine g_iconst (v := nI (0)) hC dX1_become_98 (by decide) ?_
        refine g_aload_n hC dX1_become_99 rfl rfl ?_
        refine gf_X1_plans hC dX1_become_100 rfl rfl ?_
        refine g_iload_n hC dX1_become_103 rfl ?_
        refine g_aaldN hC dX1_become_104 rfl (by omega) (by decide) ?_
        refine g_iconst (v := nI (0)) hC dX1_become_105 (by decide) ?_
        refine g_bipush (v := nI (6)) hC dX1_become_106 (by decide) ?_
        refine g_copy2N (rr := k) (n := 6) hC dX1_become_108 tw_2_31 tw_2_33 tw_2_32 tw_1_12 rfl (by omega) rfl (by omega) (by decide) (by decide) (by decide) (by decide) (by decide) ?_
        refine g_aload_n hC dX1_become_111 rfl rfl ?_
        refine gf_X1_left hC dX1_become_112 rfl rfl ?_
        refine g_iload_n hC dX1_become_115 rfl ?_
        refine g_aaldN hC dX1_become_116 rfl (by omega) (by decide) ?_
        refine g_iconst (v := nI (0)) hC dX1_become_117 (by decide) ?_
        refine g_aload_n hC dX1_become_118 rfl rfl ?_
        refine gf_X1_left hC dX1_become_119 rfl rfl ?_
        refine g_iload_n hC dX1_become_122 rfl ?_
        refine g_aaldN hC dX1_become_123 rfl (by omega) (by decide) ?_
        refine g_iconst (v := nI (0)) hC dX1_become_124 (by decide) ?_
        refine g_bipush (v := nI (6)) hC dX1_become_125 (by decide) ?_
        refine g_copy2O (rr := k) (n := 6) hC dX1_become_127 tw_2_31 tw_2_33 tw_2_32 tw_1_12 rfl (by omega) rfl (by omega) (by decide) (by decide) (by decide) (by decide) (by decide) ?_
        refine g_iincN hC dX1_become_130 rfl (by decide) rfl ?_
        refine g_goto (tgt := 48) hC dX1_become_133 (by decide) ?_
        refine g_mask [true, true, true] ?_
        have q := ih (k + 1) (by omega)
        rw [becT_succ] at q
        exact q
  refine g_aload_n hC dX1_become_0 rfl rfl ?_
  refine gf_X1_winds hC dX1_become_1 rfl rfl ?_
  refine g_iconst (v := nI (0)) hC dX1_become_4 (by decide) ?_
  refine g_aload_n hC dX1_become_5 rfl rfl ?_
  refine gf_X1_winds hC dX1_become_6 rfl rfl ?_
  refine g_iconst (v := nI (0)) hC dX1_become_9 (by decide) ?_
  refine g_bipush (v := nI (6)) hC dX1_become_10 (by decide) ?_
  refine g_copyN (n := 6) hC dX1_become_12 tw_2_31 tw_2_33 tw_2_32 tw_1_12 rfl rfl (by decide) (by decide) (by decide) (by decide) (by decide) ?_
  refine g_aload_n hC dX1_become_15 rfl rfl ?_
  refine g_aload_n hC dX1_become_16 rfl rfl ?_
  refine gf_X1_roofs hC dX1_become_17 rfl rfl ?_
  refine gp_X1_roofs hC dX1_become_20 rfl rfl ?_
  refine g_aload_n hC dX1_become_23 rfl rfl ?_
  refine gf_X1_paths hC dX1_become_24 rfl rfl ?_
  refine g_iconst (v := nI (0)) hC dX1_become_27 (by decide) ?_
  refine g_aload_n hC dX1_become_28 rfl rfl ?_
  refine gf_X1_paths hC dX1_become_29 rfl rfl ?_
  refine g_iconst (v := nI (0)) hC dX1_become_32 (by decide) ?_
  refine g_bipush (v := nI (6)) hC dX1_become_33 (by decide) ?_
  refine g_copyN (n := 6) hC dX1_become_35 tw_2_31 tw_2_33 tw_2_32 tw_1_12 rfl rfl (by decide) (by decide) (by decide) (by decide) (by decide) ?_
  refine g_aload_n hC dX1_become_38 rfl rfl ?_
  refine g_aload_n hC dX1_become_39 rfl rfl ?_
  refine gf_X1_walkers hC dX1_become_40 rfl rfl ?_
  refine gp_X1_walkers hC dX1_become_43 rfl rfl ?_
  refine g_iconst (v := nI (0)) hC dX1_become_46 (by decide) ?_
  refine g_istore_n hC dX1_become_47 (by decide) rfl ?_
  have q := loop (vN o) 0 (by omega)
  rw [becT_zero] at q
  exact q
