/-! ===== what the reference puts away ===== -/
def rawW (rw rm rn : Int32) (f1 f2 f3 f4 f5 f6 f7 f8 f9 : Nat → Int32) (lt : Nat → Nat) (len : Nat) (le la : Nat → Nat) (td : Nat → Int32) (fr ti : Nat → Nat) (pt st : Nat) (ke : Nat → Int32) (hi ik : Bool) (cu : Nat) (go num : Nat → Nat) (nin : Nat) (up fo : Nat → Nat) : List ACell :=
  [cO 4 [sR 1, sR 2, sR 3, sR 4, sR 5, sR 6, sR 7, sR 8, sR 9, sI rw, sI rm, sI rn, sR 10, sR 11, sR 12, sR 13, sR 14, sR 15, sI (nI len), sI (nI pt), sI (nI st), sR 16, sI (bI hi), sI (bI ik), sI (nI cu), sR 17, sR 18, sI (nI nin), sR 19, sR 20],
   cA 7 f1, cA 6 f2, cA 6 f3, cA 6 f4, cA 4 f5, cA 4 f6, cA 4 f7, cA 24 f8, cA 24 f9,
   cA 96 (fun j => nI (lt j)), cA 48 (fun j => nI (le j)), cA 48 (fun j => nI (la j)), cA 96 td, cA 48 (fun j => nI (fr j)), cA 48 (fun j => nI (ti j)), cA 170 ke, cA 4 (fun j => nI (go j)), cA 12 (fun j => nI (num j)), cL 54 (fun j => lN (up j)), cL 54 (fun j => lN (fo j))]
def cpyAt (ke f : Nat → Int32) (cu n : Nat) : Nat → Int32 := fun j => if cu ≤ j ∧ j < cu + n then f (j - cu) else ke j
def getA (f ke : Nat → Int32) (cu n : Nat) : Nat → Int32 := fun j => if j < n then ke (cu + j) else f j
theorem cpyAt_zero (ke f : Nat → Int32) (cu : Nat) : cpyAt ke f cu 0 = ke := by funext j; exact if_neg (by omega)
theorem getA_zero (f ke : Nat → Int32) (cu : Nat) : getA f ke cu 0 = f := by funext j; exact if_neg (by omega)
theorem cpyAt_succ (ke f : Nat → Int32) (cu k : Nat) : cpyAt ke f cu (k + 1) = upd (cpyAt ke f cu k) (cu + k) (f k) := by
  funext j
  show (if cu ≤ j ∧ j < cu + (k + 1) then f (j - cu) else ke j) = if j = cu + k then f k else if cu ≤ j ∧ j < cu + k then f (j - cu) else ke j
  by_cases h1 : j = cu + k
  · rw [if_pos (by omega), if_pos h1, show j - cu = k by omega]
  · by_cases h2 : cu ≤ j ∧ j < cu + k
    · rw [if_pos (by omega), if_neg h1, if_pos h2]
    · rw [if_neg (by omega), if_neg h1, if_neg h2]
theorem getA_succ (f ke : Nat → Int32) (cu k : Nat) : getA f ke cu (k + 1) = upd (getA f ke cu k) k (ke (cu + k)) := by
  funext j
  show (if j < k + 1 then ke (cu + j) else f j) = if j = k then ke (cu + k) else if j < k then ke (cu + j) else f j
  by_cases h1 : j = k
  · rw [if_pos (by omega), if_pos h1, h1]
  · by_cases h2 : j < k
    · rw [if_pos (by omega), if_neg h1, if_pos h2]
    · rw [if_neg (by omega), if_neg h1, if_neg h2]
set_option maxRecDepth 100000 in
set_option maxHeartbeats 4000000 in
theorem c_X4_passes_k2 (rw rm rn : Int32) (f1 f2 f3 f4 f5 f6 f7 f8 f9 : Nat → Int32) (lt : Nat → Nat) (len : Nat) (le la : Nat → Nat) (td : Nat → Int32) (fr ti : Nat → Nat) (pt st : Nat) (ke : Nat → Int32) (hi ik : Bool) (cu : Nat) (go num : Nat → Nat) (nin : Nat) (up fo : Nat → Nat) (hcu : cu + 6 ≤ 170) : ConF yX4_passes cX4_passes 3 none 0 [aR 0 0 0, aR 0 2 0] [rawW rw rm rn f1 f2 f3 f4 f5 f6 f7 f8 f9 lt len le la td fr ti pt st ke hi true cu go num nin up fo] none [rawW rw rm rn f1 f2 f3 f4 f5 f6 f7 f8 f9 lt len le la td fr ti pt st (cpyAt ke f2 cu 6) hi true (cu + 6) go num nin up fo] := by
  refine con_of RX4 pn_X4 rfl rfl (Nat.le_of_ble_eq_true rfl) (fun C hM0 hC => ?_)
  show G C 0 0 0 [aR 0 0 0, aR 0 2 0, aK 9] [] [rawW rw rm rn f1 f2 f3 f4 f5 f6 f7 f8 f9 lt len le la td fr ti pt st ke hi true cu go num nin up fo]
  have loop : ∀ d k, k + d = 6 → G C 0 0 2 [aR 0 0 0, aR 0 2 0, aI (nI (k))] [] [rawW rw rm rn f1 f2 f3 f4 f5 f6 f7 f8 f9 lt len le la td fr ti pt st (cpyAt ke f2 cu k) hi true (cu + k) go num nin up fo] := by
    intro d
    induction d with
    | zero =>
      intro k hk
      refine g_iload_n hC dX4_passes_2 rfl ?_
      refine g_aload_n hC dX4_passes_3 rfl rfl ?_
      refine g_alen hC dX4_passes_4 rfl ?_
      refine g_icmp_geN (tgt := 58) hC dX4_passes_5 (by decide) (by omega) (by omega) (fun h_5 => ?_) (fun h_5 => ?_)
      · skip
        exact g_vret hC rfl dX4_passes_58 (⟨rfl, by rw [show k = 6 by omega]⟩)
      · skip
        omega
    | succ d ih =>
      intro k hk
      refine g_iload_n hC dX4_passes_2 rfl ?_
      refine g_aload_n hC dX4_passes_3 rfl rfl ?_
      refine g_alen hC dX4_passes_4 rfl ?_
      refine g_icmp_geN (tgt := 58) hC dX4_passes_5 (by decide) (by omega) (by omega) (fun h_5 => ?_) (fun h_5 => ?_)
      · skip
        omega
      · skip
        refine g_aload_n hC dX4_passes_8 rfl rfl ?_
        refine gf_X4_isKeeping hC dX4_passes_9 rfl rfl ?_
        refine g_if_eqB (tgt := 30) hC dX4_passes_12 (by decide) (fun h_12 => ?_) (fun h_12 => ?_)
        · skip
          cases h_12
        · skip
          refine g_aload_n hC dX4_passes_15 rfl rfl ?_
          refine gf_X4_kept hC dX4_passes_16 rfl rfl ?_
          refine g_aload_n hC dX4_passes_19 rfl rfl ?_
          refine gf_X4_cursor hC dX4_passes_20 rfl rfl ?_
          refine g_aload_n hC dX4_passes_23 rfl rfl ?_
          refine g_iload_n hC dX4_passes_24 rfl ?_
          refine g_iald (v := f2 k) hC dX4_passes_25 rfl rfl (by omega) (by decide) rfl ?_
          refine g_iast hC dX4_passes_26 rfl rfl (by omega) (by decide) ?_
          refine g_goto (tgt := 42) hC dX4_passes_27 (by decide) ?_
          refine g_aload_n hC dX4_passes_42 rfl rfl ?_
          refine g_dup hC dX4_passes_43 rfl ?_
          refine gf_X4_cursor hC dX4_passes_44 rfl rfl ?_
          refine g_iconst (v := nI (1)) hC dX4_passes_47 (by decide) ?_
          refine g_iaddN hC dX4_passes_48 ?_
          refine gp_X4_cursor hC dX4_passes_49 rfl rfl ?_
          refine g_iincN hC dX4_passes_52 rfl (by decide) rfl ?_
          refine g_goto (tgt := 2) hC dX4_passes_55 (by decide) ?_
          refine g_mask [true, true, true] ?_
          have q := ih (k + 1) (by omega)
          rw [cpyAt_succ] at q
          exact q
  refine g_iconst (v := nI (0)) hC dX4_passes_0 (by decide) ?_
  refine g_istore_n hC dX4_passes_1 (by decide) rfl ?_
  have q := loop 6 0 (by omega)
  rw [cpyAt_zero] at q
  exact q

set_option maxRecDepth 100000 in
set_option maxHeartbeats 4000000 in
theorem c_X4_passes_r2 (rw rm rn : Int32) (f1 f2 f3 f4 f5 f6 f7 f8 f9 : Nat → Int32) (lt : Nat → Nat) (len : Nat) (le la : Nat → Nat) (td : Nat → Int32) (fr ti : Nat → Nat) (pt st : Nat) (ke : Nat → Int32) (hi ik : Bool) (cu : Nat) (go num : Nat → Nat) (nin : Nat) (up fo : Nat → Nat) (hcu : cu + 6 ≤ 170) : ConF yX4_passes cX4_passes 3 none 0 [aR 0 0 0, aR 0 2 0] [rawW rw rm rn f1 f2 f3 f4 f5 f6 f7 f8 f9 lt len le la td fr ti pt st ke hi false cu go num nin up fo] none [rawW rw rm rn f1 (getA f2 ke cu 6) f3 f4 f5 f6 f7 f8 f9 lt len le la td fr ti pt st ke hi false (cu + 6) go num nin up fo] := by
  refine con_of RX4 pn_X4 rfl rfl (Nat.le_of_ble_eq_true rfl) (fun C hM0 hC => ?_)
  show G C 0 0 0 [aR 0 0 0, aR 0 2 0, aK 9] [] [rawW rw rm rn f1 f2 f3 f4 f5 f6 f7 f8 f9 lt len le la td fr ti pt st ke hi false cu go num nin up fo]
  have loop : ∀ d k, k + d = 6 → G C 0 0 2 [aR 0 0 0, aR 0 2 0, aI (nI (k))] [] [rawW rw rm rn f1 (getA f2 ke cu k) f3 f4 f5 f6 f7 f8 f9 lt len le la td fr ti pt st ke hi false (cu + k) go num nin up fo] := by
    intro d
    induction d with
    | zero =>
      intro k hk
      refine g_iload_n hC dX4_passes_2 rfl ?_
      refine g_aload_n hC dX4_passes_3 rfl rfl ?_
      refine g_alen hC dX4_passes_4 rfl ?_
      refine g_icmp_geN (tgt := 58) hC dX4_passes_5 (by decide) (by omega) (by omega) (fun h_5 => ?_) (fun h_5 => ?_)
      · skip
        exact g_vret hC rfl dX4_passes_58 (⟨rfl, by rw [show k = 6 by omega]⟩)
      · skip
        omega
    | succ d ih =>
      intro k hk
      refine g_iload_n hC dX4_passes_2 rfl ?_
      refine g_aload_n hC dX4_passes_3 rfl rfl ?_
      refine g_alen hC dX4_passes_4 rfl ?_
      refine g_icmp_geN (tgt := 58) hC dX4_passes_5 (by decide) (by omega) (by omega) (fun h_5 => ?_) (fun h_5 => ?_)
      · skip
        omega
      · skip
        refine g_aload_n hC dX4_passes_8 rfl rfl ?_
        refine gf_X4_isKeeping hC dX4_passes_9 rfl rfl ?_
        refine g_if_eqB (tgt := 30) hC dX4_passes_12 (by decide) (fun h_12 => ?_) (fun h_12 => ?_)
        · skip
          refine g_aload_n hC dX4_passes_30 rfl rfl ?_
          refine g_iload_n hC dX4_passes_31 rfl ?_
          refine g_aload_n hC dX4_passes_32 rfl rfl ?_
          refine gf_X4_kept hC dX4_passes_33 rfl rfl ?_
          refine g_aload_n hC dX4_passes_36 rfl rfl ?_
          refine gf_X4_cursor hC dX4_passes_37 rfl rfl ?_
          refine g_iald (v := ke (cu + k)) hC dX4_passes_40 rfl rfl (by omega) (by decide) rfl ?_
          refine g_iast hC dX4_passes_41 rfl rfl (by omega) (by decide) ?_
          refine g_aload_n hC dX4_passes_42 rfl rfl ?_
          refine g_dup hC dX4_passes_43 rfl ?_
          refine gf_X4_cursor hC dX4_passes_44 rfl rfl ?_
          refine g_iconst (v := nI (1)) hC dX4_passes_47 (by decide) ?_
          refine g_iaddN hC dX4_passes_48 ?_
          refine gp_X4_cursor hC dX4_passes_49 rfl rfl ?_
          refine g_iincN hC dX4_passes_52 rfl (by decide) rfl ?_
          refine g_goto (tgt := 2) hC dX4_passes_55 (by decide) ?_
          refine g_mask [true, true, true] ?_
          have q := ih (k + 1) (by omega)
          rw [getA_succ] at q
          exact q
        · skip
          cases h_12
  refine g_iconst (v := nI (0)) hC dX4_passes_0 (by decide) ?_
  refine g_istore_n hC dX4_passes_1 (by decide) rfl ?_
  have q := loop 6 0 (by omega)
  rw [getA_zero] at q
  exact q

set_option maxRecDepth 100000 in
set_option maxHeartbeats 4000000 in
theorem c_X4_passes_k3 (rw rm rn : Int32) (f1 f2 f3 f4 f5 f6 f7 f8 f9 : Nat → Int32) (lt : Nat → Nat) (len : Nat) (le la : Nat → Nat) (td : Nat → Int32) (fr ti : Nat → Nat) (pt st : Nat) (ke : Nat → Int32) (hi ik : Bool) (cu : Nat) (go num : Nat → Nat) (nin : Nat) (up fo : Nat → Nat) (hcu : cu + 6 ≤ 170) : ConF yX4_passes cX4_passes 3 none 0 [aR 0 0 0, aR 0 3 0] [rawW rw rm rn f1 f2 f3 f4 f5 f6 f7 f8 f9 lt len le la td fr ti pt st ke hi true cu go num nin up fo] none [rawW rw rm rn f1 f2 f3 f4 f5 f6 f7 f8 f9 lt len le la td fr ti pt st (cpyAt ke f3 cu 6) hi true (cu + 6) go num nin up fo] := by
  refine con_of RX4 pn_X4 rfl rfl (Nat.le_of_ble_eq_true rfl) (fun C hM0 hC => ?_)
  show G C 0 0 0 [aR 0 0 0, aR 0 3 0, aK 9] [] [rawW rw rm rn f1 f2 f3 f4 f5 f6 f7 f8 f9 lt len le la td fr ti pt st ke hi true cu go num nin up fo]
  have loop : ∀ d k, k + d = 6 → G C 0 0 2 [aR 0 0 0, aR 0 3 0, aI (nI (k))] [] [rawW rw rm rn f1 f2 f3 f4 f5 f6 f7 f8 f9 lt len le la td fr ti pt st (cpyAt ke f3 cu k) hi true (cu + k) go num nin up fo] := by
    intro d
    induction d with
    | zero =>
      intro k hk
      refine g_iload_n hC dX4_passes_2 rfl ?_
      refine g_aload_n hC dX4_passes_3 rfl rfl ?_
      refine g_alen hC dX4_passes_4 rfl ?_
      refine g_icmp_geN (tgt := 58) hC dX4_passes_5 (by decide) (by omega) (by omega) (fun h_5 => ?_) (fun h_5 => ?_)
      · skip
        exact g_vret hC rfl dX4_passes_58 (⟨rfl, by rw [show k = 6 by omega]⟩)
      · skip
        omega
    | succ d ih =>
      intro k hk
      refine g_iload_n hC dX4_passes_2 rfl ?_
      refine g_aload_n hC dX4_passes_3 rfl rfl ?_
      refine g_alen hC dX4_passes_4 rfl ?_
      refine g_icmp_geN (tgt := 58) hC dX4_passes_5 (by decide) (by omega) (by omega) (fun h_5 => ?_) (fun h_5 => ?_)
      · skip
        omega
      · skip
        refine g_aload_n hC dX4_passes_8 rfl rfl ?_
        refine gf_X4_isKeeping hC dX4_passes_9 rfl rfl ?_
        refine g_if_eqB (tgt := 30) hC dX4_passes_12 (by decide) (fun h_12 => ?_) (fun h_12 => ?_)
        · skip
          cases h_12
        · skip
          refine g_aload_n hC dX4_passes_15 rfl rfl ?_
          refine gf_X4_kept hC dX4_passes_16 rfl rfl ?_
          refine g_aload_n hC dX4_passes_19 rfl rfl ?_
          refine gf_X4_cursor hC dX4_passes_20 rfl rfl ?_
          refine g_aload_n hC dX4_passes_23 rfl rfl ?_
          refine g_iload_n hC dX4_passes_24 rfl ?_
          refine g_iald (v := f3 k) hC dX4_passes_25 rfl rfl (by omega) (by decide) rfl ?_
          refine g_iast hC dX4_passes_26 rfl rfl (by omega) (by decide) ?_
          refine g_goto (tgt := 42) hC dX4_passes_27 (by decide) ?_
          refine g_aload_n hC dX4_passes_42 rfl rfl ?_
          refine g_dup hC dX4_passes_43 rfl ?_
          refine gf_X4_cursor hC dX4_passes_44 rfl rfl ?_
          refine g_iconst (v := nI (1)) hC dX4_passes_47 (by decide) ?_
          refine g_iaddN hC dX4_passes_48 ?_
          refine gp_X4_cursor hC dX4_passes_49 rfl rfl ?_
          refine g_iincN hC dX4_passes_52 rfl (by decide) rfl ?_
          refine g_goto (tgt := 2) hC dX4_passes_55 (by decide) ?_
          refine g_mask [true, true, true] ?_
          have q := ih (k + 1) (by omega)
          rw [cpyAt_succ] at q
          exact q
  refine g_iconst (v := nI (0)) hC dX4_passes_0 (by decide) ?_
  refine g_istore_n hC dX4_passes_1 (by decide) rfl ?_
  have q := loop 6 0 (by omega)
  rw [cpyAt_zero] at q
  exact q

set_option maxRecDepth 100000 in
set_option maxHeartbeats 4000000 in
theorem c_X4_passes_r3 (rw rm rn : Int32) (f1 f2 f3 f4 f5 f6 f7 f8 f9 : Nat → Int32) (lt : Nat → Nat) (len : Nat) (le la : Nat → Nat) (td : Nat → Int32) (fr ti : Nat → Nat) (pt st : Nat) (ke : Nat → Int32) (hi ik : Bool) (cu : Nat) (go num : Nat → Nat) (nin : Nat) (up fo : Nat → Nat) (hcu : cu + 6 ≤ 170) : ConF yX4_passes cX4_passes 3 none 0 [aR 0 0 0, aR 0 3 0] [rawW rw rm rn f1 f2 f3 f4 f5 f6 f7 f8 f9 lt len le la td fr ti pt st ke hi false cu go num nin up fo] none [rawW rw rm rn f1 f2 (getA f3 ke cu 6) f4 f5 f6 f7 f8 f9 lt len le la td fr ti pt st ke hi false (cu + 6) go num nin up fo] := by
  refine con_of RX4 pn_X4 rfl rfl (Nat.le_of_ble_eq_true rfl) (fun C hM0 hC => ?_)
  show G C 0 0 0 [aR 0 0 0, aR 0 3 0, aK 9] [] [rawW rw rm rn f1 f2 f3 f4 f5 f6 f7 f8 f9 lt len le la td fr ti pt st ke hi false cu go num nin up fo]
  have loop : ∀ d k, k + d = 6 → G C 0 0 2 [aR 0 0 0, aR 0 3 0, aI (nI (k))] [] [rawW rw rm rn f1 f2 (getA f3 ke cu k) f4 f5 f6 f7 f8 f9 lt len le la td fr ti pt st ke hi false (cu + k) go num nin up fo] := by
    intro d
    induction d with
    | zero =>
      intro k hk
      refine g_iload_n hC dX4_passes_2 rfl ?_
      refine g_aload_n hC dX4_passes_3 rfl rfl ?_
      refine g_alen hC dX4_passes_4 rfl ?_
      refine g_icmp_geN (tgt := 58) hC dX4_passes_5 (by decide) (by omega) (by omega) (fun h_5 => ?_) (fun h_5 => ?_)
      · skip
        exact g_vret hC rfl dX4_passes_58 (⟨rfl, by rw [show k = 6 by omega]⟩)
      · skip
        omega
    | succ d ih =>
      intro k hk
      refine g_iload_n hC dX4_passes_2 rfl ?_
      refine g_aload_n hC dX4_passes_3 rfl rfl ?_
      refine g_alen hC dX4_passes_4 rfl ?_
      refine g_icmp_geN (tgt := 58) hC dX4_passes_5 (by decide) (by omega) (by omega) (fun h_5 => ?_) (fun h_5 => ?_)
      · skip
        omega
      · skip
        refine g_aload_n hC dX4_passes_8 rfl rfl ?_
        refine gf_X4_isKeeping hC dX4_passes_9 rfl rfl ?_
        refine g_if_eqB (tgt := 30) hC dX4_passes_12 (by decide) (fun h_12 => ?_) (fun h_12 => ?_)
        · skip
          refine g_aload_n hC dX4_passes_30 rfl rfl ?_
          refine g_iload_n hC dX4_passes_31 rfl ?_
          refine g_aload_n hC dX4_passes_32 rfl rfl ?_
          refine gf_X4_kept hC dX4_passes_33 rfl rfl ?_
          refine g_aload_n hC dX4_passes_36 rfl rfl ?_
          refine gf_X4_cursor hC dX4_passes_37 rfl rfl ?_
          refine g_iald (v := ke (cu + k)) hC dX4_passes_40 rfl rfl (by omega) (by decide) rfl ?_
          refine g_iast hC dX4_passes_41 rfl rfl (by omega) (by decide) ?_
          refine g_aload_n hC dX4_passes_42 rfl rfl ?_
          refine g_dup hC dX4_passes_43 rfl ?_
          refine gf_X4_cursor hC dX4_passes_44 rfl rfl ?_
          refine g_iconst (v := nI (1)) hC dX4_passes_47 (by decide) ?_
          refine g_iaddN hC dX4_passes_48 ?_
          refine gp_X4_cursor hC dX4_passes_49 rfl rfl ?_
          refine g_iincN hC dX4_passes_52 rfl (by decide) rfl ?_
          refine g_goto (tgt := 2) hC dX4_passes_55 (by decide) ?_
          refine g_mask [true, true, true] ?_
          have q := ih (k + 1) (by omega)
          rw [getA_succ] at q
          exact q
        · skip
          cases h_12
  refine g_iconst (v := nI (0)) hC dX4_passes_0 (by decide) ?_
  refine g_istore_n hC dX4_passes_1 (by decide) rfl ?_
  have q := loop 6 0 (by omega)
  rw [getA_zero] at q
  exact q

set_option maxRecDepth 100000 in
set_option maxHeartbeats 4000000 in
theorem c_X4_passes_k4 (rw rm rn : Int32) (f1 f2 f3 f4 f5 f6 f7 f8 f9 : Nat → Int32) (lt : Nat → Nat) (len : Nat) (le la : Nat → Nat) (td : Nat → Int32) (fr ti : Nat → Nat) (pt st : Nat) (ke : Nat → Int32) (hi ik : Bool) (cu : Nat) (go num : Nat → Nat) (nin : Nat) (up fo : Nat → Nat) (hcu : cu + 6 ≤ 170) : ConF yX4_passes cX4_passes 3 none 0 [aR 0 0 0, aR 0 4 0] [rawW rw rm rn f1 f2 f3 f4 f5 f6 f7 f8 f9 lt len le la td fr ti pt st ke hi true cu go num nin up fo] none [rawW rw rm rn f1 f2 f3 f4 f5 f6 f7 f8 f9 lt len le la td fr ti pt st (cpyAt ke f4 cu 6) hi true (cu + 6) go num nin up fo] := by
  refine con_of RX4 pn_X4 rfl rfl (Nat.le_of_ble_eq_true rfl) (fun C hM0 hC => ?_)
  show G C 0 0 0 [aR 0 0 0, aR 0 4 0, aK 9] [] [rawW rw rm rn f1 f2 f3 f4 f5 f6 f7 f8 f9 lt len le la td fr ti pt st ke hi true cu go num nin up fo]
  have loop : ∀ d k, k + d = 6 → G C 0 0 2 [aR 0 0 0, aR 0 4 0, aI (nI (k))] [] [rawW rw rm rn f1 f2 f3 f4 f5 f6 f7 f8 f9 lt len le la td fr ti pt st (cpyAt ke f4 cu k) hi true (cu + k) go num nin up fo] := by
    intro d
    induction d with
    | zero =>
      intro k hk
      refine g_iload_n hC dX4_passes_2 rfl ?_
      refine g_aload_n hC dX4_passes_3 rfl rfl ?_
      refine g_alen hC dX4_passes_4 rfl ?_
      refine g_icmp_geN (tgt := 58) hC dX4_passes_5 (by decide) (by omega) (by omega) (fun h_5 => ?_) (fun h_5 => ?_)
      · skip
        exact g_vret hC rfl dX4_passes_58 (⟨rfl, by rw [show k = 6 by omega]⟩)
      · skip
        omega
    | succ d ih =>
      intro k hk
      refine g_iload_n hC dX4_passes_2 rfl ?_
      refine g_aload_n hC dX4_passes_3 rfl rfl ?_
      refine g_alen hC dX4_passes_4 rfl ?_
      refine g_icmp_geN (tgt := 58) hC dX4_passes_5 (by decide) (by omega) (by omega) (fun h_5 => ?_) (fun h_5 => ?_)
      · skip
        omega
      · skip
        refine g_aload_n hC dX4_passes_8 rfl rfl ?_
        refine gf_X4_isKeeping hC dX4_passes_9 rfl rfl ?_
        refine g_if_eqB (tgt := 30) hC dX4_passes_12 (by decide) (fun h_12 => ?_) (fun h_12 => ?_)
        · skip
          cases h_12
        · skip
          refine g_aload_n hC dX4_passes_15 rfl rfl ?_
          refine gf_X4_kept hC dX4_passes_16 rfl rfl ?_
          refine g_aload_n hC dX4_passes_19 rfl rfl ?_
          refine gf_X4_cursor hC dX4_passes_20 rfl rfl ?_
          refine g_aload_n hC dX4_passes_23 rfl rfl ?_
          refine g_iload_n hC dX4_passes_24 rfl ?_
          refine g_iald (v := f4 k) hC dX4_passes_25 rfl rfl (by omega) (by decide) rfl ?_
          refine g_iast hC dX4_passes_26 rfl rfl (by omega) (by decide) ?_
          refine g_goto (tgt := 42) hC dX4_passes_27 (by decide) ?_
          refine g_aload_n hC dX4_passes_42 rfl rfl ?_
          refine g_dup hC dX4_passes_43 rfl ?_
          refine gf_X4_cursor hC dX4_passes_44 rfl rfl ?_
          refine g_iconst (v := nI (1)) hC dX4_passes_47 (by decide) ?_
          refine g_iaddN hC dX4_passes_48 ?_
          refine gp_X4_cursor hC dX4_passes_49 rfl rfl ?_
          refine g_iincN hC dX4_passes_52 rfl (by decide) rfl ?_
          refine g_goto (tgt := 2) hC dX4_passes_55 (by decide) ?_
          refine g_mask [true, true, true] ?_
          have q := ih (k + 1) (by omega)
          rw [cpyAt_succ] at q
          exact q
  refine g_iconst (v := nI (0)) hC dX4_passes_0 (by decide) ?_
  refine g_istore_n hC dX4_passes_1 (by decide) rfl ?_
  have q := loop 6 0 (by omega)
  rw [cpyAt_zero] at q
  exact q

set_option maxRecDepth 100000 in
set_option maxHeartbeats 4000000 in
theorem c_X4_passes_r4 (rw rm rn : Int32) (f1 f2 f3 f4 f5 f6 f7 f8 f9 : Nat → Int32) (lt : Nat → Nat) (len : Nat) (le la : Nat → Nat) (td : Nat → Int32) (fr ti : Nat → Nat) (pt st : Nat) (ke : Nat → Int32) (hi ik : Bool) (cu : Nat) (go num : Nat → Nat) (nin : Nat) (up fo : Nat → Nat) (hcu : cu + 6 ≤ 170) : ConF yX4_passes cX4_passes 3 none 0 [aR 0 0 0, aR 0 4 0] [rawW rw rm rn f1 f2 f3 f4 f5 f6 f7 f8 f9 lt len le la td fr ti pt st ke hi false cu go num nin up fo] none [rawW rw rm rn f1 f2 f3 (getA f4 ke cu 6) f5 f6 f7 f8 f9 lt len le la td fr ti pt st ke hi false (cu + 6) go num nin up fo] := by
  refine con_of RX4 pn_X4 rfl rfl (Nat.le_of_ble_eq_true rfl) (fun C hM0 hC => ?_)
  show G C 0 0 0 [aR 0 0 0, aR 0 4 0, aK 9] [] [rawW rw rm rn f1 f2 f3 f4 f5 f6 f7 f8 f9 lt len le la td fr ti pt st ke hi false cu go num nin up fo]
  have loop : ∀ d k, k + d = 6 → G C 0 0 2 [aR 0 0 0, aR 0 4 0, aI (nI (k))] [] [rawW rw rm rn f1 f2 f3 (getA f4 ke cu k) f5 f6 f7 f8 f9 lt len le la td fr ti pt st ke hi false (cu + k) go num nin up fo] := by
    intro d
    induction d with
    | zero =>
      intro k hk
      refine g_iload_n hC dX4_passes_2 rfl ?_
      refine g_aload_n hC dX4_passes_3 rfl rfl ?_
      refine g_alen hC dX4_passes_4 rfl ?_
      refine g_icmp_geN (tgt := 58) hC dX4_passes_5 (by decide) (by omega) (by omega) (fun h_5 => ?_) (fun h_5 => ?_)
      · skip
        exact g_vret hC rfl dX4_passes_58 (⟨rfl, by rw [show k = 6 by omega]⟩)
      · skip
        omega
    | succ d ih =>
      intro k hk
      refine g_iload_n hC dX4_passes_2 rfl ?_
      refine g_aload_n hC dX4_passes_3 rfl rfl ?_
      refine g_alen hC dX4_passes_4 rfl ?_
      refine g_icmp_geN (tgt := 58) hC dX4_passes_5 (by decide) (by omega) (by omega) (fun h_5 => ?_) (fun h_5 => ?_)
      · skip
        omega
      · skip
        refine g_aload_n hC dX4_passes_8 rfl rfl ?_
        refine gf_X4_isKeeping hC dX4_passes_9 rfl rfl ?_
        refine g_if_eqB (tgt := 30) hC dX4_passes_12 (by decide) (fun h_12 => ?_) (fun h_12 => ?_)
        · skip
          refine g_aload_n hC dX4_passes_30 rfl rfl ?_
          refine g_iload_n hC dX4_passes_31 rfl ?_
          refine g_aload_n hC dX4_passes_32 rfl rfl ?_
          refine gf_X4_kept hC dX4_passes_33 rfl rfl ?_
          refine g_aload_n hC dX4_passes_36 rfl rfl ?_
          refine gf_X4_cursor hC dX4_passes_37 rfl rfl ?_
          refine g_iald (v := ke (cu + k)) hC dX4_passes_40 rfl rfl (by omega) (by decide) rfl ?_
          refine g_iast hC dX4_passes_41 rfl rfl (by omega) (by decide) ?_
          refine g_aload_n hC dX4_passes_42 rfl rfl ?_
          refine g_dup hC dX4_passes_43 rfl ?_
          refine gf_X4_cursor hC dX4_passes_44 rfl rfl ?_
          refine g_iconst (v := nI (1)) hC dX4_passes_47 (by decide) ?_
          refine g_iaddN hC dX4_passes_48 ?_
          refine gp_X4_cursor hC dX4_passes_49 rfl rfl ?_
          refine g_iincN hC dX4_passes_52 rfl (by decide) rfl ?_
          refine g_goto (tgt := 2) hC dX4_passes_55 (by decide) ?_
          refine g_mask [true, true, true] ?_
          have q := ih (k + 1) (by omega)
          rw [getA_succ] at q
          exact q
        · skip
          cases h_12
  refine g_iconst (v := nI (0)) hC dX4_passes_0 (by decide) ?_
  refine g_istore_n hC dX4_passes_1 (by decide) rfl ?_
  have q := loop 6 0 (by omega)
  rw [getA_zero] at q
  exact q

set_option maxRecDepth 100000 in
set_option maxHeartbeats 4000000 in
theorem c_X4_passes_k5 (rw rm rn : Int32) (f1 f2 f3 f4 f5 f6 f7 f8 f9 : Nat → Int32) (lt : Nat → Nat) (len : Nat) (le la : Nat → Nat) (td : Nat → Int32) (fr ti : Nat → Nat) (pt st : Nat) (ke : Nat → Int32) (hi ik : Bool) (cu : Nat) (go num : Nat → Nat) (nin : Nat) (up fo : Nat → Nat) (hcu : cu + 4 ≤ 170) : ConF yX4_passes cX4_passes 3 none 0 [aR 0 0 0, aR 0 5 0] [rawW rw rm rn f1 f2 f3 f4 f5 f6 f7 f8 f9 lt len le la td fr ti pt st ke hi true cu go num nin up fo] none [rawW rw rm rn f1 f2 f3 f4 f5 f6 f7 f8 f9 lt len le la td fr ti pt st (cpyAt ke f5 cu 4) hi true (cu + 4) go num nin up fo] := by
  refine con_of RX4 pn_X4 rfl rfl (Nat.le_of_ble_eq_true rfl) (fun C hM0 hC => ?_)
  show G C 0 0 0 [aR 0 0 0, aR 0 5 0, aK 9] [] [rawW rw rm rn f1 f2 f3 f4 f5 f6 f7 f8 f9 lt len le la td fr ti pt st ke hi true cu go num nin up fo]
  have loop : ∀ d k, k + d = 4 → G C 0 0 2 [aR 0 0 0, aR 0 5 0, aI (nI (k))] [] [rawW rw rm rn f1 f2 f3 f4 f5 f6 f7 f8 f9 lt len le la td fr ti pt st (cpyAt ke f5 cu k) hi true (cu + k) go num nin up fo] := by
    intro d
    induction d with
    | zero =>
      intro k hk
      refine g_iload_n hC dX4_passes_2 rfl ?_
      refine g_aload_n hC dX4_passes_3 rfl rfl ?_
      refine g_alen hC dX4_passes_4 rfl ?_
      refine g_icmp_geN (tgt := 58) hC dX4_passes_5 (by decide) (by omega) (by omega) (fun h_5 => ?_) (fun h_5 => ?_)
      · skip
        exact g_vret hC rfl dX4_passes_58 (⟨rfl, by rw [show k = 4 by omega]⟩)
      · skip
        omega
    | succ d ih =>
      intro k hk
      refine g_iload_n hC dX4_passes_2 rfl ?_
      refine g_aload_n hC dX4_passes_3 rfl rfl ?_
      refine g_alen hC dX4_passes_4 rfl ?_
      refine g_icmp_geN (tgt := 58) hC dX4_passes_5 (by decide) (by omega) (by omega) (fun h_5 => ?_) (fun h_5 => ?_)
      · skip
        omega
      · skip
        refine g_aload_n hC dX4_passes_8 rfl rfl ?_
        refine gf_X4_isKeeping hC dX4_passes_9 rfl rfl ?_
        refine g_if_eqB (tgt := 30) hC dX4_passes_12 (by decide) (fun h_12 => ?_) (fun h_12 => ?_)
        · skip
          cases h_12
        · skip
          refine g_aload_n hC dX4_passes_15 rfl rfl ?_
          refine gf_X4_kept hC dX4_passes_16 rfl rfl ?_
          refine g_aload_n hC dX4_passes_19 rfl rfl ?_
          refine gf_X4_cursor hC dX4_passes_20 rfl rfl ?_
          refine g_aload_n hC dX4_passes_23 rfl rfl ?_
          refine g_iload_n hC dX4_passes_24 rfl ?_
          refine g_iald (v := f5 k) hC dX4_passes_25 rfl rfl (by omega) (by decide) rfl ?_
          refine g_iast hC dX4_passes_26 rfl rfl (by omega) (by decide) ?_
          refine g_goto (tgt := 42) hC dX4_passes_27 (by decide) ?_
          refine g_aload_n hC dX4_passes_42 rfl rfl ?_
          refine g_dup hC dX4_passes_43 rfl ?_
          refine gf_X4_cursor hC dX4_passes_44 rfl rfl ?_
          refine g_iconst (v := nI (1)) hC dX4_passes_47 (by decide) ?_
          refine g_iaddN hC dX4_passes_48 ?_
          refine gp_X4_cursor hC dX4_passes_49 rfl rfl ?_
          refine g_iincN hC dX4_passes_52 rfl (by decide) rfl ?_
          refine g_goto (tgt := 2) hC dX4_passes_55 (by decide) ?_
          refine g_mask [true, true, true] ?_
          have q := ih (k + 1) (by omega)
          rw [cpyAt_succ] at q
          exact q
  refine g_iconst (v := nI (0)) hC dX4_passes_0 (by decide) ?_
  refine g_istore_n hC dX4_passes_1 (by decide) rfl ?_
  have q := loop 4 0 (by omega)
  rw [cpyAt_zero] at q
  exact q

set_option maxRecDepth 100000 in
set_option maxHeartbeats 4000000 in
theorem c_X4_passes_r5 (rw rm rn : Int32) (f1 f2 f3 f4 f5 f6 f7 f8 f9 : Nat → Int32) (lt : Nat → Nat) (len : Nat) (le la : Nat → Nat) (td : Nat → Int32) (fr ti : Nat → Nat) (pt st : Nat) (ke : Nat → Int32) (hi ik : Bool) (cu : Nat) (go num : Nat → Nat) (nin : Nat) (up fo : Nat → Nat) (hcu : cu + 4 ≤ 170) : ConF yX4_passes cX4_passes 3 none 0 [aR 0 0 0, aR 0 5 0] [rawW rw rm rn f1 f2 f3 f4 f5 f6 f7 f8 f9 lt len le la td fr ti pt st ke hi false cu go num nin up fo] none [rawW rw rm rn f1 f2 f3 f4 (getA f5 ke cu 4) f6 f7 f8 f9 lt len le la td fr ti pt st ke hi false (cu + 4) go num nin up fo] := by
  refine con_of RX4 pn_X4 rfl rfl (Nat.le_of_ble_eq_true rfl) (fun C hM0 hC => ?_)
  show G C 0 0 0 [aR 0 0 0, aR 0 5 0, aK 9] [] [rawW rw rm rn f1 f2 f3 f4 f5 f6 f7 f8 f9 lt len le la td fr ti pt st ke hi false cu go num nin up fo]
  have loop : ∀ d k, k + d = 4 → G C 0 0 2 [aR 0 0 0, aR 0 5 0, aI (nI (k))] [] [rawW rw rm rn f1 f2 f3 f4 (getA f5 ke cu k) f6 f7 f8 f9 lt len le la td fr ti pt st ke hi false (cu + k) go num nin up fo] := by
    intro d
    induction d with
    | zero =>
      intro k hk
      refine g_iload_n hC dX4_passes_2 rfl ?_
      refine g_aload_n hC dX4_passes_3 rfl rfl ?_
      refine g_alen hC dX4_passes_4 rfl ?_
      refine g_icmp_geN (tgt := 58) hC dX4_passes_5 (by decide) (by omega) (by omega) (fun h_5 => ?_) (fun h_5 => ?_)
      · skip
        exact g_vret hC rfl dX4_passes_58 (⟨rfl, by rw [show k = 4 by omega]⟩)
      · skip
        omega
    | succ d ih =>
      intro k hk
      refine g_iload_n hC dX4_passes_2 rfl ?_
      refine g_aload_n hC dX4_passes_3 rfl rfl ?_
      refine g_alen hC dX4_passes_4 rfl ?_
      refine g_icmp_geN (tgt := 58) hC dX4_passes_5 (by decide) (by omega) (by omega) (fun h_5 => ?_) (fun h_5 => ?_)
      · skip
        omega
      · skip
        refine g_aload_n hC dX4_passes_8 rfl rfl ?_
        refine gf_X4_isKeeping hC dX4_passes_9 rfl rfl ?_
        refine g_if_eqB (tgt := 30) hC dX4_passes_12 (by decide) (fun h_12 => ?_) (fun h_12 => ?_)
        · skip
          refine g_aload_n hC dX4_passes_30 rfl rfl ?_
          refine g_iload_n hC dX4_passes_31 rfl ?_
          refine g_aload_n hC dX4_passes_32 rfl rfl ?_
          refine gf_X4_kept hC dX4_passes_33 rfl rfl ?_
          refine g_aload_n hC dX4_passes_36 rfl rfl ?_
          refine gf_X4_cursor hC dX4_passes_37 rfl rfl ?_
          refine g_iald (v := ke (cu + k)) hC dX4_passes_40 rfl rfl (by omega) (by decide) rfl ?_
          refine g_iast hC dX4_passes_41 rfl rfl (by omega) (by decide) ?_
          refine g_aload_n hC dX4_passes_42 rfl rfl ?_
          refine g_dup hC dX4_passes_43 rfl ?_
          refine gf_X4_cursor hC dX4_passes_44 rfl rfl ?_
          refine g_iconst (v := nI (1)) hC dX4_passes_47 (by decide) ?_
          refine g_iaddN hC dX4_passes_48 ?_
          refine gp_X4_cursor hC dX4_passes_49 rfl rfl ?_
          refine g_iincN hC dX4_passes_52 rfl (by decide) rfl ?_
          refine g_goto (tgt := 2) hC dX4_passes_55 (by decide) ?_
          refine g_mask [true, true, true] ?_
          have q := ih (k + 1) (by omega)
          rw [getA_succ] at q
          exact q
        · skip
          cases h_12
  refine g_iconst (v := nI (0)) hC dX4_passes_0 (by decide) ?_
  refine g_istore_n hC dX4_passes_1 (by decide) rfl ?_
  have q := loop 4 0 (by omega)
  rw [getA_zero] at q
  exact q

set_option maxRecDepth 100000 in
set_option maxHeartbeats 4000000 in
theorem c_X4_passes_k6 (rw rm rn : Int32) (f1 f2 f3 f4 f5 f6 f7 f8 f9 : Nat → Int32) (lt : Nat → Nat) (len : Nat) (le la : Nat → Nat) (td : Nat → Int32) (fr ti : Nat → Nat) (pt st : Nat) (ke : Nat → Int32) (hi ik : Bool) (cu : Nat) (go num : Nat → Nat) (nin : Nat) (up fo : Nat → Nat) (hcu : cu + 4 ≤ 170) : ConF yX4_passes cX4_passes 3 none 0 [aR 0 0 0, aR 0 6 0] [rawW rw rm rn f1 f2 f3 f4 f5 f6 f7 f8 f9 lt len le la td fr ti pt st ke hi true cu go num nin up fo] none [rawW rw rm rn f1 f2 f3 f4 f5 f6 f7 f8 f9 lt len le la td fr ti pt st (cpyAt ke f6 cu 4) hi true (cu + 4) go num nin up fo] := by
  refine con_of RX4 pn_X4 rfl rfl (Nat.le_of_ble_eq_true rfl) (fun C hM0 hC => ?_)
  show G C 0 0 0 [aR 0 0 0, aR 0 6 0, aK 9] [] [rawW rw rm rn f1 f2 f3 f4 f5 f6 f7 f8 f9 lt len le la td fr ti pt st ke hi true cu go num nin up fo]
  have loop : ∀ d k, k + d = 4 → G C 0 0 2 [aR 0 0 0, aR 0 6 0, aI (nI (k))] [] [rawW rw rm rn f1 f2 f3 f4 f5 f6 f7 f8 f9 lt len le la td fr ti pt st (cpyAt ke f6 cu k) hi true (cu + k) go num nin up fo] := by
    intro d
    induction d with
    | zero =>
      intro k hk
      refine g_iload_n hC dX4_passes_2 rfl ?_
      refine g_aload_n hC dX4_passes_3 rfl rfl ?_
      refine g_alen hC dX4_passes_4 rfl ?_
      refine g_icmp_geN (tgt := 58) hC dX4_passes_5 (by decide) (by omega) (by omega) (fun h_5 => ?_) (fun h_5 => ?_)
      · skip
        exact g_vret hC rfl dX4_passes_58 (⟨rfl, by rw [show k = 4 by omega]⟩)
      · skip
        omega
    | succ d ih =>
      intro k hk
      refine g_iload_n hC dX4_passes_2 rfl ?_
      refine g_aload_n hC dX4_passes_3 rfl rfl ?_
      refine g_alen hC dX4_passes_4 rfl ?_
      refine g_icmp_geN (tgt := 58) hC dX4_passes_5 (by decide) (by omega) (by omega) (fun h_5 => ?_) (fun h_5 => ?_)
      · skip
        omega
      · skip
        refine g_aload_n hC dX4_passes_8 rfl rfl ?_
        refine gf_X4_isKeeping hC dX4_passes_9 rfl rfl ?_
        refine g_if_eqB (tgt := 30) hC dX4_passes_12 (by decide) (fun h_12 => ?_) (fun h_12 => ?_)
        · skip
          cases h_12
        · skip
          refine g_aload_n hC dX4_passes_15 rfl rfl ?_
          refine gf_X4_kept hC dX4_passes_16 rfl rfl ?_
          refine g_aload_n hC dX4_passes_19 rfl rfl ?_
          refine gf_X4_cursor hC dX4_passes_20 rfl rfl ?_
          refine g_aload_n hC dX4_passes_23 rfl rfl ?_
          refine g_iload_n hC dX4_passes_24 rfl ?_
          refine g_iald (v := f6 k) hC dX4_passes_25 rfl rfl (by omega) (by decide) rfl ?_
          refine g_iast hC dX4_passes_26 rfl rfl (by omega) (by decide) ?_
          refine g_goto (tgt := 42) hC dX4_passes_27 (by decide) ?_
          refine g_aload_n hC dX4_passes_42 rfl rfl ?_
          refine g_dup hC dX4_passes_43 rfl ?_
          refine gf_X4_cursor hC dX4_passes_44 rfl rfl ?_
          refine g_iconst (v := nI (1)) hC dX4_passes_47 (by decide) ?_
          refine g_iaddN hC dX4_passes_48 ?_
          refine gp_X4_cursor hC dX4_passes_49 rfl rfl ?_
          refine g_iincN hC dX4_passes_52 rfl (by decide) rfl ?_
          refine g_goto (tgt := 2) hC dX4_passes_55 (by decide) ?_
          refine g_mask [true, true, true] ?_
          have q := ih (k + 1) (by omega)
          rw [cpyAt_succ] at q
          exact q
  refine g_iconst (v := nI (0)) hC dX4_passes_0 (by decide) ?_
  refine g_istore_n hC dX4_passes_1 (by decide) rfl ?_
  have q := loop 4 0 (by omega)
  rw [cpyAt_zero] at q
  exact q

set_option maxRecDepth 100000 in
set_option maxHeartbeats 4000000 in
theorem c_X4_passes_r6 (rw rm rn : Int32) (f1 f2 f3 f4 f5 f6 f7 f8 f9 : Nat → Int32) (lt : Nat → Nat) (len : Nat) (le la : Nat → Nat) (td : Nat → Int32) (fr ti : Nat → Nat) (pt st : Nat) (ke : Nat → Int32) (hi ik : Bool) (cu : Nat) (go num : Nat → Nat) (nin : Nat) (up fo : Nat → Nat) (hcu : cu + 4 ≤ 170) : ConF yX4_passes cX4_passes 3 none 0 [aR 0 0 0, aR 0 6 0] [rawW rw rm rn f1 f2 f3 f4 f5 f6 f7 f8 f9 lt len le la td fr ti pt st ke hi false cu go num nin up fo] none [rawW rw rm rn f1 f2 f3 f4 f5 (getA f6 ke cu 4) f7 f8 f9 lt len le la td fr ti pt st ke hi false (cu + 4) go num nin up fo] := by
  refine con_of RX4 pn_X4 rfl rfl (Nat.le_of_ble_eq_true rfl) (fun C hM0 hC => ?_)
  show G C 0 0 0 [aR 0 0 0, aR 0 6 0, aK 9] [] [rawW rw rm rn f1 f2 f3 f4 f5 f6 f7 f8 f9 lt len le la td fr ti pt st ke hi false cu go num nin up fo]
  have loop : ∀ d k, k + d = 4 → G C 0 0 2 [aR 0 0 0, aR 0 6 0, aI (nI (k))] [] [rawW rw rm rn f1 f2 f3 f4 f5 (getA f6 ke cu k) f7 f8 f9 lt len le la td fr ti pt st ke hi false (cu + k) go num nin up fo] := by
    intro d
    induction d with
    | zero =>
      intro k hk
      refine g_iload_n hC dX4_passes_2 rfl ?_
      refine g_aload_n hC dX4_passes_3 rfl rfl ?_
      refine g_alen hC dX4_passes_4 rfl ?_
      refine g_icmp_geN (tgt := 58) hC dX4_passes_5 (by decide) (by omega) (by omega) (fun h_5 => ?_) (fun h_5 => ?_)
      · skip
        exact g_vret hC rfl dX4_passes_58 (⟨rfl, by rw [show k = 4 by omega]⟩)
      · skip
        omega
    | succ d ih =>
      intro k hk
      refine g_iload_n hC dX4_passes_2 rfl ?_
      refine g_aload_n hC dX4_passes_3 rfl rfl ?_
      refine g_alen hC dX4_passes_4 rfl ?_
      refine g_icmp_geN (tgt := 58) hC dX4_passes_5 (by decide) (by omega) (by omega) (fun h_5 => ?_) (fun h_5 => ?_)
      · skip
        omega
      · skip
        refine g_aload_n hC dX4_passes_8 rfl rfl ?_
        refine gf_X4_isKeeping hC dX4_passes_9 rfl rfl ?_
        refine g_if_eqB (tgt := 30) hC dX4_passes_12 (by decide) (fun h_12 => ?_) (fun h_12 => ?_)
        · skip
          refine g_aload_n hC dX4_passes_30 rfl rfl ?_
          refine g_iload_n hC dX4_passes_31 rfl ?_
          refine g_aload_n hC dX4_passes_32 rfl rfl ?_
          refine gf_X4_kept hC dX4_passes_33 rfl rfl ?_
          refine g_aload_n hC dX4_passes_36 rfl rfl ?_
          refine gf_X4_cursor hC dX4_passes_37 rfl rfl ?_
          refine g_iald (v := ke (cu + k)) hC dX4_passes_40 rfl rfl (by omega) (by decide) rfl ?_
          refine g_iast hC dX4_passes_41 rfl rfl (by omega) (by decide) ?_
          refine g_aload_n hC dX4_passes_42 rfl rfl ?_
          refine g_dup hC dX4_passes_43 rfl ?_
          refine gf_X4_cursor hC dX4_passes_44 rfl rfl ?_
          refine g_iconst (v := nI (1)) hC dX4_passes_47 (by decide) ?_
          refine g_iaddN hC dX4_passes_48 ?_
          refine gp_X4_cursor hC dX4_passes_49 rfl rfl ?_
          refine g_iincN hC dX4_passes_52 rfl (by decide) rfl ?_
          refine g_goto (tgt := 2) hC dX4_passes_55 (by decide) ?_
          refine g_mask [true, true, true] ?_
          have q := ih (k + 1) (by omega)
          rw [getA_succ] at q
          exact q
        · skip
          cases h_12
  refine g_iconst (v := nI (0)) hC dX4_passes_0 (by decide) ?_
  refine g_istore_n hC dX4_passes_1 (by decide) rfl ?_
  have q := loop 4 0 (by omega)
  rw [getA_zero] at q
  exact q

set_option maxRecDepth 100000 in
set_option maxHeartbeats 4000000 in
theorem c_X4_passes_k7 (rw rm rn : Int32) (f1 f2 f3 f4 f5 f6 f7 f8 f9 : Nat → Int32) (lt : Nat → Nat) (len : Nat) (le la : Nat → Nat) (td : Nat → Int32) (fr ti : Nat → Nat) (pt st : Nat) (ke : Nat → Int32) (hi ik : Bool) (cu : Nat) (go num : Nat → Nat) (nin : Nat) (up fo : Nat → Nat) (hcu : cu + 4 ≤ 170) : ConF yX4_passes cX4_passes 3 none 0 [aR 0 0 0, aR 0 7 0] [rawW rw rm rn f1 f2 f3 f4 f5 f6 f7 f8 f9 lt len le la td fr ti pt st ke hi true cu go num nin up fo] none [rawW rw rm rn f1 f2 f3 f4 f5 f6 f7 f8 f9 lt len le la td fr ti pt st (cpyAt ke f7 cu 4) hi true (cu + 4) go num nin up fo] := by
  refine con_of RX4 pn_X4 rfl rfl (Nat.le_of_ble_eq_true rfl) (fun C hM0 hC => ?_)
  show G C 0 0 0 [aR 0 0 0, aR 0 7 0, aK 9] [] [rawW rw rm rn f1 f2 f3 f4 f5 f6 f7 f8 f9 lt len le la td fr ti pt st ke hi true cu go num nin up fo]
  have loop : ∀ d k, k + d = 4 → G C 0 0 2 [aR 0 0 0, aR 0 7 0, aI (nI (k))] [] [rawW rw rm rn f1 f2 f3 f4 f5 f6 f7 f8 f9 lt len le la td fr ti pt st (cpyAt ke f7 cu k) hi true (cu + k) go num nin up fo] := by
    intro d
    induction d with
    | zero =>
      intro k hk
      refine g_iload_n hC dX4_passes_2 rfl ?_
      refine g_aload_n hC dX4_passes_3 rfl rfl ?_
      refine g_alen hC dX4_passes_4 rfl ?_
      refine g_icmp_geN (tgt := 58) hC dX4_passes_5 (by decide) (by omega) (by omega) (fun h_5 => ?_) (fun h_5 => ?_)
      · skip
        exact g_vret hC rfl dX4_passes_58 (⟨rfl, by rw [show k = 4 by omega]⟩)
      · skip
        omega
    | succ d ih =>
      intro k hk
      refine g_iload_n hC dX4_passes_2 rfl ?_
      refine g_aload_n hC dX4_passes_3 rfl rfl ?_
      refine g_alen hC dX4_passes_4 rfl ?_
      refine g_icmp_geN (tgt := 58) hC dX4_passes_5 (by decide) (by omega) (by omega) (fun h_5 => ?_) (fun h_5 => ?_)
      · skip
        omega
      · skip
        refine g_aload_n hC dX4_passes_8 rfl rfl ?_
        refine gf_X4_isKeeping hC dX4_passes_9 rfl rfl ?_
        refine g_if_eqB (tgt := 30) hC dX4_passes_12 (by decide) (fun h_12 => ?_) (fun h_12 => ?_)
        · skip
          cases h_12
        · skip
          refine g_aload_n hC dX4_passes_15 rfl rfl ?_
          refine gf_X4_kept hC dX4_passes_16 rfl rfl ?_
          refine g_aload_n hC dX4_passes_19 rfl rfl ?_
          refine gf_X4_cursor hC dX4_passes_20 rfl rfl ?_
          refine g_aload_n hC dX4_passes_23 rfl rfl ?_
          refine g_iload_n hC dX4_passes_24 rfl ?_
          refine g_iald (v := f7 k) hC dX4_passes_25 rfl rfl (by omega) (by decide) rfl ?_
          refine g_iast hC dX4_passes_26 rfl rfl (by omega) (by decide) ?_
          refine g_goto (tgt := 42) hC dX4_passes_27 (by decide) ?_
          refine g_aload_n hC dX4_passes_42 rfl rfl ?_
          refine g_dup hC dX4_passes_43 rfl ?_
          refine gf_X4_cursor hC dX4_passes_44 rfl rfl ?_
          refine g_iconst (v := nI (1)) hC dX4_passes_47 (by decide) ?_
          refine g_iaddN hC dX4_passes_48 ?_
          refine gp_X4_cursor hC dX4_passes_49 rfl rfl ?_
          refine g_iincN hC dX4_passes_52 rfl (by decide) rfl ?_
          refine g_goto (tgt := 2) hC dX4_passes_55 (by decide) ?_
          refine g_mask [true, true, true] ?_
          have q := ih (k + 1) (by omega)
          rw [cpyAt_succ] at q
          exact q
  refine g_iconst (v := nI (0)) hC dX4_passes_0 (by decide) ?_
  refine g_istore_n hC dX4_passes_1 (by decide) rfl ?_
  have q := loop 4 0 (by omega)
  rw [cpyAt_zero] at q
  exact q

set_option maxRecDepth 100000 in
set_option maxHeartbeats 4000000 in
theorem c_X4_passes_r7 (rw rm rn : Int32) (f1 f2 f3 f4 f5 f6 f7 f8 f9 : Nat → Int32) (lt : Nat → Nat) (len : Nat) (le la : Nat → Nat) (td : Nat → Int32) (fr ti : Nat → Nat) (pt st : Nat) (ke : Nat → Int32) (hi ik : Bool) (cu : Nat) (go num : Nat → Nat) (nin : Nat) (up fo : Nat → Nat) (hcu : cu + 4 ≤ 170) : ConF yX4_passes cX4_passes 3 none 0 [aR 0 0 0, aR 0 7 0] [rawW rw rm rn f1 f2 f3 f4 f5 f6 f7 f8 f9 lt len le la td fr ti pt st ke hi false cu go num nin up fo] none [rawW rw rm rn f1 f2 f3 f4 f5 f6 (getA f7 ke cu 4) f8 f9 lt len le la td fr ti pt st ke hi false (cu + 4) go num nin up fo] := by
  refine con_of RX4 pn_X4 rfl rfl (Nat.le_of_ble_eq_true rfl) (fun C hM0 hC => ?_)
  show G C 0 0 0 [aR 0 0 0, aR 0 7 0, aK 9] [] [rawW rw rm rn f1 f2 f3 f4 f5 f6 f7 f8 f9 lt len le la td fr ti pt st ke hi false cu go num nin up fo]
  have loop : ∀ d k, k + d = 4 → G C 0 0 2 [aR 0 0 0, aR 0 7 0, aI (nI (k))] [] [rawW rw rm rn f1 f2 f3 f4 f5 f6 (getA f7 ke cu k) f8 f9 lt len le la td fr ti pt st ke hi false (cu + k) go num nin up fo] := by
    intro d
    induction d with
    | zero =>
      intro k hk
      refine g_iload_n hC dX4_passes_2 rfl ?_
      refine g_aload_n hC dX4_passes_3 rfl rfl ?_
      refine g_alen hC dX4_passes_4 rfl ?_
      refine g_icmp_geN (tgt := 58) hC dX4_passes_5 (by decide) (by omega) (by omega) (fun h_5 => ?_) (fun h_5 => ?_)
      · skip
        exact g_vret hC rfl dX4_passes_58 (⟨rfl, by rw [show k = 4 by omega]⟩)
      · skip
        omega
    | succ d ih =>
      intro k hk
      refine g_iload_n hC dX4_passes_2 rfl ?_
      refine g_aload_n hC dX4_passes_3 rfl rfl ?_
      refine g_alen hC dX4_passes_4 rfl ?_
      refine g_icmp_geN (tgt := 58) hC dX4_passes_5 (by decide) (by omega) (by omega) (fun h_5 => ?_) (fun h_5 => ?_)
      · skip
        omega
      · skip
        refine g_aload_n hC dX4_passes_8 rfl rfl ?_
        refine gf_X4_isKeeping hC dX4_passes_9 rfl rfl ?_
        refine g_if_eqB (tgt := 30) hC dX4_passes_12 (by decide) (fun h_12 => ?_) (fun h_12 => ?_)
        · skip
          refine g_aload_n hC dX4_passes_30 rfl rfl ?_
          refine g_iload_n hC dX4_passes_31 rfl ?_
          refine g_aload_n hC dX4_passes_32 rfl rfl ?_
          refine gf_X4_kept hC dX4_passes_33 rfl rfl ?_
          refine g_aload_n hC dX4_passes_36 rfl rfl ?_
          refine gf_X4_cursor hC dX4_passes_37 rfl rfl ?_
          refine g_iald (v := ke (cu + k)) hC dX4_passes_40 rfl rfl (by omega) (by decide) rfl ?_
          refine g_iast hC dX4_passes_41 rfl rfl (by omega) (by decide) ?_
          refine g_aload_n hC dX4_passes_42 rfl rfl ?_
          refine g_dup hC dX4_passes_43 rfl ?_
          refine gf_X4_cursor hC dX4_passes_44 rfl rfl ?_
          refine g_iconst (v := nI (1)) hC dX4_passes_47 (by decide) ?_
          refine g_iaddN hC dX4_passes_48 ?_
          refine gp_X4_cursor hC dX4_passes_49 rfl rfl ?_
          refine g_iincN hC dX4_passes_52 rfl (by decide) rfl ?_
          refine g_goto (tgt := 2) hC dX4_passes_55 (by decide) ?_
          refine g_mask [true, true, true] ?_
          have q := ih (k + 1) (by omega)
          rw [getA_succ] at q
          exact q
        · skip
          cases h_12
  refine g_iconst (v := nI (0)) hC dX4_passes_0 (by decide) ?_
  refine g_istore_n hC dX4_passes_1 (by decide) rfl ?_
  have q := loop 4 0 (by omega)
  rw [getA_zero] at q
  exact q

set_option maxRecDepth 100000 in
set_option maxHeartbeats 4000000 in
theorem c_X4_passes_k8 (rw rm rn : Int32) (f1 f2 f3 f4 f5 f6 f7 f8 f9 : Nat → Int32) (lt : Nat → Nat) (len : Nat) (le la : Nat → Nat) (td : Nat → Int32) (fr ti : Nat → Nat) (pt st : Nat) (ke : Nat → Int32) (hi ik : Bool) (cu : Nat) (go num : Nat → Nat) (nin : Nat) (up fo : Nat → Nat) (hcu : cu + 24 ≤ 170) : ConF yX4_passes cX4_passes 3 none 0 [aR 0 0 0, aR 0 8 0] [rawW rw rm rn f1 f2 f3 f4 f5 f6 f7 f8 f9 lt len le la td fr ti pt st ke hi true cu go num nin up fo] none [rawW rw rm rn f1 f2 f3 f4 f5 f6 f7 f8 f9 lt len le la td fr ti pt st (cpyAt ke f8 cu 24) hi true (cu + 24) go num nin up fo] := by
  refine con_of RX4 pn_X4 rfl rfl (Nat.le_of_ble_eq_true rfl) (fun C hM0 hC => ?_)
  show G C 0 0 0 [aR 0 0 0, aR 0 8 0, aK 9] [] [rawW rw rm rn f1 f2 f3 f4 f5 f6 f7 f8 f9 lt len le la td fr ti pt st ke hi true cu go num nin up fo]
  have loop : ∀ d k, k + d = 24 → G C 0 0 2 [aR 0 0 0, aR 0 8 0, aI (nI (k))] [] [rawW rw rm rn f1 f2 f3 f4 f5 f6 f7 f8 f9 lt len le la td fr ti pt st (cpyAt ke f8 cu k) hi true (cu + k) go num nin up fo] := by
    intro d
    induction d with
    | zero =>
      intro k hk
      refine g_iload_n hC dX4_passes_2 rfl ?_
      refine g_aload_n hC dX4_passes_3 rfl rfl ?_
      refine g_alen hC dX4_passes_4 rfl ?_
      refine g_icmp_geN (tgt := 58) hC dX4_passes_5 (by decide) (by omega) (by omega) (fun h_5 => ?_) (fun h_5 => ?_)
      · skip
        exact g_vret hC rfl dX4_passes_58 (⟨rfl, by rw [show k = 24 by omega]⟩)
      · skip
        omega
    | succ d ih =>
      intro k hk
      refine g_iload_n hC dX4_passes_2 rfl ?_
      refine g_aload_n hC dX4_passes_3 rfl rfl ?_
      refine g_alen hC dX4_passes_4 rfl ?_
      refine g_icmp_geN (tgt := 58) hC dX4_passes_5 (by decide) (by omega) (by omega) (fun h_5 => ?_) (fun h_5 => ?_)
      · skip
        omega
      · skip
        refine g_aload_n hC dX4_passes_8 rfl rfl ?_
        refine gf_X4_isKeeping hC dX4_passes_9 rfl rfl ?_
        refine g_if_eqB (tgt := 30) hC dX4_passes_12 (by decide) (fun h_12 => ?_) (fun h_12 => ?_)
        · skip
          cases h_12
        · skip
          refine g_aload_n hC dX4_passes_15 rfl rfl ?_
          refine gf_X4_kept hC dX4_passes_16 rfl rfl ?_
          refine g_aload_n hC dX4_passes_19 rfl rfl ?_
          refine gf_X4_cursor hC dX4_passes_20 rfl rfl ?_
          refine g_aload_n hC dX4_passes_23 rfl rfl ?_
          refine g_iload_n hC dX4_passes_24 rfl ?_
          refine g_iald (v := f8 k) hC dX4_passes_25 rfl rfl (by omega) (by decide) rfl ?_
          refine g_iast hC dX4_passes_26 rfl rfl (by omega) (by decide) ?_
          refine g_goto (tgt := 42) hC dX4_passes_27 (by decide) ?_
          refine g_aload_n hC dX4_passes_42 rfl rfl ?_
          refine g_dup hC dX4_passes_43 rfl ?_
          refine gf_X4_cursor hC dX4_passes_44 rfl rfl ?_
          refine g_iconst (v := nI (1)) hC dX4_passes_47 (by decide) ?_
          refine g_iaddN hC dX4_passes_48 ?_
          refine gp_X4_cursor hC dX4_passes_49 rfl rfl ?_
          refine g_iincN hC dX4_passes_52 rfl (by decide) rfl ?_
          refine g_goto (tgt := 2) hC dX4_passes_55 (by decide) ?_
          refine g_mask [true, true, true] ?_
          have q := ih (k + 1) (by omega)
          rw [cpyAt_succ] at q
          exact q
  refine g_iconst (v := nI (0)) hC dX4_passes_0 (by decide) ?_
  refine g_istore_n hC dX4_passes_1 (by decide) rfl ?_
  have q := loop 24 0 (by omega)
  rw [cpyAt_zero] at q
  exact q

set_option maxRecDepth 100000 in
set_option maxHeartbeats 4000000 in
theorem c_X4_passes_r8 (rw rm rn : Int32) (f1 f2 f3 f4 f5 f6 f7 f8 f9 : Nat → Int32) (lt : Nat → Nat) (len : Nat) (le la : Nat → Nat) (td : Nat → Int32) (fr ti : Nat → Nat) (pt st : Nat) (ke : Nat → Int32) (hi ik : Bool) (cu : Nat) (go num : Nat → Nat) (nin : Nat) (up fo : Nat → Nat) (hcu : cu + 24 ≤ 170) : ConF yX4_passes cX4_passes 3 none 0 [aR 0 0 0, aR 0 8 0] [rawW rw rm rn f1 f2 f3 f4 f5 f6 f7 f8 f9 lt len le la td fr ti pt st ke hi false cu go num nin up fo] none [rawW rw rm rn f1 f2 f3 f4 f5 f6 f7 (getA f8 ke cu 24) f9 lt len le la td fr ti pt st ke hi false (cu + 24) go num nin up fo] := by
  refine con_of RX4 pn_X4 rfl rfl (Nat.le_of_ble_eq_true rfl) (fun C hM0 hC => ?_)
  show G C 0 0 0 [aR 0 0 0, aR 0 8 0, aK 9] [] [rawW rw rm rn f1 f2 f3 f4 f5 f6 f7 f8 f9 lt len le la td fr ti pt st ke hi false cu go num nin up fo]
  have loop : ∀ d k, k + d = 24 → G C 0 0 2 [aR 0 0 0, aR 0 8 0, aI (nI (k))] [] [rawW rw rm rn f1 f2 f3 f4 f5 f6 f7 (getA f8 ke cu k) f9 lt len le la td fr ti pt st ke hi false (cu + k) go num nin up fo] := by
    intro d
    induction d with
    | zero =>
      intro k hk
      refine g_iload_n hC dX4_passes_2 rfl ?_
      refine g_aload_n hC dX4_passes_3 rfl rfl ?_
      refine g_alen hC dX4_passes_4 rfl ?_
      refine g_icmp_geN (tgt := 58) hC dX4_passes_5 (by decide) (by omega) (by omega) (fun h_5 => ?_) (fun h_5 => ?_)
      · skip
        exact g_vret hC rfl dX4_passes_58 (⟨rfl, by rw [show k = 24 by omega]⟩)
      · skip
        omega
    | succ d ih =>
      intro k hk
      refine g_iload_n hC dX4_passes_2 rfl ?_
      refine g_aload_n hC dX4_passes_3 rfl rfl ?_
      refine g_alen hC dX4_passes_4 rfl ?_
      refine g_icmp_geN (tgt := 58) hC dX4_passes_5 (by decide) (by omega) (by omega) (fun h_5 => ?_) (fun h_5 => ?_)
      · skip
        omega
      · skip
        refine g_aload_n hC dX4_passes_8 rfl rfl ?_
        refine gf_X4_isKeeping hC dX4_passes_9 rfl rfl ?_
        refine g_if_eqB (tgt := 30) hC dX4_passes_12 (by decide) (fun h_12 => ?_) (fun h_12 => ?_)
        · skip
          refine g_aload_n hC dX4_passes_30 rfl rfl ?_
          refine g_iload_n hC dX4_passes_31 rfl ?_
          refine g_aload_n hC dX4_passes_32 rfl rfl ?_
          refine gf_X4_kept hC dX4_passes_33 rfl rfl ?_
          refine g_aload_n hC dX4_passes_36 rfl rfl ?_
          refine gf_X4_cursor hC dX4_passes_37 rfl rfl ?_
          refine g_iald (v := ke (cu + k)) hC dX4_passes_40 rfl rfl (by omega) (by decide) rfl ?_
          refine g_iast hC dX4_passes_41 rfl rfl (by omega) (by decide) ?_
          refine g_aload_n hC dX4_passes_42 rfl rfl ?_
          refine g_dup hC dX4_passes_43 rfl ?_
          refine gf_X4_cursor hC dX4_passes_44 rfl rfl ?_
          refine g_iconst (v := nI (1)) hC dX4_passes_47 (by decide) ?_
          refine g_iaddN hC dX4_passes_48 ?_
          refine gp_X4_cursor hC dX4_passes_49 rfl rfl ?_
          refine g_iincN hC dX4_passes_52 rfl (by decide) rfl ?_
          refine g_goto (tgt := 2) hC dX4_passes_55 (by decide) ?_
          refine g_mask [true, true, true] ?_
          have q := ih (k + 1) (by omega)
          rw [getA_succ] at q
          exact q
        · skip
          cases h_12
  refine g_iconst (v := nI (0)) hC dX4_passes_0 (by decide) ?_
  refine g_istore_n hC dX4_passes_1 (by decide) rfl ?_
  have q := loop 24 0 (by omega)
  rw [getA_zero] at q
  exact q

set_option maxRecDepth 100000 in
set_option maxHeartbeats 4000000 in
theorem c_X4_passes_k9 (rw rm rn : Int32) (f1 f2 f3 f4 f5 f6 f7 f8 f9 : Nat → Int32) (lt : Nat → Nat) (len : Nat) (le la : Nat → Nat) (td : Nat → Int32) (fr ti : Nat → Nat) (pt st : Nat) (ke : Nat → Int32) (hi ik : Bool) (cu : Nat) (go num : Nat → Nat) (nin : Nat) (up fo : Nat → Nat) (hcu : cu + 24 ≤ 170) : ConF yX4_passes cX4_passes 3 none 0 [aR 0 0 0, aR 0 9 0] [rawW rw rm rn f1 f2 f3 f4 f5 f6 f7 f8 f9 lt len le la td fr ti pt st ke hi true cu go num nin up fo] none [rawW rw rm rn f1 f2 f3 f4 f5 f6 f7 f8 f9 lt len le la td fr ti pt st (cpyAt ke f9 cu 24) hi true (cu + 24) go num nin up fo] := by
  refine con_of RX4 pn_X4 rfl rfl (Nat.le_of_ble_eq_true rfl) (fun C hM0 hC => ?_)
  show G C 0 0 0 [aR 0 0 0, aR 0 9 0, aK 9] [] [rawW rw rm rn f1 f2 f3 f4 f5 f6 f7 f8 f9 lt len le la td fr ti pt st ke hi true cu go num nin up fo]
  have loop : ∀ d k, k + d = 24 → G C 0 0 2 [aR 0 0 0, aR 0 9 0, aI (nI (k))] [] [rawW rw rm rn f1 f2 f3 f4 f5 f6 f7 f8 f9 lt len le la td fr ti pt st (cpyAt ke f9 cu k) hi true (cu + k) go num nin up fo] := by
    intro d
    induction d with
    | zero =>
      intro k hk
      refine g_iload_n hC dX4_passes_2 rfl ?_
      refine g_aload_n hC dX4_passes_3 rfl rfl ?_
      refine g_alen hC dX4_passes_4 rfl ?_
      refine g_icmp_geN (tgt := 58) hC dX4_passes_5 (by decide) (by omega) (by omega) (fun h_5 => ?_) (fun h_5 => ?_)
      · skip
        exact g_vret hC rfl dX4_passes_58 (⟨rfl, by rw [show k = 24 by omega]⟩)
      · skip
        omega
    | succ d ih =>
      intro k hk
      refine g_iload_n hC dX4_passes_2 rfl ?_
      refine g_aload_n hC dX4_passes_3 rfl rfl ?_
      refine g_alen hC dX4_passes_4 rfl ?_
      refine g_icmp_geN (tgt := 58) hC dX4_passes_5 (by decide) (by omega) (by omega) (fun h_5 => ?_) (fun h_5 => ?_)
      · skip
        omega
      · skip
        refine g_aload_n hC dX4_passes_8 rfl rfl ?_
        refine gf_X4_isKeeping hC dX4_passes_9 rfl rfl ?_
        refine g_if_eqB (tgt := 30) hC dX4_passes_12 (by decide) (fun h_12 => ?_) (fun h_12 => ?_)
        · skip
          cases h_12
        · skip
          refine g_aload_n hC dX4_passes_15 rfl rfl ?_
          refine gf_X4_kept hC dX4_passes_16 rfl rfl ?_
          refine g_aload_n hC dX4_passes_19 rfl rfl ?_
          refine gf_X4_cursor hC dX4_passes_20 rfl rfl ?_
          refine g_aload_n hC dX4_passes_23 rfl rfl ?_
          refine g_iload_n hC dX4_passes_24 rfl ?_
          refine g_iald (v := f9 k) hC dX4_passes_25 rfl rfl (by omega) (by decide) rfl ?_
          refine g_iast hC dX4_passes_26 rfl rfl (by omega) (by decide) ?_
          refine g_goto (tgt := 42) hC dX4_passes_27 (by decide) ?_
          refine g_aload_n hC dX4_passes_42 rfl rfl ?_
          refine g_dup hC dX4_passes_43 rfl ?_
          refine gf_X4_cursor hC dX4_passes_44 rfl rfl ?_
          refine g_iconst (v := nI (1)) hC dX4_passes_47 (by decide) ?_
          refine g_iaddN hC dX4_passes_48 ?_
          refine gp_X4_cursor hC dX4_passes_49 rfl rfl ?_
          refine g_iincN hC dX4_passes_52 rfl (by decide) rfl ?_
          refine g_goto (tgt := 2) hC dX4_passes_55 (by decide) ?_
          refine g_mask [true, true, true] ?_
          have q := ih (k + 1) (by omega)
          rw [cpyAt_succ] at q
          exact q
  refine g_iconst (v := nI (0)) hC dX4_passes_0 (by decide) ?_
  refine g_istore_n hC dX4_passes_1 (by decide) rfl ?_
  have q := loop 24 0 (by omega)
  rw [cpyAt_zero] at q
  exact q

set_option maxRecDepth 100000 in
set_option maxHeartbeats 4000000 in
theorem c_X4_passes_r9 (rw rm rn : Int32) (f1 f2 f3 f4 f5 f6 f7 f8 f9 : Nat → Int32) (lt : Nat → Nat) (len : Nat) (le la : Nat → Nat) (td : Nat → Int32) (fr ti : Nat → Nat) (pt st : Nat) (ke : Nat → Int32) (hi ik : Bool) (cu : Nat) (go num : Nat → Nat) (nin : Nat) (up fo : Nat → Nat) (hcu : cu + 24 ≤ 170) : ConF yX4_passes cX4_passes 3 none 0 [aR 0 0 0, aR 0 9 0] [rawW rw rm rn f1 f2 f3 f4 f5 f6 f7 f8 f9 lt len le la td fr ti pt st ke hi false cu go num nin up fo] none [rawW rw rm rn f1 f2 f3 f4 f5 f6 f7 f8 (getA f9 ke cu 24) lt len le la td fr ti pt st ke hi false (cu + 24) go num nin up fo] := by
  refine con_of RX4 pn_X4 rfl rfl (Nat.le_of_ble_eq_true rfl) (fun C hM0 hC => ?_)
  show G C 0 0 0 [aR 0 0 0, aR 0 9 0, aK 9] [] [rawW rw rm rn f1 f2 f3 f4 f5 f6 f7 f8 f9 lt len le la td fr ti pt st ke hi false cu go num nin up fo]
  have loop : ∀ d k, k + d = 24 → G C 0 0 2 [aR 0 0 0, aR 0 9 0, aI (nI (k))] [] [rawW rw rm rn f1 f2 f3 f4 f5 f6 f7 f8 (getA f9 ke cu k) lt len le la td fr ti pt st ke hi false (cu + k) go num nin up fo] := by
    intro d
    induction d with
    | zero =>
      intro k hk
      refine g_iload_n hC dX4_passes_2 rfl ?_
      refine g_aload_n hC dX4_passes_3 rfl rfl ?_
      refine g_alen hC dX4_passes_4 rfl ?_
      refine g_icmp_geN (tgt := 58) hC dX4_passes_5 (by decide) (by omega) (by omega) (fun h_5 => ?_) (fun h_5 => ?_)
      · skip
        exact g_vret hC rfl dX4_passes_58 (⟨rfl, by rw [show k = 24 by omega]⟩)
      · skip
        omega
    | succ d ih =>
      intro k hk
      refine g_iload_n hC dX4_passes_2 rfl ?_
      refine g_aload_n hC dX4_passes_3 rfl rfl ?_
      refine g_alen hC dX4_passes_4 rfl ?_
      refine g_icmp_geN (tgt := 58) hC dX4_passes_5 (by decide) (by omega) (by omega) (fun h_5 => ?_) (fun h_5 => ?_)
      · skip
        omega
      · skip
        refine g_aload_n hC dX4_passes_8 rfl rfl ?_
        refine gf_X4_isKeeping hC dX4_passes_9 rfl rfl ?_
        refine g_if_eqB (tgt := 30) hC dX4_passes_12 (by decide) (fun h_12 => ?_) (fun h_12 => ?_)
        · skip
          refine g_aload_n hC dX4_passes_30 rfl rfl ?_
          refine g_iload_n hC dX4_passes_31 rfl ?_
          refine g_aload_n hC dX4_passes_32 rfl rfl ?_
          refine gf_X4_kept hC dX4_passes_33 rfl rfl ?_
          refine g_aload_n hC dX4_passes_36 rfl rfl ?_
          refine gf_X4_cursor hC dX4_passes_37 rfl rfl ?_
          refine g_iald (v := ke (cu + k)) hC dX4_passes_40 rfl rfl (by omega) (by decide) rfl ?_
          refine g_iast hC dX4_passes_41 rfl rfl (by omega) (by decide) ?_
          refine g_aload_n hC dX4_passes_42 rfl rfl ?_
          refine g_dup hC dX4_passes_43 rfl ?_
          refine gf_X4_cursor hC dX4_passes_44 rfl rfl ?_
          refine g_iconst (v := nI (1)) hC dX4_passes_47 (by decide) ?_
          refine g_iaddN hC dX4_passes_48 ?_
          refine gp_X4_cursor hC dX4_passes_49 rfl rfl ?_
          refine g_iincN hC dX4_passes_52 rfl (by decide) rfl ?_
          refine g_goto (tgt := 2) hC dX4_passes_55 (by decide) ?_
          refine g_mask [true, true, true] ?_
          have q := ih (k + 1) (by omega)
          rw [getA_succ] at q
          exact q
        · skip
          cases h_12
  refine g_iconst (v := nI (0)) hC dX4_passes_0 (by decide) ?_
  refine g_istore_n hC dX4_passes_1 (by decide) rfl ?_
  have q := loop 24 0 (by omega)
  rw [getA_zero] at q
  exact q

set_option maxRecDepth 100000 in
set_option maxHeartbeats 4000000 in
theorem c_X4_passOne_k (rw rm rn : Int32) (f1 f2 f3 f4 f5 f6 f7 f8 f9 : Nat → Int32) (lt : Nat → Nat) (len : Nat) (le la : Nat → Nat) (td : Nat → Int32) (fr ti : Nat → Nat) (pt st : Nat) (ke : Nat → Int32) (hi ik : Bool) (cu : Nat) (go num : Nat → Nat) (nin : Nat) (up fo : Nat → Nat) (x : Int32) (hcu : cu < 170) : ConF yX4_passOne cX4_passOne 3 (some .int) 0 [aR 0 0 0, aI (x)] [rawW rw rm rn f1 f2 f3 f4 f5 f6 f7 f8 f9 lt len le la td fr ti pt st ke hi true cu go num nin up fo] (some (aI x)) [rawW rw rm rn f1 f2 f3 f4 f5 f6 f7 f8 f9 lt len le la td fr ti pt st (upd ke cu x) hi true (cu + 1) go num nin up fo] := by
  refine con_of RX4 pn_X4 rfl rfl (Nat.le_of_ble_eq_true rfl) (fun C hM0 hC => ?_)
  show G C 0 0 0 [aR 0 0 0, aI (x), aK 9] [] [rawW rw rm rn f1 f2 f3 f4 f5 f6 f7 f8 f9 lt len le la td fr ti pt st ke hi true cu go num nin up fo]
  refine g_aload_n hC dX4_passOne_0 rfl rfl ?_
  refine gf_X4_isKeeping hC dX4_passOne_1 rfl rfl ?_
  refine g_if_eqB (tgt := 11) hC dX4_passOne_4 (by decide) (fun h_4 => ?_) (fun h_4 => ?_)
  · skip
    cases h_4
  · skip
    refine g_iload_n hC dX4_passOne_7 rfl ?_
    refine g_goto (tgt := 20) hC dX4_passOne_8 (by decide) ?_
    refine g_istore_n hC dX4_passOne_20 (by decide) rfl ?_
    refine g_aload_n hC dX4_passOne_21 rfl rfl ?_
    refine gf_X4_isKeeping hC dX4_passOne_22 rfl rfl ?_
    refine g_if_eqB (tgt := 38) hC dX4_passOne_25 (by decide) (fun h_25 => ?_) (fun h_25 => ?_)
    · skip
      cases h_25
    · skip
      refine g_aload_n hC dX4_passOne_28 rfl rfl ?_
      refine gf_X4_kept hC dX4_passOne_29 rfl rfl ?_
      refine g_aload_n hC dX4_passOne_32 rfl rfl ?_
      refine gf_X4_cursor hC dX4_passOne_33 rfl rfl ?_
      refine g_iload_n hC dX4_passOne_36 rfl ?_
      refine g_iast hC dX4_passOne_37 rfl rfl (by omega) (by decide) ?_
      refine g_aload_n hC dX4_passOne_38 rfl rfl ?_
      refine g_dup hC dX4_passOne_39 rfl ?_
      refine gf_X4_cursor hC dX4_passOne_40 rfl rfl ?_
      refine g_iconst (v := nI (1)) hC dX4_passOne_43 (by decide) ?_
      refine g_iaddN hC dX4_passOne_44 ?_
      refine gp_X4_cursor hC dX4_passOne_45 rfl rfl ?_
      refine g_iload_n hC dX4_passOne_48 rfl ?_
      exact g_iret hC rfl dX4_passOne_49 (⟨rfl, rfl⟩)

set_option maxRecDepth 100000 in
set_option maxHeartbeats 4000000 in
theorem c_X4_passOne_r (rw rm rn : Int32) (f1 f2 f3 f4 f5 f6 f7 f8 f9 : Nat → Int32) (lt : Nat → Nat) (len : Nat) (le la : Nat → Nat) (td : Nat → Int32) (fr ti : Nat → Nat) (pt st : Nat) (ke : Nat → Int32) (hi ik : Bool) (cu : Nat) (go num : Nat → Nat) (nin : Nat) (up fo : Nat → Nat) (x : Int32) (hcu : cu < 170) : ConF yX4_passOne cX4_passOne 3 (some .int) 0 [aR 0 0 0, aI (x)] [rawW rw rm rn f1 f2 f3 f4 f5 f6 f7 f8 f9 lt len le la td fr ti pt st ke hi false cu go num nin up fo] (some (aI (ke cu))) [rawW rw rm rn f1 f2 f3 f4 f5 f6 f7 f8 f9 lt len le la td fr ti pt st ke hi false (cu + 1) go num nin up fo] := by
  refine con_of RX4 pn_X4 rfl rfl (Nat.le_of_ble_eq_true rfl) (fun C hM0 hC => ?_)
  show G C 0 0 0 [aR 0 0 0, aI (x), aK 9] [] [rawW rw rm rn f1 f2 f3 f4 f5 f6 f7 f8 f9 lt len le la td fr ti pt st ke hi false cu go num nin up fo]
  refine g_aload_n hC dX4_passOne_0 rfl rfl ?_
  refine gf_X4_isKeeping hC dX4_passOne_1 rfl rfl ?_
  refine g_if_eqB (tgt := 11) hC dX4_passOne_4 (by decide) (fun h_4 => ?_) (fun h_4 => ?_)
  · skip
    refine g_aload_n hC dX4_passOne_11 rfl rfl ?_
    refine gf_X4_kept hC dX4_passOne_12 rfl rfl ?_
    refine g_aload_n hC dX4_passOne_15 rfl rfl ?_
    refine gf_X4_cursor hC dX4_passOne_16 rfl rfl ?_
    refine g_iald (v := ke cu) hC dX4_passOne_19 rfl rfl (by omega) (by decide) rfl ?_
    refine g_istore_n hC dX4_passOne_20 (by decide) rfl ?_
    refine g_aload_n hC dX4_passOne_21 rfl rfl ?_
    refine gf_X4_isKeeping hC dX4_passOne_22 rfl rfl ?_
    refine g_if_eqB (tgt := 38) hC dX4_passOne_25 (by decide) (fun h_25 => ?_) (fun h_25 => ?_)
    · skip
      refine g_aload_n hC dX4_passOne_38 rfl rfl ?_
      refine g_dup hC dX4_passOne_39 rfl ?_
      refine gf_X4_cursor hC dX4_passOne_40 rfl rfl ?_
      refine g_iconst (v := nI (1)) hC dX4_passOne_43 (by decide) ?_
      refine g_iaddN hC dX4_passOne_44 ?_
      refine gp_X4_cursor hC dX4_passOne_45 rfl rfl ?_
      refine g_iload_n hC dX4_passOne_48 rfl ?_
      exact g_iret hC rfl dX4_passOne_49 (⟨rfl, rfl⟩)
    · skip
      cases h_25
  · skip
    cases h_4

