/-! ===== what a statement does ===== -/
def turnP (v : Vw) (a b : Nat) : Vw := uPa v (updN (updN (vPa v) a (vPa v a ^^^ (1 <<< b))) b (vPa v b ^^^ (1 <<< a)))
def actP (v : Vw) (rf a b : Nat) : Option (Vw × Nat) := if a < 6 ∧ b < 6 ∧ a ≠ b then some (turnP v a b, rf) else none
theorem actP_no {v : Vw} {rf a b : Nat} (h : ¬ (a < 6 ∧ b < 6 ∧ a ≠ b)) : actP v rf a b = none := if_neg h
theorem actP_ok {v : Vw} {rf a b : Nat} (h1 : a < 6) (h2 : b < 6) (h3 : a ≠ b) : actP v rf a b = some (turnP v a b, rf) := if_pos ⟨h1, h2, h3⟩
def actW (v : Vw) (rf a b : Nat) : Option (Vw × Nat) := if a < 6 ∧ b ≤ 3 then some (uWi v (updN (vWi v) a b), rf) else none
theorem actW_no {v : Vw} {rf a b : Nat} (h : ¬ (a < 6 ∧ b ≤ 3)) : actW v rf a b = none := if_neg h
theorem actW_ok {v : Vw} {rf a b : Nat} (h1 : a < 6) (h2 : b ≤ 3) : actW v rf a b = some (uWi v (updN (vWi v) a b), rf) := if_pos ⟨h1, h2⟩
def actR (v : Vw) (rf a : Nat) : Option (Vw × Nat) := if a < 6 then some (v, rf ^^^ (1 <<< a)) else none
theorem actR_no {v : Vw} {rf a : Nat} (h : ¬ a < 6) : actR v rf a = none := if_neg h
theorem actR_ok {v : Vw} {rf a : Nat} (h1 : a < 6) : actR v rf a = some (v, rf ^^^ (1 <<< a)) := if_pos h1
def actN (v : Vw) (rf a : Nat) : Option (Vw × Nat) := if 1 ≤ a then some (uNo v a, rf) else none
theorem actN_no {v : Vw} {rf a : Nat} (h : ¬ 1 ≤ a) : actN v rf a = none := if_neg h
theorem actN_ok {v : Vw} {rf a : Nat} (h1 : 1 ≤ a) : actN v rf a = some (uNo v a, rf) := if_pos h1
def plT (v : Vw) (g : Nat → Nat) : Nat → Vw
  | 0 => v
  | k + 1 => planV (plT v g k) (vN (plT v g k) - 1) (g k)
def actA (v : Vw) (rf ki : Nat) (g : Nat → Nat) (n : Nat) : Option (Vw × Nat) := if vN v < 4 ∧ anyB (fun i => decide (6 ≤ g i)) n = false then some (plT (addV v ki (g 0)) (fun i => g (i + 1)) (n - 1), rf) else none
theorem actA_no1 {v : Vw} {rf ki n : Nat} {g : Nat → Nat} (h : ¬ vN v < 4) : actA v rf ki g n = none := if_neg (fun z => h z.1)
theorem actA_no2 {v : Vw} {rf ki n : Nat} {g : Nat → Nat} (h : anyB (fun i => decide (6 ≤ g i)) n = true) : actA v rf ki g n = none := if_neg (fun z => by rw [h] at z; cases z.2)
theorem actA_ok {v : Vw} {rf ki n : Nat} {g : Nat → Nat} (h : vN v < 4) (h2 : anyB (fun i => decide (6 ≤ g i)) n = false) : actA v rf ki g n = some (plT (addV v ki (g 0)) (fun i => g (i + 1)) (n - 1), rf) := if_pos ⟨h, h2⟩
theorem any_lt {g : Nat → Nat} {n : Nat} (h : anyB (fun i => decide (6 ≤ g i)) n = false) (i : Nat) (hi : i < n) : g i < 6 := by
  by_cases q : g i < 6
  · exact q
  · have := anyB_t (p := fun i => decide (6 ≤ g i)) (k := i) (decide_eq_true (by omega)) n hi
    rw [h] at this
    cases this
theorem plT_n (v : Vw) (g : Nat → Nat) : ∀ k, vN (plT v g k) = vN v
  | 0 => rfl
  | k + 1 => plT_n v g k
theorem plT_pL {v : Vw} {g : Nat → Nat} (h : 0 < vN v) : ∀ k, vPL (plT v g k) (vN (plT v g k) - 1) = vPL v (vN v - 1) + k
  | 0 => rfl
  | k + 1 => by
    have ih := plT_pL (v := v) (g := g) h k
    show updN (vPL (plT v g k)) (vN (plT v g k) - 1) (vPL (plT v g k) (vN (plT v g k) - 1) + 1) (vN (plT v g k) - 1) = _
    unfold updN
    rw [if_pos rfl, ih]
    omega
theorem addV_pL (v : Vw) (ki r : Nat) : vPL (addV v ki r) (vN (addV v ki r) - 1) = 0 := by
  show updN (vPL v) (vN v) 0 (vN v + 1 - 1) = 0
  unfold updN
  rw [if_pos (by omega)]
theorem wf_addV {B : Nat} {v : Vw} (h : wf B v) (hn : vN v < 4) {ki r : Nat} (hki : ki ≤ 5) (hr : r < 6) : wf B (addV v ki r) := by
  have key : ∀ w, w < vN v + 1 → ∀ x, x < 6 → ∀ m, clrR (vLf v) (vN v) 6 w x = some m → m ≤ vMi v := by
    intro w hw x hx m hm
    unfold clrR at hm
    split at hm
    · cases hm
    next hne => exact wf_lf h w (by omega) x hx m hm
  refine ⟨by show vN v + 1 ≤ 4; omega, wf_mi (v := v) h, wf_no (v := v) h, wf_wi (v := v) h, wf_pa (v := v) h, wf_sym (v := v) h, wf_irr (v := v) h, fun w hw => ?_, fun w hw => ?_, fun w hw => ?_, fun w hw j hj => ?_, fun w hw x hx m hm => ?_⟩
  · have hw : w < vN v + 1 := hw
    show updN (vKi v) (vN v) ki w ≤ 5
    unfold updN
    split
    · exact hki
    · exact wf_ki h w (by omega)
  · have hw : w < vN v + 1 := hw
    show updN (vPl v) (vN v) r w < 6
    unfold updN
    split
    · exact hr
    · exact wf_pl h w (by omega)
  · have hw : w < vN v + 1 := hw
    show updN (vPL v) (vN v) 0 w ≤ 6
    unfold updN
    split
    · omega
    · exact wf_pL h w (by omega)
  · have hw : w < vN v + 1 := hw
    have hj : j < updN (vPL v) (vN v) 0 w := hj
    unfold updN at hj
    split at hj
    · omega
    · exact wf_pp h w (by omega) j hj
  · have hw : w < vN v + 1 := hw
    have hm : (if updN (vKi v) (vN v) ki (vN v) = 5 then clrR (vLf v) (vN v) 6 else upd2N (clrR (vLf v) (vN v) 6) (vN v) (updN (vPl v) (vN v) r (vN v)) (some (vMi v))) w x = some m := hm
    split at hm
    · exact key w hw x hx m hm
    · unfold upd2N at hm
      split at hm
      · cases hm; exact Nat.le_refl _
      · exact key w hw x hx m hm
theorem wf_planV {B : Nat} {v : Vw} (h : wf B v) {w0 r : Nat} (hL : vPL v w0 < 6) (hr : r < 6) : wf B (planV v w0 r) := by
  refine ⟨wf_n (v := v) h, wf_mi (v := v) h, wf_no (v := v) h, wf_wi (v := v) h, wf_pa (v := v) h, wf_sym (v := v) h, wf_irr (v := v) h, wf_ki (v := v) h, wf_pl (v := v) h, fun w hw => ?_, fun w hw j hj => ?_, wf_lf (v := v) h⟩
  · show updN (vPL v) w0 (vPL v w0 + 1) w ≤ 6
    unfold updN
    split
    · omega
    · exact wf_pL h w hw
  · have hj : j < updN (vPL v) w0 (vPL v w0 + 1) w := hj
    show upd2N (vPp v) w0 (vPL v w0) r w j < 6
    unfold upd2N
    unfold updN at hj
    by_cases e : w = w0
    · subst e
      rw [if_pos rfl] at hj
      by_cases e2 : j = vPL v w
      · rw [if_pos ⟨rfl, e2⟩]; exact hr
      · rw [if_neg (fun z => e2 z.2)]; exact wf_pp h w hw j (by omega)
    · rw [if_neg e] at hj
      rw [if_neg (fun z => e z.1)]
      exact wf_pp h w hw j hj
theorem wf_plT {B : Nat} {v : Vw} (h : wf B v) {g : Nat → Nat} (h0 : 0 < vN v) : ∀ {k : Nat}, vPL v (vN v - 1) + k ≤ 6 → (∀ i, i < k → g i < 6) → wf B (plT v g k)
  | 0, _, _ => h
  | k + 1, hk, hg => wf_planV (wf_plT h h0 (by omega) (fun i hi => hg i (by omega))) (by rw [plT_pL h0]; omega) (hg k (by omega))
theorem xor_tb : ∀ p, p < 64 → ∀ b, b < 6 → ∀ i, i < 6 → (p ^^^ (1 <<< b)).testBit i = (p.testBit i != decide (i = b)) := by decide +kernel
theorem wf_turnP {B : Nat} {v : Vw} (h : wf B v) {a b : Nat} (ha : a < 6) (hb : b < 6) (hab : a ≠ b) : wf B (turnP v a b) := by
  have hpa := wf_pa h
  have val : ∀ c, vPa (turnP v a b) c = if c = b then vPa v b ^^^ (1 <<< a) else if c = a then vPa v a ^^^ (1 <<< b) else vPa v c := fun c => rfl
  have bit : ∀ c i, c < 6 → i < 6 → (vPa (turnP v a b) c).testBit i = ((vPa v c).testBit i != (decide (c = b) && decide (i = a) || decide (c = a) && decide (i = b))) := by
    intro c i hc hi
    rw [val]
    by_cases e1 : c = b
    · subst e1
      rw [if_pos rfl, xor_tb _ (hpa c hc) _ ha _ hi]
      have : ¬ c = a := fun z => hab z.symm
      simp [this]
    · rw [if_neg e1]
      by_cases e2 : c = a
      · subst e2
        rw [if_pos rfl, xor_tb _ (hpa c hc) _ hb _ hi]
        simp [e1]
      · rw [if_neg e2]
        simp [e1, e2]
  refine ⟨wf_n (v := v) h, wf_mi (v := v) h, wf_no (v := v) h, wf_wi (v := v) h, fun c hc => ?_, fun c i hc hi => ?_, fun c hc => ?_, wf_ki (v := v) h, wf_pl (v := v) h, wf_pL (v := v) h, wf_pp (v := v) h, wf_lf (v := v) h⟩
  · rw [val]
    split
    · exact xor_lt _ (hpa b hb) _ ha
    · split
      · exact xor_lt _ (hpa a ha) _ hb
      · exact hpa c hc
  · rw [bit c i hc hi, bit i c hi hc, wf_sym h c i hc hi]
    have : (decide (c = b) && decide (i = a) || decide (c = a) && decide (i = b)) = (decide (i = b) && decide (c = a) || decide (i = a) && decide (c = b)) := by
      cases decide (c = b) <;> cases decide (i = a) <;> cases decide (c = a) <;> cases decide (i = b) <;> rfl
    rw [this]
  · rw [bit c c hc hc, wf_irr h c hc]
    by_cases e1 : c = b
    · have : ¬ c = a := fun z => hab (z.symm.trans e1)
      simp [this]
    · simp [e1]
theorem wf_wind {B : Nat} {v : Vw} (h : wf B v) {a b : Nat} (hb : b ≤ 3) : wf B (uWi v (updN (vWi v) a b)) := by
  refine ⟨wf_n (v := v) h, wf_mi (v := v) h, wf_no (v := v) h, fun r hr => ?_, wf_pa (v := v) h, wf_sym (v := v) h, wf_irr (v := v) h, wf_ki (v := v) h, wf_pl (v := v) h, wf_pL (v := v) h, wf_pp (v := v) h, wf_lf (v := v) h⟩
  show updN (vWi v) a b r ≤ 3
  unfold updN
  split
  · exact hb
  · exact wf_wi h r hr
theorem wf_nose {B : Nat} {v : Vw} (h : wf B v) {a : Nat} (h1 : 1 ≤ a) (h2 : a ≤ 9) : wf B (uNo v a) := ⟨wf_n (v := v) h, wf_mi (v := v) h, ⟨h1, h2⟩, wf_wi (v := v) h, wf_pa (v := v) h, wf_sym (v := v) h, wf_irr (v := v) h, wf_ki (v := v) h, wf_pl (v := v) h, wf_pL (v := v) h, wf_pp (v := v) h, wf_lf (v := v) h⟩
def act (lt : Nat → Nat) (s e : Nat) (v : Vw) (rf : Nat) : Option (Vw × Nat) :=
  if lt s = 112 then actP v rf (lt (s + 1) - 48) (lt (s + 1 + 1) - 48)
  else if lt s = 119 then actW v rf (lt (s + 1) - 48) (lt (s + 1 + 1) - 48)
  else if lt s = 114 then actR v rf (lt (s + 1) - 48)
  else if lt s = 110 then actN v rf (lt (s + 1) - 48)
  else actA v rf ((kix (lt (s + 1))).getD 0) (fun i => lt (s + 1 + 1 + i) - 48) (e - (s + 1 + 1))
section ACT
variable {lt : Nat → Nat} {len s e : Nat} {v : Vw} {rf : Nat}
theorem act_p {a b : Nat} (hs : ltr lt len s = some 112) (h1 : ltr lt len (s + 1) = some (48 + a)) (h2 : ltr lt len (s + 1 + 1) = some (48 + b)) : act lt s e v rf = actP v rf a b := by
  unfold act
  rw [if_pos (ltr_in hs).2, (ltr_in h1).2, (ltr_in h2).2, Nat.add_sub_cancel_left, Nat.add_sub_cancel_left]
theorem act_w {a b : Nat} (hs : ltr lt len s = some 119) (h1 : ltr lt len (s + 1) = some (48 + a)) (h2 : ltr lt len (s + 1 + 1) = some (48 + b)) : act lt s e v rf = actW v rf a b := by
  unfold act
  rw [(ltr_in hs).2, if_neg (by decide), if_pos rfl, (ltr_in h1).2, (ltr_in h2).2, Nat.add_sub_cancel_left, Nat.add_sub_cancel_left]
theorem act_r {a : Nat} (hs : ltr lt len s = some 114) (h1 : ltr lt len (s + 1) = some (48 + a)) : act lt s e v rf = actR v rf a := by
  unfold act
  rw [(ltr_in hs).2, if_neg (by decide), if_neg (by decide), if_pos rfl, (ltr_in h1).2, Nat.add_sub_cancel_left]
theorem act_n {a : Nat} (hs : ltr lt len s = some 110) (h1 : ltr lt len (s + 1) = some (48 + a)) : act lt s e v rf = actN v rf a := by
  unfold act
  rw [(ltr_in hs).2, if_neg (by decide), if_neg (by decide), if_neg (by decide), if_pos rfl, (ltr_in h1).2, Nat.add_sub_cancel_left]
theorem actA_congr {ki n : Nat} {g g2 : Nat → Nat} (h : ∀ i, i < n → g i = g2 i) (hn : 1 ≤ n) : actA v rf ki g n = actA v rf ki g2 n := by
  have e1 : anyB (fun i => decide (6 ≤ g i)) n = anyB (fun i => decide (6 ≤ g2 i)) n := anyB_congr n (fun i hi => by rw [h i hi])
  have e2 : ∀ x k, k ≤ n - 1 → plT x (fun i => g (i + 1)) k = plT x (fun i => g2 (i + 1)) k := by
    intro x k
    induction k with
    | zero => intro _; rfl
    | succ k ih =>
      intro hk
      show planV (plT x _ k) (vN (plT x _ k) - 1) (g (k + 1)) = planV (plT x _ k) (vN (plT x _ k) - 1) (g2 (k + 1))
      rw [ih (by omega), h (k + 1) (by omega)]
  unfold actA
  rw [e1, h 0 (by omega), e2 _ _ (Nat.le_refl _)]
theorem act_a {ki n : Nat} {g : Nat → Nat} (hs : ltr lt len s = some 97) (hk : kin (ltr lt len (s + 1)) = some ki) (hg : ∀ i, i < n → g i < 10 ∧ ltr lt len (s + 1 + 1 + i) = some (48 + g i)) (hn : 1 ≤ n) : act lt s (s + 1 + 1 + n) v rf = actA v rf ki g n := by
  unfold act
  have hk2 : kix (lt (s + 1)) = some ki := by
    cases q : ltr lt len (s + 1) with
    | none => rw [q] at hk; cases hk
    | some c => rw [q] at hk; rw [(ltr_in q).2]; exact hk
  rw [(ltr_in hs).2, if_neg (by decide), if_neg (by decide), if_neg (by decide), if_neg (by decide), hk2, show s + 1 + 1 + n - (s + 1 + 1) = n by omega]
  exact actA_congr (fun i hi => by show lt (s + 1 + 1 + i) - 48 = _; rw [(ltr_in (hg i hi).2).2, Nat.add_sub_cancel_left]) hn
theorem dig_at {p : Nat} (h : dig (ltr lt len p) = true) : ltr lt len p = some (48 + (lt p - 48)) ∧ lt p - 48 < 10 := by
  obtain ⟨d, h1, h2⟩ := dig_some h
  have := (ltr_in h2).2
  rw [this]
  exact ⟨by rw [h2, Nat.add_sub_cancel_left], by omega⟩
theorem stp_cases (h : stp lt len s = (e, true)) : ltr lt len e = some 59 ∧
    ((∃ a b, ltr lt len s = some 112 ∧ ltr lt len (s + 1) = some (48 + a) ∧ a < 10 ∧ ltr lt len (s + 1 + 1) = some (48 + b) ∧ b < 10 ∧ e = s + 3) ∨
     (∃ a b, ltr lt len s = some 119 ∧ ltr lt len (s + 1) = some (48 + a) ∧ a < 10 ∧ ltr lt len (s + 1 + 1) = some (48 + b) ∧ b < 10 ∧ e = s + 3) ∨
     (∃ a, ltr lt len s = some 114 ∧ ltr lt len (s + 1) = some (48 + a) ∧ a < 10 ∧ e = s + 2) ∨
     (∃ a, ltr lt len s = some 110 ∧ ltr lt len (s + 1) = some (48 + a) ∧ a < 10 ∧ e = s + 2) ∨
     (∃ ki n, ∃ g : Nat → Nat, ltr lt len s = some 97 ∧ kin (ltr lt len (s + 1)) = some ki ∧ 1 ≤ n ∧ n ≤ 7 ∧ (∀ i, i < n → g i < 10 ∧ ltr lt len (s + 1 + 1 + i) = some (48 + g i)) ∧ e = s + 1 + 1 + n)) := by
  have gdt : ∀ {least b r : Nat}, gd lt len least b r = true → least ≤ r ∧ ltr lt len (b + r) = some 59 := by
    intro least b r q
    unfold gd at q
    simp only [Bool.and_eq_true, decide_eq_true_eq] at q
    exact q
  by_cases h0 : ld (ltr lt len s) = 0
  · rw [stp_0 h0] at h; cases h
  by_cases h97 : ltr lt len s = some 97
  · cases hk : kin (ltr lt len (s + 1)) with
    | none => rw [stp_k h97 hk] at h; cases h
    | some ki =>
      rw [stp_a h97 hk] at h
      obtain ⟨he, hg⟩ := Prod.mk.inj h
      obtain ⟨g1, g2⟩ := gdt hg
      rw [he] at g2
      have hm : md (ltr lt len s) = 7 := by rw [h97]; rfl
      have hl := ld_97 h97
      refine ⟨g2, Or.inr (Or.inr (Or.inr (Or.inr ⟨ki, rN lt len (s + 1 + 1) (md (ltr lt len s)), fun i => lt (s + 1 + 1 + i) - 48, h97, rfl, by omega, by have := rN_le lt len (s + 1 + 1) (md (ltr lt len s)); omega, fun i hi => ?_, he.symm⟩)))⟩
      obtain ⟨q1, q2⟩ := dig_at (rN_dig i hi)
      exact ⟨q2, q1⟩
  · rw [stp_d h0 h97] at h
    obtain ⟨he, hg⟩ := Prod.mk.inj h
    obtain ⟨g1, g2⟩ := gdt hg
    rw [he] at g2
    have hm : md (ltr lt len s) = ld (ltr lt len s) := md_ne h97
    have hle := rN_le lt len (s + 1) (md (ltr lt len s))
    have hr : rN lt len (s + 1) (md (ltr lt len s)) = ld (ltr lt len s) := by omega
    have hd : ∀ i, i < ld (ltr lt len s) → dig (ltr lt len (s + 1 + i)) = true := fun i hi => rN_dig i (by rw [hr]; exact hi)
    rw [hr] at he
    refine ⟨g2, ?_⟩
    by_cases e2 : ltr lt len s = some 112 ∨ ltr lt len s = some 119
    · have l2 : ld (ltr lt len s) = 2 := if_pos e2
      rw [l2] at he hd
      obtain ⟨a1, a2⟩ := dig_at (hd 0 (by omega))
      obtain ⟨b1, b2⟩ := dig_at (hd 1 (by omega))
      rcases e2 with e2 | e2
      · exact Or.inl ⟨_, _, e2, a1, a2, b1, b2, by omega⟩
      · exact Or.inr (Or.inl ⟨_, _, e2, a1, a2, b1, b2, by omega⟩)
    · have l1 : ltr lt len s = some 114 ∨ ltr lt len s = some 110 := by
        by_cases e3 : ltr lt len s = some 114 ∨ ltr lt len s = some 110 ∨ ltr lt len s = some 97
        · rcases e3 with e3 | e3 | e3
          · exact Or.inl e3
          · exact Or.inr e3
          · exact absurd e3 h97
        · exact absurd (by unfold ld; rw [if_neg e2, if_neg e3]) h0
      have l3 : ld (ltr lt len s) = 1 := by rcases l1 with q | q <;> rw [q] <;> rfl
      rw [l3] at he hd
      obtain ⟨a1, a2⟩ := dig_at (hd 0 (by omega))
      rcases l1 with q | q
      · exact Or.inr (Or.inr (Or.inl ⟨_, q, a1, a2, by omega⟩))
      · exact Or.inr (Or.inr (Or.inr (Or.inl ⟨_, q, a1, a2, by omega⟩)))
theorem stp_lt (h : stp lt len s = (e, true)) : s < e := by
  obtain ⟨-, ⟨_, _, _, _, _, _, _, q⟩ | ⟨_, _, _, _, _, _, _, q⟩ | ⟨_, _, _, _, q⟩ | ⟨_, _, _, _, q⟩ | ⟨_, _, _, _, _, _, _, _, q⟩⟩ := stp_cases h <;> omega
theorem stp_no59 (h : stp lt len s = (e, true)) : ∀ p, s ≤ p → p < e → ltr lt len p ≠ some 59 := by
  have no : ∀ {p a : Nat}, ltr lt len p = some (48 + a) → a < 10 → ltr lt len p ≠ some 59 := by
    intro p a h1 h2 h3
    rw [h1] at h3
    have := Option.some.inj h3
    omega
  have nh : ∀ {p c : Nat}, ltr lt len p = some c → c ≠ 59 → ltr lt len p ≠ some 59 := by
    intro p c h1 h2 h3
    rw [h1] at h3
    exact h2 (Option.some.inj h3)
  intro p h1 h2
  obtain ⟨-, ⟨a, b, q1, q2, q3, q4, q5, rfl⟩ | ⟨a, b, q1, q2, q3, q4, q5, rfl⟩ | ⟨a, q1, q2, q3, rfl⟩ | ⟨a, q1, q2, q3, rfl⟩ | ⟨ki, n, g, q1, q2, q3, q4, q5, rfl⟩⟩ := stp_cases h
  · rcases (by omega : p = s ∨ p = s + 1 ∨ p = s + 1 + 1) with rfl | rfl | rfl
    · exact nh q1 (by decide)
    · exact no q2 q3
    · exact no q4 q5
  · rcases (by omega : p = s ∨ p = s + 1 ∨ p = s + 1 + 1) with rfl | rfl | rfl
    · exact nh q1 (by decide)
    · exact no q2 q3
    · exact no q4 q5
  · rcases (by omega : p = s ∨ p = s + 1) with rfl | rfl
    · exact nh q1 (by decide)
    · exact no q2 q3
  · rcases (by omega : p = s ∨ p = s + 1) with rfl | rfl
    · exact nh q1 (by decide)
    · exact no q2 q3
  · rcases (by omega : p = s ∨ p = s + 1 ∨ s + 1 + 1 ≤ p) with rfl | rfl | h3
    · exact nh q1 (by decide)
    · intro z
      rw [z] at q2
      cases q2
    · obtain ⟨i, rfl⟩ : ∃ i, p = s + 1 + 1 + i := ⟨p - (s + 1 + 1), by omega⟩
      exact no (q5 i (by omega)).2 (q5 i (by omega)).1
theorem act_some {y : Vw × Nat} (h : stp lt len s = (e, true)) (hy : act lt s e v rf = some y) : (∃ a b, a < 6 ∧ b < 6 ∧ a ≠ b ∧ y = (turnP v a b, rf)) ∨ (∃ a b, a < 6 ∧ b ≤ 3 ∧ y = (uWi v (updN (vWi v) a b), rf)) ∨ (∃ a, a < 6 ∧ y = (v, rf ^^^ (1 <<< a))) ∨ (∃ a, 1 ≤ a ∧ a ≤ 9 ∧ y = (uNo v a, rf)) ∨ (∃ ki n, ∃ g : Nat → Nat, ki < 6 ∧ 1 ≤ n ∧ n ≤ 7 ∧ vN v < 4 ∧ (∀ i, i < n → g i < 6) ∧ y = (plT (addV v ki (g 0)) (fun i => g (i + 1)) (n - 1), rf)) := by
  obtain ⟨-, ⟨a, b, q1, q2, q3, q4, q5, rfl⟩ | ⟨a, b, q1, q2, q3, q4, q5, rfl⟩ | ⟨a, q1, q2, q3, rfl⟩ | ⟨a, q1, q2, q3, rfl⟩ | ⟨ki, n, g, q1, q2, q3, q4, q5, rfl⟩⟩ := stp_cases h
  · rw [act_p q1 q2 q4] at hy
    unfold actP at hy
    split at hy
    next c => cases hy; exact Or.inl ⟨a, b, c.1, c.2.1, c.2.2, rfl⟩
    next => cases hy
  · rw [act_w q1 q2 q4] at hy
    unfold actW at hy
    split at hy
    next c => cases hy; exact Or.inr (Or.inl ⟨a, b, c.1, c.2, rfl⟩)
    next => cases hy
  · rw [act_r q1 q2] at hy
    unfold actR at hy
    split at hy
    next c => cases hy; exact Or.inr (Or.inr (Or.inl ⟨a, c, rfl⟩))
    next => cases hy
  · rw [act_n q1 q2] at hy
    unfold actN at hy
    split at hy
    next c => cases hy; exact Or.inr (Or.inr (Or.inr (Or.inl ⟨a, c, by omega, rfl⟩)))
    next => cases hy
  · rw [act_a q1 q2 q5 q3] at hy
    unfold actA at hy
    split at hy
    next c => cases hy; exact Or.inr (Or.inr (Or.inr (Or.inr ⟨ki, n, g, kin_lt _ q2, q3, q4, c.1, any_lt c.2, rfl⟩)))
    next => cases hy
theorem wf_act {B : Nat} {y : Vw × Nat} (hv : wf B v) (h : stp lt len s = (e, true)) (hy : act lt s e v rf = some y) : wf B y.1 := by
  rcases act_some h hy with ⟨a, b, h1, h2, h3, rfl⟩ | ⟨a, b, h1, h2, rfl⟩ | ⟨a, h1, rfl⟩ | ⟨a, h1, h2, rfl⟩ | ⟨ki, n, g, h1, h2, h3, h4, h5, rfl⟩
  · exact wf_turnP hv h1 h2 h3
  · exact wf_wind hv h2
  · exact hv
  · exact wf_nose hv h1 h2
  · exact wf_plT (wf_addV hv h4 (by omega) (h5 0 (by omega))) (by show 0 < vN v + 1; omega) (by rw [addV_pL]; omega) (fun i hi => h5 (i + 1) (by omega))
theorem rf_act {y : Vw × Nat} (hrf : rf < 64) (h : stp lt len s = (e, true)) (hy : act lt s e v rf = some y) : y.2 < 64 := by
  rcases act_some h hy with ⟨a, b, h1, h2, h3, rfl⟩ | ⟨a, b, h1, h2, rfl⟩ | ⟨a, h1, rfl⟩ | ⟨a, h1, h2, rfl⟩ | ⟨ki, n, g, h1, h2, h3, h4, h5, rfl⟩
  · exact hrf
  · exact hrf
  · exact xor_lt _ hrf _ h1
  · exact hrf
  · exact hrf
theorem fw_none {f : Nat} (h : fw lt len (f + 1) s = none) : (stp lt len s).2 = true ∧ ((stp lt len s).1 + 1 < len → fw lt len f ((stp lt len s).1 + 1) = none) := by
  have h : (if (stp lt len s).2 = true then (if (stp lt len s).1 + 1 < len then fw lt len f ((stp lt len s).1 + 1) else none) else some (stp lt len s).1) = none := h
  split at h
  next c => exact ⟨c, fun q => by rw [if_pos q] at h; exact h⟩
  next => cases h
end ACT
/-- all statements, one after another -/
def tl (lt : Nat → Nat) (len : Nat) : Nat → Nat → Nat → Vw → Nat → Int32 × (Vw × Nat)
  | 0, c, _, v, rf => (nI c, (v, rf))
  | f + 1, c, s, v, rf => match act lt s (stp lt len s).1 v rf with
    | none => ((-2000) - nI s, (v, rf))
    | some y => if (stp lt len s).1 + 1 < len then tl lt len f (c + 1) ((stp lt len s).1 + 1) y.1 y.2 else (nI (c + 1), y)
theorem tl_no {lt : Nat → Nat} {len f c s : Nat} {v : Vw} {rf : Nat} (h : act lt s (stp lt len s).1 v rf = none) : tl lt len (f + 1) c s v rf = ((-2000) - nI s, (v, rf)) := by
  unfold tl
  rw [h]
theorem tl_go {lt : Nat → Nat} {len f c s : Nat} {v : Vw} {rf : Nat} {y : Vw × Nat} (h : act lt s (stp lt len s).1 v rf = some y) (h2 : (stp lt len s).1 + 1 < len) : tl lt len (f + 1) c s v rf = tl lt len f (c + 1) ((stp lt len s).1 + 1) y.1 y.2 := by
  show (match act lt s (stp lt len s).1 v rf with
    | none => ((-2000) - nI s, (v, rf))
    | some y => if (stp lt len s).1 + 1 < len then tl lt len f (c + 1) ((stp lt len s).1 + 1) y.1 y.2 else (nI (c + 1), y)) = _
  rw [h]
  exact if_pos h2
theorem tl_end {lt : Nat → Nat} {len f c s : Nat} {v : Vw} {rf : Nat} {y : Vw × Nat} (h : act lt s (stp lt len s).1 v rf = some y) (h2 : ¬ (stp lt len s).1 + 1 < len) : tl lt len (f + 1) c s v rf = (nI (c + 1), y) := by
  show (match act lt s (stp lt len s).1 v rf with
    | none => ((-2000) - nI s, (v, rf))
    | some y => if (stp lt len s).1 + 1 < len then tl lt len f (c + 1) ((stp lt len s).1 + 1) y.1 y.2 else (nI (c + 1), y)) = _
  rw [h]
  exact if_neg h2
set_option maxRecDepth 100000 in
set_option maxHeartbeats 4000000 in
theorem c_X0_tellPath (lt : Nat → Nat) (len : Nat) (hlen : len ≤ 96) (hlt : ∀ j, j < len → lt j < 256) (v : Vw) (rf : Nat) (go : Nat → Nat) (hpa : ∀ a, a < 6 → vPa v a < 64) {p a b : Nat} (hp : p < 150) (h1 : ltr lt len p = some (48 + a)) (ha : a < 10) (h2 : ltr lt len (p + 1) = some (48 + b)) (hb : b < 10) : ConF yX0_tellPath cX0_tellPath 5 (some .boolean) 2 [aR 0 0 0, aR 1 0 0, aI (nI (p))] [tellG lt len, townG v rf go] (some (aI (bI (actP v rf a b).isSome))) [tellG lt len, townG ((actP v rf a b).getD (v, rf)).1 ((actP v rf a b).getD (v, rf)).2 go] := by
  refine con_of RX0 pn_X0 rfl rfl (Nat.le_of_ble_eq_true rfl) (fun C hM0 hC => ?_)
  show G C 0 0 0 [aR 0 0 0, aR 1 0 0, aI (nI (p)), aK 9, aK 9] [] [tellG lt len, townG v rf go]
  refine g_aload_n hC dX0_tellPath_0 rfl rfl ?_
  refine g_iload_n hC dX0_tellPath_1 rfl ?_
  refine gi_X0_71 hC (is := [0]) (st := []) (c_X0_digitAt lt len hlen hlt (p := p) (by omega) h1) dX0_tellPath_2 rfl ⟨by decide, by decide⟩ ⟨by decide, by decide⟩ rfl (by decide) rfl rfl rfl ?_
  refine g_istore_n hC dX0_tellPath_5 (by decide) rfl ?_
  refine g_aload_n hC dX0_tellPath_6 rfl rfl ?_
  refine g_iload_n hC dX0_tellPath_7 rfl ?_
  refine g_iconst (v := nI (1)) hC dX0_tellPath_8 (by decide) ?_
  refine g_iaddN hC dX0_tellPath_9 ?_
  refine gi_X0_71 hC (is := [0]) (st := []) (c_X0_digitAt lt len hlen hlt (p := p + 1) (by omega) h2) dX0_tellPath_10 rfl ⟨by decide, by decide⟩ ⟨by decide, by decide⟩ rfl (by decide) rfl rfl rfl ?_
  refine g_istore hC dX0_tellPath_13 (by decide) rfl ?_
  refine g_iload_n hC dX0_tellPath_15 rfl ?_
  refine gi_X0_74 hC (is := []) (st := []) (c_X3_isRoomN (show a < 2 ^ 31 by omega)) dX0_tellPath_16 rfl ⟨by decide, by decide⟩ ⟨by decide, by decide⟩ rfl (by decide) rfl rfl ?_
  refine g_if_eqB (tgt := 36) hC dX0_tellPath_19 (by decide) (fun h_19 => ?_) (fun h_19 => ?_)
  · skip
    have q : ¬ a < 6 := of_decide_eq_false h_19
    refine g_iconst (v := nI (0)) hC dX0_tellPath_36 (by decide) ?_
    exact g_zret hC rfl rfl dX0_tellPath_37 (⟨rV (by rw [actP_no (by omega)]; rfl), by rw [actP_no (by omega)]; rfl⟩)
  · skip
    have hra : a < 6 := of_decide_eq_true h_19
    refine g_iload hC dX0_tellPath_22 rfl ?_
    refine gi_X0_74 hC (is := []) (st := []) (c_X3_isRoomN (show b < 2 ^ 31 by omega)) dX0_tellPath_24 rfl ⟨by decide, by decide⟩ ⟨by decide, by decide⟩ rfl (by decide) rfl rfl ?_
    refine g_if_eqB (tgt := 36) hC dX0_tellPath_27 (by decide) (fun h_27 => ?_) (fun h_27 => ?_)
    · skip
      have q : ¬ b < 6 := of_decide_eq_false h_27
      refine g_iconst (v := nI (0)) hC dX0_tellPath_36 (by decide) ?_
      exact g_zret hC rfl rfl dX0_tellPath_37 (⟨rV (by rw [actP_no (by omega)]; rfl), by rw [actP_no (by omega)]; rfl⟩)
    · skip
      have hrb : b < 6 := of_decide_eq_true h_27
      refine g_iload_n hC dX0_tellPath_30 rfl ?_
      refine g_iload hC dX0_tellPath_31 rfl ?_
      refine g_icmp_neN (tgt := 38) hC dX0_tellPath_33 (by decide) (by omega) (by omega) (fun h_33 => ?_) (fun h_33 => ?_)
      · skip
        refine g_aload_n hC dX0_tellPath_38 rfl rfl ?_
        refine g_iload_n hC dX0_tellPath_39 rfl ?_
        refine g_iload hC dX0_tellPath_40 rfl ?_
        refine gi_X0_77 hC (is := [1]) (st := []) (c_X1_turnPath v rf go hra hrb h_33 (hpa a hra) (hpa b hrb)) dX0_tellPath_42 rfl ⟨by decide, by decide⟩ ⟨by decide, by decide⟩ rfl (by decide) rfl rfl rfl ?_
        refine g_iconst (v := nI (1)) hC dX0_tellPath_45 (by decide) ?_
        exact g_zret hC rfl rfl dX0_tellPath_46 (⟨rV (by rw [actP_ok hra hrb h_33]; rfl), by rw [actP_ok hra hrb h_33]; rfl⟩)
      · skip
        have q := h_33
        refine g_iconst (v := nI (0)) hC dX0_tellPath_36 (by decide) ?_
        exact g_zret hC rfl rfl dX0_tellPath_37 (⟨rV (by rw [actP_no (by omega)]; rfl), by rw [actP_no (by omega)]; rfl⟩)

set_option maxRecDepth 100000 in
set_option maxHeartbeats 4000000 in
theorem c_X0_tellWind (lt : Nat → Nat) (len : Nat) (hlen : len ≤ 96) (hlt : ∀ j, j < len → lt j < 256) (v : Vw) (rf : Nat) (go : Nat → Nat) {p a b : Nat} (hp : p < 150) (h1 : ltr lt len p = some (48 + a)) (ha : a < 10) (h2 : ltr lt len (p + 1) = some (48 + b)) (hb : b < 10) : ConF yX0_tellWind cX0_tellWind 5 (some .boolean) 2 [aR 0 0 0, aR 1 0 0, aI (nI (p))] [tellG lt len, townG v rf go] (some (aI (bI (actW v rf a b).isSome))) [tellG lt len, townG ((actW v rf a b).getD (v, rf)).1 ((actW v rf a b).getD (v, rf)).2 go] := by
  refine con_of RX0 pn_X0 rfl rfl (Nat.le_of_ble_eq_true rfl) (fun C hM0 hC => ?_)
  show G C 0 0 0 [aR 0 0 0, aR 1 0 0, aI (nI (p)), aK 9, aK 9] [] [tellG lt len, townG v rf go]
  refine g_aload_n hC dX0_tellWind_0 rfl rfl ?_
  refine g_iload_n hC dX0_tellWind_1 rfl ?_
  refine gi_X0_71 hC (is := [0]) (st := []) (c_X0_digitAt lt len hlen hlt (p := p) (by omega) h1) dX0_tellWind_2 rfl ⟨by decide, by decide⟩ ⟨by decide, by decide⟩ rfl (by decide) rfl rfl rfl ?_
  refine g_istore_n hC dX0_tellWind_5 (by decide) rfl ?_
  refine g_aload_n hC dX0_tellWind_6 rfl rfl ?_
  refine g_iload_n hC dX0_tellWind_7 rfl ?_
  refine g_iconst (v := nI (1)) hC dX0_tellWind_8 (by decide) ?_
  refine g_iaddN hC dX0_tellWind_9 ?_
  refine gi_X0_71 hC (is := [0]) (st := []) (c_X0_digitAt lt len hlen hlt (p := p + 1) (by omega) h2) dX0_tellWind_10 rfl ⟨by decide, by decide⟩ ⟨by decide, by decide⟩ rfl (by decide) rfl rfl rfl ?_
  refine g_istore hC dX0_tellWind_13 (by decide) rfl ?_
  refine g_iload_n hC dX0_tellWind_15 rfl ?_
  refine gi_X0_74 hC (is := []) (st := []) (c_X3_isRoomN (show a < 2 ^ 31 by omega)) dX0_tellWind_16 rfl ⟨by decide, by decide⟩ ⟨by decide, by decide⟩ rfl (by decide) rfl rfl ?_
  refine g_if_eqB (tgt := 33) hC dX0_tellWind_19 (by decide) (fun h_19 => ?_) (fun h_19 => ?_)
  · skip
    have q : ¬ a < 6 := of_decide_eq_false h_19
    refine g_iconst (v := nI (0)) hC dX0_tellWind_33 (by decide) ?_
    exact g_zret hC rfl rfl dX0_tellWind_34 (⟨rV (by rw [actW_no (by omega)]; rfl), by rw [actW_no (by omega)]; rfl⟩)
  · skip
    have hra : a < 6 := of_decide_eq_true h_19
    refine g_iload hC dX0_tellWind_22 rfl ?_
    refine g_if_ltN (tgt := 33) hC dX0_tellWind_24 (by decide) (by omega) (fun h_24 => ?_) (fun h_24 => ?_)
    · skip
      omega
    · skip
      refine g_iload hC dX0_tellWind_27 rfl ?_
      refine g_iconst (v := nI (3)) hC dX0_tellWind_29 (by decide) ?_
      refine g_icmp_leN (tgt := 35) hC dX0_tellWind_30 (by decide) (by omega) (by omega) (fun h_30 => ?_) (fun h_30 => ?_)
      · skip
        refine g_aload_n hC dX0_tellWind_35 rfl rfl ?_
        refine g_iload_n hC dX0_tellWind_36 rfl ?_
        refine g_iload hC dX0_tellWind_37 rfl ?_
        refine gi_X0_83 hC (is := [1]) (st := []) (c_X1_setWind v rf go hra b) dX0_tellWind_39 rfl ⟨by decide, by decide⟩ ⟨by decide, by decide⟩ rfl (by decide) rfl rfl rfl ?_
        refine g_iconst (v := nI (1)) hC dX0_tellWind_42 (by decide) ?_
        exact g_zret hC rfl rfl dX0_tellWind_43 (⟨rV (by rw [actW_ok hra h_30]; rfl), by rw [actW_ok hra h_30]; rfl⟩)
      · skip
        refine g_iconst (v := nI (0)) hC dX0_tellWind_33 (by decide) ?_
        exact g_zret hC rfl rfl dX0_tellWind_34 (⟨rV (by rw [actW_no (by omega)]; rfl), by rw [actW_no (by omega)]; rfl⟩)

set_option maxRecDepth 100000 in
set_option maxHeartbeats 4000000 in
theorem c_X0_tellRoof (lt : Nat → Nat) (len : Nat) (hlen : len ≤ 96) (hlt : ∀ j, j < len → lt j < 256) (v : Vw) (rf : Nat) (go : Nat → Nat) (hrf : rf < 64) {p a : Nat} (hp : p < 150) (h1 : ltr lt len p = some (48 + a)) (ha : a < 10) : ConF yX0_tellRoof cX0_tellRoof 3 (some .boolean) 2 [aR 0 0 0, aR 1 0 0, aI (nI (p))] [tellG lt len, townG v rf go] (some (aI (bI (actR v rf a).isSome))) [tellG lt len, townG ((actR v rf a).getD (v, rf)).1 ((actR v rf a).getD (v, rf)).2 go] := by
  refine con_of RX0 pn_X0 rfl rfl (Nat.le_of_ble_eq_true rfl) (fun C hM0 hC => ?_)
  show G C 0 0 0 [aR 0 0 0, aR 1 0 0, aI (nI (p))] [] [tellG lt len, townG v rf go]
  refine g_aload_n hC dX0_tellRoof_0 rfl rfl ?_
  refine g_iload_n hC dX0_tellRoof_1 rfl ?_
  refine gi_X0_71 hC (is := [0]) (st := []) (c_X0_digitAt lt len hlen hlt (p := p) (by omega) h1) dX0_tellRoof_2 rfl ⟨by decide, by decide⟩ ⟨by decide, by decide⟩ rfl (by decide) rfl rfl rfl ?_
  refine gi_X0_74 hC (is := []) (st := []) (c_X3_isRoomN (show a < 2 ^ 31 by omega)) dX0_tellRoof_5 rfl ⟨by decide, by decide⟩ ⟨by decide, by decide⟩ rfl (by decide) rfl rfl ?_
  refine g_if_neB (tgt := 13) hC dX0_tellRoof_8 (by decide) (fun h_8 => ?_) (fun h_8 => ?_)
  · skip
    have hra : a < 6 := of_decide_eq_true h_8
    refine g_aload_n hC dX0_tellRoof_13 rfl rfl ?_
    refine g_aload_n hC dX0_tellRoof_14 rfl rfl ?_
    refine g_iload_n hC dX0_tellRoof_15 rfl ?_
    refine gi_X0_71 hC (is := [0]) (st := [aR 1 0 0]) (c_X0_digitAt lt len hlen hlt (p := p) (by omega) h1) dX0_tellRoof_16 rfl ⟨by decide, by decide⟩ ⟨by decide, by decide⟩ rfl (by decide) rfl rfl rfl ?_
    refine gi_X0_86 hC (is := [1]) (st := []) (c_X1_turnRoof v rf go hrf hra) dX0_tellRoof_19 rfl ⟨by decide, by decide⟩ ⟨by decide, by decide⟩ rfl (by decide) rfl rfl rfl ?_
    refine g_iconst (v := nI (1)) hC dX0_tellRoof_22 (by decide) ?_
    exact g_zret hC rfl rfl dX0_tellRoof_23 (⟨rV (by rw [actR_ok hra]; rfl), by rw [actR_ok hra]; rfl⟩)
  · skip
    have q : ¬ a < 6 := of_decide_eq_false h_8
    refine g_iconst (v := nI (0)) hC dX0_tellRoof_11 (by decide) ?_
    exact g_zret hC rfl rfl dX0_tellRoof_12 (⟨rV (by rw [actR_no (by omega)]; rfl), by rw [actR_no (by omega)]; rfl⟩)

set_option maxRecDepth 100000 in
set_option maxHeartbeats 4000000 in
theorem c_X0_tellNose (lt : Nat → Nat) (len : Nat) (hlen : len ≤ 96) (hlt : ∀ j, j < len → lt j < 256) (v : Vw) (rf : Nat) (go : Nat → Nat) {p a : Nat} (hp : p < 150) (h1 : ltr lt len p = some (48 + a)) (ha : a < 10) : ConF yX0_tellNose cX0_tellNose 4 (some .boolean) 2 [aR 0 0 0, aR 1 0 0, aI (nI (p))] [tellG lt len, townG v rf go] (some (aI (bI (actN v rf a).isSome))) [tellG lt len, townG ((actN v rf a).getD (v, rf)).1 ((actN v rf a).getD (v, rf)).2 go] := by
  refine con_of RX0 pn_X0 rfl rfl (Nat.le_of_ble_eq_true rfl) (fun C hM0 hC => ?_)
  show G C 0 0 0 [aR 0 0 0, aR 1 0 0, aI (nI (p)), aK 9] [] [tellG lt len, townG v rf go]
  refine g_aload_n hC dX0_tellNose_0 rfl rfl ?_
  refine g_iload_n hC dX0_tellNose_1 rfl ?_
  refine gi_X0_71 hC (is := [0]) (st := []) (c_X0_digitAt lt len hlen hlt (p := p) (by omega) h1) dX0_tellNose_2 rfl ⟨by decide, by decide⟩ ⟨by decide, by decide⟩ rfl (by decide) rfl rfl rfl ?_
  refine g_istore_n hC dX0_tellNose_5 (by decide) rfl ?_
  refine g_iload_n hC dX0_tellNose_6 rfl ?_
  refine g_iconst (v := nI (1)) hC dX0_tellNose_7 (by decide) ?_
  refine g_icmp_ltN (tgt := 17) hC dX0_tellNose_8 (by decide) (by omega) (by omega) (fun h_8 => ?_) (fun h_8 => ?_)
  · skip
    refine g_iconst (v := nI (0)) hC dX0_tellNose_17 (by decide) ?_
    exact g_zret hC rfl rfl dX0_tellNose_18 (⟨rV (by rw [actN_no (by omega)]; rfl), by rw [actN_no (by omega)]; rfl⟩)
  · skip
    refine g_iload_n hC dX0_tellNose_11 rfl ?_
    refine g_bipush (v := nI (9)) hC dX0_tellNose_12 (by decide) ?_
    refine g_icmp_leN (tgt := 19) hC dX0_tellNose_14 (by decide) (by omega) (by omega) (fun h_14 => ?_) (fun h_14 => ?_)
    · skip
      refine g_aload_n hC dX0_tellNose_19 rfl rfl ?_
      refine g_iload_n hC dX0_tellNose_20 rfl ?_
      refine gi_X0_90 hC (is := [1]) (st := []) (c_X1_setNose v rf go a) dX0_tellNose_21 rfl ⟨by decide, by decide⟩ ⟨by decide, by decide⟩ rfl (by decide) rfl rfl rfl ?_
      refine g_iconst (v := nI (1)) hC dX0_tellNose_24 (by decide) ?_
      exact g_zret hC rfl rfl dX0_tellNose_25 (⟨rV (by rw [actN_ok h_8]; rfl), by rw [actN_ok h_8]; rfl⟩)
    · skip
      omega

set_option maxRecDepth 100000 in
set_option maxHeartbeats 4000000 in
theorem c_X0_tellWalker (lt : Nat → Nat) (len : Nat) (hlen : len ≤ 96) (hlt : ∀ j, j < len → lt j < 256) (v : Vw) (rf : Nat) (go : Nat → Nat) {B : Nat} (hv : wf B v) (hB : B ≤ 200) {p n ki : Nat} {g : Nat → Nat} (hp : p < 150) (hk : kin (ltr lt len p) = some ki) (hn1 : 1 ≤ n) (hn7 : n ≤ 7) (hg : ∀ i, i < n → g i < 10 ∧ ltr lt len (p + 1 + i) = some (48 + g i)) : ConF yX0_tellWalker cX0_tellWalker 6 (some .boolean) 5 [aR 0 0 0, aR 1 0 0, aI (nI (p)), aI (nI (p + 1 + n))] [tellG lt len, townG v rf go] (some (aI (bI (actA v rf ki g n).isSome))) [tellG lt len, townG ((actA v rf ki g n).getD (v, rf)).1 ((actA v rf ki g n).getD (v, rf)).2 go] := by
  refine con_of RX0 pn_X0 rfl rfl (Nat.le_of_ble_eq_true rfl) (fun C hM0 hC => ?_)
  show G C 0 0 0 [aR 0 0 0, aR 1 0 0, aI (nI (p)), aI (nI (p + 1 + n)), aK 9, aK 9] [] [tellG lt len, townG v rf go]
  have hki := kin_lt _ hk
  have loop2 : vN v < 4 → anyB (fun i => decide (6 ≤ g i)) n = false → ∀ d j, j + d = n - 1 → G C 0 0 70 [aR 0 0 0, aR 1 0 0, aI (nI (p)), aI (nI (p + 1 + n)), aI (nI (ki)), aI (nI (p + 2 + j))] [] [tellG lt len, townG (plT (addV v ki (g 0)) (fun i => g (i + 1)) j) rf go] := by
    intro hn4 hany d
    have hg0 := any_lt hany 0 (by omega)
    induction d with
    | zero =>
      intro j hj
      refine g_iload hC dX0_tellWalker_70 rfl ?_
      refine g_iload_n hC dX0_tellWalker_72 rfl ?_
      refine g_icmp_geN (tgt := 92) hC dX0_tellWalker_73 (by decide) (by omega) (by omega) (fun h_73 => ?_) (fun h_73 => ?_)
      · skip
        refine g_iconst (v := nI (1)) hC dX0_tellWalker_92 (by decide) ?_
        obtain rfl : j = n - 1 := by omega
        exact g_zret hC rfl rfl dX0_tellWalker_93 (⟨rV (by rw [actA_ok hn4 hany]; rfl), by rw [actA_ok hn4 hany]; rfl⟩)
      · skip
        omega
    | succ d ih =>
      intro j hj
      have hwf : wf B (plT (addV v ki (g 0)) (fun i => g (i + 1)) j) := wf_plT (wf_addV hv hn4 (by omega) hg0) (by show 0 < vN v + 1; omega) (by rw [addV_pL]; omega) (fun i hi => any_lt hany (i + 1) (by omega))
      have hgj := (hg (j + 1) (by omega)).2
      rw [show p + 1 + (j + 1) = p + 2 + j by omega] at hgj
      have hgl := (hg (j + 1) (by omega)).1
      refine g_iload hC dX0_tellWalker_70 rfl ?_
      refine g_iload_n hC dX0_tellWalker_72 rfl ?_
      refine g_icmp_geN (tgt := 92) hC dX0_tellWalker_73 (by decide) (by omega) (by omega) (fun h_73 => ?_) (fun h_73 => ?_)
      · skip
        omega
      · skip
        refine g_aload_n hC dX0_tellWalker_76 rfl rfl ?_
        refine g_aload_n hC dX0_tellWalker_77 rfl rfl ?_
        refine g_iload hC dX0_tellWalker_78 rfl ?_
        refine gi_X0_71 hC (is := [0]) (st := [aR 1 0 0]) (c_X0_digitAt lt len hlen hlt (p := p + 2 + j) (by omega) hgj) dX0_tellWalker_80 rfl ⟨by decide, by decide⟩ ⟨by decide, by decide⟩ rfl (by decide) rfl rfl rfl ?_
        refine gi_X0_99 hC (is := [1]) (st := []) (c_X1_addToLastPlan (plT (addV v ki (g 0)) (fun i => g (i + 1)) j) rf go hwf hB (r := g (j + 1)) (by rw [plT_n]; show 0 < vN v + 1; omega) (by rw [plT_pL (by show 0 < vN v + 1; omega), addV_pL]; omega)) dX0_tellWalker_83 rfl ⟨by decide, by decide⟩ ⟨by decide, by decide⟩ rfl (by decide) rfl rfl rfl ?_
        refine g_iincN hC dX0_tellWalker_86 rfl (by decide) rfl ?_
        refine g_goto (tgt := 70) hC dX0_tellWalker_89 (by decide) ?_
        exact ih (j + 1) (by omega)
  have loop : vN v < 4 → ∀ d k, k + d = n → anyB (fun i => decide (6 ≤ g i)) k = false → G C 0 0 26 [aR 0 0 0, aR 1 0 0, aI (nI (p)), aI (nI (p + 1 + n)), aI (nI (ki)), aI (nI (p + 1 + k))] [] [tellG lt len, townG v rf go] := by
    intro hn4 d
    induction d with
    | zero =>
      intro k hk2 hany
      obtain rfl : k = n := by omega
      have hg0 := any_lt hany 0 (by omega)
      refine g_iload hC dX0_tellWalker_26 rfl ?_
      refine g_iload_n hC dX0_tellWalker_28 rfl ?_
      refine g_icmp_geN (tgt := 52) hC dX0_tellWalker_29 (by decide) (by omega) (by omega) (fun h_29 => ?_) (fun h_29 => ?_)
      · skip
        refine g_aload_n hC dX0_tellWalker_52 rfl rfl ?_
        refine g_iload hC dX0_tellWalker_53 rfl ?_
        refine g_aload_n hC dX0_tellWalker_55 rfl rfl ?_
        refine g_iload_n hC dX0_tellWalker_56 rfl ?_
        refine g_iconst (v := nI (1)) hC dX0_tellWalker_57 (by decide) ?_
        refine g_iaddN hC dX0_tellWalker_58 ?_
        refine gi_X0_71 hC (is := [0]) (st := [aI (nI (ki)), aR 1 0 0]) (c_X0_digitAt lt len hlen hlt (p := p + 1) (by omega) (hg 0 (by omega)).2) dX0_tellWalker_59 rfl ⟨by decide, by decide⟩ ⟨by decide, by decide⟩ rfl (by decide) rfl rfl rfl ?_
        refine gi_X0_96 hC (is := [1]) (st := []) (c_X1_addWalker v rf go hn4 (by omega) hg0) dX0_tellWalker_62 rfl ⟨by decide, by decide⟩ ⟨by decide, by decide⟩ rfl (by decide) rfl rfl rfl ?_
        refine g_iload_n hC dX0_tellWalker_65 rfl ?_
        refine g_iconst (v := nI (2)) hC dX0_tellWalker_66 (by decide) ?_
        refine g_iaddN hC dX0_tellWalker_67 ?_
        refine g_istore hC dX0_tellWalker_68 (by decide) rfl ?_
        exact loop2 hn4 hany (k - 1) 0 (by omega)
      · skip
        omega
    | succ d ih =>
      intro k hk2 hany
      have hgl := (hg k (by omega)).1
      refine g_iload hC dX0_tellWalker_26 rfl ?_
      refine g_iload_n hC dX0_tellWalker_28 rfl ?_
      refine g_icmp_geN (tgt := 52) hC dX0_tellWalker_29 (by decide) (by omega) (by omega) (fun h_29 => ?_) (fun h_29 => ?_)
      · skip
        omega
      · skip
        refine g_aload_n hC dX0_tellWalker_32 rfl rfl ?_
        refine g_iload hC dX0_tellWalker_33 rfl ?_
        refine gi_X0_71 hC (is := [0]) (st := []) (c_X0_digitAt lt len hlen hlt (p := p + 1 + k) (by omega) (hg k (by omega)).2) dX0_tellWalker_35 rfl ⟨by decide, by decide⟩ ⟨by decide, by decide⟩ rfl (by decide) rfl rfl rfl ?_
        refine gi_X0_74 hC (is := []) (st := []) (c_X3_isRoomN (show g k < 2 ^ 31 by omega)) dX0_tellWalker_38 rfl ⟨by decide, by decide⟩ ⟨by decide, by decide⟩ rfl (by decide) rfl rfl ?_
        refine g_if_neB (tgt := 46) hC dX0_tellWalker_41 (by decide) (fun h_41 => ?_) (fun h_41 => ?_)
        · skip
          have hrk : g k < 6 := of_decide_eq_true h_41
          refine g_iincN hC dX0_tellWalker_46 rfl (by decide) rfl ?_
          refine g_goto (tgt := 26) hC dX0_tellWalker_49 (by decide) ?_
          exact ih (k + 1) (by omega) (anyB_f hany (decide_eq_false (by omega)))
        · skip
          have q : ¬ g k < 6 := of_decide_eq_false h_41
          have hx : actA v rf ki g n = none := actA_no2 (anyB_t (k := k) (decide_eq_true (by omega)) n (by omega))
          refine g_iconst (v := nI (0)) hC dX0_tellWalker_44 (by decide) ?_
          exact g_zret hC rfl rfl dX0_tellWalker_45 (⟨rV (by rw [hx]; rfl), by rw [hx]; rfl⟩)
  refine g_aload_n hC dX0_tellWalker_0 rfl rfl ?_
  refine g_iload_n hC dX0_tellWalker_1 rfl ?_
  refine gi_X0_41 hC (is := [0]) (st := []) (c_X0_kindAt lt len hlen hlt (p := p) (by omega)) dX0_tellWalker_2 rfl ⟨by decide, by decide⟩ ⟨by decide, by decide⟩ rfl (by decide) rfl rfl rfl ?_
  rw [hk]
  show G C 0 0 5 _ (aI (nI ki) :: []) _
  refine g_istore hC dX0_tellWalker_5 (by decide) rfl ?_
  refine g_iload hC dX0_tellWalker_7 rfl ?_
  refine g_if_ltN (tgt := 19) hC dX0_tellWalker_9 (by decide) (by omega) (fun h_9 => ?_) (fun h_9 => ?_)
  · skip
    omega
  · skip
    refine g_aload_n hC dX0_tellWalker_12 rfl rfl ?_
    refine gi_X0_93 hC (is := [1]) (st := []) (c_X1_hasSpace v rf go (wf_n hv)) dX0_tellWalker_13 rfl ⟨by decide, by decide⟩ ⟨by decide, by decide⟩ rfl (by decide) rfl rfl rfl ?_
    refine g_if_neB (tgt := 21) hC dX0_tellWalker_16 (by decide) (fun h_16 => ?_) (fun h_16 => ?_)
    · skip
      refine g_iload_n hC dX0_tellWalker_21 rfl ?_
      refine g_iconst (v := nI (1)) hC dX0_tellWalker_22 (by decide) ?_
      refine g_iaddN hC dX0_tellWalker_23 ?_
      refine g_istore hC dX0_tellWalker_24 (by decide) rfl ?_
      exact loop (of_decide_eq_true h_16) n 0 (by omega) rfl
    · skip
      have hx : actA v rf ki g n = none := actA_no1 (of_decide_eq_false h_16)
      refine g_iconst (v := nI (0)) hC dX0_tellWalker_19 (by decide) ?_
      exact g_zret hC rfl rfl dX0_tellWalker_20 (⟨rV (by rw [hx]; rfl), by rw [hx]; rfl⟩)

set_option maxRecDepth 100000 in
set_option maxHeartbeats 4000000 in
theorem c_X0_tellStatement (lt : Nat → Nat) (len : Nat) (hlen : len ≤ 96) (hlt : ∀ j, j < len → lt j < 256) (v : Vw) (rf : Nat) (go : Nat → Nat) {B : Nat} (hv : wf B v) (hB : B ≤ 200) (hrf : rf < 64) {s e : Nat} (hs2 : s < 110) (h : stp lt len s = (e, true)) : ConF yX0_tellStatement cX0_tellStatement 4 (some .boolean) 6 [aR 0 0 0, aR 1 0 0, aI (nI (s)), aI (nI (e))] [tellG lt len, townG v rf go] (some (aI (bI (act lt s e v rf).isSome))) [tellG lt len, townG ((act lt s e v rf).getD (v, rf)).1 ((act lt s e v rf).getD (v, rf)).2 go] := by
  refine con_of RX0 pn_X0 rfl rfl (Nat.le_of_ble_eq_true rfl) (fun C hM0 hC => ?_)
  show G C 0 0 0 [aR 0 0 0, aR 1 0 0, aI (nI (s)), aI (nI (e))] [] [tellG lt len, townG v rf go]
  refine g_aload_n hC dX0_tellStatement_0 rfl rfl ?_
  refine g_iload_n hC dX0_tellStatement_1 rfl ?_
  refine gi_X0_23 hC (is := [0]) (st := []) (c_X0_letterAt lt len hlen hlt (p := s) (by omega)) dX0_tellStatement_2 rfl ⟨by decide, by decide⟩ ⟨by decide, by decide⟩ rfl (by decide) rfl rfl rfl ?_
  obtain ⟨h59, hc⟩ := stp_cases h
  have hlen2 := (ltr_in h59).1
  rcases hc with ⟨a, b, hs, h1, ha, h2, hb, rfl⟩ | ⟨a, b, hs, h1, ha, h2, hb, rfl⟩ | ⟨a, hs, h1, ha, rfl⟩ | ⟨a, hs, h1, ha, rfl⟩ | ⟨ki, n, g, hs, hk, hn1, hn7, hg, rfl⟩
  · rw [hs]
    show G C 0 0 5 _ (aI (nI 112) :: []) _
    refine g_tabIn (off := 55) (tgt := 60) hC dX0_tellStatement_5 (by decide) (by decide) (by decide) (by decide) ?_
    refine g_aload_n hC dX0_tellStatement_60 rfl rfl ?_
    refine g_aload_n hC dX0_tellStatement_61 rfl rfl ?_
    refine g_iload_n hC dX0_tellStatement_62 rfl ?_
    refine g_iconst (v := nI (1)) hC dX0_tellStatement_63 (by decide) ?_
    refine g_iaddN hC dX0_tellStatement_64 ?_
    refine gi_X0_55 hC (is := [0, 1]) (st := []) (c_X0_tellPath lt len hlen hlt v rf go (wf_pa hv) (p := s + 1) (by omega) h1 ha h2 hb) dX0_tellStatement_65 rfl ⟨by decide, by decide⟩ ⟨by decide, by decide⟩ rfl (by decide) rfl rfl rfl ?_
    exact g_zret hC rfl (bI_nar _) dX0_tellStatement_68 (⟨rV (by rw [act_p hs h1 h2]), by rw [act_p hs h1 h2]; rfl⟩)
  · rw [hs]
    show G C 0 0 5 _ (aI (nI 119) :: []) _
    refine g_tabIn (off := 64) (tgt := 69) hC dX0_tellStatement_5 (by decide) (by decide) (by decide) (by decide) ?_
    refine g_aload_n hC dX0_tellStatement_69 rfl rfl ?_
    refine g_aload_n hC dX0_tellStatement_70 rfl rfl ?_
    refine g_iload_n hC dX0_tellStatement_71 rfl ?_
    refine g_iconst (v := nI (1)) hC dX0_tellStatement_72 (by decide) ?_
    refine g_iaddN hC dX0_tellStatement_73 ?_
    refine gi_X0_59 hC (is := [0, 1]) (st := []) (c_X0_tellWind lt len hlen hlt v rf go (p := s + 1) (by omega) h1 ha h2 hb) dX0_tellStatement_74 rfl ⟨by decide, by decide⟩ ⟨by decide, by decide⟩ rfl (by decide) rfl rfl rfl ?_
    exact g_zret hC rfl (bI_nar _) dX0_tellStatement_77 (⟨rV (by rw [act_w hs h1 h2]), by rw [act_w hs h1 h2]; rfl⟩)
  · rw [hs]
    show G C 0 0 5 _ (aI (nI 114) :: []) _
    refine g_tabIn (off := 73) (tgt := 78) hC dX0_tellStatement_5 (by decide) (by decide) (by decide) (by decide) ?_
    refine g_aload_n hC dX0_tellStatement_78 rfl rfl ?_
    refine g_aload_n hC dX0_tellStatement_79 rfl rfl ?_
    refine g_iload_n hC dX0_tellStatement_80 rfl ?_
    refine g_iconst (v := nI (1)) hC dX0_tellStatement_81 (by decide) ?_
    refine g_iaddN hC dX0_tellStatement_82 ?_
    refine gi_X0_62 hC (is := [0, 1]) (st := []) (c_X0_tellRoof lt len hlen hlt v rf go hrf (p := s + 1) (by omega) h1 ha) dX0_tellStatement_83 rfl ⟨by decide, by decide⟩ ⟨by decide, by decide⟩ rfl (by decide) rfl rfl rfl ?_
    exact g_zret hC rfl (bI_nar _) dX0_tellStatement_86 (⟨rV (by rw [act_r hs h1]), by rw [act_r hs h1]; rfl⟩)
  · rw [hs]
    show G C 0 0 5 _ (aI (nI 110) :: []) _
    refine g_tabIn (off := 82) (tgt := 87) hC dX0_tellStatement_5 (by decide) (by decide) (by decide) (by decide) ?_
    refine g_aload_n hC dX0_tellStatement_87 rfl rfl ?_
    refine g_aload_n hC dX0_tellStatement_88 rfl rfl ?_
    refine g_iload_n hC dX0_tellStatement_89 rfl ?_
    refine g_iconst (v := nI (1)) hC dX0_tellStatement_90 (by decide) ?_
    refine g_iaddN hC dX0_tellStatement_91 ?_
    refine gi_X0_65 hC (is := [0, 1]) (st := []) (c_X0_tellNose lt len hlen hlt v rf go (p := s + 1) (by omega) h1 ha) dX0_tellStatement_92 rfl ⟨by decide, by decide⟩ ⟨by decide, by decide⟩ rfl (by decide) rfl rfl rfl ?_
    exact g_zret hC rfl (bI_nar _) dX0_tellStatement_95 (⟨rV (by rw [act_n hs h1]), by rw [act_n hs h1]; rfl⟩)
  · rw [hs]
    show G C 0 0 5 _ (aI (nI 97) :: []) _
    refine g_tabOut (tgt := 96) hC dX0_tellStatement_5 (by decide) (by decide) ?_
    refine g_aload_n hC dX0_tellStatement_96 rfl rfl ?_
    refine g_aload_n hC dX0_tellStatement_97 rfl rfl ?_
    refine g_iload_n hC dX0_tellStatement_98 rfl ?_
    refine g_iconst (v := nI (1)) hC dX0_tellStatement_99 (by decide) ?_
    refine g_iaddN hC dX0_tellStatement_100 ?_
    refine g_iload_n hC dX0_tellStatement_101 rfl ?_
    refine gi_X0_68 hC (is := [0, 1]) (st := []) (c_X0_tellWalker lt len hlen hlt v rf go hv hB (p := s + 1) (by omega) hk hn1 hn7 hg) dX0_tellStatement_102 rfl ⟨by decide, by decide⟩ ⟨by decide, by decide⟩ rfl (by decide) rfl rfl rfl ?_
    exact g_zret hC rfl (bI_nar _) dX0_tellStatement_105 (⟨rV (by rw [act_a hs hk hg hn1]), by rw [act_a hs hk hg hn1]; rfl⟩)

set_option maxRecDepth 100000 in
set_option maxHeartbeats 4000000 in
theorem c_X0_tell (lt : Nat → Nat) (len : Nat) (hlen : len ≤ 96) (hlt : ∀ j, j < len → lt j < 256) (v0 : Vw) (rf0 : Nat) (go : Nat → Nat) {B : Nat} (hv0 : wf B v0) (hB : B ≤ 200) (hrf0 : rf0 < 64) (hfw0 : fw lt len (len + 1) 0 = none) (h0 : 0 < len) : ConF yX0_tell cX0_tell 5 (some .int) 7 [aR 0 0 0, aR 1 0 0] [tellG lt len, townG v0 rf0 go] (some (aI (tl lt len (len + 1) 0 0 v0 rf0).1)) [tellG lt len, townG (tl lt len (len + 1) 0 0 v0 rf0).2.1 (tl lt len (len + 1) 0 0 v0 rf0).2.2 go] := by
  refine con_of RX0 pn_X0 rfl rfl (Nat.le_of_ble_eq_true rfl) (fun C hM0 hC => ?_)
  show G C 0 0 0 [aR 0 0 0, aR 1 0 0, aK 9, aK 9, aK 9] [] [tellG lt len, townG v0 rf0 go]
  have loop : ∀ f c s v rf, s < len → len < s + f → fw lt len f s = none → wf B v → rf < 64 → tl lt len f c s v rf = tl lt len (len + 1) 0 0 v0 rf0 → G C 0 0 7 [aR 0 0 0, aR 1 0 0, aI (nI (c)), aI (nI (s)), aI (nI (s))] [] [tellG lt len, townG v rf go] := by
    intro f
    induction f with
    | zero =>
      intro c s v rf hs hf
      omega
    | succ f ih =>
      intro c s v rf hs hf hfw hv hrf htl
      obtain ⟨hgood, hgo⟩ := fw_none hfw
      obtain ⟨e, he⟩ : ∃ e, (stp lt len s).1 = e := ⟨_, rfl⟩
      rw [he] at hgo
      have hst : stp lt len s = (e, true) := by rw [← he, ← hgood]
      have h59 := (stp_cases hst).1
      have hel := (ltr_in h59).1
      have hse := stp_lt hst
      have inner : ∀ d k, k + d = e → s ≤ k → G C 0 0 7 [aR 0 0 0, aR 1 0 0, aI (nI (c)), aI (nI (s)), aI (nI (k))] [] [tellG lt len, townG v rf go] := by
        intro d
        induction d with
        | zero =>
          intro k hk hsk
          obtain rfl : k = e := by omega
          refine g_iload hC dX0_tell_7 rfl ?_
          refine g_aload_n hC dX0_tell_9 rfl rfl ?_
          refine gf_X0_length hC dX0_tell_10 rfl rfl ?_
          refine g_icmp_geN (tgt := 58) hC dX0_tell_13 (by decide) (by omega) (by omega) (fun h_13 => ?_) (fun h_13 => ?_)
          · skip
            omega
          · skip
            refine g_aload_n hC dX0_tell_16 rfl rfl ?_
            refine g_iload hC dX0_tell_17 rfl ?_
            refine gi_X0_23 hC (is := [0]) (st := []) (c_X0_letterAt lt len hlen hlt (p := k) (by omega)) dX0_tell_19 rfl ⟨by decide, by decide⟩ ⟨by decide, by decide⟩ rfl (by decide) rfl rfl rfl ?_
            refine g_bipush (v := nI (59)) hC dX0_tell_22 (by decide) ?_
            refine g_icmp_neQ (tgt := 52) hC dX0_tell_24 (by decide) (fun c q => by have := ltr_lt hlt c q; omega) (by omega) (fun h_24 => ?_) (fun h_24 => ?_)
            · skip
              exact absurd h59 h_24
            · skip
              refine g_aload_n hC dX0_tell_27 rfl rfl ?_
              refine g_aload_n hC dX0_tell_28 rfl rfl ?_
              refine g_iload_n hC dX0_tell_29 rfl ?_
              refine g_iload hC dX0_tell_30 rfl ?_
              refine gi_X0_51 hC (is := [0, 1]) (st := []) (c_X0_tellStatement lt len hlen hlt v rf go hv hB hrf (by omega) hst) dX0_tell_32 rfl ⟨by decide, by decide⟩ ⟨by decide, by decide⟩ rfl (by decide) rfl rfl rfl ?_
              refine g_if_neB (tgt := 44) hC dX0_tell_35 (by decide) (fun h_35 => ?_) (fun h_35 => ?_)
              · skip
                obtain ⟨y, hy⟩ := Option.isSome_iff_exists.mp h_35
                rw [hy]
                show G C 0 0 44 [aR 0 0 0, aR 1 0 0, aI (nI (c)), aI (nI (s)), aI (nI (k))] [] [tellG lt len, townG y.1 y.2 go]
                refine g_iincN hC dX0_tell_44 rfl (by decide) rfl ?_
                refine g_iload hC dX0_tell_47 rfl ?_
                refine g_iconst (v := nI (1)) hC dX0_tell_49 (by decide) ?_
                refine g_iaddN hC dX0_tell_50 ?_
                refine g_istore_n hC dX0_tell_51 (by decide) rfl ?_
                refine g_iincN hC dX0_tell_52 rfl (by decide) rfl ?_
                refine g_goto (tgt := 7) hC dX0_tell_55 (by decide) ?_
                by_cases hlast : k + 1 < len
                · exact ih (c + 1) (k + 1) y.1 y.2 hlast (by omega) (hgo hlast) (wf_act hv hst hy) (rf_act hrf hst hy) (by rw [← htl, tl_go (by rw [he]; exact hy) (by rw [he]; exact hlast), he])
                · skip
                  refine g_iload hC dX0_tell_7 rfl ?_
                  refine g_aload_n hC dX0_tell_9 rfl rfl ?_
                  refine gf_X0_length hC dX0_tell_10 rfl rfl ?_
                  refine g_icmp_geN (tgt := 58) hC dX0_tell_13 (by decide) (by omega) (by omega) (fun h_13 => ?_) (fun h_13 => ?_)
                  · skip
                    refine g_iload_n hC dX0_tell_58 rfl ?_
                    exact g_iret hC rfl dX0_tell_59 (⟨rV (by rw [← htl, tl_end (by rw [he]; exact hy) (by rw [he]; omega)]), by rw [← htl, tl_end (by rw [he]; exact hy) (by rw [he]; omega)]⟩)
                  · skip
                    omega
              · skip
                have hy : act lt s k v rf = none := by rw [← Option.not_isSome_iff_eq_none, h_35]; decide
                refine g_sipush (v := (-2000)) hC dX0_tell_38 (by decide) ?_
                refine g_iload_n hC dX0_tell_41 rfl ?_
                refine g_isub hC dX0_tell_42 rfl ?_
                exact g_iret hC rfl dX0_tell_43 (⟨rV (by rw [← htl, tl_no (by rw [he]; exact hy)]), by rw [← htl, tl_no (by rw [he]; exact hy), hy]; rfl⟩)
        | succ d ih2 =>
          intro k hk hsk
          refine g_iload hC dX0_tell_7 rfl ?_
          refine g_aload_n hC dX0_tell_9 rfl rfl ?_
          refine gf_X0_length hC dX0_tell_10 rfl rfl ?_
          refine g_icmp_geN (tgt := 58) hC dX0_tell_13 (by decide) (by omega) (by omega) (fun h_13 => ?_) (fun h_13 => ?_)
          · skip
            omega
          · skip
            refine g_aload_n hC dX0_tell_16 rfl rfl ?_
            refine g_iload hC dX0_tell_17 rfl ?_
            refine gi_X0_23 hC (is := [0]) (st := []) (c_X0_letterAt lt len hlen hlt (p := k) (by omega)) dX0_tell_19 rfl ⟨by decide, by decide⟩ ⟨by decide, by decide⟩ rfl (by decide) rfl rfl rfl ?_
            refine g_bipush (v := nI (59)) hC dX0_tell_22 (by decide) ?_
            refine g_icmp_neQ (tgt := 52) hC dX0_tell_24 (by decide) (fun c q => by have := ltr_lt hlt c q; omega) (by omega) (fun h_24 => ?_) (fun h_24 => ?_)
            · skip
              refine g_iincN hC dX0_tell_52 rfl (by decide) rfl ?_
              refine g_goto (tgt := 7) hC dX0_tell_55 (by decide) ?_
              exact ih2 (k + 1) (by omega) (by omega)
            · skip
              exact absurd h_24 (stp_no59 hst k hsk (by omega))
      exact inner (e - s) s (by omega) (Nat.le_refl _)
  refine g_iconst (v := nI (0)) hC dX0_tell_0 (by decide) ?_
  refine g_istore_n hC dX0_tell_1 (by decide) rfl ?_
  refine g_iconst (v := nI (0)) hC dX0_tell_2 (by decide) ?_
  refine g_istore_n hC dX0_tell_3 (by decide) rfl ?_
  refine g_iconst (v := nI (0)) hC dX0_tell_4 (by decide) ?_
  refine g_istore hC dX0_tell_5 (by decide) rfl ?_
  exact loop (len + 1) 0 0 v0 rf0 h0 (by omega) hfw0 hv0 hrf0 rfl

