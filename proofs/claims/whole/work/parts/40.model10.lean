/-- rain, walker by walker -/
def rnM (u : Vw) (p : Nat → Bool) (w r : Nat) : Vw := uLf u (fun a b => if (a < w ∨ (a = w ∧ b < r)) ∧ b < 6 ∧ p b = false then none else vLf u a b)
theorem rn_at (u : Vw) (p : Nat → Bool) (w r : Nat) : vLf (rnM u p w r) w r = vLf u w r := if_neg (by omega)
theorem rn_zero (u : Vw) (p : Nat → Bool) : rnM u p 0 0 = u := by
  have : (fun a b => if (a < 0 ∨ (a = 0 ∧ b < 0)) ∧ b < 6 ∧ p b = false then none else vLf u a b) = vLf u := by
    funext a b
    exact if_neg (by omega)
  unfold rnM
  rw [this]
  rfl
theorem rn_row (u : Vw) (p : Nat → Bool) (w : Nat) : rnM u p w 6 = rnM u p (w + 1) 0 := by
  have : (fun a b => if (a < w ∨ (a = w ∧ b < 6)) ∧ b < 6 ∧ p b = false then none else vLf u a b) = fun a b => if (a < w + 1 ∨ (a = w + 1 ∧ b < 0)) ∧ b < 6 ∧ p b = false then none else vLf u a b := by
    funext a b
    by_cases h : (a < w ∨ (a = w ∧ b < 6)) ∧ b < 6 ∧ p b = false
    · rw [if_pos h, if_pos ⟨by omega, h.2⟩]
    · rw [if_neg h, if_neg (fun z => h ⟨by omega, z.2⟩)]
  unfold rnM
  rw [this]
theorem rn_keep {u : Vw} {p : Nat → Bool} {w r : Nat} (h : vLf u w r = none ∨ p r = true) : rnM u p w (r + 1) = rnM u p w r := by
  have : (fun a b => if (a < w ∨ (a = w ∧ b < r + 1)) ∧ b < 6 ∧ p b = false then none else vLf u a b) = fun a b => if (a < w ∨ (a = w ∧ b < r)) ∧ b < 6 ∧ p b = false then none else vLf u a b := by
    funext a b
    by_cases e : a = w ∧ b = r
    · obtain ⟨rfl, rfl⟩ := e
      rw [if_neg (c := (a < a ∨ (a = a ∧ b < b)) ∧ b < 6 ∧ p b = false) (by omega)]
      rcases h with h | h
      · rw [h]; split <;> rfl
      · rw [if_neg (fun z => by rw [h] at z; cases z.2.2)]
    · by_cases q : (a < w ∨ (a = w ∧ b < r)) ∧ b < 6 ∧ p b = false
      · rw [if_pos q, if_pos ⟨by omega, q.2⟩]
      · rw [if_neg q, if_neg (fun z => q ⟨by omega, z.2⟩)]
  unfold rnM
  rw [this]
theorem rn_wash {u : Vw} {p : Nat → Bool} {w r : Nat} (h : p r = false) (hr : r < 6) : rnM u p w (r + 1) = uLf (rnM u p w r) (upd2N (vLf (rnM u p w r)) w r none) := by
  have : (fun a b => if (a < w ∨ (a = w ∧ b < r + 1)) ∧ b < 6 ∧ p b = false then none else vLf u a b) = upd2N (vLf (rnM u p w r)) w r none := by
    funext a b
    show _ = if a = w ∧ b = r then none else if (a < w ∨ (a = w ∧ b < r)) ∧ b < 6 ∧ p b = false then none else vLf u a b
    by_cases e : a = w ∧ b = r
    · obtain ⟨rfl, rfl⟩ := e
      rw [if_pos ⟨Or.inr ⟨rfl, by omega⟩, hr, h⟩, if_pos ⟨rfl, rfl⟩]
    · rw [if_neg e]
      by_cases q : (a < w ∨ (a = w ∧ b < r)) ∧ b < 6 ∧ p b = false
      · rw [if_pos q, if_pos ⟨by omega, q.2⟩]
      · rw [if_neg q, if_neg (fun z => q ⟨by omega, z.2⟩)]
  show uLf u _ = _
  rw [this]
  rfl
theorem rn_all (u : Vw) (p : Nat → Bool) : rnM u p (vN u) 0 = rainV u p 6 := by
  have : (fun a b => if (a < vN u ∨ (a = vN u ∧ b < 0)) ∧ b < 6 ∧ p b = false then none else vLf u a b) = fun a b => if (decide (a < vN u) && decide (b < 6) && !p b) = true then none else vLf u a b := by
    funext a b
    by_cases q : a < vN u ∧ b < 6 ∧ p b = false
    · rw [if_pos ⟨Or.inl q.1, q.2⟩, if_pos (by rw [decide_eq_true q.1, decide_eq_true q.2.1, q.2.2]; rfl)]
    · rw [if_neg (fun z => q ⟨by omega, z.2⟩), if_neg (fun z => q (by simpa [and_assoc] using z))]
  unfold rnM rainV
  rw [this]
theorem wf_rn {B : Nat} {u : Vw} (h : wf B u) (p : Nat → Bool) (w r : Nat) : wf B (rnM u p w r) := by
  refine ⟨wf_n (v := u) h, wf_mi (v := u) h, wf_no (v := u) h, wf_wi (v := u) h, wf_pa (v := u) h, wf_sym (v := u) h, wf_irr (v := u) h, wf_ki (v := u) h, wf_pl (v := u) h, wf_pL (v := u) h, wf_pp (v := u) h, fun a ha b hb m hm => ?_⟩
  have hm : (if (a < w ∨ (a = w ∧ b < r)) ∧ b < 6 ∧ p b = false then none else vLf u a b) = some m := hm
  split at hm
  · cases hm
  · exact wf_lf h a ha b hb m hm
theorem sum_swap (q : Nat → Nat → Bool) : ∀ n, sumN (fun a => cnt (q a) 6) n = sumN (fun b => cnt (fun a => q a b) n) 6
  | 0 => rfl
  | n + 1 => by
    have ih := sum_swap q n
    show sumN (fun a => cnt (q a) 6) n + cnt (q n) 6 = _
    rw [ih]
    simp only [sumN, cnt]
    omega
theorem cnt_false {p : Nat → Bool} : ∀ n, (∀ i, i < n → p i = false) → cnt p n = 0
  | 0, _ => rfl
  | n + 1, h => by
    show cnt p n + (p n).toNat = 0
    rw [cnt_false n (fun i hi => h i (by omega)), h n (by omega)]
    rfl
def rnF (u : Vw) (p : Nat → Bool) (a b : Nat) : Bool := (vLf u a b).isSome && !p b
theorem rn_sum (u : Vw) (p : Nat → Bool) : sumN (fun a => cnt (rnF u p a) 6) (vN u) = rainC u p 6 := by
  rw [sum_swap]
  refine sumN_congr 6 (fun b _ => ?_)
  cases hp : p b with
  | true =>
    rw [if_pos rfl]
    exact cnt_false _ (fun a _ => by unfold rnF; rw [hp]; simp)
  | false =>
    rw [if_neg (by decide)]
    exact cnt_congr _ (fun a _ => by unfold rnF; rw [hp]; simp)
theorem fst_keep {p : Nat → Bool} {k m : Nat} (h : fstB p k = some m) : ∀ d, fstB p (k + d) = some m
  | 0 => h
  | d + 1 => by
    have ih := fst_keep h d
    show (match fstB p (k + d) with
    | some r => some r
    | none => if p (k + d) then some (k + d) else none) = some m
    rw [ih]
theorem fst_to {p : Nat → Bool} {k m n : Nat} (h : fstB p k = some m) (hn : k ≤ n) : fstB p n = some m := by
  obtain ⟨d, rfl⟩ : ∃ d, n = k + d := ⟨n - k, by omega⟩
  exact fst_keep h d
theorem fst_lt {p : Nat → Bool} : ∀ k m, fstB p k = some m → m < k
  | 0, _, h => by cases h
  | k + 1, m, h => by
    unfold fstB at h
    split at h
    next r hr => cases h; exact Nat.lt_succ_of_lt (fst_lt k _ hr)
    next =>
      split at h
      · cases h; exact Nat.lt_succ_self _
      · cases h
theorem ends_some {u : Vw} {r : Nat} : ∀ k, (∃ w, w < k ∧ w ≠ 9 ∧ (vLf u w r).isSome = true) → ∃ a, ends u r 9 false k = some a
  | 0, h => by obtain ⟨w, h1, -⟩ := h; omega
  | k + 1, h => by
    cases hb : beyond false (age u k r 0) (ends u r 9 false k) with
    | true =>
      by_cases h9 : k = 9
      · rw [ends_at h9]
        obtain ⟨w, h1, h2, h3⟩ := h
        exact ends_some k ⟨w, by omega, h2, h3⟩
      · rw [ends_up h9 hb]
        cases ha : age u k r 0 with
        | none => rw [ha] at hb; cases hb
        | some a => exact ⟨a, rfl⟩
    | false =>
      rw [ends_no hb]
      obtain ⟨w, h1, h2, h3⟩ := h
      by_cases e : w = k
      · subst e
        obtain ⟨m, hm⟩ := Option.isSome_iff_exists.mp h3
        rw [age_some hm] at hb
        cases he : ends u r 9 false w with
        | none => rw [he] at hb; cases hb
        | some a => exact ⟨a, rfl⟩
      · exact ends_some k ⟨w, by omega, h2, h3⟩
/-- the least age: some trace has it, none is below -/
theorem ends_min {u : Vw} {r : Nat} : ∀ k, k ≤ 9 → ∀ a, ends u r 9 false k = some a → (∃ w, w < k ∧ age u w r 0 = some a) ∧ ∀ w, w < k → ∀ b, age u w r 0 = some b → a ≤ b
  | 0, _, _, h => by cases h
  | k + 1, hk, a, h => by
    have ih := ends_min (u := u) (r := r) k (by omega)
    cases hb : beyond false (age u k r 0) (ends u r 9 false k) with
    | true =>
      rw [ends_up (by omega) hb] at h
      refine ⟨⟨k, Nat.lt_succ_self k, h⟩, fun w hw b hwb => ?_⟩
      by_cases e : w = k
      · subst e
        rw [h] at hwb
        cases hwb
        exact Nat.le_refl _
      · rw [h] at hb
        cases he : ends u r 9 false k with
        | none =>
          exfalso
          obtain ⟨c, hc⟩ := ends_some (u := u) (r := r) k ⟨w, by omega, by omega, by
            cases hl : vLf u w r with
            | none => rw [age_none hl] at hwb; cases hwb
            | some m => rfl⟩
          rw [he] at hc
          cases hc
        | some c =>
          rw [he] at hb
          have hb2 : a < c := of_decide_eq_true hb
          have := (ih c he).2 w (by omega) b hwb
          omega
    | false =>
      rw [ends_no hb] at h
      obtain ⟨⟨w, h1, h2⟩, h3⟩ := ih a h
      refine ⟨⟨w, by omega, h2⟩, fun x hx b hxb => ?_⟩
      by_cases e : x = k
      · subst e
        rw [hxb, h] at hb
        have hb2 : ¬ b < a := of_decide_eq_false hb
        omega
      · exact h3 x (by omega) b hxb
/-- the least smell, and how many have it -/
theorem frs_spec {u : Vw} {r l : Nat} : ∀ k, ((frs u r l k).2 = 0 ∧ ∀ w, w < k → (vLf u w r).isSome = false) ∨
    (1 ≤ (frs u r l k).2 ∧ (∃ w, w < k ∧ (vLf u w r).isSome = true ∧ smell u r l w = (frs u r l k).1) ∧ (∀ w, w < k → (vLf u w r).isSome = true → (frs u r l k).1 ≤ smell u r l w) ∧ (frs u r l k).2 = cnt (fun w => (vLf u w r).isSome && decide (smell u r l w = (frs u r l k).1)) k)
  | 0 => Or.inl ⟨rfl, fun w hw => absurd hw (Nat.not_lt_zero _)⟩
  | k + 1 => by
    have ih := frs_spec (u := u) (r := r) (l := l) k
    cases hs : (vLf u k r).isSome with
    | false =>
      rw [frs_no hs]
      rcases ih with ⟨h1, h2⟩ | ⟨h1, ⟨w, h2, h3, h4⟩, h5, h6⟩
      · refine Or.inl ⟨h1, fun w hw => ?_⟩
        by_cases e : w = k
        · rw [e]; exact hs
        · exact h2 w (by omega)
      · refine Or.inr ⟨h1, ⟨w, by omega, h3, h4⟩, fun x hx hxs => ?_, ?_⟩
        · by_cases e : x = k
          · rw [e, hs] at hxs; cases hxs
          · exact h5 x (by omega) hxs
        · rw [cnt_f (p := fun w => (vLf u w r).isSome && decide (smell u r l w = (frs u r l k).1)) (by rw [hs]; rfl)]
          exact h6
    | true =>
      by_cases hn : (frs u r l k).2 = 0 ∨ smell u r l k < (frs u r l k).1
      · rw [frs_new hs hn]
        have hlow : ∀ w, w < k → (vLf u w r).isSome = true → smell u r l k < smell u r l w := by
          intro w hw hws
          rcases ih with ⟨h1, h2⟩ | ⟨h1, -, h5, h6⟩
          · rw [h2 w hw] at hws; cases hws
          · have := h5 w hw hws
            rcases hn with hn | hn <;> omega
        refine Or.inr ⟨Nat.le_refl _, ⟨k, Nat.lt_succ_self k, hs, rfl⟩, fun w hw hws => ?_, ?_⟩
        · by_cases e : w = k
          · rw [e]; exact Nat.le_refl _
          · exact Nat.le_of_lt (hlow w (by omega) hws)
        · rw [cnt_t (p := fun w => (vLf u w r).isSome && decide (smell u r l w = smell u r l k)) (by rw [hs]; simp)]
          rw [cnt_false k (fun w hw => by
            cases hws : (vLf u w r).isSome with
            | false => rfl
            | true => have := hlow w hw hws; rw [decide_eq_false (by omega)]; rfl)]
      · rcases ih with ⟨h1, h2⟩ | ⟨h1, ⟨w, h2, h3, h4⟩, h5, h6⟩
        · exact absurd (Or.inl h1) hn
        · have hle : (frs u r l k).1 ≤ smell u r l k := by
            by_cases z : (frs u r l k).1 ≤ smell u r l k
            · exact z
            · exact absurd (Or.inr (by omega)) hn
          by_cases he : smell u r l k = (frs u r l k).1
          · rw [frs_same hs hn he]
            refine Or.inr ⟨by show 1 ≤ (frs u r l k).2 + 1; omega, ⟨w, by omega, h3, h4⟩, fun x hx hxs => ?_, ?_⟩
            · by_cases e : x = k
              · rw [e]; exact hle
              · exact h5 x (by omega) hxs
            · show (frs u r l k).2 + 1 = cnt (fun w => (vLf u w r).isSome && decide (smell u r l w = (frs u r l k).1)) (k + 1)
              rw [cnt_t (p := fun w => (vLf u w r).isSome && decide (smell u r l w = (frs u r l k).1)) (by rw [hs, he]; simp), ← h6]
          · rw [frs_more hn he]
            refine Or.inr ⟨h1, ⟨w, by omega, h3, h4⟩, fun x hx hxs => ?_, ?_⟩
            · by_cases e : x = k
              · rw [e]; exact hle
              · exact h5 x (by omega) hxs
            · rw [cnt_f (p := fun w => (vLf u w r).isSome && decide (smell u r l w = (frs u r l k).1)) (by rw [hs, decide_eq_false he]; rfl)]
              exact h6
def aloP (u : Vw) (r a w : Nat) : Bool := (vLf u w r).isSome && decide (smell u r 0 w = a / vNo u)
theorem alone_eq {u : Vw} {r l a : Nat} (hn : vN u ≤ 4) (ha : ends (uMi u (vMi u + l)) r 9 false (vN u) = some a) : decide (cnt (aloP (uMi u (vMi u + l)) r a) (vN u) = 1) = aloneB u r l := by
  have hsm : ∀ w, smell (uMi u (vMi u + l)) r 0 w = smell u r l w := by
    intro w
    unfold smell
    show (match vLf u w r with
      | some m => ageIn (uMi u (vMi u + l)) w r 0 m / vNo u
      | none => 0) = _
    cases vLf u w r with
    | none => rfl
    | some m => rfl
  have hag : ∀ w, age (uMi u (vMi u + l)) w r 0 = age u w r l := by
    intro w
    unfold age
    show (vLf u w r).map (ageIn (uMi u (vMi u + l)) w r 0) = _
    cases vLf u w r with
    | none => rfl
    | some m => rfl
  obtain ⟨⟨w0, h1, h2⟩, h3⟩ := ends_min (u := uMi u (vMi u + l)) (r := r) (vN u) (by omega) a ha
  rw [hag] at h2
  have hs0 : (vLf u w0 r).isSome = true ∧ smell u r l w0 = a / vNo u := by
    cases hl : vLf u w0 r with
    | none => rw [age_none hl] at h2; cases h2
    | some m => rw [age_some hl] at h2; cases h2; exact ⟨rfl, smell_some hl⟩
  have hlow : ∀ w, w < vN u → (vLf u w r).isSome = true → a / vNo u ≤ smell u r l w := by
    intro w hw hws
    obtain ⟨m, hm⟩ := Option.isSome_iff_exists.mp hws
    rw [smell_some hm]
    exact Nat.div_le_div_right (h3 w hw _ (by rw [hag]; exact age_some hm))
  rcases frs_spec (u := u) (r := r) (l := l) (vN u) with ⟨q1, q2⟩ | ⟨q1, ⟨w, q2, q3, q4⟩, q5, q6⟩
  · have := q2 w0 h1
    rw [hs0.1] at this
    cases this
  · have e : (frs u r l (vN u)).1 = a / vNo u := by
      have b1 := q5 w0 h1 hs0.1
      have b2 := hlow w q2 q3
      rw [hs0.2] at b1
      omega
    have e2 : cnt (aloP (uMi u (vMi u + l)) r a) (vN u) = (frs u r l (vN u)).2 := by
      rw [q6, e]
      exact cnt_congr _ (fun w _ => by
        show ((vLf u w r).isSome && decide (smell (uMi u (vMi u + l)) r 0 w = a / vNo u)) = _
        rw [hsm])
    rw [e2]
    unfold aloneB
    exact decide_eq_decide.mpr (by omega)
theorem wf_late {B : Nat} {u : Vw} (h : wf B u) (l : Nat) : wf (B + l) (uMi u (vMi u + l)) := by
  refine ⟨wf_n (v := u) h, Nat.add_le_add_right (wf_mi (v := u) h) l, wf_no (v := u) h, wf_wi (v := u) h, wf_pa (v := u) h, wf_sym (v := u) h, wf_irr (v := u) h, wf_ki (v := u) h, wf_pl (v := u) h, wf_pL (v := u) h, wf_pp (v := u) h, fun a ha b hb m hm => ?_⟩
  have := wf_lf h a ha b hb m hm
  show m ≤ vMi u + l
  omega
theorem ends_tr {u : Vw} {r : Nat} (hn : vN u ≤ 4) (h : ¬ traces u r < 2) (l : Nat) : ∃ a, ends (uMi u (vMi u + l)) r 9 false (vN u) = some a := by
  refine ends_some (u := uMi u (vMi u + l)) (vN u) ?_
  by_cases q : ∃ w, w < vN u ∧ w ≠ 9 ∧ (vLf (uMi u (vMi u + l)) w r).isSome = true
  · exact q
  · exfalso
    refine h ?_
    unfold traces
    rw [cnt_false (vN u) (fun i hi => ?_)]
    · decide
    · cases hs : (vLf u i r).isSome with
      | false => rfl
      | true => exact absurd ⟨i, hi, by omega, hs⟩ q
set_option maxRecDepth 100000 in
set_option maxHeartbeats 4000000 in
theorem c_X4_rain (u : Vw) (ro re lt : Nat → Nat) (len : Nat) (le la : Nat → Nat) (td : Nat → Int32) (fr ti : Nat → Nat) (pt st : Nat) (ke : Nat → Int32) (hi ik : Bool) (cu : Nat) (go num : Nat → Nat) (nin : Nat) (up fo : Nat → Nat) {B : Nat} (hu : wf B u) (hB : B ≤ 200) (hro : ∀ r, r < 6 → ro r ≤ 1) : Con yX4_rain cX4_rain 4 (some .int) 1 0 0 [aR 0 0 0] [modW u ro re lt len le la td fr ti pt st ke hi ik cu go num nin up fo] (fun r M => r = some (aI (ansOf (oRain u (fun r => decide (ro r = 1))))) ∧ PM (rainV u (fun r => decide (ro r = 1)) 6) ro (bump re (oRain u (fun r => decide (ro r = 1)))) lt len ke hi num nin M) := by
  refine con_of RX4 pn_X4 rfl rfl (Nat.le_of_ble_eq_true rfl) (fun C hM0 hC => ?_)
  show G C 0 0 0 [aR 0 0 0, aK 9, aK 9, aK 9] [] [modW u ro re lt len le la td fr ti pt st ke hi ik cu go num nin up fo]
  have hn4 := wf_n hu
  have loop : ∀ d w, w + d = vN u → G C 0 0 4 [aR 0 0 0, aI (nI (sumN (fun a => cnt (rnF u (fun r => decide (ro r = 1)) a) 6) w)), aI (nI (w)), aK 9] [] [modW (rnM u (fun r => decide (ro r = 1)) w 0) ro re lt len le la td fr ti pt st ke hi ik cu go num nin up fo] := by
    intro d
    induction d with
    | zero =>
      intro w hw
      have hfn : vN (rnM u (fun r => decide (ro r = 1)) w 0) = vN u := rfl
      refine g_iload_n hC dX4_rain_4 rfl ?_
      refine g_aload_n hC dX4_rain_5 rfl rfl ?_
      refine gf_X4_walkers hC dX4_rain_6 rfl rfl ?_
      refine g_icmp_geN (tgt := 70) hC dX4_rain_9 (by decide) (by omega) (by omega) (fun h_9 => ?_) (fun h_9 => ?_)
      · skip
        refine g_iload_n hC dX4_rain_70 rfl ?_
        exact g_iret hC rfl dX4_rain_71 (⟨rV (by rw [show w = vN u by omega, rn_sum]; rfl), by rw [show w = vN u by omega, rn_all]; exact ⟨_, _, _, _, _, _, _, _, _, _, _, _, _, fun _ _ => rfl, rfl⟩⟩)
      · skip
        omega
    | succ d ih =>
      intro w hw
      have hfn : vN (rnM u (fun r => decide (ro r = 1)) w 0) = vN u := rfl
      refine g_iload_n hC dX4_rain_4 rfl ?_
      refine g_aload_n hC dX4_rain_5 rfl rfl ?_
      refine gf_X4_walkers hC dX4_rain_6 rfl rfl ?_
      refine g_icmp_geN (tgt := 70) hC dX4_rain_9 (by decide) (by omega) (by omega) (fun h_9 => ?_) (fun h_9 => ?_)
      · skip
        omega
      · skip
        refine g_iconst (v := nI (0)) hC dX4_rain_12 (by decide) ?_
        refine g_istore_n hC dX4_rain_13 (by decide) rfl ?_
        have inner : ∀ e r, r + e = 6 → G C 0 0 14 [aR 0 0 0, aI (nI (sumN (fun a => cnt (rnF u (fun r => decide (ro r = 1)) a) 6) w + cnt (rnF u (fun r => decide (ro r = 1)) w) r)), aI (nI (w)), aI (nI (r))] [] [modW (rnM u (fun r => decide (ro r = 1)) w r) ro re lt len le la td fr ti pt st ke hi ik cu go num nin up fo] := by
          intro e
          induction e with
          | zero =>
            intro r hr
            refine g_iload_n hC dX4_rain_14 rfl ?_
            refine g_bipush (v := nI (6)) hC dX4_rain_15 (by decide) ?_
            refine g_icmp_geN (tgt := 64) hC dX4_rain_17 (by decide) (by omega) (by omega) (fun h_17 => ?_) (fun h_17 => ?_)
            · skip
              refine g_iincN hC dX4_rain_64 rfl (by decide) rfl ?_
              refine g_goto (tgt := 4) hC dX4_rain_67 (by decide) ?_
              refine g_mask [true, true, true, false] ?_
              have q := ih (w + 1) (by omega)
              rw [← rn_row] at q
              obtain rfl : r = 6 := by omega
              exact q
            · skip
              omega
          | succ e ih2 =>
            intro r hr
            have hro1 := hro r (by omega)
            have hfn : vN (rnM u (fun r => decide (ro r = 1)) w r) = vN u := rfl
            have hat := rn_at u (fun r => decide (ro r = 1)) w r
            refine g_iload_n hC dX4_rain_14 rfl ?_
            refine g_bipush (v := nI (6)) hC dX4_rain_15 (by decide) ?_
            refine g_icmp_geN (tgt := 64) hC dX4_rain_17 (by decide) (by omega) (by omega) (fun h_17 => ?_) (fun h_17 => ?_)
            · skip
              omega
            · skip
              refine g_aload_n hC dX4_rain_20 rfl rfl ?_
              refine g_iload_n hC dX4_rain_21 rfl ?_
              refine g_iload_n hC dX4_rain_22 rfl ?_
              refine gi_X4_153 hC (is := [0]) (st := []) (c_X4_isTraceN (rnM u (fun r => decide (ro r = 1)) w r) ro re lt len le la td fr ti pt st ke hi ik cu go num nin up fo (wf_rn hu (fun r => decide (ro r = 1)) w r) hB (w := w) (r := r) (show w < vN u by omega) (by omega)) dX4_rain_23 rfl ⟨by decide, by decide⟩ ⟨by decide, by decide⟩ rfl (by decide) rfl rfl rfl ?_
              refine g_if_eqB (tgt := 58) hC dX4_rain_26 (by decide) (fun h_26 => ?_) (fun h_26 => ?_)
              · skip
                refine g_iincN hC dX4_rain_58 rfl (by decide) rfl ?_
                refine g_goto (tgt := 14) hC dX4_rain_61 (by decide) ?_
                have q := ih2 (r + 1) (by omega)
                rw [rn_keep (Or.inl (by rw [hat] at h_26; simpa using h_26)), cnt_f (p := rnF u (fun r => decide (ro r = 1)) w) (by unfold rnF; rw [← hat, h_26]; rfl)] at q
                exact q
              · skip
                rw [hat] at h_26
                refine g_aload_n hC dX4_rain_29 rfl rfl ?_
                refine gf_X4_roof hC dX4_rain_30 rfl rfl ?_
                refine g_iload_n hC dX4_rain_33 rfl ?_
                refine g_ialdN hC dX4_rain_34 rfl (by omega) (by decide) ?_
                refine g_iconst (v := nI (1)) hC dX4_rain_35 (by decide) ?_
                refine g_icmp_neN (tgt := 42) hC dX4_rain_36 (by decide) (by omega) (by omega) (fun h_36 => ?_) (fun h_36 => ?_)
                · skip
                  refine g_aload_n hC dX4_rain_42 rfl rfl ?_
                  refine gf_X4_trace hC dX4_rain_43 rfl rfl ?_
                  refine g_bipush (v := nI (6)) hC dX4_rain_46 (by decide) ?_
                  refine g_iload_n hC dX4_rain_48 rfl ?_
                  refine g_imulN hC dX4_rain_49 ?_
                  refine g_iload_n hC dX4_rain_50 rfl ?_
                  refine g_iaddN hC dX4_rain_51 ?_
                  refine g_bipush (v := (-9)) hC dX4_rain_52 (by decide) ?_
                  refine g_iastFO (w := w) (r := r) (x := none) hC dX4_rain_54 rfl (by omega) (by omega) rfl ?_
                  refine g_iincN hC dX4_rain_55 rfl (by decide) rfl ?_
                  refine g_iincN hC dX4_rain_58 rfl (by decide) rfl ?_
                  refine g_goto (tgt := 14) hC dX4_rain_61 (by decide) ?_
                  have q := ih2 (r + 1) (by omega)
                  rw [rn_wash (decide_eq_false h_36) (by omega), cnt_t (p := rnF u (fun r => decide (ro r = 1)) w) (by show ((vLf u w r).isSome && !decide (ro r = 1)) = true; rw [h_26, decide_eq_false h_36]; rfl)] at q
                  exact q
                · skip
                  refine g_goto (tgt := 58) hC dX4_rain_39 (by decide) ?_
                  refine g_iincN hC dX4_rain_58 rfl (by decide) rfl ?_
                  refine g_goto (tgt := 14) hC dX4_rain_61 (by decide) ?_
                  have q := ih2 (r + 1) (by omega)
                  rw [rn_keep (Or.inr (decide_eq_true h_36)), cnt_f (p := rnF u (fun r => decide (ro r = 1)) w) (by show ((vLf u w r).isSome && !decide (ro r = 1)) = false; rw [decide_eq_true h_36, Bool.and_comm]; rfl)] at q
                  exact q
        exact inner 6 0 (by omega)
  refine g_iconst (v := nI (0)) hC dX4_rain_0 (by decide) ?_
  refine g_istore_n hC dX4_rain_1 (by decide) rfl ?_
  refine g_iconst (v := nI (0)) hC dX4_rain_2 (by decide) ?_
  refine g_istore_n hC dX4_rain_3 (by decide) rfl ?_
  refine g_mask [true, true, true, false] ?_
  have q := loop (vN u) 0 (by omega)
  rw [rn_zero] at q
  exact q

set_option maxRecDepth 100000 in
set_option maxHeartbeats 4000000 in
theorem c_X4_meet (u : Vw) (ro re lt : Nat → Nat) (len : Nat) (le la : Nat → Nat) (td : Nat → Int32) (fr ti : Nat → Nat) (pt st : Nat) (ke : Nat → Int32) (hi ik : Bool) (cu : Nat) (go num : Nat → Nat) (nin : Nat) (up fo : Nat → Nat) {B : Nat} (hu : wf B u) (hB : B ≤ 99) (x y : Int32) : Con yX4_meet cX4_meet 5 (some .int) 6 0 0 [aR 0 0 0, aI (x), aI (y)] [modW u ro re lt len le la td fr ti pt st ke hi ik cu go num nin up fo] (fun r M => r = some (aI (ansOf (oMeet u x y))) ∧ PMs u ro (bump re (oMeet u x y)) lt len ke hi num nin M) := by
  refine con_of RX4 pn_X4 rfl rfl (Nat.le_of_ble_eq_true rfl) (fun C hM0 hC => ?_)
  show G C 0 0 0 [aR 0 0 0, aI (x), aI (y), aK 9, aK 9] [] [modW u ro re lt len le la td fr ti pt st ke hi ik cu go num nin up fo]
  have hn4 := wf_n hu
  refine g_aload_n hC dX4_meet_0 rfl rfl ?_
  refine g_iload_n hC dX4_meet_1 rfl ?_
  refine gi_X4_174 hC (is := [0]) (st := []) (c_X4_isWalker u ro re lt len le la td fr ti pt st ke hi ik cu go num nin up fo x) dX4_meet_2 rfl ⟨by decide, by decide⟩ ⟨by decide, by decide⟩ rfl (by decide) rfl rfl rfl ?_
  refine g_if_eqB (tgt := 21) hC dX4_meet_5 (by decide) (fun h_5 => ?_) (fun h_5 => ?_)
  · skip
    have hno := of_decide_eq_false h_5
    refine g_aload_n hC dX4_meet_21 rfl rfl ?_
    refine g_iconst (v := (-1)) hC dX4_meet_22 (by decide) ?_
    refine gi_X4_85 hC (is := [0]) (st := []) (c_X4_no u ro re lt len le la td fr ti pt st ke hi ik cu go num nin up fo (k := 1) (by decide)) dX4_meet_23 rfl ⟨by decide, by decide⟩ ⟨by decide, by decide⟩ rfl (by decide) rfl rfl rfl ?_
    exact g_iret hC rfl dX4_meet_26 (by first | exact ⟨rV (by rw [oMeet_no (fun z => hno z.1)]; rfl), by rw [oMeet_no (fun z => hno z.1)]; exact ⟨_, _, sm_rfl _, fun _ _ => rfl, _, _, _, _, _, _, _, _, _, _, _, _, _, fun _ _ => rfl, rfl⟩⟩ | exact ⟨rV (by rw [oMeet_no (fun z => hno z.2.1)]; rfl), by rw [oMeet_no (fun z => hno z.2.1)]; exact ⟨_, _, sm_rfl _, fun _ _ => rfl, _, _, _, _, _, _, _, _, _, _, _, _, _, fun _ _ => rfl, rfl⟩⟩ | exact ⟨rV (by rw [oMeet_no (fun z => z.2.2 h_18)]; rfl), by rw [oMeet_no (fun z => z.2.2 h_18)]; exact ⟨_, _, sm_rfl _, fun _ _ => rfl, _, _, _, _, _, _, _, _, _, _, _, _, _, fun _ _ => rfl, rfl⟩⟩)
  · skip
    have hw := of_decide_eq_true h_5
    obtain ⟨a, ha0, rfl⟩ := wk_of hn4 hw
    refine g_aload_n hC dX4_meet_8 rfl rfl ?_
    refine g_iload_n hC dX4_meet_9 rfl ?_
    refine gi_X4_174 hC (is := [0]) (st := []) (c_X4_isWalker u ro re lt len le la td fr ti pt st ke hi ik cu go num nin up fo y) dX4_meet_10 rfl ⟨by decide, by decide⟩ ⟨by decide, by decide⟩ rfl (by decide) rfl rfl rfl ?_
    refine g_if_eqB (tgt := 21) hC dX4_meet_13 (by decide) (fun h_13 => ?_) (fun h_13 => ?_)
    · skip
      have hno := of_decide_eq_false h_13
      refine g_aload_n hC dX4_meet_21 rfl rfl ?_
      refine g_iconst (v := (-1)) hC dX4_meet_22 (by decide) ?_
      refine gi_X4_85 hC (is := [0]) (st := []) (c_X4_no u ro re lt len le la td fr ti pt st ke hi ik cu go num nin up fo (k := 1) (by decide)) dX4_meet_23 rfl ⟨by decide, by decide⟩ ⟨by decide, by decide⟩ rfl (by decide) rfl rfl rfl ?_
      exact g_iret hC rfl dX4_meet_26 (by first | exact ⟨rV (by rw [oMeet_no (fun z => hno z.1)]; rfl), by rw [oMeet_no (fun z => hno z.1)]; exact ⟨_, _, sm_rfl _, fun _ _ => rfl, _, _, _, _, _, _, _, _, _, _, _, _, _, fun _ _ => rfl, rfl⟩⟩ | exact ⟨rV (by rw [oMeet_no (fun z => hno z.2.1)]; rfl), by rw [oMeet_no (fun z => hno z.2.1)]; exact ⟨_, _, sm_rfl _, fun _ _ => rfl, _, _, _, _, _, _, _, _, _, _, _, _, _, fun _ _ => rfl, rfl⟩⟩ | exact ⟨rV (by rw [oMeet_no (fun z => z.2.2 h_18)]; rfl), by rw [oMeet_no (fun z => z.2.2 h_18)]; exact ⟨_, _, sm_rfl _, fun _ _ => rfl, _, _, _, _, _, _, _, _, _, _, _, _, _, fun _ _ => rfl, rfl⟩⟩)
    · skip
      have hw2 := of_decide_eq_true h_13
      obtain ⟨b, hb0, rfl⟩ := wk_of hn4 hw2
      refine g_iload_n hC dX4_meet_16 rfl ?_
      refine g_iload_n hC dX4_meet_17 rfl ?_
      refine g_icmp_ne (tgt := 27) hC dX4_meet_18 (by decide) (fun h_18 => ?_) (fun h_18 => ?_)
      · skip
        refine g_aload_n hC dX4_meet_27 rfl rfl ?_
        refine g_iconst (v := nI (0)) hC dX4_meet_28 (by decide) ?_
        refine gi_X4_186 hC (is := [0]) (st := []) (c_X4_goesAhead u ro re lt len le la td fr ti pt st ke hi ik cu go num nin up fo hu (n := 0) (by omega)) dX4_meet_29 rfl ⟨by decide, by decide⟩ ⟨by decide, by decide⟩ rfl (by decide) rfl rfl rfl ?_
        refine g_bipush (v := (-9)) hC dX4_meet_32 (by decide) ?_
        refine g_istore_n hC dX4_meet_34 (by decide) rfl ?_
        refine g_iconst (v := nI (0)) hC dX4_meet_35 (by decide) ?_
        refine g_istore hC dX4_meet_36 (by decide) rfl ?_
        have ho := oMeet_ok hn4 hw hw2 h_18 ha0 hb0
        have loop : ∀ d k, k + d = 41 → G C 0 0 38 [aR 0 0 0, aI (nI (a)), aI (nI (b)), aI (oI (-9) (fstB (meetB u a b) k)), aI (nI (k))] [] [modW (goN u k) ro re lt len le la td fr ti pt st (kpt u ro ke (85 * 1)) hi true ((((((((((((85 * 1) + 6) + 6) + 6) + 4) + 4) + 4) + 24) + 24) + 1) + 1) + 1) (goG u go k) num nin up fo] := by
          intro d
          induction d with
          | zero =>
            intro k hk
            refine g_iload hC dX4_meet_38 rfl ?_
            refine g_bipush (v := nI (40)) hC dX4_meet_40 (by decide) ?_
            refine g_icmp_gtN (tgt := 77) hC dX4_meet_42 (by decide) (by omega) (by omega) (fun h_42 => ?_) (fun h_42 => ?_)
            · skip
              refine g_aload_n hC dX4_meet_77 rfl rfl ?_
              refine g_iconst (v := nI (1)) hC dX4_meet_78 (by decide) ?_
              refine g_iconst (v := nI (0)) hC dX4_meet_79 (by decide) ?_
              refine gi_X4_129 hC (is := [0]) (st := []) (c_X4_passesAll_R (goN u k) ro re lt len le la td fr ti pt st (kpt u ro ke (85 * 1)) hi true ((((((((((((85 * 1) + 6) + 6) + 6) + 4) + 4) + 4) + 24) + 24) + 1) + 1) + 1) (goG u go k) num nin up fo u ro (W := 1) (by decide) (fun j hj => kpt_at hj)) dX4_meet_80 rfl ⟨by decide, by decide⟩ ⟨by decide, by decide⟩ rfl (by decide) rfl rfl rfl ?_
              refine g_iload_n hC dX4_meet_83 rfl ?_
              exact g_iret hC rfl dX4_meet_84 (⟨rV (by rw [ho, show k = 41 by omega]; rfl), by rw [ho]; exact ⟨rst u _, cpyN ro ro 6, rst_sm hu, cpyN_same, _, _, _, _, _, _, _, _, _, _, _, _, _, fun j hj => kpt_lo (by omega), rfl⟩⟩)
            · skip
              omega
          | succ d ih =>
            intro k hk
            have hwm : wf 200 (goN u k) := wf_up (wf_goN hu k) (by omega)
            have hpa := wf_pl hwm a (by rw [goN_n]; exact ha0)
            have hpb := wf_pl hwm b (by rw [goN_n]; exact hb0)
            refine g_iload hC dX4_meet_38 rfl ?_
            refine g_bipush (v := nI (40)) hC dX4_meet_40 (by decide) ?_
            refine g_icmp_gtN (tgt := 77) hC dX4_meet_42 (by decide) (by omega) (by omega) (fun h_42 => ?_) (fun h_42 => ?_)
            · skip
              omega
            · skip
              refine g_iload_n hC dX4_meet_45 rfl ?_
              refine g_if_geO (tgt := 77) hC dX4_meet_46 (by decide) (by decide) (fun m q => by have := fst_lt _ m q; omega) (fun m h_46 => ?_) (fun h_46 => ?_)
              · skip
                refine g_aload_n hC dX4_meet_77 rfl rfl ?_
                refine g_iconst (v := nI (1)) hC dX4_meet_78 (by decide) ?_
                refine g_iconst (v := nI (0)) hC dX4_meet_79 (by decide) ?_
                refine gi_X4_129 hC (is := [0]) (st := []) (c_X4_passesAll_R (goN u k) ro re lt len le la td fr ti pt st (kpt u ro ke (85 * 1)) hi true ((((((((((((85 * 1) + 6) + 6) + 6) + 4) + 4) + 4) + 24) + 24) + 1) + 1) + 1) (goG u go k) num nin up fo u ro (W := 1) (by decide) (fun j hj => kpt_at hj)) dX4_meet_80 rfl ⟨by decide, by decide⟩ ⟨by decide, by decide⟩ rfl (by decide) rfl rfl rfl ?_
                refine g_iload_n hC dX4_meet_83 rfl ?_
                exact g_iret hC rfl dX4_meet_84 (⟨rV (by rw [ho, fst_to h_46 (show k ≤ 41 by omega), h_46]; rfl), by rw [ho]; exact ⟨rst u _, cpyN ro ro 6, rst_sm hu, cpyN_same, _, _, _, _, _, _, _, _, _, _, _, _, _, fun j hj => kpt_lo (by omega), rfl⟩⟩)
              · skip
                refine g_aload_n hC dX4_meet_49 rfl rfl ?_
                refine gf_X4_place hC dX4_meet_50 rfl rfl ?_
                refine g_iload_n hC dX4_meet_53 rfl ?_
                refine g_ialdN hC dX4_meet_54 rfl (by omega) (by decide) ?_
                refine g_aload_n hC dX4_meet_55 rfl rfl ?_
                refine gf_X4_place hC dX4_meet_56 rfl rfl ?_
                refine g_iload_n hC dX4_meet_59 rfl ?_
                refine g_ialdN hC dX4_meet_60 rfl (by omega) (by decide) ?_
                refine g_icmp_neN (tgt := 67) hC dX4_meet_61 (by decide) (by omega) (by omega) (fun h_61 => ?_) (fun h_61 => ?_)
                · skip
                  refine g_aload_n hC dX4_meet_67 rfl rfl ?_
                  refine gi_X4_177 hC (is := [0]) (st := []) (c_X4_goesMinute (goN u k) ro re lt len le la td fr ti pt st (kpt u ro ke (85 * 1)) hi true ((((((((((((85 * 1) + 6) + 6) + 6) + 4) + 4) + 4) + 24) + 24) + 1) + 1) + 1) (goG u go k) num nin up fo (wf_goN hu k) (by omega)) dX4_meet_68 rfl ⟨by decide, by decide⟩ ⟨by decide, by decide⟩ rfl (by decide) rfl rfl rfl ?_
                  refine g_iincN hC dX4_meet_71 rfl (by decide) rfl ?_
                  refine g_goto (tgt := 38) hC dX4_meet_74 (by decide) ?_
                  have q := ih (k + 1) (by omega)
                  rw [fst_no h_46 (decide_eq_false h_61)] at q
                  rw [h_46]
                  exact q
                · skip
                  refine g_iload hC dX4_meet_64 rfl ?_
                  refine g_istore_n hC dX4_meet_66 (by decide) rfl ?_
                  refine g_aload_n hC dX4_meet_67 rfl rfl ?_
                  refine gi_X4_177 hC (is := [0]) (st := []) (c_X4_goesMinute (goN u k) ro re lt len le la td fr ti pt st (kpt u ro ke (85 * 1)) hi true ((((((((((((85 * 1) + 6) + 6) + 6) + 4) + 4) + 4) + 24) + 24) + 1) + 1) + 1) (goG u go k) num nin up fo (wf_goN hu k) (by omega)) dX4_meet_68 rfl ⟨by decide, by decide⟩ ⟨by decide, by decide⟩ rfl (by decide) rfl rfl rfl ?_
                  refine g_iincN hC dX4_meet_71 rfl (by decide) rfl ?_
                  refine g_goto (tgt := 38) hC dX4_meet_74 (by decide) ?_
                  have q := ih (k + 1) (by omega)
                  rw [fst_at h_46 (decide_eq_true h_61) _ (Nat.lt_succ_self k)] at q
                  exact q
        exact loop 41 0 (by omega)
      · skip
        refine g_aload_n hC dX4_meet_21 rfl rfl ?_
        refine g_iconst (v := (-1)) hC dX4_meet_22 (by decide) ?_
        refine gi_X4_85 hC (is := [0]) (st := []) (c_X4_no u ro re lt len le la td fr ti pt st ke hi ik cu go num nin up fo (k := 1) (by decide)) dX4_meet_23 rfl ⟨by decide, by decide⟩ ⟨by decide, by decide⟩ rfl (by decide) rfl rfl rfl ?_
        exact g_iret hC rfl dX4_meet_26 (by first | exact ⟨rV (by rw [oMeet_no (fun z => hno z.1)]; rfl), by rw [oMeet_no (fun z => hno z.1)]; exact ⟨_, _, sm_rfl _, fun _ _ => rfl, _, _, _, _, _, _, _, _, _, _, _, _, _, fun _ _ => rfl, rfl⟩⟩ | exact ⟨rV (by rw [oMeet_no (fun z => hno z.2.1)]; rfl), by rw [oMeet_no (fun z => hno z.2.1)]; exact ⟨_, _, sm_rfl _, fun _ _ => rfl, _, _, _, _, _, _, _, _, _, _, _, _, _, fun _ _ => rfl, rfl⟩⟩ | exact ⟨rV (by rw [oMeet_no (fun z => z.2.2 h_18)]; rfl), by rw [oMeet_no (fun z => z.2.2 h_18)]; exact ⟨_, _, sm_rfl _, fun _ _ => rfl, _, _, _, _, _, _, _, _, _, _, _, _, _, fun _ _ => rfl, rfl⟩⟩)

set_option maxRecDepth 100000 in
set_option maxHeartbeats 4000000 in
theorem c_X4_isAlone (u : Vw) (ro re lt : Nat → Nat) (len : Nat) (le la : Nat → Nat) (td : Nat → Int32) (fr ti : Nat → Nat) (pt st : Nat) (ke : Nat → Int32) (hi ik : Bool) (cu : Nat) (go num : Nat → Nat) (nin : Nat) (up fo : Nat → Nat) {B : Nat} (hu : wf B u) (hB : B ≤ 200) {r a : Nat} (hr : r < 6) (ha : ends u r 9 false (vN u) = some a) : ConF yX4_isAlone cX4_isAlone 5 (some .boolean) 2 [aR 0 0 0, aI (nI (r))] [modW u ro re lt len le la td fr ti pt st ke hi ik cu go num nin up fo] (some (aI (bI (decide (cnt (aloP u r a) (vN u) = 1))))) [modW u ro re lt len le la td fr ti pt st ke hi ik cu go num nin up fo] := by
  refine con_of RX4 pn_X4 rfl rfl (Nat.le_of_ble_eq_true rfl) (fun C hM0 hC => ?_)
  show G C 0 0 0 [aR 0 0 0, aI (nI (r)), aK 9, aK 9, aK 9] [] [modW u ro re lt len le la td fr ti pt st ke hi ik cu go num nin up fo]
  have hn := wf_n hu
  have hno := wf_no hu
  have hal := ends_lt hu hB hr _ a ha
  have loop : ∀ d k, k + d = vN u → G C 0 0 19 [aR 0 0 0, aI (nI (r)), aI (nI (a / vNo u)), aI (nI (cnt (aloP u r a) k)), aI (nI (k))] [] [modW u ro re lt len le la td fr ti pt st ke hi ik cu go num nin up fo] := by
    intro d
    induction d with
    | zero =>
      intro k hk
      refine g_iload hC dX4_isAlone_19 rfl ?_
      refine g_aload_n hC dX4_isAlone_21 rfl rfl ?_
      refine gf_X4_walkers hC dX4_isAlone_22 rfl rfl ?_
      refine g_icmp_geN (tgt := 68) hC dX4_isAlone_25 (by decide) (by omega) (by omega) (fun h_25 => ?_) (fun h_25 => ?_)
      · skip
        refine g_iload_n hC dX4_isAlone_68 rfl ?_
        refine g_iconst (v := nI (1)) hC dX4_isAlone_69 (by decide) ?_
        refine g_icmp_neN (tgt := 77) hC dX4_isAlone_70 (by decide) (by have := cnt_le (aloP u r a) k; omega) (by omega) (fun h_70 => ?_) (fun h_70 => ?_)
        · skip
          refine g_iconst (v := nI (0)) hC dX4_isAlone_77 (by decide) ?_
          exact g_zret hC rfl rfl dX4_isAlone_78 (⟨rB0 (by rw [← show k = vN u by omega]; exact h_70), rfl⟩)
        · skip
          refine g_iconst (v := nI (1)) hC dX4_isAlone_73 (by decide) ?_
          refine g_goto (tgt := 78) hC dX4_isAlone_74 (by decide) ?_
          exact g_zret hC rfl rfl dX4_isAlone_78 (⟨rB1 (by rw [← show k = vN u by omega]; exact h_70), rfl⟩)
      · skip
        omega
    | succ d ih =>
      intro k hk
      refine g_iload hC dX4_isAlone_19 rfl ?_
      refine g_aload_n hC dX4_isAlone_21 rfl rfl ?_
      refine gf_X4_walkers hC dX4_isAlone_22 rfl rfl ?_
      refine g_icmp_geN (tgt := 68) hC dX4_isAlone_25 (by decide) (by omega) (by omega) (fun h_25 => ?_) (fun h_25 => ?_)
      · skip
        omega
      · skip
        refine g_iload_n hC dX4_isAlone_28 rfl ?_
        refine g_aload_n hC dX4_isAlone_29 rfl rfl ?_
        refine g_iload hC dX4_isAlone_30 rfl ?_
        refine g_iload_n hC dX4_isAlone_32 rfl ?_
        refine gi_X4_153 hC (is := [0]) (st := [aI (nI (cnt (aloP u r a) k))]) (c_X4_isTraceN u ro re lt len le la td fr ti pt st ke hi ik cu go num nin up fo hu hB (w := k) (by omega) hr) dX4_isAlone_33 rfl ⟨by decide, by decide⟩ ⟨by decide, by decide⟩ rfl (by decide) rfl rfl rfl ?_
        refine g_if_eqB (tgt := 59) hC dX4_isAlone_36 (by decide) (fun h_36 => ?_) (fun h_36 => ?_)
        · skip
          refine g_iconst (v := nI (0)) hC dX4_isAlone_59 (by decide) ?_
          refine g_iaddN hC dX4_isAlone_60 ?_
          refine g_istore_n hC dX4_isAlone_61 (by decide) rfl ?_
          refine g_iincN hC dX4_isAlone_62 rfl (by decide) rfl ?_
          refine g_goto (tgt := 19) hC dX4_isAlone_65 (by decide) ?_
          refine g_mask [true, true, true, true, true] ?_
          have q := ih (k + 1) (by omega)
          rw [cnt_f (p := aloP u r a) (by unfold aloP; rw [h_36]; rfl)] at q
          exact q
        · skip
          obtain ⟨m, hm⟩ := Option.isSome_iff_exists.mp h_36
          have hla := age_lt hu hB (show 0 ≤ 50 by omega) hr _ (age_some (l := 0) hm)
          refine g_aload_n hC dX4_isAlone_39 rfl rfl ?_
          refine g_iload hC dX4_isAlone_40 rfl ?_
          refine g_iload_n hC dX4_isAlone_42 rfl ?_
          refine gi_X4_157 hC (is := [0]) (st := [aI (nI (cnt (aloP u r a) k))]) (c_X4_ageOf u ro re lt len le la td fr ti pt st ke hi ik cu go num nin up fo hu hB (show k < vN u by omega) hr hm) dX4_isAlone_43 rfl ⟨by decide, by decide⟩ ⟨by decide, by decide⟩ rfl (by decide) rfl rfl rfl ?_
          refine g_aload_n hC dX4_isAlone_46 rfl rfl ?_
          refine gf_X4_nose hC dX4_isAlone_47 rfl rfl ?_
          refine g_idivN hC dX4_isAlone_50 (by omega) (by omega) (by omega) ?_
          refine g_iload_n hC dX4_isAlone_51 rfl ?_
          refine g_icmp_neN (tgt := 59) hC dX4_isAlone_52 (by decide) (Nat.lt_of_le_of_lt (Nat.div_le_self _ _) (by omega)) (Nat.lt_of_le_of_lt (Nat.div_le_self _ _) (by omega)) (fun h_52 => ?_) (fun h_52 => ?_)
          · skip
            refine g_iconst (v := nI (0)) hC dX4_isAlone_59 (by decide) ?_
            refine g_iaddN hC dX4_isAlone_60 ?_
            refine g_istore_n hC dX4_isAlone_61 (by decide) rfl ?_
            refine g_iincN hC dX4_isAlone_62 rfl (by decide) rfl ?_
            refine g_goto (tgt := 19) hC dX4_isAlone_65 (by decide) ?_
            refine g_mask [true, true, true, true, true] ?_
            have q := ih (k + 1) (by omega)
            rw [cnt_f (p := aloP u r a) (by unfold aloP; rw [h_36, smell_some hm, decide_eq_false h_52]; rfl)] at q
            exact q
          · skip
            refine g_iconst (v := nI (1)) hC dX4_isAlone_55 (by decide) ?_
            refine g_goto (tgt := 60) hC dX4_isAlone_56 (by decide) ?_
            refine g_iaddN hC dX4_isAlone_60 ?_
            refine g_istore_n hC dX4_isAlone_61 (by decide) rfl ?_
            refine g_iincN hC dX4_isAlone_62 rfl (by decide) rfl ?_
            refine g_goto (tgt := 19) hC dX4_isAlone_65 (by decide) ?_
            refine g_mask [true, true, true, true, true] ?_
            have q := ih (k + 1) (by omega)
            rw [cnt_t (p := aloP u r a) (by unfold aloP; rw [h_36, smell_some hm, decide_eq_true h_52]; rfl)] at q
            exact q
  refine g_aload_n hC dX4_isAlone_0 rfl rfl ?_
  refine g_iload_n hC dX4_isAlone_1 rfl ?_
  refine g_bipush (v := (-9)) hC dX4_isAlone_2 (by decide) ?_
  refine g_iconst (v := nI (0)) hC dX4_isAlone_4 (by decide) ?_
  refine gi_X4_161 hC (is := [0]) (st := []) (c_X4_endAge u ro re lt len le la td fr ti pt st ke hi ik cu go num nin up fo hu hB (s := 9) (as := -9) hr (by decide) false) dX4_isAlone_5 rfl ⟨by decide, by decide⟩ ⟨by decide, by decide⟩ rfl (by decide) rfl rfl rfl ?_
  rw [ha] ; show G C 0 0 8 _ (aI (nI a) :: []) _
  refine g_aload_n hC dX4_isAlone_8 rfl rfl ?_
  refine gf_X4_nose hC dX4_isAlone_9 rfl rfl ?_
  refine g_idivN hC dX4_isAlone_12 (by omega) (by omega) (by omega) ?_
  refine g_istore_n hC dX4_isAlone_13 (by decide) rfl ?_
  refine g_iconst (v := nI (0)) hC dX4_isAlone_14 (by decide) ?_
  refine g_istore_n hC dX4_isAlone_15 (by decide) rfl ?_
  refine g_iconst (v := nI (0)) hC dX4_isAlone_16 (by decide) ?_
  refine g_istore hC dX4_isAlone_17 (by decide) rfl ?_
  refine g_mask [true, true, true, true, true] ?_
  exact loop (vN u) 0 (by omega)

set_option maxRecDepth 100000 in
set_option maxHeartbeats 4000000 in
theorem c_X4_told (u : Vw) (ro re lt : Nat → Nat) (len : Nat) (le la : Nat → Nat) (td : Nat → Int32) (fr ti : Nat → Nat) (pt st : Nat) (ke : Nat → Int32) (hi ik : Bool) (cu : Nat) (go num : Nat → Nat) (nin : Nat) (up fo : Nat → Nat) {B : Nat} (hu : wf B u) (hB : B ≤ 99) (x : Int32) : Con yX4_told cX4_told 4 (some .int) 3 0 0 [aR 0 0 0, aI (x)] [modW u ro re lt len le la td fr ti pt st ke hi ik cu go num nin up fo] (fun r M => r = some (aI (ansOf (oTold u x))) ∧ PM u ro (bump re (oTold u x)) lt len ke hi num nin M) := by
  refine con_of RX4 pn_X4 rfl rfl (Nat.le_of_ble_eq_true rfl) (fun C hM0 hC => ?_)
  show G C 0 0 0 [aR 0 0 0, aI (x), aK 9, aK 9] [] [modW u ro re lt len le la td fr ti pt st ke hi ik cu go num nin up fo]
  have hn4 := wf_n hu
  have hB2 : B ≤ 200 := by omega
  refine g_iload_n hC dX4_told_0 rfl ?_
  refine gi_X4_117 hC (is := []) (st := []) (c_X4_isRoom x) dX4_told_1 rfl ⟨by decide, by decide⟩ ⟨by decide, by decide⟩ rfl (by decide) rfl rfl ?_
  refine g_if_neB (tgt := 13) hC dX4_told_4 (by decide) (fun h_4 => ?_) (fun h_4 => ?_)
  · skip
    have hr := of_decide_eq_true h_4
    obtain ⟨r, hr0, rfl⟩ := rm_of hr
    refine g_aload_n hC dX4_told_13 rfl rfl ?_
    refine g_iload_n hC dX4_told_14 rfl ?_
    refine gi_X4_180 hC (is := [0]) (st := []) (c_X4_tracesIn u ro re lt len le la td fr ti pt st ke hi ik cu go num nin up fo hu hB2 hr0) dX4_told_15 rfl ⟨by decide, by decide⟩ ⟨by decide, by decide⟩ rfl (by decide) rfl rfl rfl ?_
    refine g_iconst (v := nI (2)) hC dX4_told_18 (by decide) ?_
    refine g_icmp_geN (tgt := 25) hC dX4_told_19 (by decide) (by have := cnt_le (fun w => (vLf u w r).isSome) (vN u); show traces u r < 2 ^ 31; unfold traces; omega) (by omega) (fun h_19 => ?_) (fun h_19 => ?_)
    · skip
      refine g_aload_n hC dX4_told_25 rfl rfl ?_
      refine gf_X4_minute hC dX4_told_26 rfl rfl ?_
      refine g_istore_n hC dX4_told_29 (by decide) rfl ?_
      refine g_iconst (v := nI (0)) hC dX4_told_30 (by decide) ?_
      refine g_istore_n hC dX4_told_31 (by decide) rfl ?_
      have ho := oTold_ok (v := u) hr hr0
      have loop : ∀ d k, k + d = 41 → fstB (fun l => !aloneB u r l) k = none → G C 0 0 32 [aR 0 0 0, aI (nI (r)), aI (nI (vMi u)), aI (nI (k))] [] [modW (uMi u (vMi u + k)) ro re lt len le la td fr ti pt st ke hi ik cu go num nin up fo] := by
        intro d
        induction d with
        | zero =>
          intro k hk hf
          obtain rfl : k = 41 := by omega
          refine g_iload_n hC dX4_told_32 rfl ?_
          refine g_bipush (v := nI (40)) hC dX4_told_33 (by decide) ?_
          refine g_icmp_gtN (tgt := 62) hC dX4_told_35 (by decide) (by omega) (by omega) (fun h_35 => ?_) (fun h_35 => ?_)
          · skip
            refine g_aload_n hC dX4_told_62 rfl rfl ?_
            refine g_iload_n hC dX4_told_63 rfl ?_
            refine gp_X4_minute hC dX4_told_64 rfl rfl ?_
            refine g_iload_n hC dX4_told_67 rfl ?_
            exact g_iret hC rfl dX4_told_68 (⟨rV (by rw [ho, told_3 (by omega) hf]; rfl), by rw [ho]; exact ⟨_, _, _, _, _, _, _, _, _, _, _, _, _, fun _ _ => rfl, rfl⟩⟩)
          · skip
            omega
        | succ d ih =>
          intro k hk hf
          obtain ⟨a, ha⟩ := ends_tr hn4 (show ¬ traces u r < 2 by omega) k
          have hal := alone_eq hn4 ha
          refine g_iload_n hC dX4_told_32 rfl ?_
          refine g_bipush (v := nI (40)) hC dX4_told_33 (by decide) ?_
          refine g_icmp_gtN (tgt := 62) hC dX4_told_35 (by decide) (by omega) (by omega) (fun h_35 => ?_) (fun h_35 => ?_)
          · skip
            omega
          · skip
            refine g_aload_n hC dX4_told_38 rfl rfl ?_
            refine g_iload_n hC dX4_told_39 rfl ?_
            refine gi_X4_219 hC (is := [0]) (st := []) (c_X4_isAlone (uMi u (vMi u + k)) ro re lt len le la td fr ti pt st ke hi ik cu go num nin up fo (wf_late hu k) (by omega) hr0 ha) dX4_told_40 rfl ⟨by decide, by decide⟩ ⟨by decide, by decide⟩ rfl (by decide) rfl rfl rfl ?_
            refine g_if_eqB (tgt := 62) hC dX4_told_43 (by decide) (fun h_43 => ?_) (fun h_43 => ?_)
            · skip
              refine g_aload_n hC dX4_told_62 rfl rfl ?_
              refine g_iload_n hC dX4_told_63 rfl ?_
              refine gp_X4_minute hC dX4_told_64 rfl rfl ?_
              refine g_iload_n hC dX4_told_67 rfl ?_
              exact g_iret hC rfl dX4_told_68 (⟨rV (by rw [ho, told_2 (by omega) (fst_at hf (by show (!aloneB u r k) = true; rw [show aloneB u r k = false from hal.symm.trans h_43]; rfl) 41 (by omega))]; rfl), by rw [ho]; exact ⟨_, _, _, _, _, _, _, _, _, _, _, _, _, fun _ _ => rfl, rfl⟩⟩)
            · skip
              refine g_iincN hC dX4_told_46 rfl (by decide) rfl ?_
              refine g_aload_n hC dX4_told_49 rfl rfl ?_
              refine g_dup hC dX4_told_50 rfl ?_
              refine gf_X4_minute hC dX4_told_51 rfl rfl ?_
              refine g_iconst (v := nI (1)) hC dX4_told_54 (by decide) ?_
              refine g_iaddN hC dX4_told_55 ?_
              refine gp_X4_minute hC dX4_told_56 rfl rfl ?_
              refine g_goto (tgt := 32) hC dX4_told_59 (by decide) ?_
              exact ih (k + 1) (by omega) (fst_no hf (by show (!aloneB u r k) = false; rw [show aloneB u r k = true from hal.symm.trans h_43]; rfl))
      exact loop 41 0 (by omega) rfl
    · skip
      refine g_bipush (v := (-9)) hC dX4_told_22 (by decide) ?_
      exact g_iret hC rfl dX4_told_24 (⟨rV (by rw [oTold_ok hr hr0, told_1 (by omega)]; rfl), by rw [oTold_ok hr hr0]; exact ⟨_, _, _, _, _, _, _, _, _, _, _, _, _, fun _ _ => rfl, rfl⟩⟩)
  · skip
    have hno := of_decide_eq_false h_4
    refine g_aload_n hC dX4_told_7 rfl rfl ?_
    refine g_iconst (v := (-1)) hC dX4_told_8 (by decide) ?_
    refine gi_X4_85 hC (is := [0]) (st := []) (c_X4_no u ro re lt len le la td fr ti pt st ke hi ik cu go num nin up fo (k := 1) (by decide)) dX4_told_9 rfl ⟨by decide, by decide⟩ ⟨by decide, by decide⟩ rfl (by decide) rfl rfl rfl ?_
    exact g_iret hC rfl dX4_told_12 (⟨rV (by rw [oTold_no hno]; rfl), by rw [oTold_no hno]; exact ⟨_, _, _, _, _, _, _, _, _, _, _, _, _, fun _ _ => rfl, rfl⟩⟩)

