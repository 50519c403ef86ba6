/-! ===== the ways, as the reference counts them ===== -/
def othB (num : Nat → Nat) (r g o : Nat) : Bool := decide (o ≠ r) && decide (num o = g)
def mayB (num : Nat → Nat) (r k n : Nat) : Bool := decide (num r ≤ n - k) && !(anyB (othB num r (n - k)) 6)
def canB (num : Nat → Nat) (n : Nat) : Bool := !(anyB (badN num n) 6)
theorem any_false {p : Nat → Bool} : ∀ n, (∀ i, i < n → p i = false) → anyB p n = false
  | 0, _ => rfl
  | n + 1, h => anyB_f (any_false n (fun i hi => h i (by omega))) (h n (Nat.lt_succ_self n))
theorem any_at {p : Nat → Bool} {n : Nat} (h : anyB p n = false) (i : Nat) (hi : i < n) : p i = false := by
  cases hp : p i with
  | false => rfl
  | true => rw [anyB_t hp n hi] at h; cases h
theorem pop_mask {p : Nat → Bool} : pop (maskOf p 6) = cnt p 6 := by
  unfold pop
  exact cnt_congr 6 (fun i hi => by rw [maskOf_tb 6 (Nat.le_refl _) i hi, decide_eq_true hi, Bool.true_and])
theorem mask_0 {p : Nat → Bool} : maskOf p 6 = 0 ↔ ∀ i, i < 6 → p i = false := by
  constructor
  · intro h i hi
    have := maskOf_tb (p := p) 6 (Nat.le_refl _) i hi
    rw [h, decide_eq_true hi, Bool.true_and] at this
    rw [← this]
    simp
  · intro h
    refine six_ext (maskOf_lt 6 (Nat.le_refl _)) (by decide) (fun i hi => ?_)
    rw [maskOf_tb 6 (Nat.le_refl _) i hi, h i hi]
    simp
theorem cnt_one {p : Nat → Bool} {r : Nat} (hr : p r = true) : ∀ n, r < n → (cnt p n = 1 ↔ ∀ i, i < n → i ≠ r → p i = false)
  | 0, h => absurd h (Nat.not_lt_zero _)
  | n + 1, h => by
    show cnt p n + (p n).toNat = 1 ↔ _
    by_cases e : r = n
    · subst e
      rw [hr]
      constructor
      · intro q i hi hne
        have hc : cnt p r = 0 := by
          have : (true).toNat = 1 := rfl
          omega
        cases hp : p i with
        | false => rfl
        | true =>
          exfalso
          have : ∀ m, i < m → 1 ≤ cnt p m := by
            intro m
            induction m with
            | zero => intro q; omega
            | succ m ih =>
              intro q
              show 1 ≤ cnt p m + (p m).toNat
              by_cases e2 : i = m
              · subst e2; rw [hp]; show 1 ≤ cnt p i + 1; omega
              · have := ih (by omega); omega
          have := this r (by omega)
          omega
      · intro q
        rw [cnt_false r (fun i hi => q i (by omega) (by omega))]
        rfl
    · have ih := cnt_one hr n (by omega)
      have hge : ∀ m, r < m → 1 ≤ cnt p m := by
        intro m
        induction m with
        | zero => intro q; omega
        | succ m ih =>
          intro q
          show 1 ≤ cnt p m + (p m).toNat
          by_cases e2 : r = m
          · subst e2; rw [hr]; show 1 ≤ cnt p r + 1; omega
          · have := ih (by omega); omega
      have h1 := hge n (by omega)
      constructor
      · intro q i hi hne
        by_cases e2 : i = n
        · subst e2
          cases hp : p i with
          | false => rfl
          | true => rw [hp] at q; have : (true).toNat = 1 := rfl; omega
        · refine ih.mp (by omega) i (by omega) hne
      · intro q
        rw [q n (Nat.lt_succ_self n) (by omega), ih.mpr (fun i hi hne => q i (by omega) hne)]
        rfl
theorem ok_opn {num : Nat → Nat} {n k r : Nat} (hr : r < 6) : (canB num n && mayB num r k n) = (opn num n (n - k)).testBit r := by
  unfold canB opn
  cases hb : anyB (badN num n) 6 with
  | true => simp
  | false =>
    rw [if_neg (by decide)]
    show (true && mayB num r k n) = _
    rw [Bool.true_and]
    unfold mayB
    by_cases h0 : maskOf (eqN num (n - k)) 6 = 0
    · rw [if_pos h0, maskOf_tb 6 (Nat.le_refl _) r hr, decide_eq_true hr, Bool.true_and]
      have hz := mask_0.mp h0
      rw [any_false 6 (fun i hi => by
        have := hz i hi
        unfold eqN at this
        unfold othB
        rw [this, Bool.and_false])]
      unfold leN
      simp
    · rw [if_neg h0]
      cases he : eqN num (n - k) r with
      | true =>
        have hnr : num r = n - k := of_decide_eq_true he
        rw [decide_eq_true (by omega), Bool.true_and, pop_mask]
        by_cases h1 : cnt (eqN num (n - k)) 6 = 1
        · rw [if_pos h1, maskOf_tb 6 (Nat.le_refl _) r hr, decide_eq_true hr, he]
          have hz := (cnt_one he 6 hr).mp h1
          rw [any_false 6 (fun i hi => by
            unfold othB
            by_cases e : i = r
            · rw [e]; simp
            · have := hz i hi e
              unfold eqN at this
              rw [this, Bool.and_false])]
          rfl
        · rw [if_neg h1]
          have : anyB (othB num r (n - k)) 6 = true := by
            cases ha : anyB (othB num r (n - k)) 6 with
            | true => rfl
            | false =>
              exact absurd ((cnt_one he 6 hr).mpr (fun i hi hne => by
                have := any_at ha i hi
                unfold othB at this
                rw [decide_eq_true hne, Bool.true_and] at this
                exact this)) h1
          rw [this]
          simp
      | false =>
        have hne : ¬ num r = n - k := of_decide_eq_false he
        have : anyB (othB num r (n - k)) 6 = true := by
          cases ha : anyB (othB num r (n - k)) 6 with
          | true => rfl
          | false =>
            exact absurd (mask_0.mpr (fun i hi => by
              by_cases e : i = r
              · rw [e]; exact he
              · have := any_at ha i hi
                unfold othB at this
                rw [decide_eq_true e, Bool.true_and] at this
                exact this)) h0
        rw [this]
        split
        · rw [maskOf_tb 6 (Nat.le_refl _) r hr, he]
          simp
        · simp
def stepB (u : Vw) (a b : Nat) : Bool := decide (a = b) || isP u a b
theorem step_sym {B : Nat} {u : Vw} (h : wf B u) {a b : Nat} (ha : a < 6) (hb : b < 6) : stepB u a b = stepB u b a := by
  unfold stepB isP
  rw [wf_sym h a b ha hb]
  have : decide (a = b) = decide (b = a) := decide_eq_decide.mpr ⟨fun z => z.symm, fun z => z.symm⟩
  rw [this]
def stS (p : Nat → Bool) (f : Nat → Nat) : Nat → Nat
  | 0 => 0
  | k + 1 => if p k then stS p f k + f k else stS p f k
theorem stS_t {p : Nat → Bool} {f : Nat → Nat} {k : Nat} (h : p k = true) : stS p f (k + 1) = stS p f k + f k := by show (if p k then _ else _) = _; rw [h]; rfl
theorem stS_f {p : Nat → Bool} {f : Nat → Nat} {k : Nat} (h : p k = false) : stS p f (k + 1) = stS p f k := by show (if p k then _ else _) = _; rw [h]; rfl
theorem stS_congr {p q : Nat → Bool} {f g : Nat → Nat} : ∀ k, (∀ i, i < k → p i = q i ∧ f i = g i) → stS p f k = stS q g k
  | 0, _ => rfl
  | k + 1, h => by
    unfold stS
    rw [stS_congr k (fun i hi => h i (by omega)), (h k (Nat.lt_succ_self k)).1, (h k (Nat.lt_succ_self k)).2]
theorem stS_sw {B : Nat} {u : Vw} (h : wf B u) {f : Nat → Nat} {r : Nat} (hr : r < 6) : ∀ k, k ≤ 6 → stS (stepB u r) f k + (if r < k then 0 else f r) = sw u f r k
  | 0, _ => by rw [if_neg (by omega)]; show 0 + f r = f r; omega
  | k + 1, hk => by
    have ih := stS_sw h (f := f) hr k (by omega)
    by_cases e : r = k
    · subst e
      rw [stS_t (p := stepB u r) (by unfold stepB; simp), sw_f (show isP u r r = false from wf_irr h r hr), if_pos (by omega)]
      rw [if_neg (by omega)] at ih
      omega
    · have e2 : (if r < k + 1 then 0 else f r) = if r < k then 0 else f r := by
        by_cases q : r < k
        · rw [if_pos q, if_pos (by omega)]
        · rw [if_neg q, if_neg (by omega)]
      rw [e2]
      have es : stepB u r k = isP u r k := by unfold stepB; rw [decide_eq_false e, Bool.false_or]
      cases hp : isP u r k with
      | true => rw [stS_t (p := stepB u r) (by rw [es, hp]), sw_t hp]; omega
      | false => rw [stS_f (p := stepB u r) (by rw [es, hp]), sw_f hp]; omega
theorem stS_6 {B : Nat} {u : Vw} (h : wf B u) {f : Nat → Nat} {r : Nat} (hr : r < 6) : stS (stepB u r) f 6 = sw u f r 6 := by
  have := stS_sw h (f := f) hr 6 (Nat.le_refl _)
  rw [if_pos hr] at this
  exact this
theorem toW_no {u : Vw} {num : Nat → Nat} {n k r : Nat} (h : (opn num n (n - k)).testBit r = false) : toW u num n k r = 0 := by
  cases k with
  | zero => show (if (opn num n (n - 0)).testBit r then 1 else 0) = 0; rw [h]; rfl
  | succ k => show (if (opn num n (n - (k + 1))).testBit r then _ else 0) = 0; rw [h]; rfl
theorem toW_y0 {u : Vw} {num : Nat → Nat} {n r : Nat} (h : (opn num n (n - 0)).testBit r = true) : toW u num n 0 r = 1 := by
  show (if (opn num n (n - 0)).testBit r then 1 else 0) = 1
  rw [h]
  rfl
theorem toW_ys {u : Vw} {num : Nat → Nat} {n k r : Nat} (h0 : k ≠ 0) (h : (opn num n (n - k)).testBit r = true) : toW u num n k r = sw u (toW u num n (k - 1)) r 6 := by
  obtain ⟨m, rfl⟩ : ∃ m, k = m + 1 := ⟨k - 1, by omega⟩
  show (if (opn num n (n - (m + 1))).testBit r then sw u (toW u num n m) r 6 else 0) = _
  rw [h]
  rfl
theorem onW_no {u : Vw} {num : Nat → Nat} {n k r : Nat} (h : (opn num n (n - k)).testBit r = false) : onW u num n (n - k) r = 0 := by
  cases hd : n - k with
  | zero => rw [hd] at h; show (if (opn num n 0).testBit r then 1 else 0) = 0; rw [h]; rfl
  | succ d => rw [hd] at h; show (if (opn num n (d + 1)).testBit r then _ else 0) = 0; rw [h]; rfl
theorem onW_y0 {u : Vw} {num : Nat → Nat} {n k r : Nat} (hk : k = n) (h : (opn num n (n - k)).testBit r = true) : onW u num n (n - k) r = 1 := by
  subst hk
  rw [Nat.sub_self] at h ⊢
  show (if (opn num k 0).testBit r then 1 else 0) = 1
  rw [h]
  rfl
theorem onW_ys {u : Vw} {num : Nat → Nat} {n k r : Nat} (hk : k < n) (h : (opn num n (n - k)).testBit r = true) : onW u num n (n - k) r = sw u (onW u num n (n - (k + 1))) r 6 := by
  obtain ⟨d, hd⟩ : ∃ d, n - k = d + 1 := ⟨n - k - 1, by omega⟩
  rw [show n - (k + 1) = d by omega]
  rw [hd] at h ⊢
  show (if (opn num n (d + 1)).testBit r then sw u (onW u num n d) r 6 else 0) = _
  rw [h]
  rfl
/-- the rows of ways, flat -/
def upF (u : Vw) (num : Nat → Nat) (n : Nat) (up : Nat → Nat) (k j : Nat) : Nat → Nat := fun i => if i / 6 < k ∨ (i / 6 = k ∧ i % 6 < j) then toW u num n (i / 6) (i % 6) else up i
theorem upF_zero (u : Vw) (num : Nat → Nat) (n : Nat) (up : Nat → Nat) : upF u num n up 0 0 = up := by funext i; exact if_neg (by omega)
theorem upF_row (u : Vw) (num : Nat → Nat) (n : Nat) (up : Nat → Nat) (k : Nat) : upF u num n up k 6 = upF u num n up (k + 1) 0 := by
  funext i
  unfold upF
  by_cases h : i / 6 < k + 1
  · rw [if_pos (by omega), if_pos (by omega)]
  · rw [if_neg (by omega), if_neg (by omega)]
theorem upF_succ (u : Vw) (num : Nat → Nat) (n : Nat) (up : Nat → Nat) {k j : Nat} (hj : j < 6) : upF u num n up k (j + 1) = updN (upF u num n up k j) (6 * k + j) (toW u num n k j) := by
  funext i
  show (if i / 6 < k ∨ (i / 6 = k ∧ i % 6 < j + 1) then toW u num n (i / 6) (i % 6) else up i) = if i = 6 * k + j then toW u num n k j else if i / 6 < k ∨ (i / 6 = k ∧ i % 6 < j) then toW u num n (i / 6) (i % 6) else up i
  by_cases h : i = 6 * k + j
  · rw [if_pos h, if_pos (by omega), show i / 6 = k by omega, show i % 6 = j by omega]
  · rw [if_neg h]
    by_cases q : i / 6 < k ∨ (i / 6 = k ∧ i % 6 < j)
    · rw [if_pos q, if_pos (by omega)]
    · rw [if_neg q, if_neg (by omega)]
theorem upF_at (u : Vw) (num : Nat → Nat) (n : Nat) (up : Nat → Nat) {k j m a : Nat} (hm : m < k) (ha : a < 6) : upF u num n up k j (6 * m + a) = toW u num n m a := by
  show (if (6 * m + a) / 6 < k ∨ _ then _ else _) = _
  rw [if_pos (by omega), show (6 * m + a) / 6 = m by omega, show (6 * m + a) % 6 = a by omega]
def frF (u : Vw) (num : Nat → Nat) (n : Nat) (fo : Nat → Nat) (m : Nat) : Nat → Nat := fun i => if m ≤ i / 6 ∧ i / 6 ≤ n then onW u num n (n - i / 6) (i % 6) else fo i
def frP (u : Vw) (num : Nat → Nat) (n : Nat) (fo : Nat → Nat) (k j : Nat) : Nat → Nat := fun i => if (k < i / 6 ∧ i / 6 ≤ n) ∨ (i / 6 = k ∧ i % 6 < j) then onW u num n (n - i / 6) (i % 6) else fo i
theorem frF_top (u : Vw) (num : Nat → Nat) (n : Nat) (fo : Nat → Nat) : frF u num n fo (n + 1) = fo := by funext i; exact if_neg (by omega)
theorem frP_zero (u : Vw) (num : Nat → Nat) (n : Nat) (fo : Nat → Nat) (k : Nat) : frP u num n fo k 0 = frF u num n fo (k + 1) := by
  funext i
  unfold frP frF
  by_cases h : k + 1 ≤ i / 6 ∧ i / 6 ≤ n
  · rw [if_pos (by omega), if_pos h]
  · rw [if_neg (by omega), if_neg h]
theorem frP_row (u : Vw) (num : Nat → Nat) (n : Nat) (fo : Nat → Nat) {k : Nat} (hk : k ≤ n) : frP u num n fo k 6 = frF u num n fo k := by
  funext i
  unfold frP frF
  by_cases h : k ≤ i / 6 ∧ i / 6 ≤ n
  · rw [if_pos (by omega), if_pos h]
  · rw [if_neg (by omega), if_neg h]
theorem frP_succ (u : Vw) (num : Nat → Nat) (n : Nat) (fo : Nat → Nat) {k j : Nat} (hj : j < 6) : frP u num n fo k (j + 1) = updN (frP u num n fo k j) (6 * k + j) (onW u num n (n - k) j) := by
  funext i
  show (if (k < i / 6 ∧ i / 6 ≤ n) ∨ (i / 6 = k ∧ i % 6 < j + 1) then onW u num n (n - i / 6) (i % 6) else fo i) = if i = 6 * k + j then onW u num n (n - k) j else if (k < i / 6 ∧ i / 6 ≤ n) ∨ (i / 6 = k ∧ i % 6 < j) then onW u num n (n - i / 6) (i % 6) else fo i
  by_cases h : i = 6 * k + j
  · rw [if_pos h, if_pos (by omega), show i / 6 = k by omega, show i % 6 = j by omega]
  · rw [if_neg h]
    by_cases q : (k < i / 6 ∧ i / 6 ≤ n) ∨ (i / 6 = k ∧ i % 6 < j)
    · rw [if_pos q, if_pos (by omega)]
    · rw [if_neg q, if_neg (by omega)]
theorem frP_at (u : Vw) (num : Nat → Nat) (n : Nat) (fo : Nat → Nat) {k j m a : Nat} (h1 : k < m) (h2 : m ≤ n) (ha : a < 6) : frP u num n fo k j (6 * m + a) = onW u num n (n - m) a := by
  show (if (k < (6 * m + a) / 6 ∧ (6 * m + a) / 6 ≤ n) ∨ _ then _ else _) = _
  rw [if_pos (by omega), show (6 * m + a) / 6 = m by omega, show (6 * m + a) % 6 = a by omega]
theorem frF_at (u : Vw) (num : Nat → Nat) (n : Nat) (fo : Nat → Nat) {m a : Nat} (h2 : m ≤ n) (ha : a < 6) : frF u num n fo 0 (6 * m + a) = onW u num n (n - m) a := by
  show (if 0 ≤ (6 * m + a) / 6 ∧ (6 * m + a) / 6 ≤ n then _ else _) = _
  rw [if_pos (by omega), show (6 * m + a) / 6 = m by omega, show (6 * m + a) % 6 = a by omega]
theorem toW_one {u : Vw} {num : Nat → Nat} {n k r : Nat} (h0 : k = 0) (h : (opn num n (n - k)).testBit r = true) : toW u num n k r = 1 := by
  subst h0
  exact toW_y0 h
theorem way_up {B : Nat} {u : Vw} (h : wf B u) {num : Nat → Nat} {n k r : Nat} {up : Nat → Nat} (h0 : 0 < k) (hr : r < 6) : stS (fun a => stepB u a r) (fun a => upF u num n up k r ((6 * k) - 6 + a)) 6 = sw u (toW u num n (k - 1)) r 6 := by
  rw [← stS_6 h hr]
  refine stS_congr 6 (fun a ha => ⟨step_sym h ha hr, ?_⟩)
  show upF u num n up k r ((6 * k) - 6 + a) = _
  rw [show (6 * k) - 6 + a = 6 * (k - 1) + a by omega]
  exact upF_at u num n up (by omega) ha
theorem way_on {B : Nat} {u : Vw} (h : wf B u) {num : Nat → Nat} {n k r : Nat} {fo : Nat → Nat} (h0 : k < n) (hr : r < 6) : stS (stepB u r) (fun b => frP u num n fo k r ((6 * k) + 6 + b)) 6 = sw u (onW u num n (n - (k + 1))) r 6 := by
  rw [← stS_6 h hr]
  refine stS_congr 6 (fun a ha => ⟨rfl, ?_⟩)
  show frP u num n fo k r ((6 * k) + 6 + a) = _
  rw [show (6 * k) + 6 + a = 6 * (k + 1) + a by omega]
  exact frP_at u num n fo (by omega) (by omega) ha
set_option maxRecDepth 100000 in
set_option maxHeartbeats 4000000 in
theorem c_X4_mayBe (u : Vw) (ro re lt : Nat → Nat) (len : Nat) (le la : Nat → Nat) (td : Nat → Int32) (fr ti : Nat → Nat) (pt st : Nat) (ke : Nat → Int32) (hi ik : Bool) (cu : Nat) (go num : Nat → Nat) (nin : Nat) (up fo : Nat → Nat) {r k n : Nat} (hr : r < 6) (hk : k ≤ n) (hn : n ≤ 8) (hnum : ∀ r, r < 12 → num r ≤ 30) : ConF yX4_mayBe cX4_mayBe 5 (some .boolean) 0 [aR 0 0 0, aI (nI (r)), aI (nI (k)), aI (nI (n))] [modW u ro re lt len le la td fr ti pt st ke hi ik cu go num nin up fo] (some (aI (bI (mayB num r k n)))) [modW u ro re lt len le la td fr ti pt st ke hi ik cu go num nin up fo] := by
  refine con_of RX4 pn_X4 rfl rfl (Nat.le_of_ble_eq_true rfl) (fun C hM0 hC => ?_)
  show G C 0 0 0 [aR 0 0 0, aI (nI (r)), aI (nI (k)), aI (nI (n)), aK 9] [] [modW u ro re lt len le la td fr ti pt st ke hi ik cu go num nin up fo]
  have hnr := hnum r (by omega)
  refine g_aload_n hC dX4_mayBe_0 rfl rfl ?_
  refine gf_X4_row hC dX4_mayBe_1 rfl rfl ?_
  refine g_iload_n hC dX4_mayBe_4 rfl ?_
  refine g_ialdN hC dX4_mayBe_5 rfl (by omega) (by decide) ?_
  refine g_iload_n hC dX4_mayBe_6 rfl ?_
  refine g_icmp_gtN (tgt := 22) hC dX4_mayBe_7 (by decide) (by omega) (by omega) (fun h_7 => ?_) (fun h_7 => ?_)
  · skip
    refine g_iconst (v := nI (0)) hC dX4_mayBe_22 (by decide) ?_
    exact g_zret hC rfl rfl dX4_mayBe_23 (⟨rV (by unfold mayB; rw [decide_eq_false (by omega)]; rfl), rfl⟩)
  · skip
    refine g_iload_n hC dX4_mayBe_10 rfl ?_
    refine g_aload_n hC dX4_mayBe_11 rfl rfl ?_
    refine gf_X4_row hC dX4_mayBe_12 rfl rfl ?_
    refine g_iload_n hC dX4_mayBe_15 rfl ?_
    refine g_ialdN hC dX4_mayBe_16 rfl (by omega) (by decide) ?_
    refine g_isubN hC dX4_mayBe_17 (by omega) ?_
    refine g_iload_n hC dX4_mayBe_18 rfl ?_
    refine g_icmp_geN (tgt := 24) hC dX4_mayBe_19 (by decide) (by omega) (by omega) (fun h_19 => ?_) (fun h_19 => ?_)
    · skip
      refine g_iconst (v := nI (0)) hC dX4_mayBe_24 (by decide) ?_
      refine g_istore hC dX4_mayBe_25 (by decide) rfl ?_
      have loop : ∀ d o, o + d = 6 → anyB (othB num r (n - k)) o = false → G C 0 0 27 [aR 0 0 0, aI (nI (r)), aI (nI (k)), aI (nI (n)), aI (nI (o))] [] [modW u ro re lt len le la td fr ti pt st ke hi ik cu go num nin up fo] := by
        intro d
        induction d with
        | zero =>
          intro o ho hany
          refine g_iload hC dX4_mayBe_27 rfl ?_
          refine g_bipush (v := nI (6)) hC dX4_mayBe_29 (by decide) ?_
          refine g_icmp_geN (tgt := 72) hC dX4_mayBe_31 (by decide) (by omega) (by omega) (fun h_31 => ?_) (fun h_31 => ?_)
          · skip
            refine g_iconst (v := nI (1)) hC dX4_mayBe_72 (by decide) ?_
            exact g_zret hC rfl rfl dX4_mayBe_73 (⟨rV (by unfold mayB; rw [decide_eq_true (by omega), ← show o = 6 by omega, hany]; rfl), rfl⟩)
          · skip
            omega
        | succ d ih =>
          intro o ho hany
          have hno := hnum o (by omega)
          refine g_iload hC dX4_mayBe_27 rfl ?_
          refine g_bipush (v := nI (6)) hC dX4_mayBe_29 (by decide) ?_
          refine g_icmp_geN (tgt := 72) hC dX4_mayBe_31 (by decide) (by omega) (by omega) (fun h_31 => ?_) (fun h_31 => ?_)
          · skip
            omega
          · skip
            refine g_iload hC dX4_mayBe_34 rfl ?_
            refine g_iload_n hC dX4_mayBe_36 rfl ?_
            refine g_icmp_eqN (tgt := 66) hC dX4_mayBe_37 (by decide) (by omega) (by omega) (fun h_37 => ?_) (fun h_37 => ?_)
            · skip
              refine g_iincN hC dX4_mayBe_66 rfl (by decide) rfl ?_
              refine g_goto (tgt := 27) hC dX4_mayBe_69 (by decide) ?_
              exact ih (o + 1) (by omega) (anyB_f hany (by unfold othB; rw [h_37]; simp))
            · skip
              refine g_aload_n hC dX4_mayBe_40 rfl rfl ?_
              refine gf_X4_row hC dX4_mayBe_41 rfl rfl ?_
              refine g_iload hC dX4_mayBe_44 rfl ?_
              refine g_ialdN hC dX4_mayBe_46 rfl (by omega) (by decide) ?_
              refine g_iload_n hC dX4_mayBe_47 rfl ?_
              refine g_icmp_gtN (tgt := 66) hC dX4_mayBe_48 (by decide) (by omega) (by omega) (fun h_48 => ?_) (fun h_48 => ?_)
              · skip
                refine g_iincN hC dX4_mayBe_66 rfl (by decide) rfl ?_
                refine g_goto (tgt := 27) hC dX4_mayBe_69 (by decide) ?_
                exact ih (o + 1) (by omega) (anyB_f hany (by unfold othB; rw [decide_eq_false (show ¬ num o = n - k by omega), Bool.and_false]))
              · skip
                refine g_iload_n hC dX4_mayBe_51 rfl ?_
                refine g_aload_n hC dX4_mayBe_52 rfl rfl ?_
                refine gf_X4_row hC dX4_mayBe_53 rfl rfl ?_
                refine g_iload hC dX4_mayBe_56 rfl ?_
                refine g_ialdN hC dX4_mayBe_58 rfl (by omega) (by decide) ?_
                refine g_isubN hC dX4_mayBe_59 (by omega) ?_
                refine g_iload_n hC dX4_mayBe_60 rfl ?_
                refine g_icmp_neN (tgt := 66) hC dX4_mayBe_61 (by decide) (by omega) (by omega) (fun h_61 => ?_) (fun h_61 => ?_)
                · skip
                  refine g_iincN hC dX4_mayBe_66 rfl (by decide) rfl ?_
                  refine g_goto (tgt := 27) hC dX4_mayBe_69 (by decide) ?_
                  exact ih (o + 1) (by omega) (anyB_f hany (by unfold othB; rw [decide_eq_false (show ¬ num o = n - k by omega), Bool.and_false]))
                · skip
                  refine g_iconst (v := nI (0)) hC dX4_mayBe_64 (by decide) ?_
                  exact g_zret hC rfl rfl dX4_mayBe_65 (⟨rV (by unfold mayB; rw [anyB_t (p := (othB num r (n - k))) (k := o) (by unfold othB; rw [decide_eq_true h_37, decide_eq_true (show num o = n - k by omega)]; rfl) 6 (by omega), Bool.and_comm]; rfl), rfl⟩)
      exact loop 6 0 (by omega) rfl
    · skip
      refine g_iconst (v := nI (0)) hC dX4_mayBe_22 (by decide) ?_
      exact g_zret hC rfl rfl dX4_mayBe_23 (⟨rV (by unfold mayB; rw [decide_eq_false (by omega)]; rfl), rfl⟩)

set_option maxRecDepth 100000 in
set_option maxHeartbeats 4000000 in
theorem c_X4_areMinutes (u : Vw) (ro re lt : Nat → Nat) (len : Nat) (le la : Nat → Nat) (td : Nat → Int32) (fr ti : Nat → Nat) (pt st : Nat) (ke : Nat → Int32) (hi ik : Bool) (cu : Nat) (go num : Nat → Nat) (nin : Nat) (up fo : Nat → Nat) {n : Nat} (hn : n ≤ 8) (hnum : ∀ r, r < 12 → num r ≤ 30) : ConF yX4_areMinutes cX4_areMinutes 3 (some .boolean) 0 [aR 0 0 0, aI (nI (n))] [modW u ro re lt len le la td fr ti pt st ke hi ik cu go num nin up fo] (some (aI (bI (canB num n)))) [modW u ro re lt len le la td fr ti pt st ke hi ik cu go num nin up fo] := by
  refine con_of RX4 pn_X4 rfl rfl (Nat.le_of_ble_eq_true rfl) (fun C hM0 hC => ?_)
  show G C 0 0 0 [aR 0 0 0, aI (nI (n)), aK 9] [] [modW u ro re lt len le la td fr ti pt st ke hi ik cu go num nin up fo]
  have loop : ∀ d o, o + d = 6 → anyB (badN num n) o = false → G C 0 0 2 [aR 0 0 0, aI (nI (n)), aI (nI (o))] [] [modW u ro re lt len le la td fr ti pt st ke hi ik cu go num nin up fo] := by
    intro d
    induction d with
    | zero =>
      intro o ho hany
      refine g_iload_n hC dX4_areMinutes_2 rfl ?_
      refine g_bipush (v := nI (6)) hC dX4_areMinutes_3 (by decide) ?_
      refine g_icmp_geN (tgt := 37) hC dX4_areMinutes_5 (by decide) (by omega) (by omega) (fun h_5 => ?_) (fun h_5 => ?_)
      · skip
        refine g_iconst (v := nI (1)) hC dX4_areMinutes_37 (by decide) ?_
        exact g_zret hC rfl rfl dX4_areMinutes_38 (⟨rV (by unfold canB; rw [← show o = 6 by omega, hany]; rfl), rfl⟩)
      · skip
        omega
    | succ d ih =>
      intro o ho hany
      have hno := hnum o (by omega)
      refine g_iload_n hC dX4_areMinutes_2 rfl ?_
      refine g_bipush (v := nI (6)) hC dX4_areMinutes_3 (by decide) ?_
      refine g_icmp_geN (tgt := 37) hC dX4_areMinutes_5 (by decide) (by omega) (by omega) (fun h_5 => ?_) (fun h_5 => ?_)
      · skip
        omega
      · skip
        refine g_aload_n hC dX4_areMinutes_8 rfl rfl ?_
        refine gf_X4_row hC dX4_areMinutes_9 rfl rfl ?_
        refine g_iload_n hC dX4_areMinutes_12 rfl ?_
        refine g_ialdN hC dX4_areMinutes_13 rfl (by omega) (by decide) ?_
        refine g_bipush (v := nI (30)) hC dX4_areMinutes_14 (by decide) ?_
        refine g_icmp_eqN (tgt := 31) hC dX4_areMinutes_16 (by decide) (by omega) (by omega) (fun h_16 => ?_) (fun h_16 => ?_)
        · skip
          refine g_iincN hC dX4_areMinutes_31 rfl (by decide) rfl ?_
          refine g_goto (tgt := 2) hC dX4_areMinutes_34 (by decide) ?_
          exact ih (o + 1) (by omega) (anyB_f hany (by unfold badN; rw [h_16]; rfl))
        · skip
          refine g_aload_n hC dX4_areMinutes_19 rfl rfl ?_
          refine gf_X4_row hC dX4_areMinutes_20 rfl rfl ?_
          refine g_iload_n hC dX4_areMinutes_23 rfl ?_
          refine g_ialdN hC dX4_areMinutes_24 rfl (by omega) (by decide) ?_
          refine g_iload_n hC dX4_areMinutes_25 rfl ?_
          refine g_icmp_leN (tgt := 31) hC dX4_areMinutes_26 (by decide) (by omega) (by omega) (fun h_26 => ?_) (fun h_26 => ?_)
          · skip
            refine g_iincN hC dX4_areMinutes_31 rfl (by decide) rfl ?_
            refine g_goto (tgt := 2) hC dX4_areMinutes_34 (by decide) ?_
            exact ih (o + 1) (by omega) (anyB_f hany (by unfold badN; rw [decide_eq_false (show ¬ n < num o by omega), Bool.and_false]))
          · skip
            refine g_iconst (v := nI (0)) hC dX4_areMinutes_29 (by decide) ?_
            exact g_zret hC rfl rfl dX4_areMinutes_30 (⟨rV (by unfold canB; rw [anyB_t (p := badN num n) (k := o) (by unfold badN; rw [decide_eq_true h_16, decide_eq_true (show n < num o by omega)]; rfl) 6 (by omega)]; rfl), rfl⟩)
  refine g_iconst (v := nI (0)) hC dX4_areMinutes_0 (by decide) ?_
  refine g_istore_n hC dX4_areMinutes_1 (by decide) rfl ?_
  exact loop 6 0 (by omega) rfl

set_option maxRecDepth 100000 in
set_option maxHeartbeats 4000000 in
theorem c_X4_isStep (u : Vw) (ro re lt : Nat → Nat) (len : Nat) (le la : Nat → Nat) (td : Nat → Int32) (fr ti : Nat → Nat) (pt st : Nat) (ke : Nat → Int32) (hi ik : Bool) (cu : Nat) (go num : Nat → Nat) (nin : Nat) (up fo : Nat → Nat) {B : Nat} (hu : wf B u) (hB : B ≤ 200) {a b : Nat} (ha : a < 6) (hb : b < 6) : ConF yX4_isStep cX4_isStep 3 (some .boolean) 1 [aR 0 0 0, aI (nI (a)), aI (nI (b))] [modW u ro re lt len le la td fr ti pt st ke hi ik cu go num nin up fo] (some (aI (bI (stepB u a b)))) [modW u ro re lt len le la td fr ti pt st ke hi ik cu go num nin up fo] := by
  refine con_of RX4 pn_X4 rfl rfl (Nat.le_of_ble_eq_true rfl) (fun C hM0 hC => ?_)
  show G C 0 0 0 [aR 0 0 0, aI (nI (a)), aI (nI (b))] [] [modW u ro re lt len le la td fr ti pt st ke hi ik cu go num nin up fo]
  refine g_iload_n hC dX4_isStep_0 rfl ?_
  refine g_iload_n hC dX4_isStep_1 rfl ?_
  refine g_icmp_eqN (tgt := 14) hC dX4_isStep_2 (by decide) (by omega) (by omega) (fun h_2 => ?_) (fun h_2 => ?_)
  · skip
    refine g_iconst (v := nI (1)) hC dX4_isStep_14 (by decide) ?_
    refine g_goto (tgt := 19) hC dX4_isStep_15 (by decide) ?_
    exact g_zret hC rfl rfl dX4_isStep_19 (⟨rV (by unfold stepB; rw [decide_eq_true h_2]; rfl), rfl⟩)
  · skip
    refine g_aload_n hC dX4_isStep_5 rfl rfl ?_
    refine g_iload_n hC dX4_isStep_6 rfl ?_
    refine g_iload_n hC dX4_isStep_7 rfl ?_
    refine gi_X4_165 hC (is := [0]) (st := []) (c_X4_isPath u ro re lt len le la td fr ti pt st ke hi ik cu go num nin up fo ha hb (wf_pa hu _ ha)) dX4_isStep_8 rfl ⟨by decide, by decide⟩ ⟨by decide, by decide⟩ rfl (by decide) rfl rfl rfl ?_
    refine g_if_eqB (tgt := 18) hC dX4_isStep_11 (by decide) (fun h_11 => ?_) (fun h_11 => ?_)
    · skip
      refine g_iconst (v := nI (0)) hC dX4_isStep_18 (by decide) ?_
      exact g_zret hC rfl rfl dX4_isStep_19 (⟨rV (by unfold stepB; rw [decide_eq_false h_2, h_11]; rfl), rfl⟩)
    · skip
      refine g_iconst (v := nI (1)) hC dX4_isStep_14 (by decide) ?_
      refine g_goto (tgt := 19) hC dX4_isStep_15 (by decide) ?_
      exact g_zret hC rfl rfl dX4_isStep_19 (⟨rV (by unfold stepB; rw [decide_eq_false h_2, h_11]; rfl), rfl⟩)

set_option maxRecDepth 100000 in
set_option maxHeartbeats 4000000 in
theorem c_X4_findWays (u : Vw) (ro re lt : Nat → Nat) (len : Nat) (le la : Nat → Nat) (td : Nat → Int32) (fr ti : Nat → Nat) (pt st : Nat) (ke : Nat → Int32) (hi ik : Bool) (cu : Nat) (go num : Nat → Nat) (nin : Nat) (up fo : Nat → Nat) {B : Nat} (hu : wf B u) (hB : B ≤ 200) {n : Nat} (hn : n ≤ 8) (hnum : ∀ r, r < 12 → num r ≤ 30) : ConF yX4_findWays cX4_findWays 8 none 2 [aR 0 0 0, aI (nI (n))] [modW u ro re lt len le la td fr ti pt st ke hi ik cu go num nin up fo] none [modW u ro re lt len le la td fr ti pt st ke hi ik cu go num nin (upF u num n up (n + 1) 0) (frF u num n fo 0)] := by
  refine con_of RX4 pn_X4 rfl rfl (Nat.le_of_ble_eq_true rfl) (fun C hM0 hC => ?_)
  show G C 0 0 0 [aR 0 0 0, aI (nI (n)), aK 9, aK 9, aK 9, aK 9, aK 9, aK 9] [] [modW u ro re lt len le la td fr ti pt st ke hi ik cu go num nin up fo]
  have back : ∀ m, m ≤ n + 1 → G C 0 0 136 [aR 0 0 0, aI (nI (n)), aI (bI (canB num n)), aI (dec m), aK 9, aK 9, aK 9, aK 9] [] [modW u ro re lt len le la td fr ti pt st ke hi ik cu go num nin (upF u num n up (n + 1) 0) (frF u num n fo m)] := by
    intro m
    induction m with
    | zero =>
      intro _
      refine g_iload_n hC dX4_findWays_136 rfl ?_
      refine g_if_lt (tgt := 263) hC dX4_findWays_137 (by decide) (fun h_137 => ?_) (fun h_137 => ?_)
      · skip
        exact g_vret hC rfl dX4_findWays_263 (⟨rfl, rfl⟩)
      · skip
        exact absurd (show (-1 : Int32) < 0 by decide) h_137
    | succ k ih =>
      intro hkn
      show G C 0 0 136 [aR 0 0 0, aI (nI (n)), aI (bI (canB num n)), aI (nI (k)), aK 9, aK 9, aK 9, aK 9] [] [modW u ro re lt len le la td fr ti pt st ke hi ik cu go num nin (upF u num n up (n + 1) 0) (frF u num n fo (k + 1))]
      refine g_iload_n hC dX4_findWays_136 rfl ?_
      refine g_if_ltN (tgt := 263) hC dX4_findWays_137 (by decide) (by omega) (fun h_137 => ?_) (fun h_137 => ?_)
      · skip
        omega
      · skip
        refine g_iconst (v := nI (0)) hC dX4_findWays_140 (by decide) ?_
        refine g_istore hC dX4_findWays_141 (by decide) rfl ?_
        have mid : ∀ e r, r + e = 6 → G C 0 0 143 [aR 0 0 0, aI (nI (n)), aI (bI (canB num n)), aI (nI (k)), aI (nI (r)), aK 9, aK 9, aK 9] [] [modW u ro re lt len le la td fr ti pt st ke hi ik cu go num nin (upF u num n up (n + 1) 0) (frP u num n fo k r)] := by
          intro e
          induction e with
          | zero =>
            intro r hr
            obtain rfl : r = 6 := by omega
            refine g_iload hC dX4_findWays_143 rfl ?_
            refine g_bipush (v := nI (6)) hC dX4_findWays_145 (by decide) ?_
            refine g_icmp_geN (tgt := 257) hC dX4_findWays_147 (by decide) (by omega) (by omega) (fun h_147 => ?_) (fun h_147 => ?_)
            · skip
              refine g_iinc (v := dec k) hC dX4_findWays_257 rfl (dec_eq k) (by decide) rfl ?_
              refine g_goto (tgt := 136) hC dX4_findWays_260 (by decide) ?_
              refine g_mask [true, true, true, true, false, false, false, false] ?_
              have q := ih (by omega)
              rw [← frP_row u num n fo (by omega)] at q
              exact q
            · skip
              omega
          | succ e ih2 =>
            intro r hr
            have hok := ok_opn (num := num) (n := n) (k := k) (show r < 6 by omega)
            refine g_iload hC dX4_findWays_143 rfl ?_
            refine g_bipush (v := nI (6)) hC dX4_findWays_145 (by decide) ?_
            refine g_icmp_geN (tgt := 257) hC dX4_findWays_147 (by decide) (by omega) (by omega) (fun h_147 => ?_) (fun h_147 => ?_)
            · skip
              omega
            · skip
              refine g_iload_n hC dX4_findWays_150 rfl ?_
              refine g_iload_n hC dX4_findWays_151 rfl ?_
              refine g_icmp_neN (tgt := 159) hC dX4_findWays_152 (by decide) (by omega) (by omega) (fun h_152 => ?_) (fun h_152 => ?_)
              · skip
                refine g_lconst (v := lN 0) hC dX4_findWays_159 (by decide) ?_
                refine g_lstore hC dX4_findWays_160 (by decide) rfl ?_
                refine g_iconst (v := nI (0)) hC dX4_findWays_162 (by decide) ?_
                refine g_istore hC dX4_findWays_163 (by decide) rfl ?_
                have inn : ∀ f a, a + f = 6 → G C 0 0 165 [aR 0 0 0, aI (nI (n)), aI (bI (canB num n)), aI (nI (k)), aI (nI (r)), aL (lN (stS (stepB u r) (fun b => (frP u num n fo k r) ((6 * k) + 6 + b)) a)), aK 9, aI (nI (a))] [] [modW u ro re lt len le la td fr ti pt st ke hi ik cu go num nin (upF u num n up (n + 1) 0) (frP u num n fo k r)] := by
                  intro f
                  induction f with
                  | zero =>
                    intro a ha
                    obtain rfl : a = 6 := by omega
                    refine g_iload hC dX4_findWays_165 rfl ?_
                    refine g_bipush (v := nI (6)) hC dX4_findWays_167 (by decide) ?_
                    refine g_icmp_geN (tgt := 218) hC dX4_findWays_169 (by decide) (by omega) (by omega) (fun h_169 => ?_) (fun h_169 => ?_)
                    · skip
                      refine g_aload_n hC dX4_findWays_218 rfl rfl ?_
                      refine gf_X4_fromOn hC dX4_findWays_219 rfl rfl ?_
                      refine g_bipush (v := nI (6)) hC dX4_findWays_222 (by decide) ?_
                      refine g_iload_n hC dX4_findWays_224 rfl ?_
                      refine g_imulN hC dX4_findWays_225 ?_
                      refine g_iload hC dX4_findWays_226 rfl ?_
                      refine g_iaddN hC dX4_findWays_228 ?_
                      refine g_iload_n hC dX4_findWays_229 rfl ?_
                      refine g_if_eqB (tgt := 249) hC dX4_findWays_230 (by decide) (fun h_230 => ?_) (fun h_230 => ?_)
                      · skip
                        refine g_lconst (v := lN 0) hC dX4_findWays_249 (by decide) ?_
                        refine g_lastN hC dX4_findWays_250 rfl (by omega) (by decide) ?_
                        refine g_iincN hC dX4_findWays_251 rfl (by decide) rfl ?_
                        refine g_goto (tgt := 143) hC dX4_findWays_254 (by decide) ?_
                        refine g_mask [true, true, true, true, true, false, false, false] ?_
                        have q := ih2 (r + 1) (by omega)
                        rw [frP_succ u num n fo (k := k) (show r < 6 by omega), show onW u num n (n - k) r = 0 from onW_no (by rw [← hok, h_230]; rfl)] at q
                        exact q
                      · skip
                        refine g_aload_n hC dX4_findWays_233 rfl rfl ?_
                        refine g_iload hC dX4_findWays_234 rfl ?_
                        refine g_iload_n hC dX4_findWays_236 rfl ?_
                        refine g_iload_n hC dX4_findWays_237 rfl ?_
                        refine gi_X4_196 hC (is := [0]) (st := [aI (nI ((6 * k) + r)), aR 0 20 0]) (c_X4_mayBe u ro re lt len le la td fr ti pt st ke hi ik cu go num nin (upF u num n up (n + 1) 0) (frP u num n fo k r) (show r < 6 by omega) (show k ≤ n by omega) hn hnum) dX4_findWays_238 rfl ⟨by decide, by decide⟩ ⟨by decide, by decide⟩ rfl (by decide) rfl rfl rfl ?_
                        refine g_if_eqB (tgt := 249) hC dX4_findWays_241 (by decide) (fun h_241 => ?_) (fun h_241 => ?_)
                        · skip
                          refine g_lconst (v := lN 0) hC dX4_findWays_249 (by decide) ?_
                          refine g_lastN hC dX4_findWays_250 rfl (by omega) (by decide) ?_
                          refine g_iincN hC dX4_findWays_251 rfl (by decide) rfl ?_
                          refine g_goto (tgt := 143) hC dX4_findWays_254 (by decide) ?_
                          refine g_mask [true, true, true, true, true, false, false, false] ?_
                          have q := ih2 (r + 1) (by omega)
                          rw [frP_succ u num n fo (k := k) (show r < 6 by omega), show onW u num n (n - k) r = 0 from onW_no (by rw [← hok, h_241, Bool.and_false])] at q
                          exact q
                        · skip
                          refine g_lload hC dX4_findWays_244 rfl ?_
                          refine g_goto (tgt := 250) hC dX4_findWays_246 (by decide) ?_
                          refine g_lastN hC dX4_findWays_250 rfl (by omega) (by decide) ?_
                          refine g_iincN hC dX4_findWays_251 rfl (by decide) rfl ?_
                          refine g_goto (tgt := 143) hC dX4_findWays_254 (by decide) ?_
                          refine g_mask [true, true, true, true, true, false, false, false] ?_
                          have q := ih2 (r + 1) (by omega)
                          rw [frP_succ u num n fo (k := k) (show r < 6 by omega), show onW u num n (n - k) r = stS (stepB u r) (fun b => (frP u num n fo k r) ((6 * k) + 6 + b)) 6 from (onW_ys (by omega) (by rw [← hok, h_230, h_241]; rfl)).trans (way_on hu (by omega) (by omega)).symm] at q
                          exact q
                    · skip
                      omega
                  | succ f ih3 =>
                    intro a ha
                    refine g_iload hC dX4_findWays_165 rfl ?_
                    refine g_bipush (v := nI (6)) hC dX4_findWays_167 (by decide) ?_
                    refine g_icmp_geN (tgt := 218) hC dX4_findWays_169 (by decide) (by omega) (by omega) (fun h_169 => ?_) (fun h_169 => ?_)
                    · skip
                      omega
                    · skip
                      refine g_iload_n hC dX4_findWays_172 rfl ?_
                      refine g_iload_n hC dX4_findWays_173 rfl ?_
                      refine g_icmp_geN (tgt := 218) hC dX4_findWays_174 (by decide) (by omega) (by omega) (fun h_174 => ?_) (fun h_174 => ?_)
                      · skip
                        omega
                      · skip
                        refine g_lload hC dX4_findWays_177 rfl ?_
                        refine g_aload_n hC dX4_findWays_179 rfl rfl ?_
                        refine g_iload hC dX4_findWays_180 rfl ?_
                        refine g_iload hC dX4_findWays_182 rfl ?_
                        refine gi_X4_193 hC (is := [0]) (st := [aL (lN (stS (stepB u r) (fun b => (frP u num n fo k r) ((6 * k) + 6 + b)) a))]) (c_X4_isStep u ro re lt len le la td fr ti pt st ke hi ik cu go num nin (upF u num n up (n + 1) 0) (frP u num n fo k r) hu hB (show r < 6 by omega) (show a < 6 by omega)) dX4_findWays_184 rfl ⟨by decide, by decide⟩ ⟨by decide, by decide⟩ rfl (by decide) rfl rfl rfl ?_
                        refine g_if_eqB (tgt := 208) hC dX4_findWays_187 (by decide) (fun h_187 => ?_) (fun h_187 => ?_)
                        · skip
                          refine g_lconst (v := lN 0) hC dX4_findWays_208 (by decide) ?_
                          refine g_laddN hC dX4_findWays_209 ?_
                          refine g_lstore hC dX4_findWays_210 (by decide) rfl ?_
                          refine g_iincN hC dX4_findWays_212 rfl (by decide) rfl ?_
                          refine g_goto (tgt := 165) hC dX4_findWays_215 (by decide) ?_
                          have q := ih3 (a + 1) (by omega)
                          rw [stS_f (p := (stepB u r)) h_187] at q
                          exact q
                        · skip
                          refine g_aload_n hC dX4_findWays_190 rfl rfl ?_
                          refine gf_X4_fromOn hC dX4_findWays_191 rfl rfl ?_
                          refine g_bipush (v := nI (6)) hC dX4_findWays_194 (by decide) ?_
                          refine g_iload_n hC dX4_findWays_196 rfl ?_
                          refine g_imulN hC dX4_findWays_197 ?_
                          refine g_bipush (v := nI (6)) hC dX4_findWays_198 (by decide) ?_
                          refine g_iaddN hC dX4_findWays_200 ?_
                          refine g_iload hC dX4_findWays_201 rfl ?_
                          refine g_iaddN hC dX4_findWays_203 ?_
                          refine g_laldN hC dX4_findWays_204 rfl (by omega) (by decide) ?_
                          refine g_goto (tgt := 209) hC dX4_findWays_205 (by decide) ?_
                          refine g_laddN hC dX4_findWays_209 ?_
                          refine g_lstore hC dX4_findWays_210 (by decide) rfl ?_
                          refine g_iincN hC dX4_findWays_212 rfl (by decide) rfl ?_
                          refine g_goto (tgt := 165) hC dX4_findWays_215 (by decide) ?_
                          have q := ih3 (a + 1) (by omega)
                          rw [stS_t (p := (stepB u r)) h_187] at q
                          exact q
                exact inn 6 0 (by omega)
              · skip
                refine g_lconst (v := lN 1) hC dX4_findWays_155 (by decide) ?_
                refine g_goto (tgt := 160) hC dX4_findWays_156 (by decide) ?_
                refine g_lstore hC dX4_findWays_160 (by decide) rfl ?_
                refine g_iconst (v := nI (0)) hC dX4_findWays_162 (by decide) ?_
                refine g_istore hC dX4_findWays_163 (by decide) rfl ?_
                refine g_iload hC dX4_findWays_165 rfl ?_
                refine g_bipush (v := nI (6)) hC dX4_findWays_167 (by decide) ?_
                refine g_icmp_geN (tgt := 218) hC dX4_findWays_169 (by decide) (by omega) (by omega) (fun h_169 => ?_) (fun h_169 => ?_)
                · skip
                  omega
                · skip
                  refine g_iload_n hC dX4_findWays_172 rfl ?_
                  refine g_iload_n hC dX4_findWays_173 rfl ?_
                  refine g_icmp_geN (tgt := 218) hC dX4_findWays_174 (by decide) (by omega) (by omega) (fun h_174 => ?_) (fun h_174 => ?_)
                  · skip
                    refine g_aload_n hC dX4_findWays_218 rfl rfl ?_
                    refine gf_X4_fromOn hC dX4_findWays_219 rfl rfl ?_
                    refine g_bipush (v := nI (6)) hC dX4_findWays_222 (by decide) ?_
                    refine g_iload_n hC dX4_findWays_224 rfl ?_
                    refine g_imulN hC dX4_findWays_225 ?_
                    refine g_iload hC dX4_findWays_226 rfl ?_
                    refine g_iaddN hC dX4_findWays_228 ?_
                    refine g_iload_n hC dX4_findWays_229 rfl ?_
                    refine g_if_eqB (tgt := 249) hC dX4_findWays_230 (by decide) (fun h_230 => ?_) (fun h_230 => ?_)
                    · skip
                      refine g_lconst (v := lN 0) hC dX4_findWays_249 (by decide) ?_
                      refine g_lastN hC dX4_findWays_250 rfl (by omega) (by decide) ?_
                      refine g_iincN hC dX4_findWays_251 rfl (by decide) rfl ?_
                      refine g_goto (tgt := 143) hC dX4_findWays_254 (by decide) ?_
                      refine g_mask [true, true, true, true, true, false, false, false] ?_
                      have q := ih2 (r + 1) (by omega)
                      rw [frP_succ u num n fo (k := k) (show r < 6 by omega), show onW u num n (n - k) r = 0 from onW_no (by rw [← hok, h_230]; rfl)] at q
                      exact q
                    · skip
                      refine g_aload_n hC dX4_findWays_233 rfl rfl ?_
                      refine g_iload hC dX4_findWays_234 rfl ?_
                      refine g_iload_n hC dX4_findWays_236 rfl ?_
                      refine g_iload_n hC dX4_findWays_237 rfl ?_
                      refine gi_X4_196 hC (is := [0]) (st := [aI (nI ((6 * k) + r)), aR 0 20 0]) (c_X4_mayBe u ro re lt len le la td fr ti pt st ke hi ik cu go num nin (upF u num n up (n + 1) 0) (frP u num n fo k r) (show r < 6 by omega) (show k ≤ n by omega) hn hnum) dX4_findWays_238 rfl ⟨by decide, by decide⟩ ⟨by decide, by decide⟩ rfl (by decide) rfl rfl rfl ?_
                      refine g_if_eqB (tgt := 249) hC dX4_findWays_241 (by decide) (fun h_241 => ?_) (fun h_241 => ?_)
                      · skip
                        refine g_lconst (v := lN 0) hC dX4_findWays_249 (by decide) ?_
                        refine g_lastN hC dX4_findWays_250 rfl (by omega) (by decide) ?_
                        refine g_iincN hC dX4_findWays_251 rfl (by decide) rfl ?_
                        refine g_goto (tgt := 143) hC dX4_findWays_254 (by decide) ?_
                        refine g_mask [true, true, true, true, true, false, false, false] ?_
                        have q := ih2 (r + 1) (by omega)
                        rw [frP_succ u num n fo (k := k) (show r < 6 by omega), show onW u num n (n - k) r = 0 from onW_no (by rw [← hok, h_241, Bool.and_false])] at q
                        exact q
                      · skip
                        refine g_lload hC dX4_findWays_244 rfl ?_
                        refine g_goto (tgt := 250) hC dX4_findWays_246 (by decide) ?_
                        refine g_lastN hC dX4_findWays_250 rfl (by omega) (by decide) ?_
                        refine g_iincN hC dX4_findWays_251 rfl (by decide) rfl ?_
                        refine g_goto (tgt := 143) hC dX4_findWays_254 (by decide) ?_
                        refine g_mask [true, true, true, true, true, false, false, false] ?_
                        have q := ih2 (r + 1) (by omega)
                        rw [frP_succ u num n fo (k := k) (show r < 6 by omega), show onW u num n (n - k) r = 1 from onW_y0 (by omega) (by rw [← hok, h_230, h_241]; rfl)] at q
                        exact q
                  · skip
                    omega
        refine g_mask [true, true, true, true, true, false, false, false] ?_
        have q := mid 6 0 (by omega)
        rw [frP_zero] at q
        exact q
  have fore : ∀ d k, k + d = n + 1 → G C 0 0 8 [aR 0 0 0, aI (nI (n)), aI (bI (canB num n)), aI (nI (k)), aK 9, aK 9, aK 9, aK 9] [] [modW u ro re lt len le la td fr ti pt st ke hi ik cu go num nin (upF u num n up k 0) fo] := by
    intro d
    induction d with
    | zero =>
      intro k hk
      obtain rfl : k = n + 1 := by omega
      refine g_iload_n hC dX4_findWays_8 rfl ?_
      refine g_iload_n hC dX4_findWays_9 rfl ?_
      refine g_icmp_gtN (tgt := 134) hC dX4_findWays_10 (by decide) (by omega) (by omega) (fun h_10 => ?_) (fun h_10 => ?_)
      · skip
        refine g_iload_n hC dX4_findWays_134 rfl ?_
        refine g_istore_n hC dX4_findWays_135 (by decide) rfl ?_
        refine g_mask [true, true, true, true, false, false, false, false] ?_
        have q := back (n + 1) (Nat.le_refl _)
        rw [frF_top] at q
        exact q
      · skip
        omega
    | succ d ih =>
      intro k hk
      refine g_iload_n hC dX4_findWays_8 rfl ?_
      refine g_iload_n hC dX4_findWays_9 rfl ?_
      refine g_icmp_gtN (tgt := 134) hC dX4_findWays_10 (by decide) (by omega) (by omega) (fun h_10 => ?_) (fun h_10 => ?_)
      · skip
        omega
      · skip
        refine g_iconst (v := nI (0)) hC dX4_findWays_13 (by decide) ?_
        refine g_istore hC dX4_findWays_14 (by decide) rfl ?_
        have mid : ∀ e r, r + e = 6 → G C 0 0 16 [aR 0 0 0, aI (nI (n)), aI (bI (canB num n)), aI (nI (k)), aI (nI (r)), aK 9, aK 9, aK 9] [] [modW u ro re lt len le la td fr ti pt st ke hi ik cu go num nin (upF u num n up k r) fo] := by
          intro e
          induction e with
          | zero =>
            intro r hr
            obtain rfl : r = 6 := by omega
            refine g_iload hC dX4_findWays_16 rfl ?_
            refine g_bipush (v := nI (6)) hC dX4_findWays_18 (by decide) ?_
            refine g_icmp_geN (tgt := 128) hC dX4_findWays_20 (by decide) (by omega) (by omega) (fun h_20 => ?_) (fun h_20 => ?_)
            · skip
              refine g_iincN hC dX4_findWays_128 rfl (by decide) rfl ?_
              refine g_goto (tgt := 8) hC dX4_findWays_131 (by decide) ?_
              refine g_mask [true, true, true, true, false, false, false, false] ?_
              have q := ih (k + 1) (by omega)
              rw [← upF_row] at q
              exact q
            · skip
              omega
          | succ e ih2 =>
            intro r hr
            have hok := ok_opn (num := num) (n := n) (k := k) (show r < 6 by omega)
            refine g_iload hC dX4_findWays_16 rfl ?_
            refine g_bipush (v := nI (6)) hC dX4_findWays_18 (by decide) ?_
            refine g_icmp_geN (tgt := 128) hC dX4_findWays_20 (by decide) (by omega) (by omega) (fun h_20 => ?_) (fun h_20 => ?_)
            · skip
              omega
            · skip
              refine g_iload_n hC dX4_findWays_23 rfl ?_
              refine g_if_neN (tgt := 31) hC dX4_findWays_24 (by decide) (by omega) (fun h_24 => ?_) (fun h_24 => ?_)
              · skip
                refine g_lconst (v := lN 0) hC dX4_findWays_31 (by decide) ?_
                refine g_lstore hC dX4_findWays_32 (by decide) rfl ?_
                refine g_iconst (v := nI (0)) hC dX4_findWays_34 (by decide) ?_
                refine g_istore hC dX4_findWays_35 (by decide) rfl ?_
                have inn : ∀ f a, a + f = 6 → G C 0 0 37 [aR 0 0 0, aI (nI (n)), aI (bI (canB num n)), aI (nI (k)), aI (nI (r)), aL (lN (stS (fun a => stepB u a r) (fun a => (upF u num n up k r) ((6 * k) - 6 + a)) a)), aK 9, aI (nI (a))] [] [modW u ro re lt len le la td fr ti pt st ke hi ik cu go num nin (upF u num n up k r) fo] := by
                  intro f
                  induction f with
                  | zero =>
                    intro a ha
                    obtain rfl : a = 6 := by omega
                    refine g_iload hC dX4_findWays_37 rfl ?_
                    refine g_bipush (v := nI (6)) hC dX4_findWays_39 (by decide) ?_
                    refine g_icmp_geN (tgt := 89) hC dX4_findWays_41 (by decide) (by omega) (by omega) (fun h_41 => ?_) (fun h_41 => ?_)
                    · skip
                      refine g_aload_n hC dX4_findWays_89 rfl rfl ?_
                      refine gf_X4_upTo hC dX4_findWays_90 rfl rfl ?_
                      refine g_bipush (v := nI (6)) hC dX4_findWays_93 (by decide) ?_
                      refine g_iload_n hC dX4_findWays_95 rfl ?_
                      refine g_imulN hC dX4_findWays_96 ?_
                      refine g_iload hC dX4_findWays_97 rfl ?_
                      refine g_iaddN hC dX4_findWays_99 ?_
                      refine g_iload_n hC dX4_findWays_100 rfl ?_
                      refine g_if_eqB (tgt := 120) hC dX4_findWays_101 (by decide) (fun h_101 => ?_) (fun h_101 => ?_)
                      · skip
                        refine g_lconst (v := lN 0) hC dX4_findWays_120 (by decide) ?_
                        refine g_lastN hC dX4_findWays_121 rfl (by omega) (by decide) ?_
                        refine g_iincN hC dX4_findWays_122 rfl (by decide) rfl ?_
                        refine g_goto (tgt := 16) hC dX4_findWays_125 (by decide) ?_
                        refine g_mask [true, true, true, true, true, false, false, false] ?_
                        have q := ih2 (r + 1) (by omega)
                        rw [upF_succ u num n up (k := k) (show r < 6 by omega), show toW u num n k r = 0 from toW_no (by rw [← hok, h_101]; rfl)] at q
                        exact q
                      · skip
                        refine g_aload_n hC dX4_findWays_104 rfl rfl ?_
                        refine g_iload hC dX4_findWays_105 rfl ?_
                        refine g_iload_n hC dX4_findWays_107 rfl ?_
                        refine g_iload_n hC dX4_findWays_108 rfl ?_
                        refine gi_X4_196 hC (is := [0]) (st := [aI (nI ((6 * k) + r)), aR 0 19 0]) (c_X4_mayBe u ro re lt len le la td fr ti pt st ke hi ik cu go num nin (upF u num n up k r) fo (show r < 6 by omega) (show k ≤ n by omega) hn hnum) dX4_findWays_109 rfl ⟨by decide, by decide⟩ ⟨by decide, by decide⟩ rfl (by decide) rfl rfl rfl ?_
                        refine g_if_eqB (tgt := 120) hC dX4_findWays_112 (by decide) (fun h_112 => ?_) (fun h_112 => ?_)
                        · skip
                          refine g_lconst (v := lN 0) hC dX4_findWays_120 (by decide) ?_
                          refine g_lastN hC dX4_findWays_121 rfl (by omega) (by decide) ?_
                          refine g_iincN hC dX4_findWays_122 rfl (by decide) rfl ?_
                          refine g_goto (tgt := 16) hC dX4_findWays_125 (by decide) ?_
                          refine g_mask [true, true, true, true, true, false, false, false] ?_
                          have q := ih2 (r + 1) (by omega)
                          rw [upF_succ u num n up (k := k) (show r < 6 by omega), show toW u num n k r = 0 from toW_no (by rw [← hok, h_112, Bool.and_false])] at q
                          exact q
                        · skip
                          refine g_lload hC dX4_findWays_115 rfl ?_
                          refine g_goto (tgt := 121) hC dX4_findWays_117 (by decide) ?_
                          refine g_lastN hC dX4_findWays_121 rfl (by omega) (by decide) ?_
                          refine g_iincN hC dX4_findWays_122 rfl (by decide) rfl ?_
                          refine g_goto (tgt := 16) hC dX4_findWays_125 (by decide) ?_
                          refine g_mask [true, true, true, true, true, false, false, false] ?_
                          have q := ih2 (r + 1) (by omega)
                          rw [upF_succ u num n up (k := k) (show r < 6 by omega), show toW u num n k r = stS (fun a => stepB u a r) (fun a => (upF u num n up k r) ((6 * k) - 6 + a)) 6 from (toW_ys (by omega) (by rw [← hok, h_101, h_112]; rfl)).trans (way_up hu (by omega) (by omega)).symm] at q
                          exact q
                    · skip
                      omega
                  | succ f ih3 =>
                    intro a ha
                    refine g_iload hC dX4_findWays_37 rfl ?_
                    refine g_bipush (v := nI (6)) hC dX4_findWays_39 (by decide) ?_
                    refine g_icmp_geN (tgt := 89) hC dX4_findWays_41 (by decide) (by omega) (by omega) (fun h_41 => ?_) (fun h_41 => ?_)
                    · skip
                      omega
                    · skip
                      refine g_iload_n hC dX4_findWays_44 rfl ?_
                      refine g_if_leN (tgt := 89) hC dX4_findWays_45 (by decide) (by omega) (fun h_45 => ?_) (fun h_45 => ?_)
                      · skip
                        omega
                      · skip
                        refine g_lload hC dX4_findWays_48 rfl ?_
                        refine g_aload_n hC dX4_findWays_50 rfl rfl ?_
                        refine g_iload hC dX4_findWays_51 rfl ?_
                        refine g_iload hC dX4_findWays_53 rfl ?_
                        refine gi_X4_193 hC (is := [0]) (st := [aL (lN (stS (fun a => stepB u a r) (fun a => (upF u num n up k r) ((6 * k) - 6 + a)) a))]) (c_X4_isStep u ro re lt len le la td fr ti pt st ke hi ik cu go num nin (upF u num n up k r) fo hu hB (show a < 6 by omega) (show r < 6 by omega)) dX4_findWays_55 rfl ⟨by decide, by decide⟩ ⟨by decide, by decide⟩ rfl (by decide) rfl rfl rfl ?_
                        refine g_if_eqB (tgt := 79) hC dX4_findWays_58 (by decide) (fun h_58 => ?_) (fun h_58 => ?_)
                        · skip
                          refine g_lconst (v := lN 0) hC dX4_findWays_79 (by decide) ?_
                          refine g_laddN hC dX4_findWays_80 ?_
                          refine g_lstore hC dX4_findWays_81 (by decide) rfl ?_
                          refine g_iincN hC dX4_findWays_83 rfl (by decide) rfl ?_
                          refine g_goto (tgt := 37) hC dX4_findWays_86 (by decide) ?_
                          have q := ih3 (a + 1) (by omega)
                          rw [stS_f (p := (fun a => stepB u a r)) h_58] at q
                          exact q
                        · skip
                          refine g_aload_n hC dX4_findWays_61 rfl rfl ?_
                          refine gf_X4_upTo hC dX4_findWays_62 rfl rfl ?_
                          refine g_bipush (v := nI (6)) hC dX4_findWays_65 (by decide) ?_
                          refine g_iload_n hC dX4_findWays_67 rfl ?_
                          refine g_imulN hC dX4_findWays_68 ?_
                          refine g_bipush (v := nI (6)) hC dX4_findWays_69 (by decide) ?_
                          refine g_isubN hC dX4_findWays_71 (by omega) ?_
                          refine g_iload hC dX4_findWays_72 rfl ?_
                          refine g_iaddN hC dX4_findWays_74 ?_
                          refine g_laldN hC dX4_findWays_75 rfl (by omega) (by decide) ?_
                          refine g_goto (tgt := 80) hC dX4_findWays_76 (by decide) ?_
                          refine g_laddN hC dX4_findWays_80 ?_
                          refine g_lstore hC dX4_findWays_81 (by decide) rfl ?_
                          refine g_iincN hC dX4_findWays_83 rfl (by decide) rfl ?_
                          refine g_goto (tgt := 37) hC dX4_findWays_86 (by decide) ?_
                          have q := ih3 (a + 1) (by omega)
                          rw [stS_t (p := (fun a => stepB u a r)) h_58] at q
                          exact q
                exact inn 6 0 (by omega)
              · skip
                refine g_lconst (v := lN 1) hC dX4_findWays_27 (by decide) ?_
                refine g_goto (tgt := 32) hC dX4_findWays_28 (by decide) ?_
                refine g_lstore hC dX4_findWays_32 (by decide) rfl ?_
                refine g_iconst (v := nI (0)) hC dX4_findWays_34 (by decide) ?_
                refine g_istore hC dX4_findWays_35 (by decide) rfl ?_
                refine g_iload hC dX4_findWays_37 rfl ?_
                refine g_bipush (v := nI (6)) hC dX4_findWays_39 (by decide) ?_
                refine g_icmp_geN (tgt := 89) hC dX4_findWays_41 (by decide) (by omega) (by omega) (fun h_41 => ?_) (fun h_41 => ?_)
                · skip
                  omega
                · skip
                  refine g_iload_n hC dX4_findWays_44 rfl ?_
                  refine g_if_leN (tgt := 89) hC dX4_findWays_45 (by decide) (by omega) (fun h_45 => ?_) (fun h_45 => ?_)
                  · skip
                    refine g_aload_n hC dX4_findWays_89 rfl rfl ?_
                    refine gf_X4_upTo hC dX4_findWays_90 rfl rfl ?_
                    refine g_bipush (v := nI (6)) hC dX4_findWays_93 (by decide) ?_
                    refine g_iload_n hC dX4_findWays_95 rfl ?_
                    refine g_imulN hC dX4_findWays_96 ?_
                    refine g_iload hC dX4_findWays_97 rfl ?_
                    refine g_iaddN hC dX4_findWays_99 ?_
                    refine g_iload_n hC dX4_findWays_100 rfl ?_
                    refine g_if_eqB (tgt := 120) hC dX4_findWays_101 (by decide) (fun h_101 => ?_) (fun h_101 => ?_)
                    · skip
                      refine g_lconst (v := lN 0) hC dX4_findWays_120 (by decide) ?_
                      refine g_lastN hC dX4_findWays_121 rfl (by omega) (by decide) ?_
                      refine g_iincN hC dX4_findWays_122 rfl (by decide) rfl ?_
                      refine g_goto (tgt := 16) hC dX4_findWays_125 (by decide) ?_
                      refine g_mask [true, true, true, true, true, false, false, false] ?_
                      have q := ih2 (r + 1) (by omega)
                      rw [upF_succ u num n up (k := k) (show r < 6 by omega), show toW u num n k r = 0 from toW_no (by rw [← hok, h_101]; rfl)] at q
                      exact q
                    · skip
                      refine g_aload_n hC dX4_findWays_104 rfl rfl ?_
                      refine g_iload hC dX4_findWays_105 rfl ?_
                      refine g_iload_n hC dX4_findWays_107 rfl ?_
                      refine g_iload_n hC dX4_findWays_108 rfl ?_
                      refine gi_X4_196 hC (is := [0]) (st := [aI (nI ((6 * k) + r)), aR 0 19 0]) (c_X4_mayBe u ro re lt len le la td fr ti pt st ke hi ik cu go num nin (upF u num n up k r) fo (show r < 6 by omega) (show k ≤ n by omega) hn hnum) dX4_findWays_109 rfl ⟨by decide, by decide⟩ ⟨by decide, by decide⟩ rfl (by decide) rfl rfl rfl ?_
                      refine g_if_eqB (tgt := 120) hC dX4_findWays_112 (by decide) (fun h_112 => ?_) (fun h_112 => ?_)
                      · skip
                        refine g_lconst (v := lN 0) hC dX4_findWays_120 (by decide) ?_
                        refine g_lastN hC dX4_findWays_121 rfl (by omega) (by decide) ?_
                        refine g_iincN hC dX4_findWays_122 rfl (by decide) rfl ?_
                        refine g_goto (tgt := 16) hC dX4_findWays_125 (by decide) ?_
                        refine g_mask [true, true, true, true, true, false, false, false] ?_
                        have q := ih2 (r + 1) (by omega)
                        rw [upF_succ u num n up (k := k) (show r < 6 by omega), show toW u num n k r = 0 from toW_no (by rw [← hok, h_112, Bool.and_false])] at q
                        exact q
                      · skip
                        refine g_lload hC dX4_findWays_115 rfl ?_
                        refine g_goto (tgt := 121) hC dX4_findWays_117 (by decide) ?_
                        refine g_lastN hC dX4_findWays_121 rfl (by omega) (by decide) ?_
                        refine g_iincN hC dX4_findWays_122 rfl (by decide) rfl ?_
                        refine g_goto (tgt := 16) hC dX4_findWays_125 (by decide) ?_
                        refine g_mask [true, true, true, true, true, false, false, false] ?_
                        have q := ih2 (r + 1) (by omega)
                        rw [upF_succ u num n up (k := k) (show r < 6 by omega), show toW u num n k r = 1 from toW_one (by omega) (by rw [← hok, h_101, h_112]; rfl)] at q
                        exact q
                  · skip
                    omega
        refine g_mask [true, true, true, true, true, false, false, false] ?_
        exact mid 6 0 (by omega)
  refine g_aload_n hC dX4_findWays_0 rfl rfl ?_
  refine g_iload_n hC dX4_findWays_1 rfl ?_
  refine gi_X4_190 hC (is := [0]) (st := []) (c_X4_areMinutes u ro re lt len le la td fr ti pt st ke hi ik cu go num nin up fo hn hnum) dX4_findWays_2 rfl ⟨by decide, by decide⟩ ⟨by decide, by decide⟩ rfl (by decide) rfl rfl rfl ?_
  refine g_istore_n hC dX4_findWays_5 (by decide) rfl ?_
  refine g_iconst (v := nI (0)) hC dX4_findWays_6 (by decide) ?_
  refine g_istore_n hC dX4_findWays_7 (by decide) rfl ?_
  have q := fore (n + 1) 0 (by omega)
  rw [upF_zero] at q
  exact q

