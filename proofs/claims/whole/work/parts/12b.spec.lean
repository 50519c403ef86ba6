/-! ===== counting ===== -/
def cnt (p : Nat → Bool) : Nat → Nat
  | 0 => 0
  | k + 1 => cnt p k + (p k).toNat
theorem cnt_t {p : Nat → Bool} {k : Nat} (h : p k = true) : cnt p (k + 1) = cnt p k + 1 := by show cnt p k + (p k).toNat = _; rw [h]; rfl
theorem cnt_f {p : Nat → Bool} {k : Nat} (h : p k = false) : cnt p (k + 1) = cnt p k := by show cnt p k + (p k).toNat = _; rw [h]; rfl
theorem cnt_le (p : Nat → Bool) : ∀ k, cnt p k ≤ k
  | 0 => Nat.le_refl _
  | k + 1 => by
    have := cnt_le p k
    show cnt p k + (p k).toNat ≤ k + 1
    cases p k <;> simp <;> omega
theorem cnt_congr {p q : Nat → Bool} : ∀ k, (∀ i, i < k → p i = q i) → cnt p k = cnt q k
  | 0, _ => rfl
  | k + 1, h => by
    show cnt p k + (p k).toNat = cnt q k + (q k).toNat
    rw [cnt_congr k (fun i hi => h i (Nat.lt_succ_of_lt hi)), h k (Nat.lt_succ_self k)]
def sumN (f : Nat → Nat) : Nat → Nat
  | 0 => 0
  | k + 1 => sumN f k + f k
theorem sumN_congr {f g : Nat → Nat} : ∀ k, (∀ i, i < k → f i = g i) → sumN f k = sumN g k
  | 0, _ => rfl
  | k + 1, h => by
    show sumN f k + f k = sumN g k + g k
    rw [sumN_congr k (fun i hi => h i (Nat.lt_succ_of_lt hi)), h k (Nat.lt_succ_self k)]
theorem sumN_le {f : Nat → Nat} {c : Nat} : ∀ k, (∀ i, i < k → f i ≤ c) → sumN f k ≤ k * c
  | 0, _ => by simp [sumN]
  | k + 1, h => by
    have h1 := sumN_le k (fun i hi => h i (Nat.lt_succ_of_lt hi))
    have h2 := h k (Nat.lt_succ_self k)
    show sumN f k + f k ≤ _
    rw [Nat.succ_mul]
    omega
def anyB (p : Nat → Bool) : Nat → Bool
  | 0 => false
  | k + 1 => anyB p k || p k
theorem anyB_f {p : Nat → Bool} {k : Nat} (h : anyB p k = false) (h2 : p k = false) : anyB p (k + 1) = false := by show (anyB p k || p k) = false; rw [h, h2]; rfl
theorem anyB_t {p : Nat → Bool} {k : Nat} (h : p k = true) : ∀ n, k < n → anyB p n = true
  | 0, hn => absurd hn (Nat.not_lt_zero _)
  | n + 1, hn => by
    show (anyB p n || p n) = true
    by_cases e : k = n
    · subst e
      rw [h]
      simp
    · rw [anyB_t h n (by omega)]
      rfl
theorem anyB_congr {p q : Nat → Bool} : ∀ k, (∀ i, i < k → p i = q i) → anyB p k = anyB q k
  | 0, _ => rfl
  | k + 1, h => by
    show (anyB p k || p k) = (anyB q k || q k)
    rw [anyB_congr k (fun i hi => h i (Nat.lt_succ_of_lt hi)), h k (Nat.lt_succ_self k)]
def maskOf (p : Nat → Bool) : Nat → Nat
  | 0 => 0
  | k + 1 => if p k then maskOf p k ||| (1 <<< k) else maskOf p k
theorem maskOf_t {p : Nat → Bool} {k : Nat} (h : p k = true) : maskOf p (k + 1) = maskOf p k ||| (1 <<< k) := if_pos h
theorem maskOf_f {p : Nat → Bool} {k : Nat} (h : p k = false) : maskOf p (k + 1) = maskOf p k := by show (if p k then _ else _) = _; rw [h]; rfl
theorem or_lt : ∀ p, p < 64 → ∀ b, b < 6 → p ||| (1 <<< b) < 64 := by decide +kernel
theorem or2_lt : ∀ p, p < 64 → ∀ q, q < 64 → p ||| q < 64 := by decide +kernel
theorem and2_lt : ∀ p, p < 64 → ∀ q, q < 64 → p &&& q < 64 := by decide +kernel
theorem cl_lt : ∀ p, p < 64 → ∀ b, b < 6 → p &&& (63 ^^^ (1 <<< b)) < 64 := by decide +kernel
theorem xor_lt : ∀ p, p < 64 → ∀ b, b < 6 → p ^^^ (1 <<< b) < 64 := by decide +kernel
theorem maskOf_lt {p : Nat → Bool} : ∀ k, k ≤ 6 → maskOf p k < 64
  | 0, _ => (by decide : 0 < 64)
  | k + 1, h => by
    have := maskOf_lt (p := p) k (by omega)
    unfold maskOf
    split
    · exact or_lt _ this _ (by omega)
    · exact this
theorem maskOf_congr {p q : Nat → Bool} : ∀ k, (∀ i, i < k → p i = q i) → maskOf p k = maskOf q k
  | 0, _ => rfl
  | k + 1, h => by
    show (if p k then _ else _) = (if q k then _ else _)
    rw [maskOf_congr k (fun i hi => h i (Nat.lt_succ_of_lt hi)), h k (Nat.lt_succ_self k)]
/-! ===== what is asked of a town ===== -/
def traces (v : Vw) (r : Nat) : Nat := cnt (fun w => (vLf v w r).isSome) (vN v)
def smell (v : Vw) (r l w : Nat) : Nat := match vLf v w r with
  | some m => ageIn v w r l m / vNo v
  | none => 0
theorem smell_some {v : Vw} {r l w m : Nat} (h : vLf v w r = some m) : smell v r l w = ageIn v w r l m / vNo v := by unfold smell; rw [h]
def sameB (v : Vw) (r w k : Nat) : Bool := (vLf v k r).isSome && decide (smell v r 0 k = smell v r 0 w)
def isNew (v : Vw) (r w : Nat) : Bool := (vLf v w r).isSome && !(anyB (sameB v r w) w)
def apart (v : Vw) (r : Nat) : Nat := cnt (isNew v r) (vN v)
theorem smell_lt {B : Nat} {v : Vw} {w r l : Nat} (h : wf B v) (hB : B ≤ 200) (hl : l ≤ 50) (hr : r < 6) : smell v r l w < 2000 := by
  unfold smell
  split
  next m hm =>
    have := age_lt h hB hl hr _ (age_some hm)
    exact Nat.lt_of_le_of_lt (Nat.div_le_self _ _) this
  next => omega
/-- the least smell of the first k, and how many have it -/
def frs (v : Vw) (r l : Nat) : Nat → Nat × Nat
  | 0 => (0, 0)
  | k + 1 => if (vLf v k r).isSome = true then (if (frs v r l k).2 = 0 ∨ smell v r l k < (frs v r l k).1 then (smell v r l k, 1) else if smell v r l k = (frs v r l k).1 then ((frs v r l k).1, (frs v r l k).2 + 1) else frs v r l k) else frs v r l k
theorem frs_no {v : Vw} {r l k : Nat} (h : (vLf v k r).isSome = false) : frs v r l (k + 1) = frs v r l k := by
  show (if (vLf v k r).isSome = true then _ else _) = _
  rw [h]
  rfl
theorem frs_new {v : Vw} {r l k : Nat} (h : (vLf v k r).isSome = true) (h2 : (frs v r l k).2 = 0 ∨ smell v r l k < (frs v r l k).1) : frs v r l (k + 1) = (smell v r l k, 1) := by
  show (if (vLf v k r).isSome = true then (if _ then _ else _) else _) = _
  rw [if_pos h, if_pos h2]
theorem frs_same {v : Vw} {r l k : Nat} (h : (vLf v k r).isSome = true) (h2 : ¬ ((frs v r l k).2 = 0 ∨ smell v r l k < (frs v r l k).1)) (h3 : smell v r l k = (frs v r l k).1) : frs v r l (k + 1) = ((frs v r l k).1, (frs v r l k).2 + 1) := by
  show (if (vLf v k r).isSome = true then (if _ then _ else _) else _) = _
  rw [if_pos h, if_neg h2, if_pos h3]
theorem frs_more {v : Vw} {r l k : Nat} (h2 : ¬ ((frs v r l k).2 = 0 ∨ smell v r l k < (frs v r l k).1)) (h3 : smell v r l k ≠ (frs v r l k).1) : frs v r l (k + 1) = frs v r l k := by
  show (if (vLf v k r).isSome = true then (if ((frs v r l k).2 = 0 ∨ smell v r l k < (frs v r l k).1) then (smell v r l k, 1) else if smell v r l k = (frs v r l k).1 then ((frs v r l k).1, (frs v r l k).2 + 1) else frs v r l k) else frs v r l k) = _
  rw [if_neg h2, if_neg h3]
  split <;> rfl
theorem frs_lt {B : Nat} {v : Vw} {r l : Nat} (h : wf B v) (hB : B ≤ 200) (hl : l ≤ 50) (hr : r < 6) : ∀ k, (frs v r l k).1 < 2000 ∧ (frs v r l k).2 ≤ k
  | 0 => ⟨by simp [frs], by simp [frs]⟩
  | k + 1 => by
    have ih := frs_lt h hB hl hr k
    have hs := smell_lt (w := k) h hB hl hr
    unfold frs
    split
    · split
      · exact ⟨hs, by simp⟩
      · split
        · exact ⟨ih.1, by simpa using ih.2⟩
        · exact ⟨ih.1, by omega⟩
    · exact ⟨ih.1, by omega⟩
def among (v : Vw) (w : Nat) : Bool := (ends v (vPl v w) w false (vN v)).isSome
def emptyM (v : Vw) : Nat → Nat
  | 0 => 63
  | k + 1 => emptyM v k &&& (63 ^^^ (1 <<< vPl v k))
theorem emptyM_lt {B : Nat} {v : Vw} (h : wf B v) : ∀ k, k ≤ vN v → emptyM v k < 64
  | 0, _ => (by decide : 63 < 64)
  | k + 1, hk => cl_lt _ (emptyM_lt h k (by omega)) _ (wf_pl h k (by omega))
def upTo3 (v : Vw) (most r : Nat) : Bool := match ends v r 9 false (vN v) with
  | some a => decide (a ≤ most)
  | none => false
def withinN (v : Vw) (m : Nat) : Nat → Nat
  | 0 => m
  | k + 1 => if m.testBit k then withinN v m k ||| vPa v k else withinN v m k
theorem within_t {v : Vw} {m k : Nat} (h : m.testBit k = true) : withinN v m (k + 1) = withinN v m k ||| vPa v k := if_pos h
theorem within_f {v : Vw} {m k : Nat} (h : m.testBit k = false) : withinN v m (k + 1) = withinN v m k := by show (if m.testBit k then _ else _) = _; rw [h]; rfl
theorem within_lt {B : Nat} {v : Vw} (h : wf B v) {m : Nat} (hm : m < 64) : ∀ k, k ≤ 6 → withinN v m k < 64
  | 0, _ => hm
  | k + 1, hk => by
    have ih := within_lt h hm k (by omega)
    unfold withinN
    split
    · exact or2_lt _ ih _ (wf_pa h k (by omega))
    · exact ih
/-! ===== what changes a town ===== -/
def leaveV (v : Vw) (w : Nat) : Vw := uLf v (if vKi v w = 5 then vLf v else upd2N (vLf v) w (vPl v w) (some (vMi v)))
def arriveV (v : Vw) (w g : Nat) : Vw := uLf (uPl v (updN (vPl v) w g)) (if (decide (vKi v w ≠ 5) && (decide (vKi v w ≠ 1) || decide (g = vPl v w))) = true then upd2N (vLf v) w g (some (vMi v)) else vLf v)
theorem arv_zero (v : Vw) (G : Nat → Nat) : arr v G 0 = uMi v (vMi v + 1) := by
  have e1 : (fun j => if j < 0 then G j else vPl v j) = vPl v := by funext j; simp
  have e2 : (fun a b => if (decide (a < 0) && leaves v G a && decide (b = G a)) = true then some (vMi v + 1) else vLf v a b) = vLf v := by funext a b; simp
  unfold arr
  rw [e1, e2]
  rfl
theorem arv_succ (v : Vw) (G : Nat → Nat) (k : Nat) : arriveV (arr v G k) k (G k) = arr v G (k + 1) := by
  have hk : vKi (arr v G k) k = vKi v k := rfl
  have hp : vPl (arr v G k) k = vPl v k := by show (if k < k then G k else vPl v k) = _; simp
  have hm : vMi (arr v G k) = vMi v + 1 := rfl
  have e1 : updN (vPl (arr v G k)) k (G k) = fun j => if j < k + 1 then G j else vPl v j := by
    funext j
    show (if j = k then G k else if j < k then G j else vPl v j) = _
    by_cases h1 : j = k
    · subst h1
      simp
    · by_cases h2 : j < k
      · rw [if_neg h1, if_pos h2, if_pos (by omega)]
      · rw [if_neg h1, if_neg h2, if_neg (by omega)]
  have e2 : (if (decide (vKi (arr v G k) k ≠ 5) && (decide (vKi (arr v G k) k ≠ 1) || decide (G k = vPl (arr v G k) k))) = true then upd2N (vLf (arr v G k)) k (G k) (some (vMi (arr v G k))) else vLf (arr v G k)) = fun a b => if (decide (a < k + 1) && leaves v G a && decide (b = G a)) = true then some (vMi v + 1) else vLf v a b := by
    rw [hk, hp, hm]
    show (if leaves v G k = true then _ else _) = _
    by_cases hl : leaves v G k = true
    · rw [if_pos hl]
      funext a b
      show (if a = k ∧ b = G k then some (vMi v + 1) else if (decide (a < k) && leaves v G a && decide (b = G a)) = true then some (vMi v + 1) else vLf v a b) = _
      by_cases h1 : a = k
      · subst h1
        by_cases h2 : b = G a
        · rw [if_pos ⟨rfl, h2⟩]
          simp [hl, h2]
        · simp [h2]
      · have : (decide (a < k + 1)) = decide (a < k) := by simp; omega
        rw [if_neg (fun z => h1 z.1), this]
    · have hl : leaves v G k = false := by simpa using hl
      rw [if_neg (by rw [hl]; decide)]
      funext a b
      show (if (decide (a < k) && leaves v G a && decide (b = G a)) = true then some (vMi v + 1) else vLf v a b) = _
      by_cases h1 : a = k
      · subst h1
        simp [hl]
      · have : (decide (a < k + 1)) = decide (a < k) := by simp; omega
        rw [this]
  unfold arriveV
  rw [e1, e2]
  rfl
theorem wf_mstep {B : Nat} {v : Vw} (h : wf B v) : wf (B + 1) (mstep v) := by
  refine ⟨wf_n (v := v) h, Nat.succ_le_succ (wf_mi (v := v) h), wf_no (v := v) h, wf_wi (v := v) h, wf_pa (v := v) h, wf_sym (v := v) h, wf_irr (v := v) h, wf_ki (v := v) h, fun w hw => ?_, wf_pL (v := v) h, fun w hw j hj => wf_pp (v := v) h w hw j hj, fun w hw r hr m hm => ?_⟩
  · have hw : w < vN v := hw
    show (if w < vN v then goal v w else vPl v w) < 6
    rw [if_pos hw]
    exact goal_lt h hw
  · have hm : (if (decide (w < vN v) && leaves v (goal v) w && decide (r = goal v w)) = true then some (vMi v + 1) else vLf v w r) = some m := hm
    show m ≤ vMi v + 1
    split at hm
    · cases hm; exact Nat.le_refl _
    · have := wf_lf h w hw r hr m hm
      omega
theorem wf_goN {B : Nat} {v : Vw} (h : wf B v) : ∀ n, wf (B + n) (goN v n)
  | 0 => h
  | n + 1 => wf_mstep (wf_goN h n)
theorem goN_n {v : Vw} : ∀ n, vN (goN v n) = vN v
  | 0 => rfl
  | n + 1 => goN_n (v := v) n
theorem goN_mi {v : Vw} : ∀ n, vMi (goN v n) = vMi v + n
  | 0 => rfl
  | n + 1 => by show vMi (goN v n) + 1 = _; rw [goN_mi n]; rfl
/-- the row of goals of the first k -/
def gk (go : Nat → Nat) (v : Vw) (k : Nat) : Nat → Nat := fun j => if j < k then goal v j else go j
theorem gk_zero (go : Nat → Nat) (v : Vw) : gk go v 0 = go := by funext j; simp [gk]
theorem gk_succ (go : Nat → Nat) (v : Vw) (k : Nat) : gk go v (k + 1) = updN (gk go v k) k (goal v k) := by
  funext j
  show (if j < k + 1 then goal v j else go j) = if j = k then goal v k else if j < k then goal v j else go j
  by_cases h1 : j = k
  · subst h1; simp
  · by_cases h2 : j < k
    · rw [if_pos (by omega), if_neg h1, if_pos h2]
    · rw [if_neg (by omega), if_neg h1, if_neg h2]
def goG (v : Vw) (go : Nat → Nat) : Nat → Nat → Nat
  | 0 => go
  | n + 1 => gk (goG v go n) (goN v n) (vN (goN v n))
/-- rain in room r; in all rooms without a roof of the first k -/
def forgetV (v : Vw) (r k : Nat) : Vw := uLf v (fun a b => if a < k ∧ b = r then none else vLf v a b)
def rainV (v : Vw) (rf : Nat → Bool) (k : Nat) : Vw := uLf v (fun a b => if (decide (a < vN v) && decide (b < k) && !rf b) = true then none else vLf v a b)
def rainC (v : Vw) (rf : Nat → Bool) : Nat → Nat := sumN (fun r => if rf r then 0 else traces v r)
/-- draws -/
def drw (z : Int32) : Int32 := z * nI 1664525 + nI 1013904223
def sd (z : Int32) : Nat → Int32
  | 0 => z
  | k + 1 => drw (sd z k)
def dv (z : Int32) : Nat := z.toBitVec.toNat % 2 ^ 31 / 256 % 6
def scatV (v : Vw) (z : Int32) (k : Nat) : Vw := uPl v (fun j => if j < k then dv (sd z (j + 1)) else vPl v j)
theorem scat_zero (v : Vw) (z : Int32) : scatV v z 0 = v := by
  have : (fun j => if j < 0 then dv (sd z (j + 1)) else vPl v j) = vPl v := by funext j; simp
  unfold scatV
  rw [this]
  rfl
theorem scat_succ (v : Vw) (z : Int32) (k : Nat) : scatV v z (k + 1) = uPl (scatV v z k) (updN (vPl (scatV v z k)) k (dv (sd z (k + 1)))) := by
  have : (fun j => if j < k + 1 then dv (sd z (j + 1)) else vPl v j) = updN (vPl (scatV v z k)) k (dv (sd z (k + 1))) := by
    funext j
    show _ = if j = k then dv (sd z (k + 1)) else if j < k then dv (sd z (j + 1)) else vPl v j
    by_cases h1 : j = k
    · subst h1; simp
    · by_cases h2 : j < k
      · rw [if_pos (by omega), if_neg h1, if_pos h2]
      · rw [if_neg (by omega), if_neg h1, if_neg h2]
  show uPl v _ = _
  rw [this]
  rfl
theorem wf_scat {B : Nat} {v : Vw} (h : wf B v) (z : Int32) (k : Nat) : wf B (scatV v z k) := by
  refine ⟨wf_n (v := v) h, wf_mi (v := v) h, wf_no (v := v) h, wf_wi (v := v) h, wf_pa (v := v) h, wf_sym (v := v) h, wf_irr (v := v) h, wf_ki (v := v) h, fun w hw => ?_, wf_pL (v := v) h, fun w hw j hj => wf_pp (v := v) h w hw j hj, fun w hw r hr m hm => wf_lf (v := v) h w hw r hr m hm⟩
  show (if w < k then dv (sd z (w + 1)) else vPl v w) < 6
  split
  · exact Nat.mod_lt _ (by decide)
  · exact wf_pl h w hw
/-- a walker more -/
def clrR (f : Nat → Nat → Option Nat) (w k : Nat) : Nat → Nat → Option Nat := fun a b => if a = w ∧ b < k then none else f a b
def addV (v : Vw) (ki r : Nat) : Vw := leaveV (uLf (uPL (uPl (uKi (uN v (vN v + 1)) (updN (vKi v) (vN v) ki)) (updN (vPl v) (vN v) r)) (updN (vPL v) (vN v) 0)) (clrR (vLf v) (vN v) 6)) (vN v)
def planV (v : Vw) (w r : Nat) : Vw := uPL (uPp v (upd2N (vPp v) w (vPL v w) r)) (updN (vPL v) w (vPL v w + 1))
/-- all of another town, over what stood there -/
def cpyN (f g : Nat → Nat) (n : Nat) : Nat → Nat := fun j => if j < n then f j else g j
def cpyR {α : Type} (f g : Nat → Nat → α) (n m : Nat) : Nat → Nat → α := fun a b => if a < n ∧ b < m then f a b else g a b
def becV (v o : Vw) (k : Nat) : Vw := uPp (uLf (uPL (uPl (uKi (uN (uPa (uWi v (cpyN (vWi o) (vWi v) 6)) (cpyN (vPa o) (vPa v) 6)) (vN o)) (cpyN (vKi o) (vKi v) k)) (cpyN (vPl o) (vPl v) k)) (cpyN (vPL o) (vPL v) k)) (cpyR (vLf o) (vLf v) k 6)) (cpyR (vPp o) (vPp v) k 6)
def bec (v o : Vw) : Vw := uNo (uMi (becV v o (vN o)) (vMi o)) (vNo o)
