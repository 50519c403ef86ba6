/-! ===== walks ===== -/
def walksG (op : Nat → Nat) (to on : Nat → Nat → Nat) (last : Nat) : List ACell := [cO 2 [sR 1, sR 2, sR 3, sI (nI last)], cA 9 (fun j => nI (op j)), cG 9 6 (fun a b => nI (to a b)), cG 9 6 (fun a b => nI (on a b))]
def badN (num : Nat → Nat) (n r : Nat) : Bool := decide (num r ≠ 30) && decide (n < num r)
def eqN (num : Nat → Nat) (ago r : Nat) : Bool := decide (num r = ago)
def leN (num : Nat → Nat) (ago r : Nat) : Bool := decide (num r ≤ ago)
def opn (num : Nat → Nat) (n ago : Nat) : Nat := if anyB (badN num n) 6 then 0 else if maskOf (eqN num ago) 6 = 0 then maskOf (leN num ago) 6 else if pop (maskOf (eqN num ago) 6) = 1 then maskOf (eqN num ago) 6 else 0
theorem opn_lt (num : Nat → Nat) (n ago : Nat) : opn num n ago < 64 := by
  unfold opn
  split
  · decide
  · split
    · exact maskOf_lt 6 (Nat.le_refl _)
    · split
      · exact maskOf_lt 6 (Nat.le_refl _)
      · decide
def sw (v : Vw) (f : Nat → Nat) (r : Nat) : Nat → Nat
  | 0 => f r
  | k + 1 => if isP v r k then sw v f r k + f k else sw v f r k
theorem sw_t {v : Vw} {f : Nat → Nat} {r k : Nat} (h : isP v r k = true) : sw v f r (k + 1) = sw v f r k + f k := if_pos h
theorem sw_f {v : Vw} {f : Nat → Nat} {r k : Nat} (h : isP v r k = false) : sw v f r (k + 1) = sw v f r k := by show (if isP v r k then _ else _) = _; rw [h]; rfl
theorem sw_congr {v : Vw} {f g : Nat → Nat} {r : Nat} (h : ∀ b, b < 6 → f b = g b) (hr : r < 6) : ∀ k, k ≤ 6 → sw v f r k = sw v g r k
  | 0, _ => h r hr
  | k + 1, hk => by
    unfold sw
    rw [sw_congr h hr k (by omega), h k (by omega)]
def toW (v : Vw) (num : Nat → Nat) (n : Nat) : Nat → Nat → Nat
  | 0 => fun r => if (opn num n n).testBit r then 1 else 0
  | m + 1 => fun r => if (opn num n (n - (m + 1))).testBit r then sw v (toW v num n m) r 6 else 0
def onW (v : Vw) (num : Nat → Nat) (n : Nat) : Nat → Nat → Nat
  | 0 => fun r => if (opn num n 0).testBit r then 1 else 0
  | d + 1 => fun r => if (opn num n (d + 1)).testBit r then sw v (onW v num n d) r 6 else 0
def opF (num : Nat → Nat) (n : Nat) (op : Nat → Nat) (k : Nat) : Nat → Nat := fun j => if j < k then opn num n (n - j) else op j
theorem opF_zero (num : Nat → Nat) (n : Nat) (op : Nat → Nat) : opF num n op 0 = op := by funext j; simp [opF]
theorem opF_succ (num : Nat → Nat) (n : Nat) (op : Nat → Nat) (k : Nat) : opF num n op (k + 1) = updN (opF num n op k) k (opn num n (n - k)) := by
  funext j
  show (if j < k + 1 then opn num n (n - j) else op j) = if j = k then opn num n (n - k) else if j < k then opn num n (n - j) else op j
  by_cases h1 : j = k
  · subst h1; simp
  · by_cases h2 : j < k
    · rw [if_pos (by omega), if_neg h1, if_pos h2]
    · rw [if_neg (by omega), if_neg h1, if_neg h2]
def toF (v : Vw) (num : Nat → Nat) (n : Nat) (to : Nat → Nat → Nat) (k j : Nat) : Nat → Nat → Nat := fun a b => if (a < k ∨ (a = k ∧ b < j)) ∧ b < 6 then toW v num n a b else to a b
theorem toF_zero (v : Vw) (num : Nat → Nat) (n : Nat) (to : Nat → Nat → Nat) : toF v num n to 0 0 = to := by funext a b; simp [toF]
theorem toF_row (v : Vw) (num : Nat → Nat) (n : Nat) (to : Nat → Nat → Nat) (k : Nat) : toF v num n to k 6 = toF v num n to (k + 1) 0 := by
  funext a b
  unfold toF
  by_cases hb : b < 6
  · by_cases h1 : a < k
    · rw [if_pos ⟨Or.inl h1, hb⟩, if_pos ⟨Or.inl (by omega), hb⟩]
    · by_cases h2 : a = k
      · rw [if_pos ⟨Or.inr ⟨h2, hb⟩, hb⟩, if_pos ⟨Or.inl (by omega), hb⟩]
      · rw [if_neg (by omega), if_neg (by omega)]
  · rw [if_neg (by omega), if_neg (by omega)]
theorem toF_succ (v : Vw) (num : Nat → Nat) (n : Nat) (to : Nat → Nat → Nat) {k j : Nat} (hj : j < 6) : toF v num n to k (j + 1) = upd2N (toF v num n to k j) k j (toW v num n k j) := by
  funext a b
  show (if (a < k ∨ (a = k ∧ b < j + 1)) ∧ b < 6 then toW v num n a b else to a b) = if a = k ∧ b = j then toW v num n k j else if (a < k ∨ (a = k ∧ b < j)) ∧ b < 6 then toW v num n a b else to a b
  by_cases h1 : a = k ∧ b = j
  · obtain ⟨rfl, rfl⟩ := h1
    rw [if_pos ⟨Or.inr ⟨rfl, by omega⟩, hj⟩, if_pos ⟨rfl, rfl⟩]
  · rw [if_neg h1]
    by_cases h2 : (a < k ∨ (a = k ∧ b < j)) ∧ b < 6
    · rw [if_pos h2, if_pos (by omega)]
    · rw [if_neg h2, if_neg (by omega)]
def onR (v : Vw) (num : Nat → Nat) (n : Nat) (on : Nat → Nat → Nat) (k : Nat) : Nat → Nat → Nat := fun a b => if k ≤ a ∧ a ≤ n ∧ b < 6 then onW v num n (n - a) b else on a b
def onP (v : Vw) (num : Nat → Nat) (n : Nat) (on : Nat → Nat → Nat) (m j : Nat) : Nat → Nat → Nat := fun a b => if ((m < a ∧ a ≤ n) ∨ (a = m ∧ b < j)) ∧ b < 6 then onW v num n (n - a) b else on a b
theorem onR_top (v : Vw) (num : Nat → Nat) (n : Nat) (on : Nat → Nat → Nat) : onR v num n on (n + 1) = on := by
  funext a b
  unfold onR
  rw [if_neg (by omega)]
theorem onP_zero (v : Vw) (num : Nat → Nat) (n : Nat) (on : Nat → Nat → Nat) (m : Nat) : onP v num n on m 0 = onR v num n on (m + 1) := by
  funext a b
  unfold onP onR
  by_cases h : m < a ∧ a ≤ n ∧ b < 6
  · rw [if_pos (by omega), if_pos (by omega)]
  · rw [if_neg (by omega), if_neg (by omega)]
theorem onP_row (v : Vw) (num : Nat → Nat) (n : Nat) (on : Nat → Nat → Nat) {m : Nat} (hm : m ≤ n) : onP v num n on m 6 = onR v num n on m := by
  funext a b
  unfold onP onR
  by_cases h : m ≤ a ∧ a ≤ n ∧ b < 6
  · rw [if_pos (by omega), if_pos (by omega)]
  · rw [if_neg (by omega), if_neg (by omega)]
theorem onP_succ (v : Vw) (num : Nat → Nat) (n : Nat) (on : Nat → Nat → Nat) {m j : Nat} (hj : j < 6) : onP v num n on m (j + 1) = upd2N (onP v num n on m j) m j (onW v num n (n - m) j) := by
  funext a b
  show (if ((m < a ∧ a ≤ n) ∨ (a = m ∧ b < j + 1)) ∧ b < 6 then onW v num n (n - a) b else on a b) = if a = m ∧ b = j then onW v num n (n - m) j else if ((m < a ∧ a ≤ n) ∨ (a = m ∧ b < j)) ∧ b < 6 then onW v num n (n - a) b else on a b
  by_cases h1 : a = m ∧ b = j
  · obtain ⟨rfl, rfl⟩ := h1
    rw [if_pos ⟨Or.inr ⟨rfl, by omega⟩, hj⟩, if_pos ⟨rfl, rfl⟩]
  · rw [if_neg h1]
    by_cases h2 : ((m < a ∧ a ≤ n) ∨ (a = m ∧ b < j)) ∧ b < 6
    · rw [if_pos h2, if_pos (by omega)]
    · rw [if_neg h2, if_neg (by omega)]
theorem toW_0 (v : Vw) (num : Nat → Nat) (n : Nat) (op : Nat → Nat) (j : Nat) : (if (opF num n op (n + 1) 0).testBit j then 1 else 0) = toW v num n 0 j := by
  have e : opF num n op (n + 1) 0 = opn num n n := by unfold opF; rw [if_pos (by omega), Nat.sub_zero]
  rw [e]
  rfl
theorem toW_s (v : Vw) (num : Nat → Nat) (n : Nat) (op : Nat → Nat) (to : Nat → Nat → Nat) {k j : Nat} (h0 : k ≠ 0) (hk : k ≤ n) (hj : j < 6) : (if (opF num n op (n + 1) k).testBit j then sw v (fun b => toF v num n to k j (k - 1) b) j 6 else 0) = toW v num n k j := by
  obtain ⟨m, rfl⟩ : ∃ m, k = m + 1 := ⟨k - 1, by omega⟩
  have e : opF num n op (n + 1) (m + 1) = opn num n (n - (m + 1)) := by unfold opF; rw [if_pos (by omega)]
  have e2 : sw v (fun b => toF v num n to (m + 1) j (m + 1 - 1) b) j 6 = sw v (toW v num n m) j 6 := sw_congr (fun b hb => by unfold toF; rw [Nat.add_sub_cancel, if_pos ⟨Or.inl (by omega), hb⟩]) hj 6 (Nat.le_refl _)
  rw [e, e2]
  rfl
theorem onW_0 (v : Vw) (num : Nat → Nat) (n : Nat) (op : Nat → Nat) (j : Nat) : (if (opF num n op (n + 1) n).testBit j then 1 else 0) = onW v num n (n - n) j := by
  have e : opF num n op (n + 1) n = opn num n 0 := by unfold opF; rw [if_pos (by omega), Nat.sub_self]
  rw [e, Nat.sub_self]
  rfl
theorem onW_s (v : Vw) (num : Nat → Nat) (n : Nat) (op : Nat → Nat) (on : Nat → Nat → Nat) {m j : Nat} (h0 : m ≠ n) (hm : m ≤ n) (hj : j < 6) : (if (opF num n op (n + 1) m).testBit j then sw v (fun b => onP v num n on m j (m + 1) b) j 6 else 0) = onW v num n (n - m) j := by
  obtain ⟨d, hd⟩ : ∃ d, n - m = d + 1 := ⟨n - m - 1, by omega⟩
  have e : opF num n op (n + 1) m = opn num n (d + 1) := by unfold opF; rw [if_pos (by omega), hd]
  have e2 : sw v (fun b => onP v num n on m j (m + 1) b) j 6 = sw v (onW v num n d) j 6 := sw_congr (fun b hb => by unfold onP; rw [if_pos ⟨Or.inl (by omega), hb⟩, show n - (m + 1) = d by omega]) hj 6 (Nat.le_refl _)
  rw [e, e2, hd]
  rfl
/-- one below, as an int -/
def dec (m : Nat) : Int32 := match m with
  | 0 => (-1)
  | m + 1 => nI m
theorem dec_eq (m : Nat) : nI m + Int32.ofInt (-1) = dec m := by
  cases m with
  | zero => decide
  | succ m => exact pk_m1 m
/-- walks are few -/
theorem sw_le (v : Vw) {f : Nat → Nat} {r c : Nat} (hr : r < 6) (h : ∀ b, b < 6 → f b ≤ c) : ∀ k, k ≤ 6 → sw v f r k ≤ c + k * c
  | 0, _ => by simpa [sw] using h r hr
  | k + 1, hk => by
    have ih := sw_le v hr h k (by omega)
    have hc := h k (by omega)
    unfold sw
    rw [Nat.succ_mul]
    split <;> omega
theorem toW_le (v : Vw) (num : Nat → Nat) (n : Nat) : ∀ m r, r < 6 → toW v num n m r ≤ 7 ^ m
  | 0, r, _ => by
    show (if _ then 1 else 0) ≤ 7 ^ 0
    split <;> decide
  | m + 1, r, hr => by
    show (if _ then sw v (toW v num n m) r 6 else 0) ≤ 7 ^ (m + 1)
    have h := sw_le v hr (fun b hb => toW_le v num n m b hb) 6 (Nat.le_refl _)
    rw [Nat.pow_succ]
    split <;> omega
theorem onW_le (v : Vw) (num : Nat → Nat) (n : Nat) : ∀ m r, r < 6 → onW v num n m r ≤ 7 ^ m
  | 0, r, _ => by
    show (if _ then 1 else 0) ≤ 7 ^ 0
    split <;> decide
  | m + 1, r, hr => by
    show (if _ then sw v (onW v num n m) r 6 else 0) ≤ 7 ^ (m + 1)
    have h := sw_le v hr (fun b hb => onW_le v num n m b hb) 6 (Nat.le_refl _)
    rw [Nat.pow_succ]
    split <;> omega
/-- the ways that go through r in minute k -/
def thru (v : Vw) (num : Nat → Nat) (n k r : Nat) : Nat := toW v num n k r * onW v num n (n - k) r
theorem thru_lt (v : Vw) (num : Nat → Nat) {n k r : Nat} (hn : n ≤ 8) (hk : k ≤ n) (hr : r < 6) : thru v num n k r < 2 ^ 31 := by
  have h := Nat.mul_le_mul (toW_le v num n k r hr) (onW_le v num n (n - k) r hr)
  rw [← Nat.pow_add, show k + (n - k) = n by omega] at h
  have h2 : 7 ^ n ≤ 7 ^ 8 := Nat.pow_le_pow_right (by decide) hn
  unfold thru
  omega
/-- the commonest of the first j rooms, and how many go there -/
def com (f : Nat → Nat) : Nat → Option Nat × Nat
  | 0 => (none, 0)
  | j + 1 => if (com f j).2 < f j then (some j, f j) else com f j
theorem com_t {f : Nat → Nat} {j : Nat} (h : (com f j).2 < f j) : com f (j + 1) = (some j, f j) := if_pos h
theorem com_f {f : Nat → Nat} {j : Nat} (h : f j ≤ (com f j).2) : com f (j + 1) = com f j := if_neg (Nat.not_lt.mpr h)
theorem com_lt {f : Nat → Nat} {c : Nat} (hc : 0 < c) : ∀ j, (∀ i, i < j → f i < c) → (com f j).2 < c
  | 0, _ => hc
  | j + 1, h => by
    unfold com
    split
    · exact h j (Nat.lt_succ_self j)
    · exact com_lt hc j (fun i hi => h i (Nat.lt_succ_of_lt hi))
