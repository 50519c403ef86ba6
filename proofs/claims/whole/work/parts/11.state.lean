/-! ===== options as ints ===== -/
theorem oI_none (e : Int32) : oI e none = e := rfl
theorem oI_some (e : Int32) (n : Nat) : oI e (some n) = nI n := rfl
theorem oI_neg {e : Int32} {x : Option Nat} (he : e < 0) (hx : ∀ m, x = some m → m < 2 ^ 31) : oI e x < 0 ↔ x = none := by
  cases x with
  | none => exact ⟨fun _ => rfl, fun _ => he⟩
  | some m => exact ⟨fun h => absurd h (nI_pos (hx m rfl)), fun h => by cases h⟩
theorem oI_eq {e : Int32} {x : Option Nat} (he : e < 0) (hx : ∀ m, x = some m → m < 2 ^ 31) : oI e x = e ↔ x = none := by
  constructor
  · intro h
    rw [← oI_neg he hx, h]
    exact he
  · intro h
    rw [h]
    rfl
theorem ne_none {x : Option Nat} (h : ¬ x = none) : ∃ m, x = some m := by
  cases x with
  | none => exact absurd rfl h
  | some m => exact ⟨m, rfl⟩
theorem rB0 {p : Prop} [Decidable p] (h : ¬ p) : some (aI (nI 0)) = some (aI (bI (decide p))) := by rw [decide_eq_false h]; rfl
theorem rB1 {p : Prop} [Decidable p] (h : p) : some (aI (nI 1)) = some (aI (bI (decide p))) := by rw [decide_eq_true h]; rfl
theorem rV {x y : Int32} (h : x = y) : some (aI x) = some (aI y) := by rw [h]
section GO
variable {C : Cx} {cc : ByteArray} {own : String} {nL : Nat} {R : Room} {E : State → Array Value → List Frame → Method → (State → Prop) → Prop} {cs ss pc : Nat} {ls st : List AV} {M : AM}
theorem g_icmp_eqO (hC : Ok C cc own nL R E) {e : Int32} {x : Option Nat} {off : Int} {tgt : Nat} (hd : decode cc pc = .ok (.if_icmp .eq off, 3)) (ht : (pc : Int) + off = (tgt : Int)) (he : e < 0) (hx : ∀ m, x = some m → m < 2 ^ 31) (kt : x = none → G C cs ss tgt ls st M) (kf : ∀ m, x = some m → G C cs ss (pc + 3) ls st M) : G C cs ss pc ls (aI e :: aI (oI e x) :: st) M :=
  g_icmp_eq hC hd ht (fun q => kt ((oI_eq he hx).mp q)) (fun q => by
    obtain ⟨m, hm⟩ := ne_none (fun z => q ((oI_eq he hx).mpr z))
    exact kf m hm)
theorem g_icmp_neO (hC : Ok C cc own nL R E) {e : Int32} {x : Option Nat} {off : Int} {tgt : Nat} (hd : decode cc pc = .ok (.if_icmp .ne off, 3)) (ht : (pc : Int) + off = (tgt : Int)) (he : e < 0) (hx : ∀ m, x = some m → m < 2 ^ 31) (kt : ∀ m, x = some m → G C cs ss tgt ls st M) (kf : x = none → G C cs ss (pc + 3) ls st M) : G C cs ss pc ls (aI e :: aI (oI e x) :: st) M :=
  g_icmp_ne hC hd ht (fun q => by
    obtain ⟨m, hm⟩ := ne_none (fun z => q ((oI_eq he hx).mpr z))
    exact kt m hm) (fun q => kf ((oI_eq he hx).mp q))
theorem g_if_ltO (hC : Ok C cc own nL R E) {e : Int32} {x : Option Nat} {off : Int} {tgt : Nat} (hd : decode cc pc = .ok (.ifCond .lt off, 3)) (ht : (pc : Int) + off = (tgt : Int)) (he : e < 0) (hx : ∀ m, x = some m → m < 2 ^ 31) (kt : x = none → G C cs ss tgt ls st M) (kf : ∀ m, x = some m → G C cs ss (pc + 3) ls st M) : G C cs ss pc ls (aI (oI e x) :: st) M :=
  g_if_lt hC hd ht (fun q => kt ((oI_neg he hx).mp q)) (fun q => by
    obtain ⟨m, hm⟩ := ne_none (fun z => q ((oI_neg he hx).mpr z))
    exact kf m hm)
theorem g_if_geO (hC : Ok C cc own nL R E) {e : Int32} {x : Option Nat} {off : Int} {tgt : Nat} (hd : decode cc pc = .ok (.ifCond .ge off, 3)) (ht : (pc : Int) + off = (tgt : Int)) (he : e < 0) (hx : ∀ m, x = some m → m < 2 ^ 31) (kt : ∀ m, x = some m → G C cs ss tgt ls st M) (kf : x = none → G C cs ss (pc + 3) ls st M) : G C cs ss pc ls (aI (oI e x) :: st) M :=
  g_if_ge hC hd ht (fun q => by
    obtain ⟨m, hm⟩ := ne_none (fun z => absurd ((oI_neg he hx).mpr z) (Int32.not_lt.mpr q))
    exact kt m hm) (fun q => kf ((oI_neg he hx).mp (Int32.not_le.mp q)))
end GO
/-! ===== a town, as both programs hold it: winds, paths (bits), how many walkers, kinds, rooms, plan lengths, plans, traces, minute, nose ===== -/
abbrev Vw : Type := (Nat → Nat) × (Nat → Nat) × Nat × (Nat → Nat) × (Nat → Nat) × (Nat → Nat) × (Nat → Nat → Nat) × (Nat → Nat → Option Nat) × Nat × Nat
def vWi (v : Vw) : Nat → Nat := v.1
def vPa (v : Vw) : Nat → Nat := v.2.1
def vN (v : Vw) : Nat := v.2.2.1
def vKi (v : Vw) : Nat → Nat := v.2.2.2.1
def vPl (v : Vw) : Nat → Nat := v.2.2.2.2.1
def vPL (v : Vw) : Nat → Nat := v.2.2.2.2.2.1
def vPp (v : Vw) : Nat → Nat → Nat := v.2.2.2.2.2.2.1
def vLf (v : Vw) : Nat → Nat → Option Nat := v.2.2.2.2.2.2.2.1
def vMi (v : Vw) : Nat := v.2.2.2.2.2.2.2.2.1
def vNo (v : Vw) : Nat := v.2.2.2.2.2.2.2.2.2
def uWi (v : Vw) (x : Nat → Nat) : Vw := (x, vPa v, vN v, vKi v, vPl v, vPL v, vPp v, vLf v, vMi v, vNo v)
def uPa (v : Vw) (x : Nat → Nat) : Vw := (vWi v, x, vN v, vKi v, vPl v, vPL v, vPp v, vLf v, vMi v, vNo v)
def uN (v : Vw) (x : Nat) : Vw := (vWi v, vPa v, x, vKi v, vPl v, vPL v, vPp v, vLf v, vMi v, vNo v)
def uKi (v : Vw) (x : Nat → Nat) : Vw := (vWi v, vPa v, vN v, x, vPl v, vPL v, vPp v, vLf v, vMi v, vNo v)
def uPl (v : Vw) (x : Nat → Nat) : Vw := (vWi v, vPa v, vN v, vKi v, x, vPL v, vPp v, vLf v, vMi v, vNo v)
def uPL (v : Vw) (x : Nat → Nat) : Vw := (vWi v, vPa v, vN v, vKi v, vPl v, x, vPp v, vLf v, vMi v, vNo v)
def uPp (v : Vw) (x : Nat → Nat → Nat) : Vw := (vWi v, vPa v, vN v, vKi v, vPl v, vPL v, x, vLf v, vMi v, vNo v)
def uLf (v : Vw) (x : Nat → Nat → Option Nat) : Vw := (vWi v, vPa v, vN v, vKi v, vPl v, vPL v, vPp v, x, vMi v, vNo v)
def uMi (v : Vw) (x : Nat) : Vw := (vWi v, vPa v, vN v, vKi v, vPl v, vPL v, vPp v, vLf v, x, vNo v)
def uNo (v : Vw) (x : Nat) : Vw := (vWi v, vPa v, vN v, vKi v, vPl v, vPL v, vPp v, vLf v, vMi v, x)
def townG (v : Vw) (rf : Nat) (go : Nat → Nat) : List ACell :=
  [cO 1 [sR 1, sI (nI rf), sR 2, sI (nI (vN v)), sR 3, sR 4, sR 5, sR 6, sR 7, sR 8, sI (nI (vMi v)), sI (nI (vNo v))], cA 6 (fun j => nI (vWi v j)), cA 6 (fun j => nI (vPa v j)), cA 4 (fun j => nI (vKi v j)), cA 4 (fun j => nI (vPl v j)), cA 4 (fun j => nI (go j)), cA 4 (fun j => nI (vPL v j)), cG 4 6 (fun a b => nI (vPp v a b)), cG 4 6 (fun a b => oI (-1) (vLf v a b))]
/-- the state is a legal one; minutes up to B -/
def wf (B : Nat) (v : Vw) : Prop :=
  vN v ≤ 4 ∧ vMi v ≤ B ∧ (1 ≤ vNo v ∧ vNo v ≤ 9) ∧ (∀ r, r < 6 → vWi v r ≤ 3) ∧ (∀ a, a < 6 → vPa v a < 64) ∧ (∀ a b, a < 6 → b < 6 → (vPa v a).testBit b = (vPa v b).testBit a) ∧ (∀ a, a < 6 → (vPa v a).testBit a = false) ∧
  (∀ w, w < vN v → vKi v w ≤ 5) ∧ (∀ w, w < vN v → vPl v w < 6) ∧ (∀ w, w < vN v → vPL v w ≤ 6) ∧ (∀ w, w < vN v → ∀ j, j < vPL v w → vPp v w j < 6) ∧ (∀ w, w < vN v → ∀ r, r < 6 → ∀ m, vLf v w r = some m → m ≤ vMi v)
/-- the age of a trace left in minute m by w in r, so much later -/
def ageIn (v : Vw) (w r later m : Nat) : Nat := if vKi v w = 3 then (vMi v + later - m) * (1 + vWi v r) / 2 else (vMi v + later - m) * (1 + vWi v r)
def age (v : Vw) (w r later : Nat) : Option Nat := (vLf v w r).map (ageIn v w r later)
/-- the least (or greatest) age in r of the traces of the first k walkers, but those of one -/
def beats (g : Bool) (a : Nat) (b : Option Nat) : Bool := match b with
  | none => true
  | some b => if g then decide (b < a) else decide (a < b)
def ends (v : Vw) (r aside : Nat) (g : Bool) : Nat → Option Nat
  | 0 => none
  | k + 1 => match age v k r 0 with
    | none => ends v r aside g k
    | some a => if k = aside then ends v r aside g k else if beats g a (ends v r aside g k) then some a else ends v r aside g k
theorem age_some {v : Vw} {w r l m : Nat} (h : vLf v w r = some m) : age v w r l = some (ageIn v w r l m) := by
  unfold age
  rw [h]
  rfl
theorem age_none {v : Vw} {w r l : Nat} (h : vLf v w r = none) : age v w r l = none := by
  unfold age
  rw [h]
  rfl
theorem wf_n {B : Nat} {v : Vw} (h : wf B v) : vN v ≤ 4 := h.1
theorem wf_mi {B : Nat} {v : Vw} (h : wf B v) : vMi v ≤ B := h.2.1
theorem wf_no {B : Nat} {v : Vw} (h : wf B v) : 1 ≤ vNo v ∧ vNo v ≤ 9 := h.2.2.1
theorem wf_wi {B : Nat} {v : Vw} (h : wf B v) : ∀ r, r < 6 → vWi v r ≤ 3 := h.2.2.2.1
theorem wf_pa {B : Nat} {v : Vw} (h : wf B v) : ∀ a, a < 6 → vPa v a < 64 := h.2.2.2.2.1
theorem wf_sym {B : Nat} {v : Vw} (h : wf B v) : ∀ a b, a < 6 → b < 6 → (vPa v a).testBit b = (vPa v b).testBit a := h.2.2.2.2.2.1
theorem wf_irr {B : Nat} {v : Vw} (h : wf B v) : ∀ a, a < 6 → (vPa v a).testBit a = false := h.2.2.2.2.2.2.1
theorem wf_ki {B : Nat} {v : Vw} (h : wf B v) : ∀ w, w < vN v → vKi v w ≤ 5 := h.2.2.2.2.2.2.2.1
theorem wf_pl {B : Nat} {v : Vw} (h : wf B v) : ∀ w, w < vN v → vPl v w < 6 := h.2.2.2.2.2.2.2.2.1
theorem wf_pL {B : Nat} {v : Vw} (h : wf B v) : ∀ w, w < vN v → vPL v w ≤ 6 := h.2.2.2.2.2.2.2.2.2.1
theorem wf_pp {B : Nat} {v : Vw} (h : wf B v) : ∀ w, w < vN v → ∀ j, j < vPL v w → vPp v w j < 6 := h.2.2.2.2.2.2.2.2.2.2.1
theorem wf_lf {B : Nat} {v : Vw} (h : wf B v) : ∀ w, w < vN v → ∀ r, r < 6 → ∀ m, vLf v w r = some m → m ≤ vMi v := h.2.2.2.2.2.2.2.2.2.2.2
theorem wf_up {B B2 : Nat} {v : Vw} (h : wf B v) (hB : B ≤ B2) : wf B2 v := ⟨h.1, Nat.le_trans h.2.1 hB, h.2.2⟩
/-- an age is small -/
theorem age_lt {B : Nat} {v : Vw} {w r l : Nat} (h : wf B v) (hB : B ≤ 200) (hl : l ≤ 50) (hr : r < 6) : ∀ a, age v w r l = some a → a < 2000 := by
  intro a ha
  unfold age at ha
  cases hm : vLf v w r with
  | none => rw [hm] at ha; cases ha
  | some m =>
    rw [hm] at ha
    have e : ageIn v w r l m = a := Option.some.inj ha
    have h1 := wf_wi h r hr
    have h2 := wf_mi h
    have h3 : (vMi v + l - m) * (1 + vWi v r) ≤ 250 * 4 := Nat.mul_le_mul (by omega) (by omega)
    rw [← e]
    unfold ageIn
    split <;> omega
theorem ends_lt {B : Nat} {v : Vw} {r as : Nat} {g : Bool} (h : wf B v) (hB : B ≤ 200) (hr : r < 6) : ∀ k a, ends v r as g k = some a → a < 2000 := by
  intro k
  induction k with
  | zero => intro a ha; cases ha
  | succ k ih =>
    intro a ha
    unfold ends at ha
    cases hm : age v k r 0 with
    | none => rw [hm] at ha; exact ih a ha
    | some b =>
      rw [hm] at ha
      have hb := age_lt (w := k) h hB (show 0 ≤ 50 by omega) hr b hm
      dsimp only at ha
      split at ha
      · exact ih a ha
      · split at ha
        · cases ha; exact hb
        · exact ih a ha
/-- a comes ahead of b: any age of none, no age of nothing -/
def beyond (g : Bool) (a b : Option Nat) : Bool := match a with
  | none => false
  | some a => beats g a b
theorem ends_at {v : Vw} {r as : Nat} {g : Bool} {k : Nat} (h : k = as) : ends v r as g (k + 1) = ends v r as g k := by
  show (match age v k r 0 with
    | none => ends v r as g k
    | some a => if k = as then ends v r as g k else if beats g a (ends v r as g k) then some a else ends v r as g k) = _
  cases age v k r 0 with
  | none => rfl
  | some a => exact if_pos h
theorem ends_up {v : Vw} {r as : Nat} {g : Bool} {k : Nat} (h : k ≠ as) (hb : beyond g (age v k r 0) (ends v r as g k) = true) : ends v r as g (k + 1) = age v k r 0 := by
  show (match age v k r 0 with
    | none => ends v r as g k
    | some a => if k = as then ends v r as g k else if beats g a (ends v r as g k) then some a else ends v r as g k) = _
  cases ha : age v k r 0 with
  | none => rw [ha] at hb; cases hb
  | some a =>
    rw [ha] at hb
    have hb : beats g a (ends v r as g k) = true := hb
    dsimp only
    rw [if_neg h, if_pos hb]
theorem ends_no {v : Vw} {r as : Nat} {g : Bool} {k : Nat} (hb : beyond g (age v k r 0) (ends v r as g k) = false) : ends v r as g (k + 1) = ends v r as g k := by
  show (match age v k r 0 with
    | none => ends v r as g k
    | some a => if k = as then ends v r as g k else if beats g a (ends v r as g k) then some a else ends v r as g k) = _
  cases ha : age v k r 0 with
  | none => rfl
  | some a =>
    rw [ha] at hb
    have hb : beats g a (ends v r as g k) = false := hb
    dsimp only
    rw [hb]
    simp
def isP (v : Vw) (a b : Nat) : Bool := (vPa v a).testBit b
theorem shr_bit : ∀ p, p < 64 → ∀ b, b < 6 → (nI p >>> (nI b &&& 31)) &&& nI 1 = nI (p.testBit b).toNat := by decide +kernel
theorem xor_bit : ∀ p, p < 64 → ∀ b, b < 6 → nI p ^^^ (nI 1 <<< (nI b &&& 31)) = nI (p ^^^ (1 <<< b)) := by decide +kernel
theorem or_bit : ∀ p, p < 64 → ∀ b, b < 6 → nI p ||| (nI 1 <<< (nI b &&& 31)) = nI (p ||| (1 <<< b)) := by decide +kernel
theorem cl_bit : ∀ p, p < 64 → ∀ b, b < 6 → nI p &&& ((nI 1 <<< (nI b &&& 31)) ^^^ (-1 : Int32)) = nI (p &&& (63 ^^^ (1 <<< b))) := by decide +kernel
theorem or_mask : ∀ p, p < 64 → ∀ q, q < 64 → nI p ||| nI q = nI (p ||| q) := by decide +kernel
theorem and_mask : ∀ p, p < 64 → ∀ q, q < 64 → nI p &&& nI q = nI (p &&& q) := by decide +kernel
theorem b1 {b : Bool} (h : b.toNat = 1) : b = true := by cases b <;> simp_all
theorem b0 {b : Bool} (h : b.toNat ≠ 1) : b = false := by cases b <;> simp_all
theorem bt_lt (b : Bool) : b.toNat < 2 ^ 31 := by cases b <;> decide
/-- where he would go by his plan -/
def planned (v : Vw) (w : Nat) : Nat := if vPL v w = 0 then vPl v w else if isP v (vPl v w) (vPp v w (vMi v % vPL v w)) then vPp v w (vMi v % vPL v w) else vPl v w
/-- .. by his nose: the room and its age, behind the first k rooms -/
def fol (v : Vw) (w : Nat) (g : Bool) : Nat → Nat × Option Nat
  | 0 => (vPl v w, ends v (vPl v w) w g (vN v))
  | k + 1 => if isP v (vPl v w) k && beyond g (ends v k w g (vN v)) (fol v w g k).2 then (k, ends v k w g (vN v)) else fol v w g k
def goal (v : Vw) (w : Nat) : Nat := if vKi v w = 2 then (fol v w false 6).1 else if vKi v w = 4 then (fol v w true 6).1 else planned v w
theorem fol_up {v : Vw} {w k : Nat} {g : Bool} (h1 : isP v (vPl v w) k = true) (h2 : beyond g (ends v k w g (vN v)) (fol v w g k).2 = true) : fol v w g (k + 1) = (k, ends v k w g (vN v)) := by
  show (if isP v (vPl v w) k && beyond g (ends v k w g (vN v)) (fol v w g k).2 then _ else _) = _
  rw [h1, h2]
  rfl
theorem fol_no1 {v : Vw} {w k : Nat} {g : Bool} (h1 : isP v (vPl v w) k = false) : fol v w g (k + 1) = fol v w g k := by
  show (if isP v (vPl v w) k && beyond g (ends v k w g (vN v)) (fol v w g k).2 then _ else _) = _
  rw [h1]
  rfl
theorem fol_no2 {v : Vw} {w k : Nat} {g : Bool} (h2 : beyond g (ends v k w g (vN v)) (fol v w g k).2 = false) : fol v w g (k + 1) = fol v w g k := by
  show (if isP v (vPl v w) k && beyond g (ends v k w g (vN v)) (fol v w g k).2 then _ else _) = _
  rw [h2]
  simp
theorem fol2_lt {B : Nat} {v : Vw} {w : Nat} {g : Bool} (h : wf B v) (hB : B ≤ 200) (hw : w < vN v) : ∀ k, k ≤ 6 → ∀ a, (fol v w g k).2 = some a → a < 2000 := by
  intro k
  induction k with
  | zero => intro _ a ha; exact ends_lt h hB (wf_pl h w hw) _ a ha
  | succ k ih =>
    intro hk a ha
    unfold fol at ha
    split at ha
    · exact ends_lt h hB (by omega) _ a ha
    · exact ih (by omega) a ha
theorem fol1_lt {B : Nat} {v : Vw} {w : Nat} {g : Bool} (h : wf B v) (hw : w < vN v) : ∀ k, k ≤ 6 → (fol v w g k).1 < 6 := by
  intro k
  induction k with
  | zero => intro _; exact wf_pl h w hw
  | succ k ih =>
    intro hk
    unfold fol
    split
    · exact (by omega : k < 6)
    · exact ih (by omega)
theorem goal_lt {B : Nat} {v : Vw} {w : Nat} (h : wf B v) (hw : w < vN v) : goal v w < 6 := by
  unfold goal
  split
  · exact fol1_lt h hw 6 (Nat.le_refl _)
  · split
    · exact fol1_lt h hw 6 (Nat.le_refl _)
    · unfold planned
      split
      · exact wf_pl h w hw
      · split
        · exact wf_pp h w hw _ (Nat.mod_lt _ (by omega))
        · exact wf_pl h w hw
/-- he leaves a trace where he comes (his kind, and whether he stays) -/
def leaves (v : Vw) (G : Nat → Nat) (w : Nat) : Bool := decide (vKi v w ≠ 5) && (decide (vKi v w ≠ 1) || decide (G w = vPl v w))
/-- the minute is over for the first k walkers, who go to G -/
def arr (v : Vw) (G : Nat → Nat) (k : Nat) : Vw := uLf (uPl (uMi v (vMi v + 1)) (fun j => if j < k then G j else vPl v j)) (fun a b => if (decide (a < k) && leaves v G a && decide (b = G a)) = true then some (vMi v + 1) else vLf v a b)
def mstep (v : Vw) : Vw := arr v (goal v) (vN v)
def goN (v : Vw) : Nat → Vw
  | 0 => v
  | n + 1 => mstep (goN v n)
/-! locals that nobody reads any more are forgotten -/
def maskL : List Bool → List AV → List AV
  | [], _ => []
  | _ :: _, [] => []
  | b :: bs, v :: vs => (match b with
    | true => v
    | false => aK 9) :: maskL bs vs
theorem maskL_at : ∀ (bs : List Bool) (vs : List AV) (i : Nat) (v : AV), (maskL bs vs)[i]? = some v → v ≠ aK 9 → vs[i]? = some v
  | [], _, i, v, h, _ => by simp [maskL] at h
  | _ :: _, [], i, v, h, _ => by simp [maskL] at h
  | b :: bs, u :: us, i, v, h, hv => by
    cases i with
    | zero =>
      cases b with
      | true => exact h
      | false =>
        exfalso
        have : aK 9 = v := by simpa [maskL] using h
        exact hv this.symm
    | succ i =>
      rw [List.getElem?_cons_succ]
      exact maskL_at bs us i v (by simpa [maskL] using h) hv
theorem g_mask {C : Cx} {cs ss pc : Nat} {ls st : List AV} {M : AM} (bs : List Bool) (k : G C cs ss pc (maskL bs ls) st M) : G C cs ss pc ls st M :=
  fun P H locs la h1 h2 h3 h4 h5 => k P H locs la h1 h2 h3 h4 ⟨h5.1, h5.2.1, fun i v hi hv => h5.2.2 i v (maskL_at bs ls i v hi hv) hv⟩
