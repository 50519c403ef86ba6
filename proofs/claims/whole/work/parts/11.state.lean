/-! ===== options as ints ===== -/
theorem oI_none (e : Int32) : oI e none = e := rfl
theorem oI_some (e : Int32) (n : Nat) : oI e (some n) = nI n := rfl
theorem oI_neg {e : Int32} {x : Option Nat} (he : e < 0) (hx : ∀ m, x = some m → m < 2 ^ 31) : oI e x < 0 ↔ x = none := by
  cases x with
  | none => exact ⟨fun _ => rfl, fun _ => he⟩
  | some m => exact ⟨fun h => absurd h (nI_pos (hx m rfl)), fun h => by cases h⟩
theorem oI_eq {e : Int32} {x : Option Nat} (he : e < 0) (hx : ∀ m, x = some m → m < 2 ^ 31) : oI e x = e ↔ x = none := by
  constructor
  · intro h
    rw [← oI_neg he hx, h]
    exact he
  · intro h
    rw [h]
    rfl
theorem ne_none {x : Option Nat} (h : ¬ x = none) : ∃ m, x = some m := by
  cases x with
  | none => exact absurd rfl h
  | some m => exact ⟨m, rfl⟩
theorem rB0 {p : Prop} [Decidable p] (h : ¬ p) : some (aI (nI 0)) = some (aI (bI (decide p))) := by rw [decide_eq_false h]; rfl
theorem rB1 {p : Prop} [Decidable p] (h : p) : some (aI (nI 1)) = some (aI (bI (decide p))) := by rw [decide_eq_true h]; rfl
theorem rV {x y : Int32} (h : x = y) : some (aI x) = some (aI y) := by rw [h]
section GO
variable {C : Cx} {cc : ByteArray} {own : String} {nL : Nat} {R : Room} {E : State → Array Value → List Frame → Method → (State → Prop) → Prop} {cs ss pc : Nat} {ls st : List AV} {M : AM}
theorem g_icmp_eqO (hC : Ok C cc own nL R E) {e : Int32} {x : Option Nat} {off : Int} {tgt : Nat} (hd : decode cc pc = .ok (.if_icmp .eq off, 3)) (ht : (pc : Int) + off = (tgt : Int)) (he : e < 0) (hx : ∀ m, x = some m → m < 2 ^ 31) (kt : x = none → G C cs ss tgt ls st M) (kf : ∀ m, x = some m → G C cs ss (pc + 3) ls st M) : G C cs ss pc ls (aI e :: aI (oI e x) :: st) M :=
  g_icmp_eq hC hd ht (fun q => kt ((oI_eq he hx).mp q)) (fun q => by
    obtain ⟨m, hm⟩ := ne_none (fun z => q ((oI_eq he hx).mpr z))
    exact kf m hm)
theorem g_icmp_neO (hC : Ok C cc own nL R E) {e : Int32} {x : Option Nat} {off : Int} {tgt : Nat} (hd : decode cc pc = .ok (.if_icmp .ne off, 3)) (ht : (pc : Int) + off = (tgt : Int)) (he : e < 0) (hx : ∀ m, x = some m → m < 2 ^ 31) (kt : ∀ m, x = some m → G C cs ss tgt ls st M) (kf : x = none → G C cs ss (pc + 3) ls st M) : G C cs ss pc ls (aI e :: aI (oI e x) :: st) M :=
  g_icmp_ne hC hd ht (fun q => by
    obtain ⟨m, hm⟩ := ne_none (fun z => q ((oI_eq he hx).mpr z))
    exact kt m hm) (fun q => kf ((oI_eq he hx).mp q))
theorem g_if_ltO (hC : Ok C cc own nL R E) {e : Int32} {x : Option Nat} {off : Int} {tgt : Nat} (hd : decode cc pc = .ok (.ifCond .lt off, 3)) (ht : (pc : Int) + off = (tgt : Int)) (he : e < 0) (hx : ∀ m, x = some m → m < 2 ^ 31) (kt : x = none → G C cs ss tgt ls st M) (kf : ∀ m, x = some m → G C cs ss (pc + 3) ls st M) : G C cs ss pc ls (aI (oI e x) :: st) M :=
  g_if_lt hC hd ht (fun q => kt ((oI_neg he hx).mp q)) (fun q => by
    obtain ⟨m, hm⟩ := ne_none (fun z => q ((oI_neg he hx).mpr z))
    exact kf m hm)
theorem g_if_geO (hC : Ok C cc own nL R E) {e : Int32} {x : Option Nat} {off : Int} {tgt : Nat} (hd : decode cc pc = .ok (.ifCond .ge off, 3)) (ht : (pc : Int) + off = (tgt : Int)) (he : e < 0) (hx : ∀ m, x = some m → m < 2 ^ 31) (kt : ∀ m, x = some m → G C cs ss tgt ls st M) (kf : x = none → G C cs ss (pc + 3) ls st M) : G C cs ss pc ls (aI (oI e x) :: st) M :=
  g_if_ge hC hd ht (fun q => by
    obtain ⟨m, hm⟩ := ne_none (fun z => absurd ((oI_neg he hx).mpr z) (Int32.not_lt.mpr q))
    exact kt m hm) (fun q => kf ((oI_neg he hx).mp (Int32.not_le.mp q)))
end GO
/-! ===== a town, as both programs hold it: winds, paths (bits), how many walkers, kinds, rooms, plan lengths, plans, traces, minute, nose ===== -/
abbrev Vw : Type := (Nat → Nat) × (Nat → Nat) × Nat × (Nat → Nat) × (Nat → Nat) × (Nat → Nat) × (Nat → Nat → Nat) × (Nat → Nat → Option Nat) × Nat × Nat
def vWi (v : Vw) : Nat → Nat := v.1
def vPa (v : Vw) : Nat → Nat := v.2.1
def vN (v : Vw) : Nat := v.2.2.1
def vKi (v : Vw) : Nat → Nat := v.2.2.2.1
def vPl (v : Vw) : Nat → Nat := v.2.2.2.2.1
def vPL (v : Vw) : Nat → Nat := v.2.2.2.2.2.1
def vPp (v : Vw) : Nat → Nat → Nat := v.2.2.2.2.2.2.1
def vLf (v : Vw) : Nat → Nat → Option Nat := v.2.2.2.2.2.2.2.1
def vMi (v : Vw) : Nat := v.2.2.2.2.2.2.2.2.1
def vNo (v : Vw) : Nat := v.2.2.2.2.2.2.2.2.2
def uWi (v : Vw) (x : Nat → Nat) : Vw := (x, vPa v, vN v, vKi v, vPl v, vPL v, vPp v, vLf v, vMi v, vNo v)
def uPa (v : Vw) (x : Nat → Nat) : Vw := (vWi v, x, vN v, vKi v, vPl v, vPL v, vPp v, vLf v, vMi v, vNo v)
def uN (v : Vw) (x : Nat) : Vw := (vWi v, vPa v, x, vKi v, vPl v, vPL v, vPp v, vLf v, vMi v, vNo v)
def uKi (v : Vw) (x : Nat → Nat) : Vw := (vWi v, vPa v, vN v, x, vPl v, vPL v, vPp v, vLf v, vMi v, vNo v)
def uPl (v : Vw) (x : Nat → Nat) : Vw := (vWi v, vPa v, vN v, vKi v, x, vPL v, vPp v, vLf v, vMi v, vNo v)
def uPL (v : Vw) (x : Nat → Nat) : Vw := (vWi v, vPa v, vN v, vKi v, vPl v, x, vPp v, vLf v, vMi v, vNo v)
def uPp (v : Vw) (x : Nat → Nat → Nat) : Vw := (vWi v, vPa v, vN v, vKi v, vPl v, vPL v, x, vLf v, vMi v, vNo v)
def uLf (v : Vw) (x : Nat → Nat → Option Nat) : Vw := (vWi v, vPa v, vN v, vKi v, vPl v, vPL v, vPp v, x, vMi v, vNo v)
def uMi (v : Vw) (x : Nat) : Vw := (vWi v, vPa v, vN v, vKi v, vPl v, vPL v, vPp v, vLf v, x, vNo v)
def uNo (v : Vw) (x : Nat) : Vw := (vWi v, vPa v, vN v, vKi v, vPl v, vPL v, vPp v, vLf v, vMi v, x)
def townG (v : Vw) (rf : Nat) (go : Nat → Nat) : List ACell :=
  [cO 1 [sR 1, sI (nI rf), sR 2, sI (nI (vN v)), sR 3, sR 4, sR 5, sR 6, sR 7, sR 8, sI (nI (vMi v)), sI (nI (vNo v))], cA 6 (fun j => nI (vWi v j)), cA 6 (fun j => nI (vPa v j)), cA 4 (fun j => nI (vKi v j)), cA 4 (fun j => nI (vPl v j)), cA 4 (fun j => nI (go j)), cA 4 (fun j => nI (vPL v j)), cG 4 6 (fun a b => nI (vPp v a b)), cG 4 6 (fun a b => oI (-1) (vLf v a b))]
/-- the state is a legal one; minutes up to B -/
def wf (B : Nat) (v : Vw) : Prop :=
  vN v ≤ 4 ∧ vMi v ≤ B ∧ (1 ≤ vNo v ∧ vNo v ≤ 9) ∧ (∀ r, r < 6 → vWi v r ≤ 3) ∧ (∀ a, a < 6 → vPa v a < 64) ∧ (∀ a b, a < 6 → b < 6 → (vPa v a).testBit b = (vPa v b).testBit a) ∧ (∀ a, a < 6 → (vPa v a).testBit a = false) ∧
  (∀ w, w < vN v → vKi v w ≤ 5) ∧ (∀ w, w < vN v → vPl v w < 6) ∧ (∀ w, w < vN v → vPL v w ≤ 6) ∧ (∀ w, w < vN v → ∀ j, j < vPL v w → vPp v w j < 6) ∧ (∀ w, w < vN v → ∀ r, r < 6 → ∀ m, vLf v w r = some m → m ≤ vMi v)
/-- the age of a trace left in minute m by w in r, so much later -/
def ageIn (v : Vw) (w r later m : Nat) : Nat := if vKi v w = 3 then (vMi v + later - m) * (1 + vWi v r) / 2 else (vMi v + later - m) * (1 + vWi v r)
def age (v : Vw) (w r later : Nat) : Option Nat := (vLf v w r).map (ageIn v w r later)
/-- the least (or greatest) age in r of the traces of the first k walkers, but those of one -/
def beats (g : Bool) (a : Nat) (b : Option Nat) : Bool := match b with
  | none => true
  | some b => if g then decide (b < a) else decide (a < b)
def ends (v : Vw) (r aside : Nat) (g : Bool) : Nat → Option Nat
  | 0 => none
  | k + 1 => match age v k r 0 with
    | none => ends v r aside g k
    | some a => if k = aside then ends v r aside g k else if beats g a (ends v r aside g k) then some a else ends v r aside g k
