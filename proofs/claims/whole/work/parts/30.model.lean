/-! ===== the reference: its world; rows of 6 laid flat ===== -/
def modW (u : Vw) (ro re : Nat → Nat) (lt : Nat → Nat) (len : Nat) (le la : Nat → Nat) (td : Nat → Int32) (fr ti : Nat → Nat) (pt st : Nat) (ke : Nat → Int32) (hi ik : Bool) (cu : Nat) (go num : Nat → Nat) (nin : Nat) (up fo : Nat → Nat) : List ACell :=
  [cO 4 [sR 1, sR 2, sR 3, sR 4, sR 5, sR 6, sR 7, sR 8, sR 9, sI (nI (vN u)), sI (nI (vMi u)), sI (nI (vNo u)), sR 10, sR 11, sR 12, sR 13, sR 14, sR 15, sI (nI len), sI (nI pt), sI (nI st), sR 16, sI (bI hi), sI (bI ik), sI (nI cu), sR 17, sR 18, sI (nI nin), sR 19, sR 20],
   cA 7 (fun j => nI (re j)), cA 6 (fun j => nI (vWi u j)), cA 6 (fun j => nI (ro j)), cA 6 (fun j => nI (vPa u j)), cA 4 (fun j => nI (vKi u j)), cA 4 (fun j => nI (vPl u j)), cA 4 (fun j => nI (vPL u j)), cA 24 (fun k => nI (vPp u (k / 6) (k % 6))), cA 24 (fun k => oI (-9) (vLf u (k / 6) (k % 6))),
   cA 96 (fun j => nI (lt j)), cA 48 (fun j => nI (le j)), cA 48 (fun j => nI (la j)), cA 96 td, cA 48 (fun j => nI (fr j)), cA 48 (fun j => nI (ti j)), cA 170 ke, cA 4 (fun j => nI (go j)), cA 12 (fun j => nI (num j)), cL 54 (fun j => lN (up j)), cL 54 (fun j => lN (fo j))]
theorem fl_div {w r : Nat} (hr : r < 6) : (6 * w + r) / 6 = w := by omega
theorem fl_mod {w r : Nat} (hr : r < 6) : (6 * w + r) % 6 = r := by omega
theorem flat_upd {α : Type} (h : α → Int32) (f : Nat → Nat → α) {w r : Nat} (hr : r < 6) (x : α) : upd (fun k => h (f (k / 6) (k % 6))) (6 * w + r) (h x) = fun k => h (upd2N f w r x (k / 6) (k % 6)) := by
  funext k
  unfold upd upd2N
  by_cases e : k = 6 * w + r
  · rw [if_pos e, if_pos ⟨by omega, by omega⟩]
  · rw [if_neg e, if_neg (fun z => e (by omega))]
section GFL
variable {C : Cx} {cc : ByteArray} {own : String} {nL : Nat} {R : Room} {E : State → Array Value → List Frame → Method → (State → Prop) → Prop} {cs ss pc : Nat} {ls st : List AV} {M : AM}
theorem g_ialdFN (hC : Ok C cc own nL R E) {g k w r : Nat} {f : Nat → Nat → Nat} (hd : decode cc pc = .ok (.iaload, 1)) (hM : getM M g k = some (cA 24 (fun k => nI (f (k / 6) (k % 6))))) (hw : w < 4) (hr : r < 6) (kk : G C cs ss (pc + 1) ls (aI (nI (f w r)) :: st) M) : G C cs ss pc ls (aI (nI (6 * w + r)) :: aR g k 0 :: st) M :=
  g_iald hC hd hM rfl (by omega) (by decide) (by rw [fl_div hr, fl_mod hr]) kk
theorem g_ialdFO (hC : Ok C cc own nL R E) {g k w r : Nat} {e : Int32} {f : Nat → Nat → Option Nat} (hd : decode cc pc = .ok (.iaload, 1)) (hM : getM M g k = some (cA 24 (fun k => oI e (f (k / 6) (k % 6))))) (hw : w < 4) (hr : r < 6) (kk : G C cs ss (pc + 1) ls (aI (oI e (f w r)) :: st) M) : G C cs ss pc ls (aI (nI (6 * w + r)) :: aR g k 0 :: st) M :=
  g_iald hC hd hM rfl (by omega) (by decide) (by rw [fl_div hr, fl_mod hr]) kk
theorem g_iastFN (hC : Ok C cc own nL R E) {g k w r x : Nat} {f : Nat → Nat → Nat} (hd : decode cc pc = .ok (.iastore, 1)) (hM : getM M g k = some (cA 24 (fun k => nI (f (k / 6) (k % 6))))) (hw : w < 4) (hr : r < 6) (kk : G C cs ss (pc + 1) ls st (setM M g k (cA 24 (fun k => nI (upd2N f w r x (k / 6) (k % 6)))))) : G C cs ss pc ls (aI (nI x) :: aI (nI (6 * w + r)) :: aR g k 0 :: st) M :=
  g_iast hC hd hM rfl (by omega) (by decide) (by rw [flat_upd (fun z => nI z) f hr x]; exact kk)
theorem g_iastFO (hC : Ok C cc own nL R E) {g k w r : Nat} {e v : Int32} {x : Option Nat} {f : Nat → Nat → Option Nat} (hd : decode cc pc = .ok (.iastore, 1)) (hM : getM M g k = some (cA 24 (fun k => oI e (f (k / 6) (k % 6))))) (hw : w < 4) (hr : r < 6) (hv : oI e x = v) (kk : G C cs ss (pc + 1) ls st (setM M g k (cA 24 (fun k => oI e (upd2N f w r x (k / 6) (k % 6)))))) : G C cs ss pc ls (aI v :: aI (nI (6 * w + r)) :: aR g k 0 :: st) M := by
  subst hv
  exact g_iast hC hd hM rfl (by omega) (by decide) (by rw [flat_upd (fun z => oI e z) f hr x]; exact kk)
end GFL
