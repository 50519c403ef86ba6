/-! ===== the abstract worlds: groups of cells; a value is an int, a long, a cell (group, place, 0; its row w - 1 for w > 0), or a constant (0 null, 1 the text, 2 its bytes, 3 the script, 9 nothing) ===== -/
abbrev AV : Type := Int32 ⊕ (Int64 ⊕ ((Nat × Nat × Nat) ⊕ Nat))
abbrev aI (x : Int32) : AV := Sum.inl x
abbrev aL (x : Int64) : AV := Sum.inr (Sum.inl x)
abbrev aR (g k w : Nat) : AV := Sum.inr (Sum.inr (Sum.inl (g, k, w)))
abbrev aK (n : Nat) : AV := Sum.inr (Sum.inr (Sum.inr n))
abbrev SV : Type := Int32 ⊕ (Nat ⊕ (Nat ⊕ Unit))
abbrev sI (x : Int32) : SV := Sum.inl x
abbrev sR (k : Nat) : SV := Sum.inr (Sum.inl k)
abbrev sG (g : Nat) : SV := Sum.inr (Sum.inr (Sum.inl g))
abbrev sN : SV := Sum.inr (Sum.inr (Sum.inr ()))
abbrev ACell : Type := (Nat × List SV) ⊕ ((Nat × (Nat → Int32)) ⊕ ((Nat × (Nat → Int64)) ⊕ (Nat × Nat × (Nat → Nat → Int32))))
abbrev cO (ci : Nat) (fs : List SV) : ACell := Sum.inl (ci, fs)
abbrev cA (n : Nat) (f : Nat → Int32) : ACell := Sum.inr (Sum.inl (n, f))
abbrev cL (n : Nat) (f : Nat → Int64) : ACell := Sum.inr (Sum.inr (Sum.inl (n, f)))
abbrev cG (r n : Nat) (f : Nat → Nat → Int32) : ACell := Sum.inr (Sum.inr (Sum.inr (r, n, f)))
abbrev AM : Type := List (List ACell)
abbrev Ad : Type := Nat → Nat → Nat → Nat
/-- layouts; the classes of int[], long[], int[][]; the text, its bytes, the script -/
abbrev Gl : Type := va_G × ClassId × ClassId × ClassId × Nat × Nat × Nat
def vOf (gl : Gl) (P : Ad) (v : AV) : Value := match v with
  | .inl x => .int x
  | .inr (.inl x) => .long x
  | .inr (.inr (.inl q)) => .ref (P q.1 q.2.1 q.2.2)
  | .inr (.inr (.inr 0)) => .null
  | .inr (.inr (.inr 1)) => .ref gl.2.2.2.2.1
  | .inr (.inr (.inr 2)) => .ref gl.2.2.2.2.2.1
  | .inr (.inr (.inr _)) => .ref gl.2.2.2.2.2.2
def sOf (P : Ad) (g : Nat) (v : SV) : Value := match v with
  | .inl x => .int x
  | .inr (.inl k) => .ref (P g k 0)
  | .inr (.inr (.inl j)) => .ref (P j 0 0)
  | .inr (.inr (.inr _)) => .null
/-- what a field of a cell of group g holds, as a value on the stack -/
def ldS (g : Nat) (v : SV) : AV := match v with
  | .inl x => aI x
  | .inr (.inl k) => aR g k 0
  | .inr (.inr (.inl j)) => aR j 0 0
  | .inr (.inr (.inr _)) => aK 0
theorem vOf_ldS (gl : Gl) (P : Ad) (g : Nat) (v : SV) : vOf gl P (ldS g v) = sOf P g v := by
  rcases v with x | k | j | u <;> rfl
def getM (M : AM) (g k : Nat) : Option ACell := match M[g]? with
  | some G => G[k]?
  | none => none
def setM (M : AM) (g k : Nat) (c : ACell) : AM := M.set g ((M.getD g []).set k c)
theorem getM_some {M : AM} {g k : Nat} {c : ACell} : getM M g k = some c ↔ ∃ G, M[g]? = some G ∧ G[k]? = some c := by
  unfold getM
  constructor
  · intro h
    split at h
    next G hG => exact ⟨G, hG, h⟩
    next => cases h
  · rintro ⟨G, h1, h2⟩
    rw [h1]
    exact h2
theorem getM_set {M : AM} {g k : Nat} {c0 : ACell} (h : getM M g k = some c0) (c : ACell) (g' k' : Nat) : getM (setM M g k c) g' k' = if g' = g ∧ k' = k then some c else getM M g' k' := by
  obtain ⟨G, h1, h2⟩ := getM_some.mp h
  have hg : g < M.length := (List.getElem?_eq_some_iff.mp h1).1
  have hk : k < G.length := (List.getElem?_eq_some_iff.mp h2).1
  have hD : M.getD g [] = G := by rw [List.getD_eq_getElem?_getD, h1]; rfl
  unfold getM setM
  rw [hD]
  by_cases e1 : g' = g
  · subst e1
    rw [List.getElem?_set_self hg, h1]
    by_cases e2 : k' = k
    · subst e2
      simp [List.getElem?_set_self hk]
    · simp [List.getElem?_set_ne (Ne.symm e2), e2]
  · rw [List.getElem?_set_ne (Ne.symm e1)]
    simp [e1]
def old (M : AM) (g k : Nat) : Prop := ∃ G, M[g]? = some G ∧ k < G.length
theorem old_of {M : AM} {g k : Nat} {c : ACell} (h : getM M g k = some c) : old M g k := by
  obtain ⟨G, h1, h2⟩ := getM_some.mp h
  exact ⟨G, h1, (List.getElem?_eq_some_iff.mp h2).1⟩
theorem old_get {M : AM} {g k : Nat} (h : old M g k) : ∃ c, getM M g k = some c := by
  obtain ⟨G, h1, h2⟩ := h
  exact ⟨G[k], getM_some.mpr ⟨G, h1, List.getElem?_eq_getElem h2⟩⟩
theorem old_set {M : AM} {g k : Nat} {c0 : ACell} (h : getM M g k = some c0) (c : ACell) {g' k' : Nat} (ho : old M g' k') : old (setM M g k c) g' k' := by
  obtain ⟨x, hx⟩ := old_get ho
  have e := getM_set h c g' k'
  by_cases q : g' = g ∧ k' = k
  · rw [if_pos q] at e
    exact old_of e
  · rw [if_neg q, hx] at e
    exact old_of e
def rowsOf (c : ACell) : Nat := match c with
  | .inr (.inr (.inr q)) => q.1
  | _ => 0
def vld (M : AM) (g k w : Nat) : Prop := ∃ c, getM M g k = some c ∧ w ≤ rowsOf c
theorem vld_old {M : AM} {g k w : Nat} (h : vld M g k w) : old M g k := by
  obtain ⟨c, h1, -⟩ := h
  exact old_of h1
def cellAt (gl : Gl) (P : Ad) (g k : Nat) (H : Heap) (c : ACell) : Prop := match c with
  | .inl q => va_at gl.1 vwCl (P g k 0, .inr (q.1, q.2.map (sOf P g))) H
  | .inr (.inl q) => H[P g k 0]? = some (arrV gl.2.1 q.1 (fun j => .int (q.2 j)))
  | .inr (.inr (.inl q)) => H[P g k 0]? = some (arrV gl.2.2.1 q.1 (fun j => .long (q.2 j)))
  | .inr (.inr (.inr q)) => H[P g k 0]? = some (arrV gl.2.2.2.1 q.1 (fun i => .ref (P g k (i + 1)))) ∧ ∀ i, i < q.1 → H[P g k (i + 1)]? = some (arrV gl.2.1 q.2.1 (fun j => .int (q.2.2 i j)))
def Rep (gl : Gl) (P : Ad) (M : AM) (H : Heap) : Prop := (∀ g k c, getM M g k = some c → cellAt gl P g k H c) ∧ ∀ g k w g' k' w', vld M g k w → vld M g' k' w' → P g k w = P g' k' w' → g = g' ∧ k = k' ∧ w = w'
def Own (A : Nat → Prop) (P : Ad) (M : AM) : Prop := ∀ g k w, vld M g k w → A (P g k w)
def Ext (P0 : Ad) (M0 : AM) (P : Ad) (M : AM) : Prop := ∀ g k, old M0 g k → old M g k ∧ ∀ w, P g k w = P0 g k w
theorem Ext.refl (P : Ad) (M : AM) : Ext P M P M := fun _ _ h => ⟨h, fun _ => rfl⟩
theorem Ext.trans {P0 P1 P2 : Ad} {M0 M1 M2 : AM} (h : Ext P0 M0 P1 M1) (h2 : Ext P1 M1 P2 M2) : Ext P0 M0 P2 M2 := fun g k o => by
  obtain ⟨a, b⟩ := h g k o
  obtain ⟨a2, b2⟩ := h2 g k a
  exact ⟨a2, fun w => (b2 w).trans (b w)⟩
/-- an object's cell stays where its address does -/
theorem cellAt.kept {gl : Gl} {P : Ad} {g k : Nat} {H H1 : Heap} {c : ACell} (h : cellAt gl P g k H c) (hq : ∀ w, w ≤ rowsOf c → H1[P g k w]? = H[P g k w]?) : cellAt gl P g k H1 c := by
  rcases c with q | q | q | q
  · exact va_at.kept (show va_at gl.1 vwCl (P g k 0, .inr (q.1, q.2.map (sOf P g))) H from h) (hq 0 (Nat.zero_le _))
  · exact (hq 0 (Nat.zero_le _)).trans h
  · exact (hq 0 (Nat.zero_le _)).trans h
  · exact ⟨(hq 0 (Nat.zero_le _)).trans h.1, fun i hi => (hq (i + 1) (by show i + 1 ≤ q.1; omega)).trans (h.2 i hi)⟩
theorem cellAt.lt {gl : Gl} {P : Ad} {g k w : Nat} {H : Heap} {c : ACell} (h : cellAt gl P g k H c) (hw : w ≤ rowsOf c) : P g k w < H.size := by
  rcases c with q | q | q | q
  · obtain rfl : w = 0 := Nat.le_zero.mp hw
    exact va_at.lt (show va_at gl.1 vwCl (P g k 0, .inr (q.1, q.2.map (sOf P g))) H from h)
  · obtain rfl : w = 0 := Nat.le_zero.mp hw
    exact (Array.getElem?_eq_some_iff.mp h).1
  · obtain rfl : w = 0 := Nat.le_zero.mp hw
    exact (Array.getElem?_eq_some_iff.mp h).1
  · cases w with
    | zero => exact (Array.getElem?_eq_some_iff.mp h.1).1
    | succ i => exact (Array.getElem?_eq_some_iff.mp (h.2 i (show i + 1 ≤ q.1 from hw))).1
theorem Rep.lt {gl : Gl} {P : Ad} {M : AM} {H : Heap} (h : Rep gl P M H) {g k w : Nat} (hv : vld M g k w) : P g k w < H.size := by
  obtain ⟨c, h1, h2⟩ := hv
  exact (h.1 g k c h1).lt h2
theorem vld_set {M : AM} {g k : Nat} {c0 c : ACell} (h : getM M g k = some c0) (hr : rowsOf c = rowsOf c0) {g' k' w' : Nat} : vld (setM M g k c) g' k' w' ↔ vld M g' k' w' := by
  unfold vld
  rw [getM_set h c g' k']
  by_cases q : g' = g ∧ k' = k
  · obtain ⟨rfl, rfl⟩ := q
    rw [if_pos ⟨rfl, rfl⟩, h]
    constructor
    · rintro ⟨x, hx, hw⟩
      cases hx
      exact ⟨c0, rfl, by rw [← hr]; exact hw⟩
    · rintro ⟨x, hx, hw⟩
      cases hx
      exact ⟨c, rfl, by rw [hr]; exact hw⟩
  · rw [if_neg q]
/-- one cell is written -/
theorem Rep.set {gl : Gl} {P : Ad} {M : AM} {H H1 : Heap} (h : Rep gl P M H) {g k w : Nat} {c0 c : ACell} (hM : getM M g k = some c0) (hr : rowsOf c = rowsOf c0) (hw : w ≤ rowsOf c0) (hc : cellAt gl P g k H1 c) (hq : ∀ q : Nat, q ≠ P g k w → H1[q]? = H[q]?) : Rep gl P (setM M g k c) H1 := by
  refine ⟨fun g' k' c' h' => ?_, fun g1 k1 w1 g2 k2 w2 v1 v2 e => h.2 _ _ _ _ _ _ ((vld_set hM hr).mp v1) ((vld_set hM hr).mp v2) e⟩
  rw [getM_set hM c g' k'] at h'
  by_cases q : g' = g ∧ k' = k
  · rw [if_pos q] at h'
    cases h'
    obtain ⟨rfl, rfl⟩ := q
    exact hc
  · rw [if_neg q] at h'
    refine (h.1 g' k' c' h').kept (fun w' hw' => hq _ (fun e => ?_))
    obtain ⟨e1, e2, -⟩ := h.2 g' k' w' g k w ⟨c', h', hw'⟩ ⟨c0, hM, hw⟩ e
    exact q ⟨e1, e2⟩
theorem Own.set {A : Nat → Prop} {P : Ad} {M : AM} (h : Own A P M) {g k : Nat} {c0 c : ACell} (hM : getM M g k = some c0) (hr : rowsOf c = rowsOf c0) : Own A P (setM M g k c) := fun g' k' w' v => h g' k' w' ((vld_set hM hr).mp v)
theorem Ext.set {P0 P : Ad} {M0 M : AM} (h : Ext P0 M0 P M) {g k : Nat} {c0 c : ACell} (hM : getM M g k = some c0) : Ext P0 M0 P (setM M g k c) := fun g' k' o => ⟨old_set hM c (h g' k' o).1, (h g' k' o).2⟩
/-! the locals, by place -/
def LR (gl : Gl) (P : Ad) (nL : Nat) (la : Array Slot) (ls : List AV) : Prop := la.size = nL ∧ lv_wf la ∧ ∀ (i : Nat) (v : AV), ls[i]? = some v → v ≠ aK 9 → la[i]? = some (Slot.val (vOf gl P v))
def isLong (v : AV) : Bool := match v with
  | .inr (.inl _) => true
  | _ => false
theorem vOf_cat (gl : Gl) (P : Ad) (v : AV) : (vOf gl P v).category = if isLong v then 2 else 1 := by
  rcases v with x | x | q | n
  · rfl
  · rfl
  · rfl
  · match n with
    | 0 => rfl
    | 1 => rfl
    | 2 => rfl
    | n + 3 => rfl
/-- the place ahead holds no long -/
def preOk (ls : List AV) (i : Nat) : Bool := match i with
  | 0 => true
  | i + 1 => match ls[i]? with
    | some v => !isLong v
    | none => true
theorem LR.set1 {gl : Gl} {P : Ad} {nL i : Nat} {la : Array Slot} {ls : List AV} {v : AV} (h : LR gl P nL la ls) (hi : i < nL) (hv : isLong v = false) (hp : preOk ls i = true) :
    ∃ la', storeLocals la i (vOf gl P v) = some la' ∧ LR gl P nL la' (ls.set i v) := by
  have hc : (vOf gl P v).category = 1 := by rw [vOf_cat, hv]; rfl
  obtain ⟨la', e, h1, h2, h3⟩ := lv_store1 (l := []) (v := vOf gl P v) ⟨h.1, h.2.1, fun _ q => by cases q⟩ hi hc
  refine ⟨la', e, h1, h2, fun j u hj hu => ?_⟩
  by_cases hij : i = j
  · subst hij
    have hlt : i < ls.length := by
      have := (List.getElem?_eq_some_iff.mp hj).1
      simpa using this
    rw [List.getElem?_set_self hlt] at hj
    cases hj
    exact h3 (i, _) List.mem_cons_self
  · rw [List.getElem?_set_ne hij] at hj
    have hu2 := h.2.2 j u hj hu
    obtain ⟨la2, e2, -, -, h6⟩ := lv_store1 (l := [(j, vOf gl P u)]) (v := vOf gl P v) ⟨h.1, h.2.1, fun q hq => by
      rw [List.mem_singleton] at hq
      subst hq
      exact hu2⟩ hi hc
    have e3 : la' = la2 := by rw [e] at e2; exact Option.some.inj e2
    subst e3
    refine h6 (j, _) (List.mem_cons_of_mem _ (List.mem_filter.mpr ⟨List.mem_singleton.mpr rfl, ?_⟩))
    have n1 : (j == i) = false := by simpa using fun z : j = i => hij z.symm
    have n2 : (j + 1 == i && (vOf gl P u).category == 2) = false := by
      cases i with
      | zero => simp
      | succ i =>
        by_cases z : j = i
        · subst z
          have h9 : isLong u = false := by
            simp only [preOk, hj] at hp
            simpa using hp
          rw [vOf_cat, h9]
          simp
        · have : (j + 1 == i + 1) = false := by simpa using z
          rw [this]
          rfl
    show (!(j == i) && !(j + 1 == i && (vOf gl P u).category == 2)) = true
    rw [n1, n2]
    rfl
theorem LR.set2 {gl : Gl} {P : Ad} {nL i : Nat} {la : Array Slot} {ls : List AV} {v : AV} (h : LR gl P nL la ls) (hi : i + 1 < nL) (hv : isLong v = true) (hp : preOk ls i = true) :
    ∃ la', storeLocals la i (vOf gl P v) = some la' ∧ LR gl P nL la' ((ls.set i v).set (i + 1) (aK 9)) := by
  have hc : (vOf gl P v).category = 2 := by rw [vOf_cat, hv]; rfl
  obtain ⟨la', e, h1, h2, h3⟩ := lv_store2 (l := []) (v := vOf gl P v) ⟨h.1, h.2.1, fun _ q => by cases q⟩ hi hc
  refine ⟨la', e, h1, h2, fun j u hj hu => ?_⟩
  by_cases hj1 : i + 1 = j
  · subst hj1
    have hlt : i + 1 < (ls.set i v).length := by
      have := (List.getElem?_eq_some_iff.mp hj).1
      simpa using this
    rw [List.getElem?_set_self hlt] at hj
    cases hj
    exact absurd rfl hu
  rw [List.getElem?_set_ne hj1] at hj
  by_cases hij : i = j
  · subst hij
    have hlt : i < ls.length := by
      have := (List.getElem?_eq_some_iff.mp hj).1
      simpa using this
    rw [List.getElem?_set_self hlt] at hj
    cases hj
    exact h3 (i, _) List.mem_cons_self
  · rw [List.getElem?_set_ne hij] at hj
    have hu2 := h.2.2 j u hj hu
    obtain ⟨la2, e2, -, -, h6⟩ := lv_store2 (l := [(j, vOf gl P u)]) (v := vOf gl P v) ⟨h.1, h.2.1, fun q hq => by
      rw [List.mem_singleton] at hq
      subst hq
      exact hu2⟩ hi hc
    have e3 : la' = la2 := by rw [e] at e2; exact Option.some.inj e2
    subst e3
    refine h6 (j, _) (List.mem_cons_of_mem _ (List.mem_filter.mpr ⟨List.mem_singleton.mpr rfl, ?_⟩))
    have n1 : (j == i) = false := by simpa using fun z : j = i => hij z.symm
    have n0 : (j == i + 1) = false := by simpa using fun z : j = i + 1 => hj1 z.symm
    have n2 : (j + 1 == i && (vOf gl P u).category == 2) = false := by
      cases i with
      | zero => simp
      | succ i =>
        by_cases z : j = i
        · subst z
          have h9 : isLong u = false := by
            simp only [preOk, hj] at hp
            simpa using hp
          rw [vOf_cat, h9]
          simp
        · have : (j + 1 == i + 1) = false := by simpa using z
          rw [this]
          rfl
    show (!(j == i) && (!(j == i + 1) && !(j + 1 == i && (vOf gl P u).category == 2))) = true
    rw [n1, n0, n2]
    rfl
def lsOf (av : List AV) (n : Nat) : List AV := av ++ List.replicate (n - av.length) (aK 9)
theorem lv_args_at (vs : List Value) : ∀ (n i : Nat) (v : Value), (∀ x ∈ vs, x.category = 1) → vs[i]? = some v → (n + i, v) ∈ lv_args n vs := by
  induction vs with
  | nil => intro n i v _ h; simp at h
  | cons a vs ih =>
    intro n i v hc h
    have ha : a.category = 1 := hc a List.mem_cons_self
    cases i with
    | zero =>
      rw [List.getElem?_cons_zero] at h
      cases h
      exact List.mem_cons_self
    | succ i =>
      rw [List.getElem?_cons_succ] at h
      have h2 := ih (n + 1) i v (fun x hx => hc x (List.mem_cons_of_mem _ hx)) h
      refine List.mem_cons_of_mem _ ?_
      rw [if_neg (by omega)]
      rw [show n + (i + 1) = n + 1 + i by omega]
      exact h2
theorem LR.entry {gl : Gl} {P : Ad} {av : List AV} {n : Nat} (hv : av.all (fun v => !isLong v) = true) (hn : av.length ≤ n) :
    LR gl P n (lg_sl (av.map (vOf gl P)) ++ List.replicate (n - (lg_sl (av.map (vOf gl P))).length) Slot.unset).toArray (lsOf av n) := by
  have hcat : ∀ x ∈ av.map (vOf gl P), x.category = 1 := by
    intro x hx
    obtain ⟨v, h1, rfl⟩ := List.mem_map.mp hx
    have h2 := List.all_eq_true.mp hv v h1
    rw [vOf_cat, if_neg (by simpa using h2)]
  have hl : ∀ vs : List Value, (∀ x ∈ vs, x.category = 1) → (lg_sl vs).length = vs.length := by
    intro vs
    induction vs with
    | nil => intro _; rfl
    | cons a vs ih =>
      intro h
      have ha : a.category = 1 := h a List.mem_cons_self
      show ((if a.category = 2 then [Slot.val a, .second] else [.val a]) ++ lg_sl vs).length = _
      rw [if_neg (by omega), List.length_append, ih (fun x hx => h x (List.mem_cons_of_mem _ hx))]
      simp
      omega
  have hlen := hl _ hcat
  rw [List.length_map] at hlen
  obtain ⟨h1, h2, h3⟩ := lv_entry (av.map (vOf gl P)) (n := n) (by rw [hlen]; exact hn)
  refine ⟨h1, h2, fun i v hi hu => ?_⟩
  unfold lsOf at hi
  by_cases hlt : i < av.length
  · rw [List.getElem?_append_left hlt] at hi
    have h4 := lv_args_at (av.map (vOf gl P)) 0 i (vOf gl P v) hcat (by rw [List.getElem?_map, hi]; rfl)
    rw [Nat.zero_add] at h4
    exact h3 _ h4
  · rw [List.getElem?_append_right (by omega)] at hi
    have := List.eq_of_mem_replicate (List.mem_of_getElem? hi)
    exact absurd this hu
/-! what every method is told of the tables and of the constants -/
def VF (gl : Gl) (U : State) : Prop :=
  va_K gl.1 vwCl [(gl.2.1, .int), (gl.2.2.1, .long), (gl.2.2.2.1, .array .int)] U ∧
  va_Nw (.methodLinkNest RX3 9 yX1_init RX3) U ∧ va_Nw (.methodLinkNest RX3 28 yX0_init RX3) U ∧ va_Nw (.methodLinkNest RX3 35 yX2_init RX3) U ∧ va_Nw (.methodLinkNest RX0 74 yX3_isRoom RX3) U ∧
  (Cond.arrayOver (.array .int)).before #[] U = true ∧ vk_R RX0 27 "wlfsbc" gl.2.2.2.2.1 U
theorem VF.warm {gl : Gl} {s U : State} (hW : s.WarmedH U.vm) (h : VF gl s) : VF gl U := by
  obtain ⟨h1, h2, h3, h4, h5, h6, h7⟩ := h
  refine ⟨va_K.moved hW.alike h1, va_Nw.warmM hW h2, va_Nw.warmM hW h3, va_Nw.warmM hW h4, va_Nw.warmM hW h5, ?_, vk_R.warm hW h7⟩
  have e := Cond.arrayOver_setVmC (args := #[]) hW.alike (.array .int)
  rw [h6] at e
  exact e
theorem VF.same {gl : Gl} {u U : State} (hv : U.vm = u.vm) (h : VF gl u) : VF gl U := by
  obtain ⟨h1, h2, h3, h4, h5, h6, h7⟩ := h
  refine ⟨va_K.moved (by rw [hv]; exact Vm.Alike.refl _) h1, va_Nw.same rfl hv.symm h2, va_Nw.same rfl hv.symm h3, va_Nw.same rfl hv.symm h4, va_Nw.same rfl hv.symm h5, ?_, vk_R.same hv h7⟩
  have e : u.setVm U.vm = u := by rw [hv]; rfl
  have e2 : (Cond.arrayOver (.array .int)).before #[] (u.setVm U.vm) = (Cond.arrayOver (.array .int)).before #[] U := rfl
  rw [← e2, e]
  exact h6
def txt : List Int32 := [119, 108, 102, 115, 98, 99]
def KS (gl : Gl) (A : Nat → Prop) (U : State) (H : Heap) : Prop :=
  vk_S 1 [6] [txt] (fun _ => gl.2.2.2.2.1) (fun _ => gl.2.2.2.2.2.1) A U H ∧ va_Z "java/lang/String" "COMPACT_STRINGS" "Z" (.int 1) A U H
/-! the place where a method stands -/
abbrev Cx : Type := Gl × (Nat → Prop) × Heap × Nat × Ad × AM × (Heap → List Loc → Nat → Nat → Nat → Array Slot → List Value → Prop)
def kGl (C : Cx) : Gl := C.1
def kA (C : Cx) : Nat → Prop := C.2.1
def kH (C : Cx) : Heap := C.2.2.1
def kN (C : Cx) : Nat := C.2.2.2.1
def kP (C : Cx) : Ad := C.2.2.2.2.1
def kM (C : Cx) : AM := C.2.2.2.2.2.1
def kW (C : Cx) : Heap → List Loc → Nat → Nat → Nat → Array Slot → List Value → Prop := C.2.2.2.2.2.2
def G (C : Cx) (cs ss pc : Nat) (ls st : List AV) (M : AM) : Prop := ∀ (P : Ad) (H : Heap) (locs : List Loc) (la : Array Slot), Ext (kP C) (kM C) P M → Rep (kGl C) P M H → Own (kA C) P M → va_S (kA C) (kH C) H locs → LR (kGl C) P (kN C) la ls → kW C H locs cs ss pc la (st.map (vOf (kGl C) P))
def Ok (C : Cx) (cc : ByteArray) (own : String) (nL : Nat) (R : Room) (E : State → Array Value → List Frame → Method → (State → Prop) → Prop) : Prop :=
  ∃ (p : Program) (l : Launch) (e : Env) (s : State) (m : MethodId) (args : Array Value) (below : List Frame) (meth : Method) (c : Code) (Q : State → Prop),
    p.tables.exec = Jvm.exec ∧ c.code = cc ∧ c.maxLocals = nL ∧ s.vm.findClass own = some m.cls ∧ (∀ w ∈ tbG, w.before args s = true) ∧ VF (kGl C) s ∧ KS (kGl C) (kA C) s (kH C) ∧ s.heap = kH C ∧ (∀ q, (kH C).size ≤ q → kA C q) ∧ kN C = nL ∧
    kW C = (fun H locs cs ss pc la st => W p l e R s m args below meth c H locs cs ss Q (F0 m pc la st)) ∧ meth.locks = false ∧ E s args below meth Q
/-- a method's answer -/
def QC (gl : Gl) (P0 : Ad) (M0 : AM) (A : Nat → Prop) (post : Option AV → AM → Prop) : Array Value → State → Outcome → State → Prop := fun _ st o t =>
  ∃ (r : Option AV) (M1 : AM) (P1 : Ad), o = .returned (r.map (vOf gl P1)) ∧ post r M1 ∧ Ext P0 M0 P1 M1 ∧ Rep gl P1 M1 t.heap ∧ Own A P1 M1 ∧ va_F A st t
def End (C : Cx) (ret : Option FieldType) (nm : String) (post : Option AV → AM → Prop) (mc ms : Nat) : State → Array Value → List Frame → Method → (State → Prop) → Prop := fun s args below meth Q =>
  Q = MQ below (QC (kGl C) (kP C) (kM C) (kA C) post) args s mc ms (kA C) ∧ meth.sig.returnType = ret ∧ meth.name = nm
def ownA (P : Ad) (M : AM) (sz : Nat) : Nat → Prop := fun q => (∃ g k w, vld M g k w ∧ P g k w = q) ∨ sz ≤ q
def PCC (gl : Gl) (P0 : Ad) (M0 : AM) (sz : Nat) (av : List AV) : Array Value → State → Prop := fun args U =>
  args = (av.map (vOf gl P0)).toArray ∧ U.heap.size = sz ∧ Rep gl P0 M0 U.heap ∧ VF gl U ∧ KS gl (ownA P0 M0 sz) U U.heap
/-- a method's contract: over the world M0, with the arguments av, it answers as post says; h: how many calls deep it goes; mc cells of ms slots are new at most -/
def Con (y : MethodName) (b : ByteArray) (maxL : Nat) (ret : Option FieldType) (h mc ms : Nat) (av : List AV) (M0 : AM) (post : Option AV → AM → Prop) : Prop :=
  ∀ (l : Launch) (gl : Gl) (P0 : Ad) (sz : Nat), Met l y (Cond.code y b maxL ret :: tbG) { frames := h, cells := mc, slots := ms, locals := 40 * h } (PCC gl P0 M0 sz av) (QC gl P0 M0 (ownA P0 M0 sz) post) mc ms (ownA P0 M0 sz)
theorem con_of {y : MethodName} {b : ByteArray} {maxL : Nat} {ret : Option FieldType} {h mc ms : Nat} {av : List AV} {M0 : AM} {post : Option AV → AM → Prop} (own : String) (hy : plainName y.cls = true) (hown : y.cls = own) (hv : av.all (fun v => !isLong v) = true) (hn : av.length ≤ maxL)
    (body : ∀ C : Cx, kM C = M0 → Ok C b own maxL { frames := h, cells := mc, slots := ms, locals := 40 * h } (End C ret y.name post mc ms) → G C 0 0 0 (lsOf av maxL) [] M0) : Con y b maxL ret h mc ms av M0 post := by
  intro l gl P0 sz
  refine Met.ofW (cc := b) (maxL := maxL) (ret := ret) hy rfl ?_
  intro p e s m args below meth c s₁ B hml hP
  obtain ⟨rfl, hsz, hR, hV, hK⟩ := hP
  have hts := atoms_spec (ws := Cond.code y b maxL ret :: tbG) B.pre
  subst hsz
  rw [lg_entry_eq]
  refine body (gl, ownA P0 M0 s.heap.size, s.heap, maxL, P0, M0, fun H locs cs ss pc la st => W p l e { frames := h, cells := mc, slots := ms, locals := 40 * h } s m (av.map (vOf gl P0)).toArray below meth c H locs cs ss (MQ below (QC gl P0 M0 (ownA P0 M0 s.heap.size) post) (av.map (vOf gl P0)).toArray s mc ms (ownA P0 M0 s.heap.size)) (F0 m pc la st)) rfl
    ⟨p, l, e, s, m, _, below, meth, c, _, B.exec, B.bytes, hml, hown ▸ findClass_of_methodNamed B.named, fun w hw => hts w (List.mem_cons_of_mem _ hw), hV, hK, rfl, fun q hq => Or.inr hq, rfl, rfl, B.notSynchronized, rfl, B.returns, (name_of_methodNamed B.named B.method).1⟩
    P0 s.heap [] _ (Ext.refl _ _) hR (fun g k w v => Or.inl ⟨g, k, w, v, rfl⟩) va_S.rf (LR.entry hv hn)
