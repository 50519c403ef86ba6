/-! ===== a callee's world: some groups of the caller's, and behind it ===== -/
def findI (g : Nat) : List Nat → Option Nat
  | [] => none
  | i :: is => if g = i then some 0 else (findI g is).map (· + 1)
theorem findI_cons (g i : Nat) (is : List Nat) : findI g (i :: is) = if g = i then some 0 else (findI g is).map (· + 1) := rfl
def putG (M : AM) (is : List Nat) (M1 : AM) : AM := match is with
  | [] => M ++ M1
  | i :: is => match M1 with
    | [] => M
    | g :: M1 => putG (M.set i g) is M1
termination_by structural is
def pj (P P1 : Ad) (is : List Nat) (n : Nat) : Ad := fun g k w => match findI g is with
  | some j => P1 j k w
  | none => if g < n then P g k w else P1 (is.length + (g - n)) k w
def allSG (f : Nat → Bool) (M : AM) : Bool := M.all fun q => q.all fun c => match c with
  | .inl o => o.2.all fun sv => match sv with
    | .inr (.inr (.inl j)) => f j
    | _ => true
  | _ => true
def gIn (is : List Nat) (M1 : AM) : Bool := allSG (fun j => decide (j < is.length) && decide (is.getD j 0 = j)) M1
def gOut (is : List Nat) (n : Nat) (M1 : AM) : Bool := decide (is.length ≤ M1.length) && allSG (fun j => decide ((if j < is.length then is.getD j 0 else n + (j - is.length)) = j)) M1
def gAll (M : AM) : Bool := allSG (fun j => match M[j]? with
  | some (_ :: _) => true
  | _ => false) M
def subG (M : AM) (is : List Nat) (M1 : AM) : Prop := is.map (fun i => M[i]?) = M1.map some
theorem findI_some {g : Nat} : ∀ {is : List Nat} {j : Nat}, findI g is = some j → is[j]? = some g := by
  intro is
  induction is with
  | nil => intro j h; cases h
  | cons i is ih =>
    intro j h
    rw [findI_cons] at h
    by_cases e : g = i
    · rw [if_pos e] at h
      cases h
      rw [List.getElem?_cons_zero, e]
    · rw [if_neg e] at h
      cases hf : findI g is with
      | none => rw [hf] at h; cases h
      | some j' =>
        rw [hf] at h
        cases h
        rw [List.getElem?_cons_succ]
        exact ih hf
theorem findI_none {g : Nat} : ∀ {is : List Nat}, findI g is = none → g ∉ is := by
  intro is
  induction is with
  | nil => intro _ h; cases h
  | cons i is ih =>
    intro h hm
    rw [findI_cons] at h
    by_cases e : g = i
    · rw [if_pos e] at h; cases h
    · rw [if_neg e] at h
      cases hf : findI g is with
      | some j' => rw [hf] at h; cases h
      | none =>
        rcases List.mem_cons.mp hm with q | q
        · exact e q
        · exact ih hf q
theorem findI_at {is : List Nat} (hn : is.Nodup) {j g : Nat} (h : is[j]? = some g) : findI g is = some j := by
  cases hf : findI g is with
  | none => exact absurd (List.mem_of_getElem? h) (findI_none hf)
  | some j' =>
    have h2 := findI_some hf
    have hj : j < is.length := (List.getElem?_eq_some_iff.mp h).1
    have := (List.getElem?_inj hj hn).mp (h.trans h2.symm)
    rw [this]
theorem putG_get : ∀ (is : List Nat) (M M1 : AM), (∀ i ∈ is, i < M.length) → is.Nodup → is.length ≤ M1.length → ∀ g : Nat, (putG M is M1)[g]? = match findI g is with
    | some j => M1[j]?
    | none => if g < M.length then M[g]? else M1[is.length + (g - M.length)]? := by
  intro is
  induction is with
  | nil =>
    intro M M1 _ _ _ g
    show (M ++ M1)[g]? = if g < M.length then M[g]? else M1[0 + (g - M.length)]?
    by_cases h : g < M.length
    · rw [if_pos h, List.getElem?_append_left h]
    · rw [if_neg h, List.getElem?_append_right (by omega), Nat.zero_add]
  | cons i is ih =>
    intro M M1 hi hn hl g
    cases M1 with
    | nil => simp at hl
    | cons q M1 =>
      have hn2 := List.nodup_cons.mp hn
      have e := ih (M.set i q) M1 (fun x hx => by rw [List.length_set]; exact hi x (List.mem_cons_of_mem _ hx)) hn2.2 (by simpa using hl) g
      show (putG (M.set i q) is M1)[g]? = _
      rw [e, findI_cons]
      by_cases hg : g = i
      · subst hg
        rw [if_pos rfl]
        cases hf : findI g is with
        | some j => exact absurd (List.mem_of_getElem? (findI_some hf)) hn2.1
        | none =>
          show (if g < (M.set g q).length then (M.set g q)[g]? else _) = (q :: M1)[0]?
          have := hi g List.mem_cons_self
          rw [if_pos (by rw [List.length_set]; exact this), List.getElem?_set_self this]
          rfl
      · rw [if_neg hg]
        cases hf : findI g is with
        | some j => rfl
        | none =>
          show (if g < (M.set i q).length then (M.set i q)[g]? else M1[is.length + (g - (M.set i q).length)]?) = (if g < M.length then M[g]? else (q :: M1)[(i :: is).length + (g - M.length)]?)
          rw [List.length_set, List.getElem?_set_ne (Ne.symm hg)]
          congr 1
          rw [List.length_cons, show is.length + 1 + (g - M.length) = (is.length + (g - M.length)) + 1 by omega, List.getElem?_cons_succ]
theorem allSG_at {f : Nat → Bool} {M : AM} (h : allSG f M = true) {g k : Nat} {q : Nat × List SV} (hc : getM M g k = some (.inl q)) {j : Nat} (hj : sG j ∈ q.2) : f j = true := by
  obtain ⟨G, h1, h2⟩ := getM_some.mp hc
  have a := List.all_eq_true.mp h G (List.mem_of_getElem? h1)
  have b := List.all_eq_true.mp a _ (List.mem_of_getElem? h2)
  exact List.all_eq_true.mp b _ hj
theorem cellAt.moveP {gl : Gl} {P P' : Ad} {g g' k : Nat} {H : Heap} {c : ACell} (h : cellAt gl P g k H c) (hP : ∀ k w, P' g' k w = P g k w) (hG : ∀ q : Nat × List SV, c = .inl q → ∀ j, sG j ∈ q.2 → P' j 0 0 = P j 0 0) : cellAt gl P' g' k H c := by
  rcases c with q | q | q | q
  · have e : q.2.map (sOf P' g') = q.2.map (sOf P g) := by
      refine List.map_congr_left fun sv hsv => ?_
      rcases sv with x | x | x | x
      · rfl
      · show Value.ref _ = Value.ref _
        rw [hP]
      · show Value.ref _ = Value.ref _
        rw [hG q rfl x hsv]
      · rfl
    show va_at gl.1 vwCl (P' g' k 0, .inr (q.1, q.2.map (sOf P' g'))) H
    rw [e, hP]
    exact h
  · show H[P' g' k 0]? = _
    rw [hP]
    exact h
  · show H[P' g' k 0]? = _
    rw [hP]
    exact h
  · refine ⟨?_, fun i hi => ?_⟩
    · rw [hP]
      refine h.1.trans ?_
      congr 2
      funext i
      rw [hP]
    · rw [hP]
      exact h.2 i hi
theorem subG_at {M M1 : AM} {is : List Nat} (h : subG M is M1) {j : Nat} {q : List ACell} (hq : M1[j]? = some q) : ∃ i, is[j]? = some i ∧ M[i]? = some q := by
  have e : (is.map (fun i => M[i]?))[j]? = some (some q) := by rw [h, List.getElem?_map, hq]; rfl
  rw [List.getElem?_map] at e
  cases hi : is[j]? with
  | none => rw [hi] at e; cases e
  | some i => rw [hi] at e; exact ⟨i, rfl, Option.some.inj e⟩
theorem subG_len {M M1 : AM} {is : List Nat} (h : subG M is M1) : is.length = M1.length := by
  have := congrArg List.length h
  simpa using this
theorem subG_lt {M M1 : AM} {is : List Nat} (h : subG M is M1) : ∀ i ∈ is, i < M.length := by
  intro i hi
  obtain ⟨j, hj⟩ := List.getElem?_of_mem hi
  have hj1 : j < is.length := (List.getElem?_eq_some_iff.mp hj).1
  have hj2 : j < M1.length := by rw [← subG_len h]; exact hj1
  obtain ⟨i', h1, h2⟩ := subG_at h (List.getElem?_eq_getElem hj2)
  rw [hj] at h1
  cases h1
  exact (List.getElem?_eq_some_iff.mp h2).1
def subP (P : Ad) (is : List Nat) : Ad := fun j k w => P (is.getD j 0) k w
theorem getD_of {is : List Nat} {j i : Nat} (h : is[j]? = some i) : is.getD j 0 = i := by rw [List.getD_eq_getElem?_getD, h]; rfl
theorem sub_get {M M1 : AM} {is : List Nat} (h : subG M is M1) {j k : Nat} {c : ACell} (hc : getM M1 j k = some c) : ∃ i, is[j]? = some i ∧ getM M i k = some c := by
  obtain ⟨q, h1, h2⟩ := getM_some.mp hc
  obtain ⟨i, h3, h4⟩ := subG_at h h1
  exact ⟨i, h3, getM_some.mpr ⟨q, h4, h2⟩⟩
theorem sub_old {M M1 : AM} {is : List Nat} (h : subG M is M1) {j i k : Nat} (hi : is[j]? = some i) (ho : old M i k) : old M1 j k := by
  obtain ⟨q, h1, h2⟩ := ho
  have hj1 : j < is.length := (List.getElem?_eq_some_iff.mp hi).1
  have hj2 : j < M1.length := by rw [← subG_len h]; exact hj1
  obtain ⟨i', h3, h4⟩ := subG_at h (List.getElem?_eq_getElem hj2)
  rw [hi] at h3
  cases h3
  rw [h1] at h4
  cases h4
  exact ⟨_, List.getElem?_eq_getElem hj2, h2⟩
theorem Rep.sub {gl : Gl} {P : Ad} {M M1 : AM} {H : Heap} (h : Rep gl P M H) {is : List Nat} (hs : subG M is M1) (hn : is.Nodup) (hg : gIn is M1 = true) : Rep gl (subP P is) M1 H := by
  refine ⟨fun j k c hc => ?_, fun j k w j' k' w' v1 v2 e => ?_⟩
  · obtain ⟨i, h1, h2⟩ := sub_get hs hc
    refine (h.1 i k c h2).moveP (fun k w => by show P (is.getD j 0) k w = _; rw [getD_of h1]) (fun q hq x hx => ?_)
    subst hq
    have := allSG_at hg hc hx
    simp only [Bool.and_eq_true, decide_eq_true_eq] at this
    show P (is.getD x 0) 0 0 = _
    rw [this.2]
  · obtain ⟨c, c1, c2⟩ := v1
    obtain ⟨c', c1', c2'⟩ := v2
    obtain ⟨i, h1, h2⟩ := sub_get hs c1
    obtain ⟨i', h1', h2'⟩ := sub_get hs c1'
    have e' : P i k w = P i' k' w' := by
      have e0 : P (is.getD j 0) k w = P (is.getD j' 0) k' w' := e
      rw [getD_of h1, getD_of h1'] at e0
      exact e0
    obtain ⟨a1, a2, a3⟩ := h.2 i k w i' k' w' ⟨c, h2, c2⟩ ⟨c', h2', c2'⟩ e'
    subst a1
    have hj : j < is.length := (List.getElem?_eq_some_iff.mp h1).1
    exact ⟨(List.getElem?_inj hj hn).mp (h1.trans h1'.symm), a2, a3⟩
/-- behind a call -/
theorem gAll_at {M : AM} (h : gAll M = true) {g k : Nat} {q : Nat × List SV} (hc : getM M g k = some (.inl q)) {j : Nat} (hj : sG j ∈ q.2) : old M j 0 := by
  have a := allSG_at h hc hj
  cases hm : M[j]? with
  | none => rw [hm] at a; cases a
  | some G =>
    cases G with
    | nil => rw [hm] at a; cases a
    | cons x G => exact ⟨x :: G, hm, by simp⟩
theorem Rep.join {gl : Gl} {P P1 : Ad} {M M0 M1 : AM} {H H1 : Heap} {A : Nat → Prop} (h : Rep gl P M H) (hO : Own A P M) (hA : ∀ q, H.size ≤ q → A q) {is : List Nat} (hs : subG M is M0) (hn : is.Nodup) (hgM : gAll M = true) (hgo : gOut is M.length M1 = true)
    (hE : Ext (subP P is) M0 P1 M1) (hR : Rep gl P1 M1 H1) (hO1 : Own (ownA (subP P is) M0 H.size) P1 M1) (hk : ∀ q : Nat, q < H.size → ¬ ownA (subP P is) M0 H.size q → H1[q]? = H[q]?) :
    Rep gl (pj P P1 is M.length) (putG M is M1) H1 ∧ Own A (pj P P1 is M.length) (putG M is M1) ∧ Ext P M (pj P P1 is M.length) (putG M is M1) := by
  unfold gOut at hgo
  simp only [Bool.and_eq_true, decide_eq_true_eq] at hgo
  obtain ⟨hlen, hgo⟩ := hgo
  have hlt := subG_lt hs
  have hget := putG_get is M M1 hlt hn hlen
  -- where a cell of the joined world comes from
  have src : ∀ g k c, getM (putG M is M1) g k = some c → (∃ j, (∀ k w, pj P P1 is M.length g k w = P1 j k w) ∧ getM M1 j k = some c ∧ ((findI g is = some j) ∨ (findI g is = none ∧ M.length ≤ g ∧ j = is.length + (g - M.length)))) ∨ ((∀ k w, pj P P1 is M.length g k w = P g k w) ∧ getM M g k = some c ∧ findI g is = none ∧ g < M.length) := by
    intro g k c hc
    obtain ⟨q, h1, h2⟩ := getM_some.mp hc
    rw [hget g] at h1
    cases hf : findI g is with
    | some j =>
      rw [hf] at h1
      exact Or.inl ⟨j, fun k w => by simp only [pj, hf], getM_some.mpr ⟨q, h1, h2⟩, Or.inl rfl⟩
    | none =>
      rw [hf] at h1
      by_cases hg : g < M.length
      · simp only [hg, if_true] at h1
        exact Or.inr ⟨fun k w => by simp only [pj, hf, hg, if_true], getM_some.mpr ⟨q, h1, h2⟩, rfl, hg⟩
      · simp only [hg, if_false] at h1
        exact Or.inl ⟨is.length + (g - M.length), fun k w => by simp only [pj, hf, hg, if_false], getM_some.mpr ⟨q, h1, h2⟩, Or.inr ⟨rfl, by omega, rfl⟩⟩
  have ownNot : ∀ g k w, vld M g k w → findI g is = none → ¬ ownA (subP P is) M0 H.size (P g k w) := by
    intro g k w hv hf ho
    rcases ho with ⟨j, k', w', v, e⟩ | ho
    · obtain ⟨c, c1, c2⟩ := v
      obtain ⟨i, h1, h2⟩ := sub_get hs c1
      have e' : P i k' w' = P g k w := by
        have e0 : P (is.getD j 0) k' w' = P g k w := e
        rw [getD_of h1] at e0
        exact e0
      obtain ⟨a1, -, -⟩ := h.2 i k' w' g k w ⟨c, h2, c2⟩ hv e'
      subst a1
      exact findI_none hf (List.mem_of_getElem? h1)
    · have := h.lt hv
      omega
  have ownIn : ∀ q, ownA (subP P is) M0 H.size q → A q := by
    intro q ho
    rcases ho with ⟨j, k', w', v, e⟩ | ho
    · obtain ⟨c, c1, c2⟩ := v
      obtain ⟨i, h1, h2⟩ := sub_get hs c1
      have e' : P i k' w' = q := by
        have e0 : P (is.getD j 0) k' w' = q := e
        rw [getD_of h1] at e0
        exact e0
      rw [← e']
      exact hO i k' w' ⟨c, h2, c2⟩
    · exact hA q ho
  have ext : Ext P M (pj P P1 is M.length) (putG M is M1) := by
    intro g k ho
    obtain ⟨q, h1, h2⟩ := ho
    have hg : g < M.length := (List.getElem?_eq_some_iff.mp h1).1
    cases hf : findI g is with
    | some j =>
      have hj := findI_some hf
      have o0 : old M0 j k := sub_old hs hj ⟨q, h1, h2⟩
      obtain ⟨o1, e1⟩ := hE j k o0
      refine ⟨?_, fun w => ?_⟩
      · obtain ⟨q1, a1, a2⟩ := o1
        exact ⟨q1, by rw [hget g, hf]; exact a1, a2⟩
      · simp only [pj, hf]
        rw [e1 w]
        show P (is.getD j 0) k w = _
        rw [getD_of hj]
    | none =>
      refine ⟨⟨q, by rw [hget g, hf]; simp only [hg, if_true]; exact h1, h2⟩, fun w => ?_⟩
      simp only [pj, hf, hg, if_true]
  refine ⟨⟨fun g k c hc => ?_, fun g k w g' k' w' v1 v2 e => ?_⟩, fun g k w v => ?_, fun g k ho => ?_⟩
  · rcases src g k c hc with ⟨j, hP, hc1, -⟩ | ⟨hP, hc1, hf, hg⟩
    · refine (hR.1 j k c hc1).moveP hP (fun q hq x hx => ?_)
      subst hq
      have h9 := allSG_at hgo hc1 hx
      simp only [decide_eq_true_eq] at h9
      by_cases hxl : x < is.length
      · rw [if_pos hxl] at h9
        have hx2 : is[x]? = some x := by
          rw [List.getElem?_eq_getElem hxl]
          rw [List.getD_eq_getElem?_getD, List.getElem?_eq_getElem hxl] at h9
          exact congrArg some h9
        simp only [pj, findI_at hn hx2]
      · rw [if_neg hxl] at h9
        have hf : findI x is = none := by
          cases hf : findI x is with
          | none => rfl
          | some j' =>
            have := hlt x (List.mem_of_getElem? (findI_some hf))
            omega
        have hx3 : ¬ x < M.length := by omega
        simp only [pj, hf, hx3, if_false]
        rw [show is.length + (x - M.length) = x by omega]
    · have hcell := h.1 g k c hc1
      have hcell1 : cellAt gl P g k H1 c := hcell.kept (fun w hw => hk _ (hcell.lt hw) (ownNot g k w ⟨c, hc1, hw⟩ hf))
      refine hcell1.moveP hP (fun q hq x hx => ?_)
      subst hq
      exact (ext x 0 (gAll_at hgM hc1 hx)).2 0
  · obtain ⟨c, c1, c2⟩ := v1
    obtain ⟨c', c1', c2'⟩ := v2
    rcases src g k c c1 with ⟨j, hP, hc1, hj⟩ | ⟨hP, hc1, hf, hg⟩ <;> rcases src g' k' c' c1' with ⟨j', hP', hc1', hj'⟩ | ⟨hP', hc1', hf', hg'⟩
    · rw [hP, hP'] at e
      obtain ⟨a1, a2, a3⟩ := hR.2 j k w j' k' w' ⟨c, hc1, c2⟩ ⟨c', hc1', c2'⟩ e
      refine ⟨?_, a2, a3⟩
      subst a1
      rcases hj with hj | ⟨hj1, hj2, hj3⟩ <;> rcases hj' with hj' | ⟨hj1', hj2', hj3'⟩
      · have := (findI_some hj).symm.trans (findI_some hj')
        exact Option.some.inj this
      · have := (List.getElem?_eq_some_iff.mp (findI_some hj)).1
        omega
      · have := (List.getElem?_eq_some_iff.mp (findI_some hj')).1
        omega
      · omega
    · rw [hP, hP'] at e
      exact absurd (by rw [← e]; exact hO1 j k w ⟨c, hc1, c2⟩) (ownNot g' k' w' ⟨c', hc1', c2'⟩ hf')
    · rw [hP, hP'] at e
      exact absurd (by rw [e]; exact hO1 j' k' w' ⟨c', hc1', c2'⟩) (ownNot g k w ⟨c, hc1, c2⟩ hf)
    · rw [hP, hP'] at e
      exact h.2 g k w g' k' w' ⟨c, hc1, c2⟩ ⟨c', hc1', c2'⟩ e
  · obtain ⟨c, c1, c2⟩ := v
    rcases src g k c c1 with ⟨j, hP, hc1, -⟩ | ⟨hP, hc1, hf, hg⟩
    · rw [hP]
      exact ownIn _ (hO1 j k w ⟨c, hc1, c2⟩)
    · rw [hP]
      exact hO g k w ⟨c, hc1, c2⟩
  · exact ext g k ho
