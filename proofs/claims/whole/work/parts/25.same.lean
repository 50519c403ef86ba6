/-! ===== two towns that are the same where it counts ===== -/
def Sm (v u : Vw) : Prop := vN v = vN u ∧ vMi v = vMi u ∧ vNo v = vNo u ∧ (∀ r, r < 6 → vWi v r = vWi u r) ∧ (∀ r, r < 6 → vPa v r = vPa u r) ∧ (∀ w, w < vN v → vKi v w = vKi u w) ∧ (∀ w, w < vN v → vPl v w = vPl u w) ∧ (∀ w, w < vN v → vPL v w = vPL u w) ∧ (∀ w, w < vN v → ∀ j, j < vPL v w → vPp v w j = vPp u w j) ∧ (∀ w, w < vN v → ∀ r, r < 6 → vLf v w r = vLf u w r)
section SM
variable {v u : Vw} {B : Nat}
theorem sm_n (h : Sm v u) : vN v = vN u := h.1
theorem sm_mi (h : Sm v u) : vMi v = vMi u := h.2.1
theorem sm_no (h : Sm v u) : vNo v = vNo u := h.2.2.1
theorem sm_wi (h : Sm v u) : ∀ r, r < 6 → vWi v r = vWi u r := h.2.2.2.1
theorem sm_pa (h : Sm v u) : ∀ r, r < 6 → vPa v r = vPa u r := h.2.2.2.2.1
theorem sm_ki (h : Sm v u) : ∀ w, w < vN v → vKi v w = vKi u w := h.2.2.2.2.2.1
theorem sm_pl (h : Sm v u) : ∀ w, w < vN v → vPl v w = vPl u w := h.2.2.2.2.2.2.1
theorem sm_pL (h : Sm v u) : ∀ w, w < vN v → vPL v w = vPL u w := h.2.2.2.2.2.2.2.1
theorem sm_pp (h : Sm v u) : ∀ w, w < vN v → ∀ j, j < vPL v w → vPp v w j = vPp u w j := h.2.2.2.2.2.2.2.2.1
theorem sm_lf (h : Sm v u) : ∀ w, w < vN v → ∀ r, r < 6 → vLf v w r = vLf u w r := h.2.2.2.2.2.2.2.2.2
theorem sm_rfl (v : Vw) : Sm v v := ⟨rfl, rfl, rfl, fun _ _ => rfl, fun _ _ => rfl, fun _ _ => rfl, fun _ _ => rfl, fun _ _ => rfl, fun _ _ _ _ => rfl, fun _ _ _ _ => rfl⟩
theorem sm_symm (h : Sm v u) : Sm u v := ⟨(sm_n h).symm, (sm_mi h).symm, (sm_no h).symm, fun r hr => (sm_wi h r hr).symm, fun r hr => (sm_pa h r hr).symm, fun w hw => (sm_ki h w (by rw [sm_n h]; exact hw)).symm, fun w hw => (sm_pl h w (by rw [sm_n h]; exact hw)).symm, fun w hw => (sm_pL h w (by rw [sm_n h]; exact hw)).symm, fun w hw j hj => (sm_pp h w (by rw [sm_n h]; exact hw) j (by rw [sm_pL h w (by rw [sm_n h]; exact hw)]; exact hj)).symm, fun w hw r hr => (sm_lf h w (by rw [sm_n h]; exact hw) r hr).symm⟩
theorem sm_trans {t : Vw} (h : Sm v u) (g : Sm u t) : Sm v t := by
  have n := sm_n h
  exact ⟨n.trans (sm_n g), (sm_mi h).trans (sm_mi g), (sm_no h).trans (sm_no g), fun r hr => (sm_wi h r hr).trans (sm_wi g r hr), fun r hr => (sm_pa h r hr).trans (sm_pa g r hr), fun w hw => (sm_ki h w hw).trans (sm_ki g w (by omega)), fun w hw => (sm_pl h w hw).trans (sm_pl g w (by omega)), fun w hw => (sm_pL h w hw).trans (sm_pL g w (by omega)), fun w hw j hj => (sm_pp h w hw j hj).trans (sm_pp g w (by omega) j (by rw [← sm_pL h w hw]; exact hj)), fun w hw r hr => (sm_lf h w hw r hr).trans (sm_lf g w (by omega) r hr)⟩
theorem sm_wf (h : Sm v u) (hv : wf B v) : wf B u := by
  have n := sm_n h
  refine ⟨by rw [← n]; exact wf_n (v := v) hv, by rw [← sm_mi h]; exact wf_mi (v := v) hv, by rw [← sm_no h]; exact wf_no (v := v) hv, fun r hr => by rw [← sm_wi h r hr]; exact wf_wi (v := v) hv r hr, fun r hr => by rw [← sm_pa h r hr]; exact wf_pa (v := v) hv r hr, fun a b ha hb => by rw [← sm_pa h a ha, ← sm_pa h b hb]; exact wf_sym (v := v) hv a b ha hb, fun a ha => by rw [← sm_pa h a ha]; exact wf_irr (v := v) hv a ha, fun w hw => ?_, fun w hw => ?_, fun w hw => ?_, fun w hw j hj => ?_, fun w hw r hr m hm => ?_⟩
  · rw [← sm_ki h w (by omega)]; exact wf_ki hv w (by omega)
  · rw [← sm_pl h w (by omega)]; exact wf_pl hv w (by omega)
  · rw [← sm_pL h w (by omega)]; exact wf_pL hv w (by omega)
  · rw [← sm_pL h w (by omega)] at hj
    rw [← sm_pp h w (by omega) j hj]
    exact wf_pp hv w (by omega) j hj
  · rw [← sm_lf h w (by omega) r hr] at hm
    rw [← sm_mi h]
    exact wf_lf hv w (by omega) r hr m hm
theorem sm_ageIn (h : Sm v u) {w r l m : Nat} (hw : w < vN v) (hr : r < 6) : ageIn v w r l m = ageIn u w r l m := by
  unfold ageIn
  rw [sm_ki h w hw, sm_mi h, sm_wi h r hr]
theorem sm_age (h : Sm v u) {w r l : Nat} (hw : w < vN v) (hr : r < 6) : age v w r l = age u w r l := by
  unfold age
  rw [sm_lf h w hw r hr]
  congr 1
  funext m
  exact sm_ageIn h hw hr
theorem sm_ends (h : Sm v u) {r s : Nat} {g : Bool} (hr : r < 6) : ∀ k, k ≤ vN v → ends v r s g k = ends u r s g k
  | 0, _ => rfl
  | k + 1, hk => by
    have ih := sm_ends h (s := s) (g := g) hr k (by omega)
    unfold ends
    rw [sm_age h (show k < vN v by omega) hr, ih]
theorem sm_endsN (h : Sm v u) {r s : Nat} {g : Bool} (hr : r < 6) : ends v r s g (vN v) = ends u r s g (vN u) := by
  rw [← sm_n h]
  exact sm_ends h hr _ (Nat.le_refl _)
theorem sm_isP (h : Sm v u) {a b : Nat} (ha : a < 6) : isP v a b = isP u a b := by unfold isP; rw [sm_pa h a ha]
theorem sm_fol (h : Sm v u) (hv : wf B v) {w : Nat} {g : Bool} (hw : w < vN v) : ∀ k, k ≤ 6 → fol v w g k = fol u w g k
  | 0, _ => by
    unfold fol
    rw [← sm_pl h w hw, sm_endsN h (wf_pl hv w hw)]
  | k + 1, hk => by
    have ih := sm_fol h hv (g := g) hw k (by omega)
    unfold fol
    rw [← sm_pl h w hw, sm_endsN h (show k < 6 by omega), ih, sm_isP h (wf_pl hv w hw)]
theorem sm_planned (h : Sm v u) (hv : wf B v) {w : Nat} (hw : w < vN v) : planned v w = planned u w := by
  unfold planned
  rw [← sm_pL h w hw, ← sm_pl h w hw, ← sm_mi h]
  by_cases h0 : vPL v w = 0
  · rw [if_pos h0, if_pos h0]
  · rw [if_neg h0, if_neg h0, ← sm_pp h w hw _ (Nat.mod_lt _ (by omega)), sm_isP h (wf_pl hv w hw)]
theorem sm_goal (h : Sm v u) (hv : wf B v) {w : Nat} (hw : w < vN v) : goal v w = goal u w := by
  unfold goal
  rw [← sm_ki h w hw, sm_fol h hv hw 6 (Nat.le_refl _), sm_fol h hv hw 6 (Nat.le_refl _), sm_planned h hv hw]
theorem sm_mstep (h : Sm v u) (hv : wf B v) : Sm (mstep v) (mstep u) := by
  have n := sm_n h
  refine ⟨n, by show vMi v + 1 = vMi u + 1; rw [sm_mi h], sm_no (v := v) (u := u) h, sm_wi (v := v) (u := u) h, sm_pa (v := v) (u := u) h, sm_ki (v := v) (u := u) h, fun w hw => ?_, sm_pL (v := v) (u := u) h, sm_pp (v := v) (u := u) h, fun w hw r hr => ?_⟩
  · have hw : w < vN v := hw
    show (if w < vN v then goal v w else vPl v w) = (if w < vN u then goal u w else vPl u w)
    rw [if_pos hw, if_pos (by omega), sm_goal h hv hw]
  · have hw : w < vN v := hw
    show (if (decide (w < vN v) && leaves v (goal v) w && decide (r = goal v w)) = true then some (vMi v + 1) else vLf v w r) = (if (decide (w < vN u) && leaves u (goal u) w && decide (r = goal u w)) = true then some (vMi u + 1) else vLf u w r)
    have e : leaves v (goal v) w = leaves u (goal u) w := by
      unfold leaves
      rw [sm_ki h w hw, sm_pl h w hw, sm_goal h hv hw]
    rw [e, ← n, ← sm_goal h hv hw, ← sm_mi h, sm_lf h w hw r hr]
theorem sm_goN (h : Sm v u) (hv : wf B v) : ∀ n, Sm (goN v n) (goN u n)
  | 0 => h
  | n + 1 => sm_mstep (sm_goN h hv n) (wf_goN hv n)
theorem sm_traces (h : Sm v u) {r : Nat} (hr : r < 6) : traces v r = traces u r := by
  unfold traces
  rw [← sm_n h]
  exact cnt_congr _ (fun w hw => by rw [sm_lf h w hw r hr])
theorem sm_smell (h : Sm v u) {r l w : Nat} (hw : w < vN v) (hr : r < 6) : smell v r l w = smell u r l w := by
  unfold smell
  rw [sm_lf h w hw r hr]
  cases vLf u w r with
  | none => rfl
  | some m => show ageIn v w r l m / vNo v = ageIn u w r l m / vNo u; rw [sm_ageIn h hw hr, sm_no h]
theorem sm_isNew (h : Sm v u) {r w : Nat} (hw : w < vN v) (hr : r < 6) : isNew v r w = isNew u r w := by
  unfold isNew
  rw [sm_lf h w hw r hr, anyB_congr (p := sameB v r w) (q := sameB u r w) w (fun k hk => by
    unfold sameB
    rw [sm_lf h k (by omega) r hr, sm_smell h (show k < vN v by omega) hr, sm_smell h hw hr])]
theorem sm_apart (h : Sm v u) {r : Nat} (hr : r < 6) : apart v r = apart u r := by
  unfold apart
  rw [← sm_n h]
  exact cnt_congr _ (fun w hw => sm_isNew h hw hr)
theorem sm_frs (h : Sm v u) {r l : Nat} (hr : r < 6) : ∀ k, k ≤ vN v → frs v r l k = frs u r l k
  | 0, _ => rfl
  | k + 1, hk => by
    have ih := sm_frs h (l := l) hr k (by omega)
    unfold frs
    rw [ih, sm_lf h k (by omega) r hr, sm_smell h (show k < vN v by omega) hr]
theorem sm_among (h : Sm v u) (hv : wf B v) {w : Nat} (hw : w < vN v) : among v w = among u w := by
  unfold among
  rw [← sm_pl h w hw, sm_endsN h (wf_pl hv w hw)]
theorem sm_amongM (h : Sm v u) (hv : wf B v) : maskOf (among v) (vN v) = maskOf (among u) (vN u) := by
  rw [← sm_n h]
  exact maskOf_congr _ (fun w hw => sm_among h hv hw)
theorem sm_emptyM (h : Sm v u) : ∀ k, k ≤ vN v → emptyM v k = emptyM u k
  | 0, _ => rfl
  | k + 1, hk => by
    unfold emptyM
    rw [sm_emptyM h k (by omega), sm_pl h k (by omega)]
theorem sm_upTo3 (h : Sm v u) {m r : Nat} (hr : r < 6) : upTo3 v m r = upTo3 u m r := by
  unfold upTo3
  rw [sm_endsN h hr]
theorem sm_upToM (h : Sm v u) {m : Nat} : maskOf (upTo3 v m) 6 = maskOf (upTo3 u m) 6 := maskOf_congr _ (fun _ hr => sm_upTo3 h hr)
theorem sm_within (h : Sm v u) {m : Nat} : ∀ k, k ≤ 6 → withinN v m k = withinN u m k
  | 0, _ => rfl
  | k + 1, hk => by
    unfold withinN
    rw [sm_within h k (by omega), sm_pa h k (by omega)]
theorem sm_rainC (h : Sm v u) (p : Nat → Bool) : rainC v p 6 = rainC u p 6 := by
  unfold rainC
  exact sumN_congr _ (fun r hr => by rw [sm_traces h hr])
theorem sm_rain (h : Sm v u) (p : Nat → Bool) : Sm (rainV v p 6) (rainV u p 6) := by
  refine ⟨sm_n (v := v) (u := u) h, sm_mi (v := v) (u := u) h, sm_no (v := v) (u := u) h, sm_wi (v := v) (u := u) h, sm_pa (v := v) (u := u) h, sm_ki (v := v) (u := u) h, sm_pl (v := v) (u := u) h, sm_pL (v := v) (u := u) h, sm_pp (v := v) (u := u) h, fun w hw r hr => ?_⟩
  have hw : w < vN v := hw
  show (if (decide (w < vN v) && decide (r < 6) && !p r) = true then none else vLf v w r) = (if (decide (w < vN u) && decide (r < 6) && !p r) = true then none else vLf u w r)
  rw [← sm_n h, sm_lf h w hw r hr]
theorem sm_scat (h : Sm v u) (z : Int32) (k : Nat) : Sm (scatV v z k) (scatV u z k) := by
  refine ⟨sm_n (v := v) (u := u) h, sm_mi (v := v) (u := u) h, sm_no (v := v) (u := u) h, sm_wi (v := v) (u := u) h, sm_pa (v := v) (u := u) h, sm_ki (v := v) (u := u) h, fun w hw => ?_, sm_pL (v := v) (u := u) h, sm_pp (v := v) (u := u) h, sm_lf (v := v) (u := u) h⟩
  have hw : w < vN v := hw
  show (if w < k then dv (sd z (w + 1)) else vPl v w) = (if w < k then dv (sd z (w + 1)) else vPl u w)
  rw [sm_pl h w hw]
theorem sm_sw (h : Sm v u) {f : Nat → Nat} {r : Nat} (hr : r < 6) : ∀ k, sw v f r k = sw u f r k
  | 0 => rfl
  | k + 1 => by
    unfold sw
    rw [sm_sw h hr k, sm_isP h hr]
theorem sm_toW (h : Sm v u) (num : Nat → Nat) (n : Nat) : ∀ m r, r < 6 → toW v num n m r = toW u num n m r
  | 0, _, _ => rfl
  | m + 1, r, hr => by
    show (if _ then sw v (toW v num n m) r 6 else 0) = (if _ then sw u (toW u num n m) r 6 else 0)
    rw [sm_sw h hr, sw_congr (v := u) (fun b hb => sm_toW h num n m b hb) hr 6 (Nat.le_refl _)]
theorem sm_onW (h : Sm v u) (num : Nat → Nat) (n : Nat) : ∀ m r, r < 6 → onW v num n m r = onW u num n m r
  | 0, _, _ => rfl
  | m + 1, r, hr => by
    show (if _ then sw v (onW v num n m) r 6 else 0) = (if _ then sw u (onW u num n m) r 6 else 0)
    rw [sm_sw h hr, sw_congr (v := u) (fun b hb => sm_onW h num n m b hb) hr 6 (Nat.le_refl _)]
theorem sm_becm (v o : Vw) (ho : ∀ w, w < vN o → vPL o w ≤ 6) : Sm (becm v o) o := by
  refine ⟨rfl, rfl, rfl, fun r hr => ?_, fun r hr => ?_, fun w hw => ?_, fun w hw => ?_, fun w hw => ?_, fun w hw j hj => ?_, fun w hw r hr => ?_⟩
  · exact if_pos hr
  · exact if_pos hr
  · exact if_pos hw
  · exact if_pos hw
  · exact if_pos hw
  · have hw : w < vN o := hw
    have hj : j < (if w < vN o then vPL o w else vPL v w) := hj
    rw [if_pos hw] at hj
    exact if_pos ⟨hw, by have := ho w hw; omega⟩
  · exact if_pos ⟨hw, hr⟩
theorem sm_bec {o : Vw} (v : Vw) (ho : wf B o) : Sm (becm v o) o := sm_becm v o (wf_pL ho)
theorem wf_becm {o : Vw} (v : Vw) (ho : wf B o) : wf B (becm v o) := sm_wf (sm_symm (sm_bec v ho)) ho
end SM
