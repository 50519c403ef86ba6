/-! ===== the same answer out of two states that say the same ===== -/
theorem tn_lt {x : Int32} {n : Nat} (hn : n < 2 ^ 31) (h : 0 ≤ x ∧ x < nI n) : tn x < n := by
  have a := Int32.le_iff_toInt_le.mp h.1
  have b := Int32.lt_iff_toInt_lt.mp h.2
  rw [nI_toInt hn] at b
  have z : (0 : Int32).toInt = 0 := rfl
  rw [z] at a
  unfold tn
  omega
theorem tn6 {x : Int32} (h : 0 ≤ x ∧ x < nI 6) : tn x < 6 := tn_lt (by omega) h
theorem outN_0 {x : Int32} {a b : Nat} (ha : a < 2 ^ 31) (hb : b < 2 ^ 31) (h : outN x (nI a) (nI b) = 0) : a ≤ tn x ∧ tn x ≤ b := by
  unfold outN at h
  split at h
  · exact absurd h (by omega)
  · rename_i h1
    split at h
    · exact absurd h (by omega)
    · rename_i h2
      have a1 := Int32.le_iff_toInt_le.mp (Int32.not_lt.mp h1)
      have b1 := Int32.le_iff_toInt_le.mp (Int32.not_lt.mp h2)
      rw [nI_toInt ha] at a1
      rw [nI_toInt hb] at b1
      unfold tn
      omega
theorem wf_in {B : Nat} {v : Vw} {x : Int32} (hv : wf B v) (h : 0 ≤ x ∧ x < nI (vN v)) : tn x < vN v := tn_lt (by have := wf_n hv; omega) h
section SO
variable {v u : Vw} {x y z w : Int32}
theorem so_room {p q : Nat → Bool} (h : Sm v u) (hp : ∀ r, r < 6 → p r = q r) : oRoom v p x w = oRoom u q x w := by
  unfold oRoom
  by_cases c : 0 ≤ x ∧ x < nI 6
  · have t := tn6 c
    rw [if_pos c, if_pos c, sm_wi h _ t, sm_pa h _ t, hp _ t]
  · rw [if_neg c, if_neg c]
theorem so_walker (h : Sm v u) (hv : wf 99 v) : oWalker v x w = oWalker u x w := by
  unfold oWalker
  rw [← sm_n h]
  by_cases c : 0 ≤ x ∧ x < nI (vN v)
  · have t := wf_in hv c
    rw [if_pos c, if_pos c, sm_ki h _ t, sm_pl h _ t, sm_pL h _ t, sm_goal h hv t]
  · rw [if_neg c, if_neg c]
theorem so_put (h : Sm v u) (hv : wf 99 v) : oPut v x y = oPut u x y := by
  unfold oPut
  rw [← sm_n h]
  by_cases c : (0 ≤ x ∧ x < nI (vN v)) ∧ (0 ≤ y ∧ y < nI 6)
  · have t := wf_in hv c.1
    rw [if_pos c, if_pos c, sm_pl h _ t]
  · rw [if_neg c, if_neg c]
theorem sn_put (h : Sm v u) : Sm (nPut v x y) (nPut u x y) := by
  unfold nPut
  rw [← sm_n h]
  by_cases c : (0 ≤ x ∧ x < nI (vN v)) ∧ (0 ≤ y ∧ y < nI 6)
  · rw [if_pos c, if_pos c]
    refine ⟨sm_n (v := v) (u := u) h, sm_mi (v := v) (u := u) h, sm_no (v := v) (u := u) h, sm_wi (v := v) (u := u) h, sm_pa (v := v) (u := u) h, sm_ki (v := v) (u := u) h, fun w hw => ?_, sm_pL (v := v) (u := u) h, sm_pp (v := v) (u := u) h, sm_lf (v := v) (u := u) h⟩
    show updN (vPl v) (tn x) (tn y) w = updN (vPl u) (tn x) (tn y) w
    unfold updN
    split
    · rfl
    · exact sm_pl h w hw
  · rw [if_neg c, if_neg c]
    exact h
theorem wn_put (hv : wf 99 v) : wf 99 (nPut v x y) := by
  unfold nPut
  split
  · rename_i c
    refine ⟨wf_n (v := v) hv, wf_mi (v := v) hv, wf_no (v := v) hv, wf_wi (v := v) hv, wf_pa (v := v) hv, wf_sym (v := v) hv, wf_irr (v := v) hv, wf_ki (v := v) hv, fun w hw => ?_, wf_pL (v := v) hv, wf_pp (v := v) hv, wf_lf (v := v) hv⟩
    show updN (vPl v) (tn x) (tn y) w < 6
    unfold updN
    split
    · exact tn6 c.2
    · exact wf_pl hv w hw
  · exact hv
theorem kWind_0 (h : kWind x y = 0) : (0 ≤ x ∧ x < nI 6) ∧ tn y ≤ 3 := by
  unfold kWind at h
  split at h
  · rename_i c
    exact ⟨c, (outN_0 (by omega) (by omega) h).2⟩
  · exact absurd h (by omega)
theorem so_wind (h : Sm v u) : oWind v x y = oWind u x y := by
  unfold oWind
  by_cases c : kWind x y = 0
  · rw [if_pos c, if_pos c, sm_wi h _ (tn6 (kWind_0 c).1)]
  · rw [if_neg c, if_neg c]
theorem sn_wind (h : Sm v u) : Sm (nWind v x y) (nWind u x y) := by
  unfold nWind
  split
  · exact sm_wind h _ _
  · exact h
theorem wn_wind (hv : wf 99 v) : wf 99 (nWind v x y) := by
  unfold nWind
  split
  · rename_i c
    exact wf_wind hv (kWind_0 c).2
  · exact hv
theorem so_nose (h : Sm v u) : oNose v x = oNose u x := by
  unfold oNose
  rw [sm_no h]
theorem sn_nose (h : Sm v u) : Sm (nNose v x) (nNose u x) := by
  unfold nNose
  split
  · exact sm_nose h _
  · exact h
theorem wn_nose (hv : wf 99 v) : wf 99 (nNose v x) := by
  unfold nNose
  split
  · rename_i c
    have t := outN_0 (x := x) (a := 1) (b := 9) (by omega) (by omega) c
    exact wf_nose hv t.1 t.2
  · exact hv
theorem so_pass (h : Sm v u) : oPass v x = oPass u x := by
  unfold oPass kPass
  rw [sm_mi h]
theorem sn_pass (h : Sm v u) (hv : wf 99 v) : Sm (nPass v x) (nPass u x) := by
  unfold nPass kPass
  rw [sm_mi h]
  split
  · exact sm_goN h hv _
  · exact h
theorem wn_pass (hv : wf 99 v) : wf 99 (nPass v x) := by
  unfold nPass
  split
  · rename_i c
    have t := (outN_0 (x := x) (a := 1) (b := min 40 (99 - vMi v)) (by omega) (by omega) c).2
    have m := wf_mi hv
    have hw : wf (vMi v) v := ⟨hv.1, Nat.le_refl _, hv.2.2⟩
    exact wf_up (wf_goN hw _) (by omega)
  · exact hv
theorem so_rain {p q : Nat → Bool} (h : Sm v u) (hp : ∀ r, r < 6 → p r = q r) : oRain v p = oRain u q := by
  unfold oRain
  rw [sm_rainC h p, show rainC u p 6 = rainC u q 6 from sumN_congr 6 (fun i hi => by rw [hp i hi])]
theorem sn_rain {p q : Nat → Bool} (h : Sm v u) (hp : ∀ r, r < 6 → p r = q r) : Sm (rainV v p 6) (rainV u q 6) := by
  refine sm_trans (sm_rain h p) ⟨rfl, rfl, rfl, fun _ _ => rfl, fun _ _ => rfl, fun _ _ => rfl, fun _ _ => rfl, fun _ _ => rfl, fun _ _ _ _ => rfl, fun w hw r hr => ?_⟩
  show (if (decide (w < vN u) && decide (r < 6) && !p r) = true then none else vLf u w r) = (if (decide (w < vN u) && decide (r < 6) && !q r) = true then none else vLf u w r)
  rw [hp r hr]
theorem so_age (h : Sm v u) (hv : wf 99 v) : oAge v x y = oAge u x y := by
  unfold oAge
  rw [← sm_n h]
  by_cases c : (0 ≤ x ∧ x < nI (vN v)) ∧ (0 ≤ y ∧ y < nI 6)
  · rw [if_pos c, if_pos c, sm_age h (wf_in hv c.1) (tn6 c.2)]
  · rw [if_neg c, if_neg c]
theorem so_smelt (h : Sm v u) : oSmelt v x w = oSmelt u x w := by
  unfold oSmelt
  by_cases c : 0 ≤ x ∧ x < nI 6
  · have t := tn6 c
    rw [if_pos c, if_pos c, sm_traces h t, sm_endsN h t, sm_endsN h t, sm_apart h t]
  · rw [if_neg c, if_neg c]
theorem kBehind_0 (hv : wf 99 v) (h : kBehind v x y = 0) : tn x < vN v := by
  unfold kBehind at h
  split at h
  · rename_i c
    exact wf_in hv c
  · exact absurd h (by omega)
theorem so_behind (h : Sm v u) (hv : wf 99 v) : oBehind v x y = oBehind u x y := by
  have e : kBehind u x y = kBehind v x y := by unfold kBehind; rw [sm_n h]
  unfold oBehind
  rw [e]
  by_cases c : kBehind v x y = 0
  · rw [if_pos c, if_pos c, sm_pl (sm_goN h hv _) _ (by rw [goN_n]; exact kBehind_0 hv c)]
  · rw [if_neg c, if_neg c]
theorem kFresh_0 (h : kFresh x y = 0) : tn x < 6 := by
  unfold kFresh at h
  split at h
  · rename_i c
    exact tn6 c
  · exact absurd h (by omega)
theorem so_fresh (h : Sm v u) (hv : wf 99 v) : oFresh v x y = oFresh u x y := by
  unfold oFresh
  by_cases c : kFresh x y = 0
  · rw [if_pos c, if_pos c, sm_endsN (sm_goN h hv _) (kFresh_0 c)]
  · rw [if_neg c, if_neg c]
theorem so_scent (h : Sm v u) (hv : wf 99 v) : oScent v x = oScent u x := by
  unfold oScent
  rw [sm_amongM (sm_goN h hv _) (wf_goN hv _)]
theorem so_meet (h : Sm v u) (hv : wf 99 v) : oMeet v x y = oMeet u x y := by
  unfold oMeet
  rw [← sm_n h]
  by_cases c : (0 ≤ x ∧ x < nI (vN v)) ∧ (0 ≤ y ∧ y < nI (vN v)) ∧ x ≠ y
  · rw [if_pos c, if_pos c, fst_congr (p := meetB v (tn x) (tn y)) (q := meetB u (tn x) (tn y)) 41 (fun k _ => by
      unfold meetB
      rw [sm_pl (sm_goN h hv k) _ (by rw [goN_n]; exact wf_in hv c.1), sm_pl (sm_goN h hv k) _ (by rw [goN_n]; exact wf_in hv c.2.1)])]
  · rw [if_neg c, if_neg c]
theorem so_walked (h : Sm v u) {num : Nat → Nat} {nin : Nat} : oWalked v num nin x = oWalked u num nin x := by
  unfold oWalked
  rw [sumN_congr (f := toW v num (tn x) (tn x)) (g := toW u num (tn x) (tn x)) 6 (fun r hr => sm_toW h num _ _ r hr)]
theorem so_thru (h : Sm v u) {num : Nat → Nat} {n k r : Nat} (hr : r < 6) : thru v num n k r = thru u num n k r := by
  unfold thru
  rw [sm_toW h num n k r hr, sm_onW h num n (n - k) r hr]
theorem so_likeliest (h : Sm v u) {num : Nat → Nat} {nin : Nat} : oLikeliest v num nin x y = oLikeliest u num nin x y := by
  unfold oLikeliest
  rw [com_congr (f := thru v num (tn x) (tn y)) (g := thru u num (tn x) (tn y)) 6 (fun r hr => so_thru h hr)]
theorem so_sure (h : Sm v u) {num : Nat → Nat} {nin : Nat} : oSure v num nin x y = oSure u num nin x y := by
  unfold oSure
  rw [maskOf_congr (p := fun r => decide (0 < thru v num (tn x) (tn y) r)) (q := fun r => decide (0 < thru u num (tn x) (tn y) r)) 6 (fun r hr => by rw [so_thru h hr])]
theorem so_soon (h : Sm v u) (hv : wf 99 v) {f : Bool} : oSoon v f x y = oSoon u f x y := by
  unfold oSoon
  rw [fst_congr (p := soonB v f (tn x) (tn y)) (q := soonB u f (tn x) (tn y)) 41 (fun k _ => by unfold soonB; rw [sm_reach h hv k])]
theorem so_told (h : Sm v u) : oTold v x = oTold u x := by
  unfold oTold
  by_cases c : 0 ≤ x ∧ x < nI 6
  · have t := tn6 c
    rw [if_pos c, if_pos c]
    unfold toldI
    rw [sm_traces h t, fst_congr (p := fun l => !aloneB v (tn x) l) (q := fun l => !aloneB u (tn x) l) 41 (fun l _ => by
      show (!aloneB v (tn x) l) = (!aloneB u (tn x) l)
      unfold aloneB
      rw [sm_frs h t _ (Nat.le_refl _), sm_n h])]
  · rw [if_neg c, if_neg c]
theorem so_judge (h : Sm v u) {num : Nat → Nat} {nin : Nat} : oJudge v num nin = oJudge u num nin := by
  unfold oJudge
  rw [fst_congr (p := badR v num) (q := badR u num) (min nin 6) (fun r hr => by
    unfold badR
    rw [sm_endsN h (by omega : r < 6)])]
theorem kSeeds_0 (h : kSeeds x y = 0) : tn y < 6 := by
  unfold kSeeds at h
  split at h
  · rename_i c
    exact tn6 c
  · exact absurd h (by omega)
theorem so_seeds (h : Sm v u) (hv : wf 99 v) : oSeeds v x z y = oSeeds u x z y := by
  unfold oSeeds
  by_cases c : kSeeds x y = 0
  · rw [if_pos c, if_pos c, sm_apart (sm_sc h hv z (tn x)).1 (kSeeds_0 c)]
  · rw [if_neg c, if_neg c]
theorem so_image (h : Sm v u) : oImage v = oImage u := by
  unfold oImage
  rw [sm_mi h]
theorem so_count (h : Sm v u) {nin len : Nat} {re : Nat → Nat} : oCount v nin len re x = oCount u nin len re x := by
  unfold oCount
  rw [sm_n h, sm_mi h, sm_no h, sumN_congr (f := fun r => pop (vPa v r)) (g := fun r => pop (vPa u r)) 6 (fun r hr => by rw [sm_pa h r hr]), sumN_congr (f := traces v) (g := traces u) 6 (fun r hr => sm_traces h hr)]
theorem so_town (h : Sm v u) {lt : Nat → Nat} {len rf : Nat} : aTown lt len v rf = aTown lt len u rf := by
  unfold aTown
  rw [(sm_tl h _ _ _).1]
theorem sn_town (h : Sm v u) {lt : Nat → Nat} {len rf : Nat} : Sm (nTown lt len v rf).1 (nTown lt len u rf).1 ∧ (nTown lt len v rf).2 = (nTown lt len u rf).2 := by
  have t := sm_tl (lt := lt) (len := len) (rf := rf) h (len + 1) 0 0
  unfold nTown
  rw [t.1]
  split
  · exact ⟨h, rfl⟩
  · split
    · exact ⟨h, rfl⟩
    · exact t.2
theorem wn_town (hv : wf 99 v) {lt : Nat → Nat} {len rf : Nat} (hr : rf < 64) : wf 99 (nTown lt len v rf).1 := by
  unfold nTown
  split
  · exact hv
  · rename_i hf
    split
    · exact hv
    · exact (wf_tl _ _ _ hv hr hf).1
end SO
/-! the two worlds agree -/
def Ib (v : Vw) (rf : Nat) (vt : Vw) (rt : Nat) (tk : Bool) (lt : Nat → Nat) (len : Nat) (num : Nat → Nat) (nin : Nat) (u : Vw) (ro : Nat → Nat) (ke : Nat → Int32) : Prop :=
  wf 99 v ∧ Sm v u ∧ RR rf ro ∧ len ≤ 96 ∧ (∀ j, j < len → lt j < 256) ∧ nin ≤ 12 ∧ (∀ r, r < 12 → num r ≤ 30) ∧ (tk = true → wf 99 vt ∧ ∃ (t : Vw) (rtt : Nat → Nat), (∀ j, j < 81 → ke j = encd t rtt j) ∧ Sm vt t ∧ RR rt rtt)
def Inv (M : AM) : Prop := ∃ (v : Vw) (rf : Nat) (vt : Vw) (rt : Nat) (tk : Bool) (lt : Nat → Nat) (len : Nat) (num : Nat → Nat) (nin : Nat) (re : Nat → Nat) (u : Vw) (ro : Nat → Nat) (ke : Nat → Int32) (M1 M2 : AM), M = M1 ++ M2 ∧ PX v rf vt rt tk lt len num nin re M1 ∧ PM u ro re lt len ke tk num nin M2 ∧ Ib v rf vt rt tk lt len num nin u ro ke
theorem rr_p {rf : Nat} {ro : Nat → Nat} (h : RR rf ro) : ∀ r, r < 6 → rf.testBit r = decide (ro r = 1) := fun r hr => (h.2 r hr).2
theorem rr_1 {rf : Nat} {ro : Nat → Nat} (h : RR rf ro) : ∀ r, r < 6 → ro r ≤ 1 := fun r hr => (h.2 r hr).1
section IB
variable {v : Vw} {rf : Nat} {vt : Vw} {rt : Nat} {tk : Bool} {lt : Nat → Nat} {len : Nat} {num : Nat → Nat} {nin : Nat} {u : Vw} {ro : Nat → Nat} {ke : Nat → Int32}
/-- the towns move, all else stands -/
theorem Ib.go (h : Ib v rf vt rt tk lt len num nin u ro ke) {v1 u1 : Vw} {rf1 : Nat} {ro1 : Nat → Nat} (hw : wf 99 v1) (hs : Sm v1 u1) (hr : RR rf1 ro1) : Ib v1 rf1 vt rt tk lt len num nin u1 ro1 ke := ⟨hw, hs, hr, h.2.2.2⟩
theorem Ib.keep (h : Ib v rf vt rt tk lt len num nin u ro ke) {k1 : Nat → Int32} (hk : ∀ j, j < 85 → k1 j = ke j) : Ib v rf vt rt tk lt len num nin u ro k1 := by
  obtain ⟨a1, a2, a3, a4, a5, a6, a7, a8⟩ := h
  refine ⟨a1, a2, a3, a4, a5, a6, a7, fun q => ?_⟩
  obtain ⟨b1, t, rtt, b2, b3⟩ := a8 q
  exact ⟨b1, t, rtt, fun j hj => (hk j (by omega)).trans (b2 j hj), b3⟩
theorem Ib.letter (h : Ib v rf vt rt tk lt len num nin u ro ke) (x : Int32) : Ib v rf vt rt tk (tLetter lt len x) (lLetter lt len x) num nin u ro ke := by
  obtain ⟨a1, a2, a3, a4, a5, a6⟩ := h
  unfold tLetter lLetter
  split
  · rename_i c
    have c2 : ¬ x < 0 ∧ ¬ (nI 255 < x ∨ 96 ≤ len) := by
      unfold kLetter at c
      split at c
      · exact absurd c (by omega)
      · rename_i c1
        split at c
        · exact absurd c (by omega)
        · rename_i c3
          exact ⟨c1, c3⟩
    have ht := Int32.le_iff_toInt_le.mp (Int32.not_lt.mp (fun z => c2.2 (Or.inl z)))
    rw [nI_toInt (by omega)] at ht
    refine ⟨a1, a2, a3, by have := c2.2; omega, fun j hj => ?_, a6⟩
    show updN lt len (tn x) j < 256
    unfold updN
    split
    · unfold tn
      omega
    · exact a5 j (by omega)
  · exact ⟨a1, a2, a3, a4, a5, a6⟩
theorem Ib.row (h : Ib v rf vt rt tk lt len num nin u ro ke) (x : Int32) : Ib v rf vt rt tk lt len (tRow num nin x) (lRow num nin x) u ro ke := by
  obtain ⟨a1, a2, a3, a4, a5, a6, a7, a8⟩ := h
  unfold tRow lRow
  split
  · rename_i c
    have c2 : ¬ x < 0 ∧ ¬ (nI 30 < x ∨ 12 ≤ nin) := by
      unfold kRow at c
      split at c
      · exact absurd c (by omega)
      · rename_i c1
        split at c
        · exact absurd c (by omega)
        · rename_i c3
          exact ⟨c1, c3⟩
    have ht := Int32.le_iff_toInt_le.mp (Int32.not_lt.mp (fun z => c2.2 (Or.inl z)))
    rw [nI_toInt (by omega)] at ht
    refine ⟨a1, a2, a3, a4, a5, by have := c2.2; omega, fun j hj => ?_, a8⟩
    show updN num nin (tn x) j ≤ 30
    unfold updN
    split
    · unfold tn
      omega
    · exact a7 j hj
  · exact ⟨a1, a2, a3, a4, a5, a6, a7, a8⟩
theorem Ib.clear (h : Ib v rf vt rt tk lt len num nin u ro ke) : Ib v rf vt rt tk lt len num 0 u ro ke := by
  obtain ⟨a1, a2, a3, a4, a5, a6, a7, a8⟩ := h
  exact ⟨a1, a2, a3, a4, a5, by omega, a7, a8⟩
theorem Ib.wiped (h : Ib v rf vt rt tk lt len num nin u ro ke) : Ib v rf vt rt tk lt 0 num nin u ro ke := by
  obtain ⟨a1, a2, a3, a4, a5, a6, a7, a8⟩ := h
  exact ⟨a1, a2, a3, by omega, fun j hj => absurd hj (by omega), a6, a7, a8⟩
theorem Ib.image (h : Ib v rf vt rt tk lt len num nin u ro ke) : Ib v rf (becm vt v) rf true lt len num nin u ro (kpt u ro ke (85 * 0)) := by
  obtain ⟨a1, a2, a3, a4, a5, a6, a7, a8⟩ := h
  exact ⟨a1, a2, a3, a4, a5, a6, a7, fun _ => ⟨wf_becm vt a1, u, ro, fun j hj => by have e := kpt_at (u := u) (ro := ro) (ke := ke) (c := 85 * 0) hj; rw [show 85 * 0 + j = j by omega] at e; exact e, sm_trans (sm_bec vt a1) a2, a3⟩⟩
end IB
