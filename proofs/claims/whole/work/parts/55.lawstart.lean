/-! ===== the law from its entry ===== -/
theorem wf_v00 : wf 99 v00 := ⟨Nat.zero_le _, Nat.zero_le _, ⟨Nat.le_refl _, (by decide : 1 ≤ 9)⟩, fun _ _ => Nat.zero_le _, fun _ _ => (by decide : 0 < 64), fun a b _ _ => (by show (0 : Nat).testBit b = (0 : Nat).testBit a; rw [Nat.zero_testBit, Nat.zero_testBit]), fun a _ => Nat.zero_testBit a, fun w hw => absurd hw (Nat.not_lt_zero w), fun w hw => absurd hw (Nat.not_lt_zero w), fun w hw => absurd hw (Nat.not_lt_zero w), fun w hw => absurd hw (Nat.not_lt_zero w), fun w hw => absurd hw (Nat.not_lt_zero w)⟩
theorem sm_00 : Sm v00 u00 := ⟨rfl, rfl, rfl, fun _ _ => rfl, fun _ _ => rfl, fun w hw => absurd hw (Nat.not_lt_zero w), fun w hw => absurd hw (Nat.not_lt_zero w), fun w hw => absurd hw (Nat.not_lt_zero w), fun w hw => absurd hw (Nat.not_lt_zero w), fun w hw => absurd hw (Nat.not_lt_zero w)⟩
theorem rr_00 : RR 0 (fun _ => 0) := ⟨by decide, fun r _ => ⟨Nat.zero_le _, by rw [Nat.zero_testBit]; rfl⟩⟩
theorem ib_00 (k : Nat → Int32) : Ib v00 0 v00 0 false (fun _ => 0) 0 (fun _ => 0) 0 u00 (fun _ => 0) k := ⟨wf_v00, sm_00, rr_00, Nat.zero_le _, fun _ _ => (by decide : 0 < 256), Nat.zero_le _, fun _ _ => Nat.zero_le _, fun q => by cases q⟩
set_option maxRecDepth 100000 in
set_option maxHeartbeats 4000000 in
theorem lw_G {C : Cx} {L : Nat} {xs : Nat → Int32} (hC : Ok C cL_law RL 4 room_1 (EL C L xs)) (hL : L ≤ 2048) : G C 0 0 0 [aK 3, aK 9, aK 9, aK 9] [] [] := by
  refine g_new (T := TX3) (N := 9) (ci := 3) (fs := [sN, sN, sN, sI (nI (0)), sN, sN, sN, sI (nI (0)), sN]) (fv := [.null, .null, .null, .int 0, .null, .null, .null, .int 0, .null]) hC tyX3 dL_law_0 inX3 tyX3_ok tw_1_14 tw_1_15 tw_1_1 rfl (by intro j hj; rcases (by omega : j = 0 ∨ j = 1 ∨ j = 2 ∨ j = 3 ∨ j = 4 ∨ j = 5 ∨ j = 6 ∨ j = 7 ∨ j = 8) with rfl | rfl | rfl | rfl | rfl | rfl | rfl | rfl | rfl <;> rfl) (fun _ _ => rfl) ⟨by decide, by decide⟩ (Add.grp rfl) rfl rfl ?_
  show G C 1 9 3 [aK 3, aK 9, aK 9, aK 9] [aR 0 0 0] [[cO 3 [sN, sN, sN, sI (nI (0)), sN, sN, sN, sI (nI (0)), sN]]]
  refine g_dup hC dL_law_3 rfl ?_
  refine g_invIF hC (is := [0]) (st := [aR 0 0 0]) c_X3_init dL_law_4 tw_1_16 tw_1_17 rfl tw_1_1 tw_1_18 ⟨hy_X3_init.1.1, hy_X3_init.1.2, hy_X3_init.2⟩ ⟨by decide, by decide⟩ ⟨by decide, by decide⟩ rfl (by decide) rfl rfl rfl rfl rfl rfl ?_
  show G C 78 553 7 [aK 3, aK 9, aK 9, aK 9] [aR 0 0 0] (mainW v00 0 (fun _ => 0) v00 0 (fun _ => 0) v00 0 (fun _ => 0) false (fun _ => 0) 0 (fun _ => 0) (fun _ _ => 0) (fun _ _ => 0) 0 (fun _ => 0) 0 (fun _ => 0))
  refine g_astore_n hC dL_law_7 (by decide) rfl ?_
  show G C 78 553 8 [aK 3, aR 0 0 0, aK 9, aK 9] [] (mainW v00 0 (fun _ => 0) v00 0 (fun _ => 0) v00 0 (fun _ => 0) false (fun _ => 0) 0 (fun _ => 0) (fun _ _ => 0) (fun _ _ => 0) 0 (fun _ => 0) 0 (fun _ => 0))
  refine g_new (T := TX4) (N := 30) (ci := 4) (fs := [sN, sN, sN, sN, sN, sN, sN, sN, sN, sI (nI (0)), sI (nI (0)), sI (nI (0)), sN, sN, sN, sN, sN, sN, sI (nI (0)), sI (nI (0)), sI (nI (0)), sN, sI (nI (0)), sI (nI (0)), sI (nI (0)), sN, sN, sI (nI (0)), sN, sN]) (fv := [.null, .null, .null, .null, .null, .null, .null, .null, .null, .int 0, .int 0, .int 0, .null, .null, .null, .null, .null, .null, .int 0, .int 0, .int 0, .null, .int 0, .int 0, .int 0, .null, .null, .int 0, .null, .null]) hC tyX4 dL_law_8 inX4 tyX4_ok tw_3_191 tw_3_192 tw_1_5 rfl (by intro j hj; rcases (by omega : j = 0 ∨ j = 1 ∨ j = 2 ∨ j = 3 ∨ j = 4 ∨ j = 5 ∨ j = 6 ∨ j = 7 ∨ j = 8 ∨ j = 9 ∨ j = 10 ∨ j = 11 ∨ j = 12 ∨ j = 13 ∨ j = 14 ∨ j = 15 ∨ j = 16 ∨ j = 17 ∨ j = 18 ∨ j = 19 ∨ j = 20 ∨ j = 21 ∨ j = 22 ∨ j = 23 ∨ j = 24 ∨ j = 25 ∨ j = 26 ∨ j = 27 ∨ j = 28 ∨ j = 29) with rfl | rfl | rfl | rfl | rfl | rfl | rfl | rfl | rfl | rfl | rfl | rfl | rfl | rfl | rfl | rfl | rfl | rfl | rfl | rfl | rfl | rfl | rfl | rfl | rfl | rfl | rfl | rfl | rfl | rfl <;> rfl) (fun _ _ => rfl) ⟨by decide, by decide⟩ (Add.grp rfl) rfl rfl ?_
  show G C 79 583 11 [aK 3, aR 0 0 0, aK 9, aK 9] [aR 8 0 0] (mainW v00 0 (fun _ => 0) v00 0 (fun _ => 0) v00 0 (fun _ => 0) false (fun _ => 0) 0 (fun _ => 0) (fun _ _ => 0) (fun _ _ => 0) 0 (fun _ => 0) 0 (fun _ => 0) ++ [[cO 4 [sN, sN, sN, sN, sN, sN, sN, sN, sN, sI (nI (0)), sI (nI (0)), sI (nI (0)), sN, sN, sN, sN, sN, sN, sI (nI (0)), sI (nI (0)), sI (nI (0)), sN, sI (nI (0)), sI (nI (0)), sI (nI (0)), sN, sN, sI (nI (0)), sN, sN]]])
  refine g_dup hC dL_law_11 rfl ?_
  refine g_invIF hC (is := [8]) (st := [aR 8 0 0]) c_X4_init dL_law_12 tw_3_193 tw_3_194 rfl tw_1_5 tw_3_195 ⟨hy_X4_init.1.1, hy_X4_init.1.2, hy_X4_init.2⟩ ⟨by decide, by decide⟩ ⟨by decide, by decide⟩ rfl (by decide) rfl rfl rfl rfl rfl rfl ?_
  show G C 99 1346 15 [aK 3, aR 0 0 0, aK 9, aK 9] [aR 8 0 0] (mainW v00 0 (fun _ => 0) v00 0 (fun _ => 0) v00 0 (fun _ => 0) false (fun _ => 0) 0 (fun _ => 0) (fun _ _ => 0) (fun _ _ => 0) 0 (fun _ => 0) 0 (fun _ => 0) ++ [modW u00 (fun _ => 0) (fun _ => 0) (fun _ => 0) 0 (fun _ => 0) (fun _ => 0) (fun _ => nI 0) (fun _ => 0) (fun _ => 0) 0 0 (fun _ => nI 0) false false 0 (fun _ => 0) (fun _ => 0) 0 (fun _ => 0) (fun _ => 0)])
  refine g_astore_n hC dL_law_15 (by decide) rfl ?_
  refine g_iconst (v := nI 0) hC dL_law_16 rfl ?_
  refine g_istore_n hC dL_law_17 (by decide) rfl ?_
  exact lw_loop hC hL L 0 _ (Nat.zero_le _) (by omega) ⟨_, _, _, _, _, _, _, _, _, _, _, _, fun _ => nI 0, _, _, rfl, ⟨_, _, _, _, _, _, _, _, _, rfl⟩, ⟨_, _, _, _, _, _, _, _, _, _, _, _, _, fun _ _ => rfl, rfl⟩, ib_00 _⟩
set_option maxRecDepth 100000 in
set_option maxHeartbeats 4000000 in
/-- YOUR PART: from the entry, for every script of at most 2048 ints, the law comes to its end with true -/
theorem whole_start {p : Program} {e : Env} {s : State} {m : MethodId} {below : List Frame} {meth : Method} {c : Code} (l : Launch) (hflags : l.flags = flags0) {b L : Nat} {xs : Nat → Int32} (hL : L ≤ 2048) (C0 : lw_At p s m meth c b L xs) : W p l e room_1 s m #[Value.ref b] below meth c s.heap [] 0 0 (lw_Z below #[Value.ref b] s) (entryFrame m ([Value.ref b] : List Value).toArray 4) := by
  obtain ⟨hx, hb, hr, hml, hown, hts, hX, hbl, hlocks, hgv⟩ := C0
  have htb : ∀ w ∈ tbG, w.before #[Value.ref b] s = true := fun w hw => hts w (List.mem_filter.mp hw).1
  have hn := flat_of_before _ hgv
  have hA : ∀ a : Nat, a < s.heap.size → ¬ (fun q : Nat => s.heap.size ≤ q) a := fun a ha => Nat.not_le.mpr ha
  obtain ⟨k0, i0, hK0⟩ := u_known (C := RX0) (T := TX0) (N := 2) htb inX0 (htb _ tw_1_69)
  obtain ⟨k1, i1, hK1⟩ := u_known (C := RX1) (T := TX1) (N := 12) htb inX1 (htb _ tw_1_23)
  obtain ⟨k2, i2, hK2⟩ := u_known (C := RX2) (T := TX2) (N := 4) htb inX2 (htb _ tw_1_82)
  obtain ⟨k3, i3, hK3⟩ := u_known (C := RX3) (T := TX3) (N := 9) htb inX3 (htb _ tw_1_15)
  obtain ⟨k4, i4, hK4⟩ := u_known (C := RX4) (T := TX4) (N := 30) htb inX4 (htb _ tw_3_192)
  obtain ⟨D, hD⟩ : ∃ D : va_G, ∀ (k : Nat) (q : vw_C), vwCl[k]? = some q → u_Kn s q.1 q.2.1 q.2.2 (D.1 k) (D.2 k) := by
    refine ⟨(fun k => if k = 0 then k0 else if k = 1 then k1 else if k = 2 then k2 else if k = 3 then k3 else k4, fun k => if k = 0 then i0 else if k = 1 then i1 else if k = 2 then i2 else if k = 3 then i3 else i4), ?_⟩
    intro k q hq
    match k, hq with
    | 0, hq => cases hq; exact hK0
    | 1, hq => cases hq; exact hK1
    | 2, hq => cases hq; exact hK2
    | 3, hq => cases hq; exact hK3
    | 4, hq => cases hq; exact hK4
    | k + 5, hq => simp [vwCl] at hq
  obtain ⟨cI, aI1, oI1, a1, a2, a3⟩ := Cond.arrayClass_spec (htb _ tw_1_67)
  obtain ⟨cJ, aJ1, oJ1, b1, b2, b3⟩ := Cond.arrayClass_spec (htb _ tw_4_48)
  obtain ⟨oA1, cA, aA1, -, d2, d3, d4⟩ := arrOver_spec (t := .int) (hts _ tv_1_29)
  obtain ⟨adK, adV, hS, hev⟩ := vk_Sof (N := 1) (tm := fun _ => Term.string RX0 27) (len := [6]) (byt := [txt]) (A := fun q : Nat => s.heap.size ≤ q)
    (fun i hi => by obtain rfl : i = 0 := (by omega); decide)
    (fun i _ => hn _ (by decide +kernel)) (fun i _ => hn _ (by decide +kernel)) (fun i _ => hn _ (by decide +kernel))
    (fun i hi => by obtain rfl : i = 0 := (by omega); exact hn _ (by decide +kernel))
    (fun i hi j hj => by
      obtain rfl : i = 0 := by omega
      have hj : j < 6 := hj
      rcases (by omega : j = 0 ∨ j = 1 ∨ j = 2 ∨ j = 3 ∨ j = 4 ∨ j = 5) with rfl | rfl | rfl | rfl | rfl | rfl <;> exact hn _ (by decide +kernel))
    (fun i j hi hj q => absurd (by omega : i = j) q) hA
  have hev0 := hev 0 (by decide)
  have hKS : vk_S 1 [6] [txt] (fun _ => adK 0) (fun _ => adV 0) (fun q : Nat => s.heap.size ≤ q) s s.heap := ⟨fun i hi => by obtain rfl : i = 0 := (by omega); exact hS.1 0 hi, fun i j hi hj _ => by omega⟩
  have hZ : va_Z "java/lang/String" "COMPACT_STRINGS" "Z" (.int 1) (fun q : Nat => s.heap.size ≤ q) s s.heap := va_Zof (hts _ tv_1_183) (htb _ tw_1_6) (va_eqi (hn _ (by decide +kernel))) hA
  have hV : VF (D, cI, cJ, cA, adK 0, adV 0, b) s := by
    refine ⟨⟨hD, fun k q hk => ?_⟩, va_Nw.of rfl (hts _ tv_1_24), va_Nw.of rfl (hts _ tv_1_70), va_Nw.of rfl (hts _ tv_1_83), va_Nw.of rfl (hts _ tv_2_50), hts _ tv_1_29, vk_R.of (hts _ tv_1_169) hev0⟩
    match k, hk with
    | 0, hk => cases hk; exact ⟨fun n z => ⟨fun k h => (by cases h), aI1, a2, oI1, a3⟩, a1⟩
    | 1, hk => cases hk; exact ⟨fun n z => ⟨fun k h => (by cases h), aJ1, b2, oJ1, b3⟩, b1⟩
    | 2, hk => cases hk; exact ⟨fun n z => ⟨fun k h => (by cases h), aA1, d2, oA1, d3⟩, d4⟩
    | k + 3, hk => simp at hk
  have hC : Ok ((D, cI, cJ, cA, adK 0, adV 0, b), (fun q : Nat => s.heap.size ≤ q), s.heap, 4, (fun _ _ _ => 0), [], fun H locs cs ss pc la st => W p l e room_1 s m #[Value.ref b] below meth c H locs cs ss (lw_Z below #[Value.ref b] s) (F0 m pc la st)) cL_law RL 4 room_1 (EL ((D, cI, cJ, cA, adK 0, adV 0, b), (fun q : Nat => s.heap.size ≤ q), s.heap, 4, (fun _ _ _ => 0), [], fun H locs cs ss pc la st => W p l e room_1 s m #[Value.ref b] below meth c H locs cs ss (lw_Z below #[Value.ref b] s) (F0 m pc la st)) L xs) :=
    ⟨p, l, e, s, m, #[Value.ref b], below, meth, c, lw_Z below #[Value.ref b] s, hx, hb, hml, hown, htb, hV, ⟨hKS, hZ⟩, rfl, fun _ h => h, rfl, rfl, hlocks, rfl, rfl, hr, hX, hbl, rfl⟩
  have key := lw_G hC hL
  rw [lg_entry_eq]
  have e0 : ∀ g k : Nat, getM ([] : AM) g k = none := fun _ _ => rfl
  have v0 : ∀ g k w : Nat, ¬ vld ([] : AM) g k w := fun g k w z => by
    obtain ⟨q, q1, -⟩ := z
    rw [e0] at q1
    cases q1
  exact key (fun _ _ _ => 0) s.heap [] _ (Ext.refl _ _) ⟨fun g k q h => (by rw [e0] at h; cases h), fun g k w g' k' w' h _ _ => absurd h (v0 g k w)⟩ (fun g k w h => absurd h (v0 g k w)) va_S.rf (LR.entry (av := [aK 3]) rfl (show 1 ≤ 4 by decide))
