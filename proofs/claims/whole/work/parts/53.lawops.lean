/-! ===== the law's cases: both sides answer the same, and agree on ===== -/
set_option maxRecDepth 100000 in
set_option maxHeartbeats 4000000 in
theorem lo_letter {C : Cx} {L : Nat} {xs : Nat → Int32} (hC : Ok C cL_law RL 4 room_1 (EL C L xs)) (hL : L ≤ 2048) {i : Nat} (hi : i + 3 < L) {M : AM} (hI : Inv M) (kk : ∀ M', Inv M' → G C 99 1346 894 (lwL i) [] M') : G C 99 1346 160 (lwL i) [] M := by
  obtain ⟨v, rf, vt, rt, tk, lt, len, num, nin, re, u, ro, ke, M1, M2, rfl, ⟨go, vm, rm, gm, gt, op, to, on, last, rfl⟩, ⟨le, la, td, fr, ti, pt, st, k1, ik, cu, go2, up, fo, hk1, rfl⟩, hb⟩ := hI
  replace hb := hb.keep hk1
  obtain ⟨hv, hs, hr, hlen, hlt, hnin, hnum, htk⟩ := id hb
  have hu : wf 99 u := sm_wf hs hv
  refine g_aload_n hC dL_law_160 rfl rfl ?_
  refine lw_arg hC hL (n := 1) (j := 1) (by omega) rfl dL_law_161 dL_law_162 dL_law_163 dL_law_164 dL_law_165 ?_
  refine g_invV (T := TX3) (N := 9) hC (is := [0, 1, 2, 3, 4, 5, 6, 7]) (st := []) (c_X3_letter v rf go vm rm gm vt rt gt tk lt len op to on last num nin re (xs (i + 1)) hlen hlt) dL_law_166 tw_1_129 tw_1_130 tw_1_131 tw_1_1 tw_1_132 ⟨hy_X3_letter.1.1, hy_X3_letter.1.2, hy_X3_letter.2⟩ ⟨by decide, by decide⟩ ⟨by decide, by decide⟩ rfl (by decide) rfl rfl rfl rfl rfl (Nat.le_of_ble_eq_true rfl) rfl rfl (fun r1 N1 hp => ?_)
  obtain ⟨rfl, go1, vm1, rm1, gm1, gt1, op1, to1, on1, last1, rfl⟩ := hp
  refine ⟨rfl, rfl, ?_⟩
  show G C 99 1346 169 (lwL i) [aI (ansOf (oLetter lt len (xs (i + 1))))] (mainW v rf go1 vm1 rm1 gm1 vt rt gt1 tk (tLetter lt len (xs (i + 1))) (lLetter lt len (xs (i + 1))) op1 to1 on1 last1 num nin (bump re (oLetter lt len (xs (i + 1)))) ++ [modW u ro re lt len le la td fr ti pt st k1 tk ik cu go2 num nin up fo])
  refine g_aload_n hC dL_law_169 rfl rfl ?_
  refine lw_arg hC hL (n := 1) (j := 1) (by omega) rfl dL_law_170 dL_law_171 dL_law_172 dL_law_173 dL_law_174 ?_
  refine g_invV (T := TX4) (N := 30) hC (is := [8]) (st := [aI (ansOf (oLetter lt len (xs (i + 1))))]) (c_X4_letter u ro re lt len le la td fr ti pt st k1 tk ik cu go2 num nin up fo hlen (xs (i + 1))) dL_law_175 tw_4_49 tw_4_50 tw_4_51 tw_1_5 tw_4_52 ⟨hy_X4_letter.1.1, hy_X4_letter.1.2, hy_X4_letter.2⟩ ⟨by decide, by decide⟩ ⟨by decide, by decide⟩ rfl (by decide) rfl rfl rfl rfl rfl (Nat.le_of_ble_eq_true rfl) rfl rfl (fun r1 N1 hp => ?_)
  obtain ⟨rfl, le1, la1, td1, fr1, ti1, pt1, st1, k2, ik1, cu1, go21, up1, fo1, hk2, rfl⟩ := hp
  refine ⟨rfl, rfl, ?_⟩
  show G C 99 1346 178 (lwL i) [aI (ansOf (oLetter lt len (xs (i + 1)))), aI (ansOf (oLetter lt len (xs (i + 1))))] (mainW v rf go1 vm1 rm1 gm1 vt rt gt1 tk (tLetter lt len (xs (i + 1))) (lLetter lt len (xs (i + 1))) op1 to1 on1 last1 num nin (bump re (oLetter lt len (xs (i + 1)))) ++ [modW u ro (bump re (oLetter lt len (xs (i + 1)))) (tLetter lt len (xs (i + 1))) (lLetter lt len (xs (i + 1))) le1 la1 td1 fr1 ti1 pt1 st1 k2 tk ik1 cu1 go21 num nin up1 fo1])
  exact g_icmp_eq (tgt := 894) hC dL_law_178 (by decide) (fun _ => kk _ ⟨_, _, _, _, _, _, _, _, _, _, _, _, _, _, _, rfl, ⟨_, _, _, _, _, _, _, _, _, rfl⟩, ⟨_, _, _, _, _, _, _, _, _, _, _, _, _, hk2, rfl⟩, hb.letter (xs (i + 1))⟩) (fun q => absurd rfl q)
set_option maxRecDepth 100000 in
set_option maxHeartbeats 4000000 in
theorem lo_town {C : Cx} {L : Nat} {xs : Nat → Int32} (hC : Ok C cL_law RL 4 room_1 (EL C L xs)) (hL : L ≤ 2048) {i : Nat} (hi : i + 3 < L) {M : AM} (hI : Inv M) (kk : ∀ M', Inv M' → G C 99 1346 894 (lwL i) [] M') : G C 99 1346 183 (lwL i) [] M := by
  obtain ⟨v, rf, vt, rt, tk, lt, len, num, nin, re, u, ro, ke, M1, M2, rfl, ⟨go, vm, rm, gm, gt, op, to, on, last, rfl⟩, ⟨le, la, td, fr, ti, pt, st, k1, ik, cu, go2, up, fo, hk1, rfl⟩, hb⟩ := hI
  replace hb := hb.keep hk1
  obtain ⟨hv, hs, hr, hlen, hlt, hnin, hnum, htk⟩ := id hb
  have hu : wf 99 u := sm_wf hs hv
  have e : aTown lt len v rf = aTown lt len u rf := so_town hs
  refine g_aload_n hC dL_law_183 rfl rfl ?_
  refine g_invV (T := TX3) (N := 9) hC (is := [0, 1, 2, 3, 4, 5, 6, 7]) (st := []) (c_X3_town v rf go vm rm gm vt rt gt tk lt len op to on last num nin re hv hr.1 hlen hlt) dL_law_184 tw_1_146 tw_1_147 tw_1_148 tw_1_1 tw_1_149 ⟨hy_X3_town.1.1, hy_X3_town.1.2, hy_X3_town.2⟩ ⟨by decide, by decide⟩ ⟨by decide, by decide⟩ rfl (by decide) rfl rfl rfl rfl rfl (Nat.le_of_ble_eq_true rfl) rfl rfl (fun r1 N1 hp => ?_)
  rw [e] at hp
  obtain ⟨rfl, v1, hs1, go1, vm1, rm1, gm1, gt1, op1, to1, on1, last1, rfl⟩ := hp
  refine ⟨rfl, rfl, ?_⟩
  show G C 99 1346 187 (lwL i) [aI (aTown lt len u rf)] (mainW v1 (nTown lt len v rf).2 go1 vm1 rm1 gm1 vt rt gt1 tk lt 0 op1 to1 on1 last1 num nin re ++ [modW u ro re lt len le la td fr ti pt st k1 tk ik cu go2 num nin up fo])
  refine g_aload_n hC dL_law_187 rfl rfl ?_
  refine g_invV (T := TX4) (N := 30) hC (is := [8]) (st := [aI (aTown lt len u rf)]) (c_X4_town u ro re lt len le la td fr ti pt st k1 tk ik cu go2 num nin up fo hu (Nat.le_of_ble_eq_true rfl) rf hr hlen hlt) dL_law_188 tw_4_60 tw_4_61 tw_4_62 tw_1_5 tw_4_63 ⟨hy_X4_town.1.1, hy_X4_town.1.2, hy_X4_town.2⟩ ⟨by decide, by decide⟩ ⟨by decide, by decide⟩ rfl (by decide) rfl rfl rfl rfl rfl (Nat.le_of_ble_eq_true rfl) rfl rfl (fun r1 N1 hp => ?_)
  obtain ⟨rfl, u1, ro1, hs2, hr1, le1, la1, td1, fr1, ti1, pt1, st1, k2, ik1, cu1, go21, up1, fo1, hk2, rfl⟩ := hp
  refine ⟨rfl, rfl, ?_⟩
  show G C 99 1346 191 (lwL i) [aI (aTown lt len u rf), aI (aTown lt len u rf)] (mainW v1 (nTown lt len v rf).2 go1 vm1 rm1 gm1 vt rt gt1 tk lt 0 op1 to1 on1 last1 num nin re ++ [modW u1 ro1 re lt 0 le1 la1 td1 fr1 ti1 pt1 st1 k2 tk ik1 cu1 go21 num nin up1 fo1])
  have t := sn_town (lt := lt) (len := len) (rf := rf) hs
  have hr2 : RR (nTown lt len v rf).2 ro1 := by rw [t.2]; exact hr1
  exact g_icmp_eq (tgt := 894) hC dL_law_191 (by decide) (fun _ => kk _ ⟨_, _, _, _, _, _, _, _, _, _, _, _, _, _, _, rfl, ⟨_, _, _, _, _, _, _, _, _, rfl⟩, ⟨_, _, _, _, _, _, _, _, _, _, _, _, _, hk2, rfl⟩, hb.wiped.go (sm_wf (sm_symm hs1) (wn_town hv hr.1)) (sm_trans hs1 (sm_trans t.1 (sm_symm hs2))) hr2⟩) (fun q => absurd rfl q)
set_option maxRecDepth 100000 in
set_option maxHeartbeats 4000000 in
theorem lo_room {C : Cx} {L : Nat} {xs : Nat → Int32} (hC : Ok C cL_law RL 4 room_1 (EL C L xs)) (hL : L ≤ 2048) {i : Nat} (hi : i + 3 < L) {M : AM} (hI : Inv M) (kk : ∀ M', Inv M' → G C 99 1346 894 (lwL i) [] M') : G C 99 1346 196 (lwL i) [] M := by
  obtain ⟨v, rf, vt, rt, tk, lt, len, num, nin, re, u, ro, ke, M1, M2, rfl, ⟨go, vm, rm, gm, gt, op, to, on, last, rfl⟩, ⟨le, la, td, fr, ti, pt, st, k1, ik, cu, go2, up, fo, hk1, rfl⟩, hb⟩ := hI
  replace hb := hb.keep hk1
  obtain ⟨hv, hs, hr, hlen, hlt, hnin, hnum, htk⟩ := id hb
  have hu : wf 99 u := sm_wf hs hv
  have e : oRoom v (fun r => rf.testBit r) (xs (i + 1)) (xs (i + 2)) = oRoom u (fun r => decide (ro r = 1)) (xs (i + 1)) (xs (i + 2)) := so_room hs (rr_p hr)
  refine g_aload_n hC dL_law_196 rfl rfl ?_
  refine lw_arg hC hL (n := 1) (j := 1) (by omega) rfl dL_law_197 dL_law_198 dL_law_199 dL_law_200 dL_law_201 ?_
  refine lw_arg hC hL (n := 2) (j := 2) (by omega) rfl dL_law_202 dL_law_203 dL_law_204 dL_law_205 dL_law_206 ?_
  refine g_invV (T := TX3) (N := 9) hC (is := [0, 1, 2, 3, 4, 5, 6, 7]) (st := []) (c_X3_room v rf go vm rm gm vt rt gt tk lt len op to on last num nin re (xs (i + 1)) (xs (i + 2)) hr.1) dL_law_207 tw_2_106 tw_2_107 tw_2_108 tw_1_1 tw_2_109 ⟨hy_X3_room.1.1, hy_X3_room.1.2, hy_X3_room.2⟩ ⟨by decide, by decide⟩ ⟨by decide, by decide⟩ rfl (by decide) rfl rfl rfl rfl rfl (Nat.le_of_ble_eq_true rfl) rfl rfl (fun r1 N1 hp => ?_)
  rw [e] at hp
  obtain ⟨rfl, go1, vm1, rm1, gm1, gt1, op1, to1, on1, last1, rfl⟩ := hp
  refine ⟨rfl, rfl, ?_⟩
  show G C 99 1346 210 (lwL i) [aI (ansOf (oRoom u (fun r => decide (ro r = 1)) (xs (i + 1)) (xs (i + 2))))] (mainW v rf go1 vm1 rm1 gm1 vt rt gt1 tk lt len op1 to1 on1 last1 num nin (bump re (oRoom u (fun r => decide (ro r = 1)) (xs (i + 1)) (xs (i + 2)))) ++ [modW u ro re lt len le la td fr ti pt st k1 tk ik cu go2 num nin up fo])
  refine g_aload_n hC dL_law_210 rfl rfl ?_
  refine lw_arg hC hL (n := 1) (j := 1) (by omega) rfl dL_law_211 dL_law_212 dL_law_213 dL_law_214 dL_law_215 ?_
  refine lw_arg hC hL (n := 2) (j := 2) (by omega) rfl dL_law_216 dL_law_217 dL_law_218 dL_law_219 dL_law_220 ?_
  refine g_invV (T := TX4) (N := 30) hC (is := [8]) (st := [aI (ansOf (oRoom u (fun r => decide (ro r = 1)) (xs (i + 1)) (xs (i + 2))))]) (c_X4_room u ro re lt len le la td fr ti pt st k1 tk ik cu go2 num nin up fo (xs (i + 1)) (xs (i + 2)) (rr_1 hr)) dL_law_221 tw_4_121 tw_4_122 tw_4_123 tw_1_5 tw_4_124 ⟨hy_X4_room.1.1, hy_X4_room.1.2, hy_X4_room.2⟩ ⟨by decide, by decide⟩ ⟨by decide, by decide⟩ rfl (by decide) rfl rfl rfl rfl rfl (Nat.le_of_ble_eq_true rfl) rfl rfl (fun r1 N1 hp => ?_)
  obtain ⟨rfl, le1, la1, td1, fr1, ti1, pt1, st1, k2, ik1, cu1, go21, up1, fo1, hk2, rfl⟩ := hp
  refine ⟨rfl, rfl, ?_⟩
  show G C 99 1346 224 (lwL i) [aI (ansOf (oRoom u (fun r => decide (ro r = 1)) (xs (i + 1)) (xs (i + 2)))), aI (ansOf (oRoom u (fun r => decide (ro r = 1)) (xs (i + 1)) (xs (i + 2))))] (mainW v rf go1 vm1 rm1 gm1 vt rt gt1 tk lt len op1 to1 on1 last1 num nin (bump re (oRoom u (fun r => decide (ro r = 1)) (xs (i + 1)) (xs (i + 2)))) ++ [modW u ro (bump re (oRoom u (fun r => decide (ro r = 1)) (xs (i + 1)) (xs (i + 2)))) lt len le1 la1 td1 fr1 ti1 pt1 st1 k2 tk ik1 cu1 go21 num nin up1 fo1])
  exact g_icmp_eq (tgt := 894) hC dL_law_224 (by decide) (fun _ => kk _ ⟨_, _, _, _, _, _, _, _, _, _, _, _, _, _, _, rfl, ⟨_, _, _, _, _, _, _, _, _, rfl⟩, ⟨_, _, _, _, _, _, _, _, _, _, _, _, _, hk2, rfl⟩, hb⟩) (fun q => absurd rfl q)
set_option maxRecDepth 100000 in
set_option maxHeartbeats 4000000 in
theorem lo_walker {C : Cx} {L : Nat} {xs : Nat → Int32} (hC : Ok C cL_law RL 4 room_1 (EL C L xs)) (hL : L ≤ 2048) {i : Nat} (hi : i + 3 < L) {M : AM} (hI : Inv M) (kk : ∀ M', Inv M' → G C 99 1346 894 (lwL i) [] M') : G C 99 1346 229 (lwL i) [] M := by
  obtain ⟨v, rf, vt, rt, tk, lt, len, num, nin, re, u, ro, ke, M1, M2, rfl, ⟨go, vm, rm, gm, gt, op, to, on, last, rfl⟩, ⟨le, la, td, fr, ti, pt, st, k1, ik, cu, go2, up, fo, hk1, rfl⟩, hb⟩ := hI
  replace hb := hb.keep hk1
  obtain ⟨hv, hs, hr, hlen, hlt, hnin, hnum, htk⟩ := id hb
  have hu : wf 99 u := sm_wf hs hv
  have e : oWalker v (xs (i + 1)) (xs (i + 2)) = oWalker u (xs (i + 1)) (xs (i + 2)) := so_walker hs hv
  refine g_aload_n hC dL_law_229 rfl rfl ?_
  refine lw_arg hC hL (n := 1) (j := 1) (by omega) rfl dL_law_230 dL_law_231 dL_law_232 dL_law_233 dL_law_234 ?_
  refine lw_arg hC hL (n := 2) (j := 2) (by omega) rfl dL_law_235 dL_law_236 dL_law_237 dL_law_238 dL_law_239 ?_
  refine g_invV (T := TX3) (N := 9) hC (is := [0, 1, 2, 3, 4, 5, 6, 7]) (st := []) (c_X3_walker v rf go vm rm gm vt rt gt tk lt len op to on last num nin re (xs (i + 1)) (xs (i + 2)) hv) dL_law_240 tw_2_123 tw_2_124 tw_2_125 tw_1_1 tw_2_126 ⟨hy_X3_walker.1.1, hy_X3_walker.1.2, hy_X3_walker.2⟩ ⟨by decide, by decide⟩ ⟨by decide, by decide⟩ rfl (by decide) rfl rfl rfl rfl rfl (Nat.le_of_ble_eq_true rfl) rfl rfl (fun r1 N1 hp => ?_)
  rw [e] at hp
  obtain ⟨rfl, go1, vm1, rm1, gm1, gt1, op1, to1, on1, last1, rfl⟩ := hp
  refine ⟨rfl, rfl, ?_⟩
  show G C 99 1346 243 (lwL i) [aI (ansOf (oWalker u (xs (i + 1)) (xs (i + 2))))] (mainW v rf go1 vm1 rm1 gm1 vt rt gt1 tk lt len op1 to1 on1 last1 num nin (bump re (oWalker u (xs (i + 1)) (xs (i + 2)))) ++ [modW u ro re lt len le la td fr ti pt st k1 tk ik cu go2 num nin up fo])
  refine g_aload_n hC dL_law_243 rfl rfl ?_
  refine lw_arg hC hL (n := 1) (j := 1) (by omega) rfl dL_law_244 dL_law_245 dL_law_246 dL_law_247 dL_law_248 ?_
  refine lw_arg hC hL (n := 2) (j := 2) (by omega) rfl dL_law_249 dL_law_250 dL_law_251 dL_law_252 dL_law_253 ?_
  refine g_invV (T := TX4) (N := 30) hC (is := [8]) (st := [aI (ansOf (oWalker u (xs (i + 1)) (xs (i + 2))))]) (c_X4_walker u ro re lt len le la td fr ti pt st k1 tk ik cu go2 num nin up fo hu (Nat.le_of_ble_eq_true rfl) (xs (i + 1)) (xs (i + 2))) dL_law_254 tw_4_125 tw_4_126 tw_4_127 tw_1_5 tw_4_128 ⟨hy_X4_walker.1.1, hy_X4_walker.1.2, hy_X4_walker.2⟩ ⟨by decide, by decide⟩ ⟨by decide, by decide⟩ rfl (by decide) rfl rfl rfl rfl rfl (Nat.le_of_ble_eq_true rfl) rfl rfl (fun r1 N1 hp => ?_)
  obtain ⟨rfl, le1, la1, td1, fr1, ti1, pt1, st1, k2, ik1, cu1, go21, up1, fo1, hk2, rfl⟩ := hp
  refine ⟨rfl, rfl, ?_⟩
  show G C 99 1346 257 (lwL i) [aI (ansOf (oWalker u (xs (i + 1)) (xs (i + 2)))), aI (ansOf (oWalker u (xs (i + 1)) (xs (i + 2))))] (mainW v rf go1 vm1 rm1 gm1 vt rt gt1 tk lt len op1 to1 on1 last1 num nin (bump re (oWalker u (xs (i + 1)) (xs (i + 2)))) ++ [modW u ro (bump re (oWalker u (xs (i + 1)) (xs (i + 2)))) lt len le1 la1 td1 fr1 ti1 pt1 st1 k2 tk ik1 cu1 go21 num nin up1 fo1])
  exact g_icmp_eq (tgt := 894) hC dL_law_257 (by decide) (fun _ => kk _ ⟨_, _, _, _, _, _, _, _, _, _, _, _, _, _, _, rfl, ⟨_, _, _, _, _, _, _, _, _, rfl⟩, ⟨_, _, _, _, _, _, _, _, _, _, _, _, _, hk2, rfl⟩, hb⟩) (fun q => absurd rfl q)
set_option maxRecDepth 100000 in
set_option maxHeartbeats 4000000 in
theorem lo_put {C : Cx} {L : Nat} {xs : Nat → Int32} (hC : Ok C cL_law RL 4 room_1 (EL C L xs)) (hL : L ≤ 2048) {i : Nat} (hi : i + 3 < L) {M : AM} (hI : Inv M) (kk : ∀ M', Inv M' → G C 99 1346 894 (lwL i) [] M') : G C 99 1346 262 (lwL i) [] M := by
  obtain ⟨v, rf, vt, rt, tk, lt, len, num, nin, re, u, ro, ke, M1, M2, rfl, ⟨go, vm, rm, gm, gt, op, to, on, last, rfl⟩, ⟨le, la, td, fr, ti, pt, st, k1, ik, cu, go2, up, fo, hk1, rfl⟩, hb⟩ := hI
  replace hb := hb.keep hk1
  obtain ⟨hv, hs, hr, hlen, hlt, hnin, hnum, htk⟩ := id hb
  have hu : wf 99 u := sm_wf hs hv
  have e : oPut v (xs (i + 1)) (xs (i + 2)) = oPut u (xs (i + 1)) (xs (i + 2)) := so_put hs hv
  refine g_aload_n hC dL_law_262 rfl rfl ?_
  refine lw_arg hC hL (n := 1) (j := 1) (by omega) rfl dL_law_263 dL_law_264 dL_law_265 dL_law_266 dL_law_267 ?_
  refine lw_arg hC hL (n := 2) (j := 2) (by omega) rfl dL_law_268 dL_law_269 dL_law_270 dL_law_271 dL_law_272 ?_
  refine g_invV (T := TX3) (N := 9) hC (is := [0, 1, 2, 3, 4, 5, 6, 7]) (st := []) (c_X3_put v rf go vm rm gm vt rt gt tk lt len op to on last num nin re (xs (i + 1)) (xs (i + 2)) hv) dL_law_273 tw_2_170 tw_2_171 tw_2_172 tw_1_1 tw_2_173 ⟨hy_X3_put.1.1, hy_X3_put.1.2, hy_X3_put.2⟩ ⟨by decide, by decide⟩ ⟨by decide, by decide⟩ rfl (by decide) rfl rfl rfl rfl rfl (Nat.le_of_ble_eq_true rfl) rfl rfl (fun r1 N1 hp => ?_)
  rw [e] at hp
  obtain ⟨rfl, go1, vm1, rm1, gm1, gt1, op1, to1, on1, last1, rfl⟩ := hp
  refine ⟨rfl, rfl, ?_⟩
  show G C 99 1346 276 (lwL i) [aI (ansOf (oPut u (xs (i + 1)) (xs (i + 2))))] (mainW (nPut v (xs (i + 1)) (xs (i + 2))) rf go1 vm1 rm1 gm1 vt rt gt1 tk lt len op1 to1 on1 last1 num nin (bump re (oPut u (xs (i + 1)) (xs (i + 2)))) ++ [modW u ro re lt len le la td fr ti pt st k1 tk ik cu go2 num nin up fo])
  refine g_aload_n hC dL_law_276 rfl rfl ?_
  refine lw_arg hC hL (n := 1) (j := 1) (by omega) rfl dL_law_277 dL_law_278 dL_law_279 dL_law_280 dL_law_281 ?_
  refine lw_arg hC hL (n := 2) (j := 2) (by omega) rfl dL_law_282 dL_law_283 dL_law_284 dL_law_285 dL_law_286 ?_
  refine g_invV (T := TX4) (N := 30) hC (is := [8]) (st := [aI (ansOf (oPut u (xs (i + 1)) (xs (i + 2))))]) (c_X4_put u ro re lt len le la td fr ti pt st k1 tk ik cu go2 num nin up fo hu (Nat.le_of_ble_eq_true rfl) (xs (i + 1)) (xs (i + 2))) dL_law_287 tw_4_157 tw_4_158 tw_4_159 tw_1_5 tw_4_160 ⟨hy_X4_put.1.1, hy_X4_put.1.2, hy_X4_put.2⟩ ⟨by decide, by decide⟩ ⟨by decide, by decide⟩ rfl (by decide) rfl rfl rfl rfl rfl (Nat.le_of_ble_eq_true rfl) rfl rfl (fun r1 N1 hp => ?_)
  obtain ⟨rfl, le1, la1, td1, fr1, ti1, pt1, st1, k2, ik1, cu1, go21, up1, fo1, hk2, rfl⟩ := hp
  refine ⟨rfl, rfl, ?_⟩
  show G C 99 1346 290 (lwL i) [aI (ansOf (oPut u (xs (i + 1)) (xs (i + 2)))), aI (ansOf (oPut u (xs (i + 1)) (xs (i + 2))))] (mainW (nPut v (xs (i + 1)) (xs (i + 2))) rf go1 vm1 rm1 gm1 vt rt gt1 tk lt len op1 to1 on1 last1 num nin (bump re (oPut u (xs (i + 1)) (xs (i + 2)))) ++ [modW (nPut u (xs (i + 1)) (xs (i + 2))) ro (bump re (oPut u (xs (i + 1)) (xs (i + 2)))) lt len le1 la1 td1 fr1 ti1 pt1 st1 k2 tk ik1 cu1 go21 num nin up1 fo1])
  exact g_icmp_eq (tgt := 894) hC dL_law_290 (by decide) (fun _ => kk _ ⟨_, _, _, _, _, _, _, _, _, _, _, _, _, _, _, rfl, ⟨_, _, _, _, _, _, _, _, _, rfl⟩, ⟨_, _, _, _, _, _, _, _, _, _, _, _, _, hk2, rfl⟩, hb.go (wn_put hv) (sn_put hs) hr⟩) (fun q => absurd rfl q)
set_option maxRecDepth 100000 in
set_option maxHeartbeats 4000000 in
theorem lo_wind {C : Cx} {L : Nat} {xs : Nat → Int32} (hC : Ok C cL_law RL 4 room_1 (EL C L xs)) (hL : L ≤ 2048) {i : Nat} (hi : i + 3 < L) {M : AM} (hI : Inv M) (kk : ∀ M', Inv M' → G C 99 1346 894 (lwL i) [] M') : G C 99 1346 295 (lwL i) [] M := by
  obtain ⟨v, rf, vt, rt, tk, lt, len, num, nin, re, u, ro, ke, M1, M2, rfl, ⟨go, vm, rm, gm, gt, op, to, on, last, rfl⟩, ⟨le, la, td, fr, ti, pt, st, k1, ik, cu, go2, up, fo, hk1, rfl⟩, hb⟩ := hI
  replace hb := hb.keep hk1
  obtain ⟨hv, hs, hr, hlen, hlt, hnin, hnum, htk⟩ := id hb
  have hu : wf 99 u := sm_wf hs hv
  have e : oWind v (xs (i + 1)) (xs (i + 2)) = oWind u (xs (i + 1)) (xs (i + 2)) := so_wind hs
  refine g_aload_n hC dL_law_295 rfl rfl ?_
  refine lw_arg hC hL (n := 1) (j := 1) (by omega) rfl dL_law_296 dL_law_297 dL_law_298 dL_law_299 dL_law_300 ?_
  refine lw_arg hC hL (n := 2) (j := 2) (by omega) rfl dL_law_301 dL_law_302 dL_law_303 dL_law_304 dL_law_305 ?_
  refine g_invV (T := TX3) (N := 9) hC (is := [0, 1, 2, 3, 4, 5, 6, 7]) (st := []) (c_X3_wind v rf go vm rm gm vt rt gt tk lt len op to on last num nin re (xs (i + 1)) (xs (i + 2)) hv) dL_law_306 tw_2_178 tw_2_179 tw_2_180 tw_1_1 tw_2_181 ⟨hy_X3_wind.1.1, hy_X3_wind.1.2, hy_X3_wind.2⟩ ⟨by decide, by decide⟩ ⟨by decide, by decide⟩ rfl (by decide) rfl rfl rfl rfl rfl (Nat.le_of_ble_eq_true rfl) rfl rfl (fun r1 N1 hp => ?_)
  rw [e] at hp
  obtain ⟨rfl, go1, vm1, rm1, gm1, gt1, op1, to1, on1, last1, rfl⟩ := hp
  refine ⟨rfl, rfl, ?_⟩
  show G C 99 1346 309 (lwL i) [aI (ansOf (oWind u (xs (i + 1)) (xs (i + 2))))] (mainW (nWind v (xs (i + 1)) (xs (i + 2))) rf go1 vm1 rm1 gm1 vt rt gt1 tk lt len op1 to1 on1 last1 num nin (bump re (oWind u (xs (i + 1)) (xs (i + 2)))) ++ [modW u ro re lt len le la td fr ti pt st k1 tk ik cu go2 num nin up fo])
  refine g_aload_n hC dL_law_309 rfl rfl ?_
  refine lw_arg hC hL (n := 1) (j := 1) (by omega) rfl dL_law_310 dL_law_311 dL_law_312 dL_law_313 dL_law_314 ?_
  refine lw_arg hC hL (n := 2) (j := 2) (by omega) rfl dL_law_315 dL_law_316 dL_law_317 dL_law_318 dL_law_319 ?_
  refine g_invV (T := TX4) (N := 30) hC (is := [8]) (st := [aI (ansOf (oWind u (xs (i + 1)) (xs (i + 2))))]) (c_X4_wind u ro re lt len le la td fr ti pt st k1 tk ik cu go2 num nin up fo hu (Nat.le_of_ble_eq_true rfl) (xs (i + 1)) (xs (i + 2))) dL_law_320 tw_4_161 tw_4_162 tw_4_163 tw_1_5 tw_4_164 ⟨hy_X4_wind.1.1, hy_X4_wind.1.2, hy_X4_wind.2⟩ ⟨by decide, by decide⟩ ⟨by decide, by decide⟩ rfl (by decide) rfl rfl rfl rfl rfl (Nat.le_of_ble_eq_true rfl) rfl rfl (fun r1 N1 hp => ?_)
  obtain ⟨rfl, le1, la1, td1, fr1, ti1, pt1, st1, k2, ik1, cu1, go21, up1, fo1, hk2, rfl⟩ := hp
  refine ⟨rfl, rfl, ?_⟩
  show G C 99 1346 323 (lwL i) [aI (ansOf (oWind u (xs (i + 1)) (xs (i + 2)))), aI (ansOf (oWind u (xs (i + 1)) (xs (i + 2))))] (mainW (nWind v (xs (i + 1)) (xs (i + 2))) rf go1 vm1 rm1 gm1 vt rt gt1 tk lt len op1 to1 on1 last1 num nin (bump re (oWind u (xs (i + 1)) (xs (i + 2)))) ++ [modW (nWind u (xs (i + 1)) (xs (i + 2))) ro (bump re (oWind u (xs (i + 1)) (xs (i + 2)))) lt len le1 la1 td1 fr1 ti1 pt1 st1 k2 tk ik1 cu1 go21 num nin up1 fo1])
  exact g_icmp_eq (tgt := 894) hC dL_law_323 (by decide) (fun _ => kk _ ⟨_, _, _, _, _, _, _, _, _, _, _, _, _, _, _, rfl, ⟨_, _, _, _, _, _, _, _, _, rfl⟩, ⟨_, _, _, _, _, _, _, _, _, _, _, _, _, hk2, rfl⟩, hb.go (wn_wind hv) (sn_wind hs) hr⟩) (fun q => absurd rfl q)
set_option maxRecDepth 100000 in
set_option maxHeartbeats 4000000 in
theorem lo_nose {C : Cx} {L : Nat} {xs : Nat → Int32} (hC : Ok C cL_law RL 4 room_1 (EL C L xs)) (hL : L ≤ 2048) {i : Nat} (hi : i + 3 < L) {M : AM} (hI : Inv M) (kk : ∀ M', Inv M' → G C 99 1346 894 (lwL i) [] M') : G C 99 1346 328 (lwL i) [] M := by
  obtain ⟨v, rf, vt, rt, tk, lt, len, num, nin, re, u, ro, ke, M1, M2, rfl, ⟨go, vm, rm, gm, gt, op, to, on, last, rfl⟩, ⟨le, la, td, fr, ti, pt, st, k1, ik, cu, go2, up, fo, hk1, rfl⟩, hb⟩ := hI
  replace hb := hb.keep hk1
  obtain ⟨hv, hs, hr, hlen, hlt, hnin, hnum, htk⟩ := id hb
  have hu : wf 99 u := sm_wf hs hv
  have e : oNose v (xs (i + 1)) = oNose u (xs (i + 1)) := so_nose hs
  refine g_aload_n hC dL_law_328 rfl rfl ?_
  refine lw_arg hC hL (n := 1) (j := 1) (by omega) rfl dL_law_329 dL_law_330 dL_law_331 dL_law_332 dL_law_333 ?_
  refine g_invV (T := TX3) (N := 9) hC (is := [0, 1, 2, 3, 4, 5, 6, 7]) (st := []) (c_X3_nose v rf go vm rm gm vt rt gt tk lt len op to on last num nin re (xs (i + 1)) hv) dL_law_334 tw_2_186 tw_2_187 tw_2_188 tw_1_1 tw_2_189 ⟨hy_X3_nose.1.1, hy_X3_nose.1.2, hy_X3_nose.2⟩ ⟨by decide, by decide⟩ ⟨by decide, by decide⟩ rfl (by decide) rfl rfl rfl rfl rfl (Nat.le_of_ble_eq_true rfl) rfl rfl (fun r1 N1 hp => ?_)
  rw [e] at hp
  obtain ⟨rfl, go1, vm1, rm1, gm1, gt1, op1, to1, on1, last1, rfl⟩ := hp
  refine ⟨rfl, rfl, ?_⟩
  show G C 99 1346 337 (lwL i) [aI (ansOf (oNose u (xs (i + 1))))] (mainW (nNose v (xs (i + 1))) rf go1 vm1 rm1 gm1 vt rt gt1 tk lt len op1 to1 on1 last1 num nin (bump re (oNose u (xs (i + 1)))) ++ [modW u ro re lt len le la td fr ti pt st k1 tk ik cu go2 num nin up fo])
  refine g_aload_n hC dL_law_337 rfl rfl ?_
  refine lw_arg hC hL (n := 1) (j := 1) (by omega) rfl dL_law_338 dL_law_339 dL_law_340 dL_law_341 dL_law_342 ?_
  refine g_invV (T := TX4) (N := 30) hC (is := [8]) (st := [aI (ansOf (oNose u (xs (i + 1))))]) (c_X4_nose u ro re lt len le la td fr ti pt st k1 tk ik cu go2 num nin up fo hu (Nat.le_of_ble_eq_true rfl) (xs (i + 1))) dL_law_343 tw_4_165 tw_4_166 tw_4_167 tw_1_5 tw_4_168 ⟨hy_X4_nose.1.1, hy_X4_nose.1.2, hy_X4_nose.2⟩ ⟨by decide, by decide⟩ ⟨by decide, by decide⟩ rfl (by decide) rfl rfl rfl rfl rfl (Nat.le_of_ble_eq_true rfl) rfl rfl (fun r1 N1 hp => ?_)
  obtain ⟨rfl, le1, la1, td1, fr1, ti1, pt1, st1, k2, ik1, cu1, go21, up1, fo1, hk2, rfl⟩ := hp
  refine ⟨rfl, rfl, ?_⟩
  show G C 99 1346 346 (lwL i) [aI (ansOf (oNose u (xs (i + 1)))), aI (ansOf (oNose u (xs (i + 1))))] (mainW (nNose v (xs (i + 1))) rf go1 vm1 rm1 gm1 vt rt gt1 tk lt len op1 to1 on1 last1 num nin (bump re (oNose u (xs (i + 1)))) ++ [modW (nNose u (xs (i + 1))) ro (bump re (oNose u (xs (i + 1)))) lt len le1 la1 td1 fr1 ti1 pt1 st1 k2 tk ik1 cu1 go21 num nin up1 fo1])
  exact g_icmp_eq (tgt := 894) hC dL_law_346 (by decide) (fun _ => kk _ ⟨_, _, _, _, _, _, _, _, _, _, _, _, _, _, _, rfl, ⟨_, _, _, _, _, _, _, _, _, rfl⟩, ⟨_, _, _, _, _, _, _, _, _, _, _, _, _, hk2, rfl⟩, hb.go (wn_nose hv) (sn_nose hs) hr⟩) (fun q => absurd rfl q)
set_option maxRecDepth 100000 in
set_option maxHeartbeats 4000000 in
theorem lo_pass {C : Cx} {L : Nat} {xs : Nat → Int32} (hC : Ok C cL_law RL 4 room_1 (EL C L xs)) (hL : L ≤ 2048) {i : Nat} (hi : i + 3 < L) {M : AM} (hI : Inv M) (kk : ∀ M', Inv M' → G C 99 1346 894 (lwL i) [] M') : G C 99 1346 351 (lwL i) [] M := by
  obtain ⟨v, rf, vt, rt, tk, lt, len, num, nin, re, u, ro, ke, M1, M2, rfl, ⟨go, vm, rm, gm, gt, op, to, on, last, rfl⟩, ⟨le, la, td, fr, ti, pt, st, k1, ik, cu, go2, up, fo, hk1, rfl⟩, hb⟩ := hI
  replace hb := hb.keep hk1
  obtain ⟨hv, hs, hr, hlen, hlt, hnin, hnum, htk⟩ := id hb
  have hu : wf 99 u := sm_wf hs hv
  have e : oPass v (xs (i + 1)) = oPass u (xs (i + 1)) := so_pass hs
  refine g_aload_n hC dL_law_351 rfl rfl ?_
  refine lw_arg hC hL (n := 1) (j := 1) (by omega) rfl dL_law_352 dL_law_353 dL_law_354 dL_law_355 dL_law_356 ?_
  refine g_invV (T := TX3) (N := 9) hC (is := [0, 1, 2, 3, 4, 5, 6, 7]) (st := []) (c_X3_pass v rf go vm rm gm vt rt gt tk lt len op to on last num nin re (xs (i + 1)) hv) dL_law_357 tw_2_195 tw_2_196 tw_2_197 tw_1_1 tw_2_198 ⟨hy_X3_pass.1.1, hy_X3_pass.1.2, hy_X3_pass.2⟩ ⟨by decide, by decide⟩ ⟨by decide, by decide⟩ rfl (by decide) rfl rfl rfl rfl rfl (Nat.le_of_ble_eq_true rfl) rfl rfl (fun r1 N1 hp => ?_)
  rw [e] at hp
  obtain ⟨rfl, go1, vm1, rm1, gm1, gt1, op1, to1, on1, last1, rfl⟩ := hp
  refine ⟨rfl, rfl, ?_⟩
  show G C 99 1346 360 (lwL i) [aI (ansOf (oPass u (xs (i + 1))))] (mainW (nPass v (xs (i + 1))) rf go1 vm1 rm1 gm1 vt rt gt1 tk lt len op1 to1 on1 last1 num nin (bump re (oPass u (xs (i + 1)))) ++ [modW u ro re lt len le la td fr ti pt st k1 tk ik cu go2 num nin up fo])
  refine g_aload_n hC dL_law_360 rfl rfl ?_
  refine lw_arg hC hL (n := 1) (j := 1) (by omega) rfl dL_law_361 dL_law_362 dL_law_363 dL_law_364 dL_law_365 ?_
  refine g_invV (T := TX4) (N := 30) hC (is := [8]) (st := [aI (ansOf (oPass u (xs (i + 1))))]) (c_X4_pass u ro re lt len le la td fr ti pt st k1 tk ik cu go2 num nin up fo hu (Nat.le_of_ble_eq_true rfl) (xs (i + 1))) dL_law_366 tw_4_169 tw_4_170 tw_4_171 tw_1_5 tw_4_172 ⟨hy_X4_pass.1.1, hy_X4_pass.1.2, hy_X4_pass.2⟩ ⟨by decide, by decide⟩ ⟨by decide, by decide⟩ rfl (by decide) rfl rfl rfl rfl rfl (Nat.le_of_ble_eq_true rfl) rfl rfl (fun r1 N1 hp => ?_)
  obtain ⟨rfl, le1, la1, td1, fr1, ti1, pt1, st1, k2, ik1, cu1, go21, up1, fo1, hk2, rfl⟩ := hp
  refine ⟨rfl, rfl, ?_⟩
  show G C 99 1346 369 (lwL i) [aI (ansOf (oPass u (xs (i + 1)))), aI (ansOf (oPass u (xs (i + 1))))] (mainW (nPass v (xs (i + 1))) rf go1 vm1 rm1 gm1 vt rt gt1 tk lt len op1 to1 on1 last1 num nin (bump re (oPass u (xs (i + 1)))) ++ [modW (nPass u (xs (i + 1))) ro (bump re (oPass u (xs (i + 1)))) lt len le1 la1 td1 fr1 ti1 pt1 st1 k2 tk ik1 cu1 go21 num nin up1 fo1])
  exact g_icmp_eq (tgt := 894) hC dL_law_369 (by decide) (fun _ => kk _ ⟨_, _, _, _, _, _, _, _, _, _, _, _, _, _, _, rfl, ⟨_, _, _, _, _, _, _, _, _, rfl⟩, ⟨_, _, _, _, _, _, _, _, _, _, _, _, _, hk2, rfl⟩, hb.go (wn_pass hv) (sn_pass hs hv) hr⟩) (fun q => absurd rfl q)
set_option maxRecDepth 100000 in
set_option maxHeartbeats 4000000 in
theorem lo_rain {C : Cx} {L : Nat} {xs : Nat → Int32} (hC : Ok C cL_law RL 4 room_1 (EL C L xs)) (hL : L ≤ 2048) {i : Nat} (hi : i + 3 < L) {M : AM} (hI : Inv M) (kk : ∀ M', Inv M' → G C 99 1346 894 (lwL i) [] M') : G C 99 1346 374 (lwL i) [] M := by
  obtain ⟨v, rf, vt, rt, tk, lt, len, num, nin, re, u, ro, ke, M1, M2, rfl, ⟨go, vm, rm, gm, gt, op, to, on, last, rfl⟩, ⟨le, la, td, fr, ti, pt, st, k1, ik, cu, go2, up, fo, hk1, rfl⟩, hb⟩ := hI
  replace hb := hb.keep hk1
  obtain ⟨hv, hs, hr, hlen, hlt, hnin, hnum, htk⟩ := id hb
  have hu : wf 99 u := sm_wf hs hv
  have e : oRain v (fun r => rf.testBit r) = oRain u (fun r => decide (ro r = 1)) := so_rain hs (rr_p hr)
  refine g_aload_n hC dL_law_374 rfl rfl ?_
  refine g_invV (T := TX3) (N := 9) hC (is := [0, 1, 2, 3, 4, 5, 6, 7]) (st := []) (c_X3_rain v rf go vm rm gm vt rt gt tk lt len op to on last num nin re hv hr.1) dL_law_375 tw_2_213 tw_2_214 tw_2_215 tw_1_1 tw_2_216 ⟨hy_X3_rain.1.1, hy_X3_rain.1.2, hy_X3_rain.2⟩ ⟨by decide, by decide⟩ ⟨by decide, by decide⟩ rfl (by decide) rfl rfl rfl rfl rfl (Nat.le_of_ble_eq_true rfl) rfl rfl (fun r1 N1 hp => ?_)
  rw [e] at hp
  obtain ⟨rfl, go1, vm1, rm1, gm1, gt1, op1, to1, on1, last1, rfl⟩ := hp
  refine ⟨rfl, rfl, ?_⟩
  show G C 99 1346 378 (lwL i) [aI (ansOf (oRain u (fun r => decide (ro r = 1))))] (mainW (rainV v (fun r => rf.testBit r) 6) rf go1 vm1 rm1 gm1 vt rt gt1 tk lt len op1 to1 on1 last1 num nin (bump re (oRain u (fun r => decide (ro r = 1)))) ++ [modW u ro re lt len le la td fr ti pt st k1 tk ik cu go2 num nin up fo])
  refine g_aload_n hC dL_law_378 rfl rfl ?_
  refine g_invV (T := TX4) (N := 30) hC (is := [8]) (st := [aI (ansOf (oRain u (fun r => decide (ro r = 1))))]) (c_X4_rain u ro re lt len le la td fr ti pt st k1 tk ik cu go2 num nin up fo hu (Nat.le_of_ble_eq_true rfl) (rr_1 hr)) dL_law_379 tw_4_177 tw_4_178 tw_4_179 tw_1_5 tw_4_180 ⟨hy_X4_rain.1.1, hy_X4_rain.1.2, hy_X4_rain.2⟩ ⟨by decide, by decide⟩ ⟨by decide, by decide⟩ rfl (by decide) rfl rfl rfl rfl rfl (Nat.le_of_ble_eq_true rfl) rfl rfl (fun r1 N1 hp => ?_)
  obtain ⟨rfl, le1, la1, td1, fr1, ti1, pt1, st1, k2, ik1, cu1, go21, up1, fo1, hk2, rfl⟩ := hp
  refine ⟨rfl, rfl, ?_⟩
  show G C 99 1346 382 (lwL i) [aI (ansOf (oRain u (fun r => decide (ro r = 1)))), aI (ansOf (oRain u (fun r => decide (ro r = 1))))] (mainW (rainV v (fun r => rf.testBit r) 6) rf go1 vm1 rm1 gm1 vt rt gt1 tk lt len op1 to1 on1 last1 num nin (bump re (oRain u (fun r => decide (ro r = 1)))) ++ [modW (rainV u (fun r => decide (ro r = 1)) 6) ro (bump re (oRain u (fun r => decide (ro r = 1)))) lt len le1 la1 td1 fr1 ti1 pt1 st1 k2 tk ik1 cu1 go21 num nin up1 fo1])
  exact g_icmp_eq (tgt := 894) hC dL_law_382 (by decide) (fun _ => kk _ ⟨_, _, _, _, _, _, _, _, _, _, _, _, _, _, _, rfl, ⟨_, _, _, _, _, _, _, _, _, rfl⟩, ⟨_, _, _, _, _, _, _, _, _, _, _, _, _, hk2, rfl⟩, hb.go (wf_rain hv _ 6) (sn_rain hs (rr_p hr)) hr⟩) (fun q => absurd rfl q)
set_option maxRecDepth 100000 in
set_option maxHeartbeats 4000000 in
theorem lo_age {C : Cx} {L : Nat} {xs : Nat → Int32} (hC : Ok C cL_law RL 4 room_1 (EL C L xs)) (hL : L ≤ 2048) {i : Nat} (hi : i + 3 < L) {M : AM} (hI : Inv M) (kk : ∀ M', Inv M' → G C 99 1346 894 (lwL i) [] M') : G C 99 1346 387 (lwL i) [] M := by
  obtain ⟨v, rf, vt, rt, tk, lt, len, num, nin, re, u, ro, ke, M1, M2, rfl, ⟨go, vm, rm, gm, gt, op, to, on, last, rfl⟩, ⟨le, la, td, fr, ti, pt, st, k1, ik, cu, go2, up, fo, hk1, rfl⟩, hb⟩ := hI
  replace hb := hb.keep hk1
  obtain ⟨hv, hs, hr, hlen, hlt, hnin, hnum, htk⟩ := id hb
  have hu : wf 99 u := sm_wf hs hv
  have e : oAge v (xs (i + 1)) (xs (i + 2)) = oAge u (xs (i + 1)) (xs (i + 2)) := so_age hs hv
  refine g_aload_n hC dL_law_387 rfl rfl ?_
  refine lw_arg hC hL (n := 1) (j := 1) (by omega) rfl dL_law_388 dL_law_389 dL_law_390 dL_law_391 dL_law_392 ?_
  refine lw_arg hC hL (n := 2) (j := 2) (by omega) rfl dL_law_393 dL_law_394 dL_law_395 dL_law_396 dL_law_397 ?_
  refine g_invV (T := TX3) (N := 9) hC (is := [0, 1, 2, 3, 4, 5, 6, 7]) (st := []) (c_X3_age v rf go vm rm gm vt rt gt tk lt len op to on last num nin re (xs (i + 1)) (xs (i + 2)) hv) dL_law_398 tw_2_234 tw_2_235 tw_2_236 tw_1_1 tw_2_237 ⟨hy_X3_age.1.1, hy_X3_age.1.2, hy_X3_age.2⟩ ⟨by decide, by decide⟩ ⟨by decide, by decide⟩ rfl (by decide) rfl rfl rfl rfl rfl (Nat.le_of_ble_eq_true rfl) rfl rfl (fun r1 N1 hp => ?_)
  rw [e] at hp
  obtain ⟨rfl, go1, vm1, rm1, gm1, gt1, op1, to1, on1, last1, rfl⟩ := hp
  refine ⟨rfl, rfl, ?_⟩
  show G C 99 1346 401 (lwL i) [aI (ansOf (oAge u (xs (i + 1)) (xs (i + 2))))] (mainW v rf go1 vm1 rm1 gm1 vt rt gt1 tk lt len op1 to1 on1 last1 num nin (bump re (oAge u (xs (i + 1)) (xs (i + 2)))) ++ [modW u ro re lt len le la td fr ti pt st k1 tk ik cu go2 num nin up fo])
  refine g_aload_n hC dL_law_401 rfl rfl ?_
  refine lw_arg hC hL (n := 1) (j := 1) (by omega) rfl dL_law_402 dL_law_403 dL_law_404 dL_law_405 dL_law_406 ?_
  refine lw_arg hC hL (n := 2) (j := 2) (by omega) rfl dL_law_407 dL_law_408 dL_law_409 dL_law_410 dL_law_411 ?_
  refine g_invV (T := TX4) (N := 30) hC (is := [8]) (st := [aI (ansOf (oAge u (xs (i + 1)) (xs (i + 2))))]) (c_X4_age u ro re lt len le la td fr ti pt st k1 tk ik cu go2 num nin up fo hu (Nat.le_of_ble_eq_true rfl) (xs (i + 1)) (xs (i + 2))) dL_law_412 tw_4_181 tw_4_182 tw_4_183 tw_1_5 tw_4_184 ⟨hy_X4_age.1.1, hy_X4_age.1.2, hy_X4_age.2⟩ ⟨by decide, by decide⟩ ⟨by decide, by decide⟩ rfl (by decide) rfl rfl rfl rfl rfl (Nat.le_of_ble_eq_true rfl) rfl rfl (fun r1 N1 hp => ?_)
  obtain ⟨rfl, le1, la1, td1, fr1, ti1, pt1, st1, k2, ik1, cu1, go21, up1, fo1, hk2, rfl⟩ := hp
  refine ⟨rfl, rfl, ?_⟩
  show G C 99 1346 415 (lwL i) [aI (ansOf (oAge u (xs (i + 1)) (xs (i + 2)))), aI (ansOf (oAge u (xs (i + 1)) (xs (i + 2))))] (mainW v rf go1 vm1 rm1 gm1 vt rt gt1 tk lt len op1 to1 on1 last1 num nin (bump re (oAge u (xs (i + 1)) (xs (i + 2)))) ++ [modW u ro (bump re (oAge u (xs (i + 1)) (xs (i + 2)))) lt len le1 la1 td1 fr1 ti1 pt1 st1 k2 tk ik1 cu1 go21 num nin up1 fo1])
  exact g_icmp_eq (tgt := 894) hC dL_law_415 (by decide) (fun _ => kk _ ⟨_, _, _, _, _, _, _, _, _, _, _, _, _, _, _, rfl, ⟨_, _, _, _, _, _, _, _, _, rfl⟩, ⟨_, _, _, _, _, _, _, _, _, _, _, _, _, hk2, rfl⟩, hb⟩) (fun q => absurd rfl q)
set_option maxRecDepth 100000 in
set_option maxHeartbeats 4000000 in
theorem lo_smelt {C : Cx} {L : Nat} {xs : Nat → Int32} (hC : Ok C cL_law RL 4 room_1 (EL C L xs)) (hL : L ≤ 2048) {i : Nat} (hi : i + 3 < L) {M : AM} (hI : Inv M) (kk : ∀ M', Inv M' → G C 99 1346 894 (lwL i) [] M') : G C 99 1346 420 (lwL i) [] M := by
  obtain ⟨v, rf, vt, rt, tk, lt, len, num, nin, re, u, ro, ke, M1, M2, rfl, ⟨go, vm, rm, gm, gt, op, to, on, last, rfl⟩, ⟨le, la, td, fr, ti, pt, st, k1, ik, cu, go2, up, fo, hk1, rfl⟩, hb⟩ := hI
  replace hb := hb.keep hk1
  obtain ⟨hv, hs, hr, hlen, hlt, hnin, hnum, htk⟩ := id hb
  have hu : wf 99 u := sm_wf hs hv
  have e : oSmelt v (xs (i + 1)) (xs (i + 2)) = oSmelt u (xs (i + 1)) (xs (i + 2)) := so_smelt hs
  refine g_aload_n hC dL_law_420 rfl rfl ?_
  refine lw_arg hC hL (n := 1) (j := 1) (by omega) rfl dL_law_421 dL_law_422 dL_law_423 dL_law_424 dL_law_425 ?_
  refine lw_arg hC hL (n := 2) (j := 2) (by omega) rfl dL_law_426 dL_law_427 dL_law_428 dL_law_429 dL_law_430 ?_
  refine g_invV (T := TX3) (N := 9) hC (is := [0, 1, 2, 3, 4, 5, 6, 7]) (st := []) (c_X3_smelt v rf go vm rm gm vt rt gt tk lt len op to on last num nin re (xs (i + 1)) (xs (i + 2)) hv) dL_law_431 tw_2_239 tw_3_0 tw_3_1 tw_1_1 tw_3_2 ⟨hy_X3_smelt.1.1, hy_X3_smelt.1.2, hy_X3_smelt.2⟩ ⟨by decide, by decide⟩ ⟨by decide, by decide⟩ rfl (by decide) rfl rfl rfl rfl rfl (Nat.le_of_ble_eq_true rfl) rfl rfl (fun r1 N1 hp => ?_)
  rw [e] at hp
  obtain ⟨rfl, go1, vm1, rm1, gm1, gt1, op1, to1, on1, last1, rfl⟩ := hp
  refine ⟨rfl, rfl, ?_⟩
  show G C 99 1346 434 (lwL i) [aI (ansOf (oSmelt u (xs (i + 1)) (xs (i + 2))))] (mainW v rf go1 vm1 rm1 gm1 vt rt gt1 tk lt len op1 to1 on1 last1 num nin (bump re (oSmelt u (xs (i + 1)) (xs (i + 2)))) ++ [modW u ro re lt len le la td fr ti pt st k1 tk ik cu go2 num nin up fo])
  refine g_aload_n hC dL_law_434 rfl rfl ?_
  refine lw_arg hC hL (n := 1) (j := 1) (by omega) rfl dL_law_435 dL_law_436 dL_law_437 dL_law_438 dL_law_439 ?_
  refine lw_arg hC hL (n := 2) (j := 2) (by omega) rfl dL_law_440 dL_law_441 dL_law_442 dL_law_443 dL_law_444 ?_
  refine g_invV (T := TX4) (N := 30) hC (is := [8]) (st := [aI (ansOf (oSmelt u (xs (i + 1)) (xs (i + 2))))]) (c_X4_smelt u ro re lt len le la td fr ti pt st k1 tk ik cu go2 num nin up fo hu (Nat.le_of_ble_eq_true rfl) (xs (i + 1)) (xs (i + 2))) dL_law_445 tw_4_185 tw_4_186 tw_4_187 tw_1_5 tw_4_188 ⟨hy_X4_smelt.1.1, hy_X4_smelt.1.2, hy_X4_smelt.2⟩ ⟨by decide, by decide⟩ ⟨by decide, by decide⟩ rfl (by decide) rfl rfl rfl rfl rfl (Nat.le_of_ble_eq_true rfl) rfl rfl (fun r1 N1 hp => ?_)
  obtain ⟨rfl, le1, la1, td1, fr1, ti1, pt1, st1, k2, ik1, cu1, go21, up1, fo1, hk2, rfl⟩ := hp
  refine ⟨rfl, rfl, ?_⟩
  show G C 99 1346 448 (lwL i) [aI (ansOf (oSmelt u (xs (i + 1)) (xs (i + 2)))), aI (ansOf (oSmelt u (xs (i + 1)) (xs (i + 2))))] (mainW v rf go1 vm1 rm1 gm1 vt rt gt1 tk lt len op1 to1 on1 last1 num nin (bump re (oSmelt u (xs (i + 1)) (xs (i + 2)))) ++ [modW u ro (bump re (oSmelt u (xs (i + 1)) (xs (i + 2)))) lt len le1 la1 td1 fr1 ti1 pt1 st1 k2 tk ik1 cu1 go21 num nin up1 fo1])
  exact g_icmp_eq (tgt := 894) hC dL_law_448 (by decide) (fun _ => kk _ ⟨_, _, _, _, _, _, _, _, _, _, _, _, _, _, _, rfl, ⟨_, _, _, _, _, _, _, _, _, rfl⟩, ⟨_, _, _, _, _, _, _, _, _, _, _, _, _, hk2, rfl⟩, hb⟩) (fun q => absurd rfl q)
set_option maxRecDepth 100000 in
set_option maxHeartbeats 4000000 in
theorem lo_behind {C : Cx} {L : Nat} {xs : Nat → Int32} (hC : Ok C cL_law RL 4 room_1 (EL C L xs)) (hL : L ≤ 2048) {i : Nat} (hi : i + 3 < L) {M : AM} (hI : Inv M) (kk : ∀ M', Inv M' → G C 99 1346 894 (lwL i) [] M') : G C 99 1346 453 (lwL i) [] M := by
  obtain ⟨v, rf, vt, rt, tk, lt, len, num, nin, re, u, ro, ke, M1, M2, rfl, ⟨go, vm, rm, gm, gt, op, to, on, last, rfl⟩, ⟨le, la, td, fr, ti, pt, st, k1, ik, cu, go2, up, fo, hk1, rfl⟩, hb⟩ := hI
  replace hb := hb.keep hk1
  obtain ⟨hv, hs, hr, hlen, hlt, hnin, hnum, htk⟩ := id hb
  have hu : wf 99 u := sm_wf hs hv
  have e : oBehind v (xs (i + 1)) (xs (i + 2)) = oBehind u (xs (i + 1)) (xs (i + 2)) := so_behind hs hv
  refine g_aload_n hC dL_law_453 rfl rfl ?_
  refine lw_arg hC hL (n := 1) (j := 1) (by omega) rfl dL_law_454 dL_law_455 dL_law_456 dL_law_457 dL_law_458 ?_
  refine lw_arg hC hL (n := 2) (j := 2) (by omega) rfl dL_law_459 dL_law_460 dL_law_461 dL_law_462 dL_law_463 ?_
  refine g_invV (T := TX3) (N := 9) hC (is := [0, 1, 2, 3, 4, 5, 6, 7]) (st := []) (c_X3_behind v rf go vm rm gm vt rt gt tk lt len op to on last num nin re (xs (i + 1)) (xs (i + 2)) hv) dL_law_464 tw_3_24 tw_3_25 tw_3_26 tw_1_1 tw_3_27 ⟨hy_X3_behind.1.1, hy_X3_behind.1.2, hy_X3_behind.2⟩ ⟨by decide, by decide⟩ ⟨by decide, by decide⟩ rfl (by decide) rfl rfl rfl rfl rfl (Nat.le_of_ble_eq_true rfl) rfl rfl (fun r1 N1 hp => ?_)
  rw [e] at hp
  obtain ⟨rfl, go1, vm1, rm1, gm1, gt1, op1, to1, on1, last1, rfl⟩ := hp
  refine ⟨rfl, rfl, ?_⟩
  show G C 99 1346 467 (lwL i) [aI (ansOf (oBehind u (xs (i + 1)) (xs (i + 2))))] (mainW v rf go1 vm1 rm1 gm1 vt rt gt1 tk lt len op1 to1 on1 last1 num nin (bump re (oBehind u (xs (i + 1)) (xs (i + 2)))) ++ [modW u ro re lt len le la td fr ti pt st k1 tk ik cu go2 num nin up fo])
  refine g_aload_n hC dL_law_467 rfl rfl ?_
  refine lw_arg hC hL (n := 1) (j := 1) (by omega) rfl dL_law_468 dL_law_469 dL_law_470 dL_law_471 dL_law_472 ?_
  refine lw_arg hC hL (n := 2) (j := 2) (by omega) rfl dL_law_473 dL_law_474 dL_law_475 dL_law_476 dL_law_477 ?_
  refine g_invV (T := TX4) (N := 30) hC (is := [8]) (st := [aI (ansOf (oBehind u (xs (i + 1)) (xs (i + 2))))]) (c_X4_behind u ro re lt len le la td fr ti pt st k1 tk ik cu go2 num nin up fo hu (Nat.le_of_ble_eq_true rfl) (xs (i + 1)) (xs (i + 2))) dL_law_478 tw_4_197 tw_4_198 tw_4_199 tw_1_5 tw_4_200 ⟨hy_X4_behind.1.1, hy_X4_behind.1.2, hy_X4_behind.2⟩ ⟨by decide, by decide⟩ ⟨by decide, by decide⟩ rfl (by decide) rfl rfl rfl rfl rfl (Nat.le_of_ble_eq_true rfl) rfl rfl (fun r1 N1 hp => ?_)
  obtain ⟨rfl, u1, ro1, hs1, hro1, le1, la1, td1, fr1, ti1, pt1, st1, k2, ik1, cu1, go21, up1, fo1, hk2, rfl⟩ := hp
  refine ⟨rfl, rfl, ?_⟩
  show G C 99 1346 481 (lwL i) [aI (ansOf (oBehind u (xs (i + 1)) (xs (i + 2)))), aI (ansOf (oBehind u (xs (i + 1)) (xs (i + 2))))] (mainW v rf go1 vm1 rm1 gm1 vt rt gt1 tk lt len op1 to1 on1 last1 num nin (bump re (oBehind u (xs (i + 1)) (xs (i + 2)))) ++ [modW u1 ro1 (bump re (oBehind u (xs (i + 1)) (xs (i + 2)))) lt len le1 la1 td1 fr1 ti1 pt1 st1 k2 tk ik1 cu1 go21 num nin up1 fo1])
  exact g_icmp_eq (tgt := 894) hC dL_law_481 (by decide) (fun _ => kk _ ⟨_, _, _, _, _, _, _, _, _, _, _, _, _, _, _, rfl, ⟨_, _, _, _, _, _, _, _, _, rfl⟩, ⟨_, _, _, _, _, _, _, _, _, _, _, _, _, hk2, rfl⟩, hb.go hv (sm_trans hs (sm_symm hs1)) (rr_same hr hro1)⟩) (fun q => absurd rfl q)
set_option maxRecDepth 100000 in
set_option maxHeartbeats 4000000 in
theorem lo_freshest {C : Cx} {L : Nat} {xs : Nat → Int32} (hC : Ok C cL_law RL 4 room_1 (EL C L xs)) (hL : L ≤ 2048) {i : Nat} (hi : i + 3 < L) {M : AM} (hI : Inv M) (kk : ∀ M', Inv M' → G C 99 1346 894 (lwL i) [] M') : G C 99 1346 486 (lwL i) [] M := by
  obtain ⟨v, rf, vt, rt, tk, lt, len, num, nin, re, u, ro, ke, M1, M2, rfl, ⟨go, vm, rm, gm, gt, op, to, on, last, rfl⟩, ⟨le, la, td, fr, ti, pt, st, k1, ik, cu, go2, up, fo, hk1, rfl⟩, hb⟩ := hI
  replace hb := hb.keep hk1
  obtain ⟨hv, hs, hr, hlen, hlt, hnin, hnum, htk⟩ := id hb
  have hu : wf 99 u := sm_wf hs hv
  have e : oFresh v (xs (i + 1)) (xs (i + 2)) = oFresh u (xs (i + 1)) (xs (i + 2)) := so_fresh hs hv
  refine g_aload_n hC dL_law_486 rfl rfl ?_
  refine lw_arg hC hL (n := 1) (j := 1) (by omega) rfl dL_law_487 dL_law_488 dL_law_489 dL_law_490 dL_law_491 ?_
  refine lw_arg hC hL (n := 2) (j := 2) (by omega) rfl dL_law_492 dL_law_493 dL_law_494 dL_law_495 dL_law_496 ?_
  refine g_invV (T := TX3) (N := 9) hC (is := [0, 1, 2, 3, 4, 5, 6, 7]) (st := []) (c_X3_freshest v rf go vm rm gm vt rt gt tk lt len op to on last num nin re (xs (i + 1)) (xs (i + 2)) hv) dL_law_497 tw_3_32 tw_3_33 tw_3_34 tw_1_1 tw_3_35 ⟨hy_X3_freshest.1.1, hy_X3_freshest.1.2, hy_X3_freshest.2⟩ ⟨by decide, by decide⟩ ⟨by decide, by decide⟩ rfl (by decide) rfl rfl rfl rfl rfl (Nat.le_of_ble_eq_true rfl) rfl rfl (fun r1 N1 hp => ?_)
  rw [e] at hp
  obtain ⟨rfl, go1, vm1, rm1, gm1, gt1, op1, to1, on1, last1, rfl⟩ := hp
  refine ⟨rfl, rfl, ?_⟩
  show G C 99 1346 500 (lwL i) [aI (ansOf (oFresh u (xs (i + 1)) (xs (i + 2))))] (mainW v rf go1 vm1 rm1 gm1 vt rt gt1 tk lt len op1 to1 on1 last1 num nin (bump re (oFresh u (xs (i + 1)) (xs (i + 2)))) ++ [modW u ro re lt len le la td fr ti pt st k1 tk ik cu go2 num nin up fo])
  refine g_aload_n hC dL_law_500 rfl rfl ?_
  refine lw_arg hC hL (n := 1) (j := 1) (by omega) rfl dL_law_501 dL_law_502 dL_law_503 dL_law_504 dL_law_505 ?_
  refine lw_arg hC hL (n := 2) (j := 2) (by omega) rfl dL_law_506 dL_law_507 dL_law_508 dL_law_509 dL_law_510 ?_
  refine g_invV (T := TX4) (N := 30) hC (is := [8]) (st := [aI (ansOf (oFresh u (xs (i + 1)) (xs (i + 2))))]) (c_X4_freshest u ro re lt len le la td fr ti pt st k1 tk ik cu go2 num nin up fo hu (Nat.le_of_ble_eq_true rfl) (xs (i + 1)) (xs (i + 2))) dL_law_511 tw_4_205 tw_4_206 tw_4_207 tw_1_5 tw_4_208 ⟨hy_X4_freshest.1.1, hy_X4_freshest.1.2, hy_X4_freshest.2⟩ ⟨by decide, by decide⟩ ⟨by decide, by decide⟩ rfl (by decide) rfl rfl rfl rfl rfl (Nat.le_of_ble_eq_true rfl) rfl rfl (fun r1 N1 hp => ?_)
  obtain ⟨rfl, u1, ro1, hs1, hro1, le1, la1, td1, fr1, ti1, pt1, st1, k2, ik1, cu1, go21, up1, fo1, hk2, rfl⟩ := hp
  refine ⟨rfl, rfl, ?_⟩
  show G C 99 1346 514 (lwL i) [aI (ansOf (oFresh u (xs (i + 1)) (xs (i + 2)))), aI (ansOf (oFresh u (xs (i + 1)) (xs (i + 2))))] (mainW v rf go1 vm1 rm1 gm1 vt rt gt1 tk lt len op1 to1 on1 last1 num nin (bump re (oFresh u (xs (i + 1)) (xs (i + 2)))) ++ [modW u1 ro1 (bump re (oFresh u (xs (i + 1)) (xs (i + 2)))) lt len le1 la1 td1 fr1 ti1 pt1 st1 k2 tk ik1 cu1 go21 num nin up1 fo1])
  exact g_icmp_eq (tgt := 894) hC dL_law_514 (by decide) (fun _ => kk _ ⟨_, _, _, _, _, _, _, _, _, _, _, _, _, _, _, rfl, ⟨_, _, _, _, _, _, _, _, _, rfl⟩, ⟨_, _, _, _, _, _, _, _, _, _, _, _, _, hk2, rfl⟩, hb.go hv (sm_trans hs (sm_symm hs1)) (rr_same hr hro1)⟩) (fun q => absurd rfl q)
set_option maxRecDepth 100000 in
set_option maxHeartbeats 4000000 in
theorem lo_meet {C : Cx} {L : Nat} {xs : Nat → Int32} (hC : Ok C cL_law RL 4 room_1 (EL C L xs)) (hL : L ≤ 2048) {i : Nat} (hi : i + 3 < L) {M : AM} (hI : Inv M) (kk : ∀ M', Inv M' → G C 99 1346 894 (lwL i) [] M') : G C 99 1346 519 (lwL i) [] M := by
  obtain ⟨v, rf, vt, rt, tk, lt, len, num, nin, re, u, ro, ke, M1, M2, rfl, ⟨go, vm, rm, gm, gt, op, to, on, last, rfl⟩, ⟨le, la, td, fr, ti, pt, st, k1, ik, cu, go2, up, fo, hk1, rfl⟩, hb⟩ := hI
  replace hb := hb.keep hk1
  obtain ⟨hv, hs, hr, hlen, hlt, hnin, hnum, htk⟩ := id hb
  have hu : wf 99 u := sm_wf hs hv
  have e : oMeet v (xs (i + 1)) (xs (i + 2)) = oMeet u (xs (i + 1)) (xs (i + 2)) := so_meet hs hv
  refine g_aload_n hC dL_law_519 rfl rfl ?_
  refine lw_arg hC hL (n := 1) (j := 1) (by omega) rfl dL_law_520 dL_law_521 dL_law_522 dL_law_523 dL_law_524 ?_
  refine lw_arg hC hL (n := 2) (j := 2) (by omega) rfl dL_law_525 dL_law_526 dL_law_527 dL_law_528 dL_law_529 ?_
  refine g_invV (T := TX3) (N := 9) hC (is := [0, 1, 2, 3, 4, 5, 6, 7]) (st := []) (c_X3_meet v rf go vm rm gm vt rt gt tk lt len op to on last num nin re (xs (i + 1)) (xs (i + 2)) hv) dL_law_530 tw_3_36 tw_3_37 tw_3_38 tw_1_1 tw_3_39 ⟨hy_X3_meet.1.1, hy_X3_meet.1.2, hy_X3_meet.2⟩ ⟨by decide, by decide⟩ ⟨by decide, by decide⟩ rfl (by decide) rfl rfl rfl rfl rfl (Nat.le_of_ble_eq_true rfl) rfl rfl (fun r1 N1 hp => ?_)
  rw [e] at hp
  obtain ⟨rfl, go1, vm1, rm1, gm1, gt1, op1, to1, on1, last1, rfl⟩ := hp
  refine ⟨rfl, rfl, ?_⟩
  show G C 99 1346 533 (lwL i) [aI (ansOf (oMeet u (xs (i + 1)) (xs (i + 2))))] (mainW v rf go1 vm1 rm1 gm1 vt rt gt1 tk lt len op1 to1 on1 last1 num nin (bump re (oMeet u (xs (i + 1)) (xs (i + 2)))) ++ [modW u ro re lt len le la td fr ti pt st k1 tk ik cu go2 num nin up fo])
  refine g_aload_n hC dL_law_533 rfl rfl ?_
  refine lw_arg hC hL (n := 1) (j := 1) (by omega) rfl dL_law_534 dL_law_535 dL_law_536 dL_law_537 dL_law_538 ?_
  refine lw_arg hC hL (n := 2) (j := 2) (by omega) rfl dL_law_539 dL_law_540 dL_law_541 dL_law_542 dL_law_543 ?_
  refine g_invV (T := TX4) (N := 30) hC (is := [8]) (st := [aI (ansOf (oMeet u (xs (i + 1)) (xs (i + 2))))]) (c_X4_meet u ro re lt len le la td fr ti pt st k1 tk ik cu go2 num nin up fo hu (Nat.le_of_ble_eq_true rfl) (xs (i + 1)) (xs (i + 2))) dL_law_544 tw_4_209 tw_4_210 tw_4_211 tw_1_5 tw_4_212 ⟨hy_X4_meet.1.1, hy_X4_meet.1.2, hy_X4_meet.2⟩ ⟨by decide, by decide⟩ ⟨by decide, by decide⟩ rfl (by decide) rfl rfl rfl rfl rfl (Nat.le_of_ble_eq_true rfl) rfl rfl (fun r1 N1 hp => ?_)
  obtain ⟨rfl, u1, ro1, hs1, hro1, le1, la1, td1, fr1, ti1, pt1, st1, k2, ik1, cu1, go21, up1, fo1, hk2, rfl⟩ := hp
  refine ⟨rfl, rfl, ?_⟩
  show G C 99 1346 547 (lwL i) [aI (ansOf (oMeet u (xs (i + 1)) (xs (i + 2)))), aI (ansOf (oMeet u (xs (i + 1)) (xs (i + 2))))] (mainW v rf go1 vm1 rm1 gm1 vt rt gt1 tk lt len op1 to1 on1 last1 num nin (bump re (oMeet u (xs (i + 1)) (xs (i + 2)))) ++ [modW u1 ro1 (bump re (oMeet u (xs (i + 1)) (xs (i + 2)))) lt len le1 la1 td1 fr1 ti1 pt1 st1 k2 tk ik1 cu1 go21 num nin up1 fo1])
  exact g_icmp_eq (tgt := 894) hC dL_law_547 (by decide) (fun _ => kk _ ⟨_, _, _, _, _, _, _, _, _, _, _, _, _, _, _, rfl, ⟨_, _, _, _, _, _, _, _, _, rfl⟩, ⟨_, _, _, _, _, _, _, _, _, _, _, _, _, hk2, rfl⟩, hb.go hv (sm_trans hs (sm_symm hs1)) (rr_same hr hro1)⟩) (fun q => absurd rfl q)
set_option maxRecDepth 100000 in
set_option maxHeartbeats 4000000 in
theorem lo_scented {C : Cx} {L : Nat} {xs : Nat → Int32} (hC : Ok C cL_law RL 4 room_1 (EL C L xs)) (hL : L ≤ 2048) {i : Nat} (hi : i + 3 < L) {M : AM} (hI : Inv M) (kk : ∀ M', Inv M' → G C 99 1346 894 (lwL i) [] M') : G C 99 1346 552 (lwL i) [] M := by
  obtain ⟨v, rf, vt, rt, tk, lt, len, num, nin, re, u, ro, ke, M1, M2, rfl, ⟨go, vm, rm, gm, gt, op, to, on, last, rfl⟩, ⟨le, la, td, fr, ti, pt, st, k1, ik, cu, go2, up, fo, hk1, rfl⟩, hb⟩ := hI
  replace hb := hb.keep hk1
  obtain ⟨hv, hs, hr, hlen, hlt, hnin, hnum, htk⟩ := id hb
  have hu : wf 99 u := sm_wf hs hv
  have e : oScent v (xs (i + 1)) = oScent u (xs (i + 1)) := so_scent hs hv
  refine g_aload_n hC dL_law_552 rfl rfl ?_
  refine lw_arg hC hL (n := 1) (j := 1) (by omega) rfl dL_law_553 dL_law_554 dL_law_555 dL_law_556 dL_law_557 ?_
  refine g_invV (T := TX3) (N := 9) hC (is := [0, 1, 2, 3, 4, 5, 6, 7]) (st := []) (c_X3_scented v rf go vm rm gm vt rt gt tk lt len op to on last num nin re (xs (i + 1)) hv) dL_law_558 tw_3_40 tw_3_41 tw_3_42 tw_1_1 tw_3_43 ⟨hy_X3_scented.1.1, hy_X3_scented.1.2, hy_X3_scented.2⟩ ⟨by decide, by decide⟩ ⟨by decide, by decide⟩ rfl (by decide) rfl rfl rfl rfl rfl (Nat.le_of_ble_eq_true rfl) rfl rfl (fun r1 N1 hp => ?_)
  rw [e] at hp
  obtain ⟨rfl, go1, vm1, rm1, gm1, gt1, op1, to1, on1, last1, rfl⟩ := hp
  refine ⟨rfl, rfl, ?_⟩
  show G C 99 1346 561 (lwL i) [aI (ansOf (oScent u (xs (i + 1))))] (mainW v rf go1 vm1 rm1 gm1 vt rt gt1 tk lt len op1 to1 on1 last1 num nin (bump re (oScent u (xs (i + 1)))) ++ [modW u ro re lt len le la td fr ti pt st k1 tk ik cu go2 num nin up fo])
  refine g_aload_n hC dL_law_561 rfl rfl ?_
  refine lw_arg hC hL (n := 1) (j := 1) (by omega) rfl dL_law_562 dL_law_563 dL_law_564 dL_law_565 dL_law_566 ?_
  refine g_invV (T := TX4) (N := 30) hC (is := [8]) (st := [aI (ansOf (oScent u (xs (i + 1))))]) (c_X4_scented u ro re lt len le la td fr ti pt st k1 tk ik cu go2 num nin up fo hu (Nat.le_of_ble_eq_true rfl) (xs (i + 1))) dL_law_567 tw_4_213 tw_4_214 tw_4_215 tw_1_5 tw_4_216 ⟨hy_X4_scented.1.1, hy_X4_scented.1.2, hy_X4_scented.2⟩ ⟨by decide, by decide⟩ ⟨by decide, by decide⟩ rfl (by decide) rfl rfl rfl rfl rfl (Nat.le_of_ble_eq_true rfl) rfl rfl (fun r1 N1 hp => ?_)
  obtain ⟨rfl, u1, ro1, hs1, hro1, le1, la1, td1, fr1, ti1, pt1, st1, k2, ik1, cu1, go21, up1, fo1, hk2, rfl⟩ := hp
  refine ⟨rfl, rfl, ?_⟩
  show G C 99 1346 570 (lwL i) [aI (ansOf (oScent u (xs (i + 1)))), aI (ansOf (oScent u (xs (i + 1))))] (mainW v rf go1 vm1 rm1 gm1 vt rt gt1 tk lt len op1 to1 on1 last1 num nin (bump re (oScent u (xs (i + 1)))) ++ [modW u1 ro1 (bump re (oScent u (xs (i + 1)))) lt len le1 la1 td1 fr1 ti1 pt1 st1 k2 tk ik1 cu1 go21 num nin up1 fo1])
  exact g_icmp_eq (tgt := 894) hC dL_law_570 (by decide) (fun _ => kk _ ⟨_, _, _, _, _, _, _, _, _, _, _, _, _, _, _, rfl, ⟨_, _, _, _, _, _, _, _, _, rfl⟩, ⟨_, _, _, _, _, _, _, _, _, _, _, _, _, hk2, rfl⟩, hb.go hv (sm_trans hs (sm_symm hs1)) (rr_same hr hro1)⟩) (fun q => absurd rfl q)
set_option maxRecDepth 100000 in
set_option maxHeartbeats 4000000 in
theorem lo_walked {C : Cx} {L : Nat} {xs : Nat → Int32} (hC : Ok C cL_law RL 4 room_1 (EL C L xs)) (hL : L ≤ 2048) {i : Nat} (hi : i + 3 < L) {M : AM} (hI : Inv M) (kk : ∀ M', Inv M' → G C 99 1346 894 (lwL i) [] M') : G C 99 1346 575 (lwL i) [] M := by
  obtain ⟨v, rf, vt, rt, tk, lt, len, num, nin, re, u, ro, ke, M1, M2, rfl, ⟨go, vm, rm, gm, gt, op, to, on, last, rfl⟩, ⟨le, la, td, fr, ti, pt, st, k1, ik, cu, go2, up, fo, hk1, rfl⟩, hb⟩ := hI
  replace hb := hb.keep hk1
  obtain ⟨hv, hs, hr, hlen, hlt, hnin, hnum, htk⟩ := id hb
  have hu : wf 99 u := sm_wf hs hv
  have e : oWalked v num nin (xs (i + 1)) = oWalked u num nin (xs (i + 1)) := so_walked hs
  refine g_aload_n hC dL_law_575 rfl rfl ?_
  refine lw_arg hC hL (n := 1) (j := 1) (by omega) rfl dL_law_576 dL_law_577 dL_law_578 dL_law_579 dL_law_580 ?_
  refine g_invV (T := TX3) (N := 9) hC (is := [0, 1, 2, 3, 4, 5, 6, 7]) (st := []) (c_X3_walked v rf go vm rm gm vt rt gt tk lt len op to on last num nin re (xs (i + 1)) hv hnin hnum) dL_law_581 tw_3_48 tw_3_49 tw_3_50 tw_1_1 tw_3_51 ⟨hy_X3_walked.1.1, hy_X3_walked.1.2, hy_X3_walked.2⟩ ⟨by decide, by decide⟩ ⟨by decide, by decide⟩ rfl (by decide) rfl rfl rfl rfl rfl (Nat.le_of_ble_eq_true rfl) rfl rfl (fun r1 N1 hp => ?_)
  rw [e] at hp
  obtain ⟨rfl, go1, vm1, rm1, gm1, gt1, op1, to1, on1, last1, rfl⟩ := hp
  refine ⟨rfl, rfl, ?_⟩
  show G C 99 1346 584 (lwL i) [aI (ansOf (oWalked u num nin (xs (i + 1))))] (mainW v rf go1 vm1 rm1 gm1 vt rt gt1 tk lt len op1 to1 on1 last1 num nin (bump re (oWalked u num nin (xs (i + 1)))) ++ [modW u ro re lt len le la td fr ti pt st k1 tk ik cu go2 num nin up fo])
  refine g_aload_n hC dL_law_584 rfl rfl ?_
  refine lw_arg hC hL (n := 1) (j := 1) (by omega) rfl dL_law_585 dL_law_586 dL_law_587 dL_law_588 dL_law_589 ?_
  refine g_invV (T := TX4) (N := 30) hC (is := [8]) (st := [aI (ansOf (oWalked u num nin (xs (i + 1))))]) (c_X4_walked u ro re lt len le la td fr ti pt st k1 tk ik cu go2 num nin up fo hu (Nat.le_of_ble_eq_true rfl) hnin hnum (xs (i + 1))) dL_law_590 tw_4_217 tw_4_218 tw_4_219 tw_1_5 tw_4_220 ⟨hy_X4_walked.1.1, hy_X4_walked.1.2, hy_X4_walked.2⟩ ⟨by decide, by decide⟩ ⟨by decide, by decide⟩ rfl (by decide) rfl rfl rfl rfl rfl (Nat.le_of_ble_eq_true rfl) rfl rfl (fun r1 N1 hp => ?_)
  obtain ⟨rfl, le1, la1, td1, fr1, ti1, pt1, st1, k2, ik1, cu1, go21, up1, fo1, hk2, rfl⟩ := hp
  refine ⟨rfl, rfl, ?_⟩
  show G C 99 1346 593 (lwL i) [aI (ansOf (oWalked u num nin (xs (i + 1)))), aI (ansOf (oWalked u num nin (xs (i + 1))))] (mainW v rf go1 vm1 rm1 gm1 vt rt gt1 tk lt len op1 to1 on1 last1 num nin (bump re (oWalked u num nin (xs (i + 1)))) ++ [modW u ro (bump re (oWalked u num nin (xs (i + 1)))) lt len le1 la1 td1 fr1 ti1 pt1 st1 k2 tk ik1 cu1 go21 num nin up1 fo1])
  exact g_icmp_eq (tgt := 894) hC dL_law_593 (by decide) (fun _ => kk _ ⟨_, _, _, _, _, _, _, _, _, _, _, _, _, _, _, rfl, ⟨_, _, _, _, _, _, _, _, _, rfl⟩, ⟨_, _, _, _, _, _, _, _, _, _, _, _, _, hk2, rfl⟩, hb⟩) (fun q => absurd rfl q)
set_option maxRecDepth 100000 in
set_option maxHeartbeats 4000000 in
theorem lo_likeliest {C : Cx} {L : Nat} {xs : Nat → Int32} (hC : Ok C cL_law RL 4 room_1 (EL C L xs)) (hL : L ≤ 2048) {i : Nat} (hi : i + 3 < L) {M : AM} (hI : Inv M) (kk : ∀ M', Inv M' → G C 99 1346 894 (lwL i) [] M') : G C 99 1346 598 (lwL i) [] M := by
  obtain ⟨v, rf, vt, rt, tk, lt, len, num, nin, re, u, ro, ke, M1, M2, rfl, ⟨go, vm, rm, gm, gt, op, to, on, last, rfl⟩, ⟨le, la, td, fr, ti, pt, st, k1, ik, cu, go2, up, fo, hk1, rfl⟩, hb⟩ := hI
  replace hb := hb.keep hk1
  obtain ⟨hv, hs, hr, hlen, hlt, hnin, hnum, htk⟩ := id hb
  have hu : wf 99 u := sm_wf hs hv
  have e : oLikeliest v num nin (xs (i + 1)) (xs (i + 2)) = oLikeliest u num nin (xs (i + 1)) (xs (i + 2)) := so_likeliest hs
  refine g_aload_n hC dL_law_598 rfl rfl ?_
  refine lw_arg hC hL (n := 1) (j := 1) (by omega) rfl dL_law_599 dL_law_600 dL_law_601 dL_law_602 dL_law_603 ?_
  refine lw_arg hC hL (n := 2) (j := 2) (by omega) rfl dL_law_604 dL_law_605 dL_law_606 dL_law_607 dL_law_608 ?_
  refine g_invV (T := TX3) (N := 9) hC (is := [0, 1, 2, 3, 4, 5, 6, 7]) (st := []) (c_X3_likeliest v rf go vm rm gm vt rt gt tk lt len op to on last num nin re (xs (i + 1)) (xs (i + 2)) hv hnin hnum) dL_law_609 tw_3_82 tw_3_83 tw_3_84 tw_1_1 tw_3_85 ⟨hy_X3_likeliest.1.1, hy_X3_likeliest.1.2, hy_X3_likeliest.2⟩ ⟨by decide, by decide⟩ ⟨by decide, by decide⟩ rfl (by decide) rfl rfl rfl rfl rfl (Nat.le_of_ble_eq_true rfl) rfl rfl (fun r1 N1 hp => ?_)
  rw [e] at hp
  obtain ⟨rfl, go1, vm1, rm1, gm1, gt1, op1, to1, on1, last1, rfl⟩ := hp
  refine ⟨rfl, rfl, ?_⟩
  show G C 99 1346 612 (lwL i) [aI (ansOf (oLikeliest u num nin (xs (i + 1)) (xs (i + 2))))] (mainW v rf go1 vm1 rm1 gm1 vt rt gt1 tk lt len op1 to1 on1 last1 num nin (bump re (oLikeliest u num nin (xs (i + 1)) (xs (i + 2)))) ++ [modW u ro re lt len le la td fr ti pt st k1 tk ik cu go2 num nin up fo])
  refine g_aload_n hC dL_law_612 rfl rfl ?_
  refine lw_arg hC hL (n := 1) (j := 1) (by omega) rfl dL_law_613 dL_law_614 dL_law_615 dL_law_616 dL_law_617 ?_
  refine lw_arg hC hL (n := 2) (j := 2) (by omega) rfl dL_law_618 dL_law_619 dL_law_620 dL_law_621 dL_law_622 ?_
  refine g_invV (T := TX4) (N := 30) hC (is := [8]) (st := [aI (ansOf (oLikeliest u num nin (xs (i + 1)) (xs (i + 2))))]) (c_X4_likeliest u ro re lt len le la td fr ti pt st k1 tk ik cu go2 num nin up fo hu (Nat.le_of_ble_eq_true rfl) hnin hnum (xs (i + 1)) (xs (i + 2))) dL_law_623 tw_4_237 tw_4_238 tw_4_239 tw_1_5 tw_5_0 ⟨hy_X4_likeliest.1.1, hy_X4_likeliest.1.2, hy_X4_likeliest.2⟩ ⟨by decide, by decide⟩ ⟨by decide, by decide⟩ rfl (by decide) rfl rfl rfl rfl rfl (Nat.le_of_ble_eq_true rfl) rfl rfl (fun r1 N1 hp => ?_)
  obtain ⟨rfl, le1, la1, td1, fr1, ti1, pt1, st1, k2, ik1, cu1, go21, up1, fo1, hk2, rfl⟩ := hp
  refine ⟨rfl, rfl, ?_⟩
  show G C 99 1346 626 (lwL i) [aI (ansOf (oLikeliest u num nin (xs (i + 1)) (xs (i + 2)))), aI (ansOf (oLikeliest u num nin (xs (i + 1)) (xs (i + 2))))] (mainW v rf go1 vm1 rm1 gm1 vt rt gt1 tk lt len op1 to1 on1 last1 num nin (bump re (oLikeliest u num nin (xs (i + 1)) (xs (i + 2)))) ++ [modW u ro (bump re (oLikeliest u num nin (xs (i + 1)) (xs (i + 2)))) lt len le1 la1 td1 fr1 ti1 pt1 st1 k2 tk ik1 cu1 go21 num nin up1 fo1])
  exact g_icmp_eq (tgt := 894) hC dL_law_626 (by decide) (fun _ => kk _ ⟨_, _, _, _, _, _, _, _, _, _, _, _, _, _, _, rfl, ⟨_, _, _, _, _, _, _, _, _, rfl⟩, ⟨_, _, _, _, _, _, _, _, _, _, _, _, _, hk2, rfl⟩, hb⟩) (fun q => absurd rfl q)
set_option maxRecDepth 100000 in
set_option maxHeartbeats 4000000 in
theorem lo_sure {C : Cx} {L : Nat} {xs : Nat → Int32} (hC : Ok C cL_law RL 4 room_1 (EL C L xs)) (hL : L ≤ 2048) {i : Nat} (hi : i + 3 < L) {M : AM} (hI : Inv M) (kk : ∀ M', Inv M' → G C 99 1346 894 (lwL i) [] M') : G C 99 1346 631 (lwL i) [] M := by
  obtain ⟨v, rf, vt, rt, tk, lt, len, num, nin, re, u, ro, ke, M1, M2, rfl, ⟨go, vm, rm, gm, gt, op, to, on, last, rfl⟩, ⟨le, la, td, fr, ti, pt, st, k1, ik, cu, go2, up, fo, hk1, rfl⟩, hb⟩ := hI
  replace hb := hb.keep hk1
  obtain ⟨hv, hs, hr, hlen, hlt, hnin, hnum, htk⟩ := id hb
  have hu : wf 99 u := sm_wf hs hv
  have e : oSure v num nin (xs (i + 1)) (xs (i + 2)) = oSure u num nin (xs (i + 1)) (xs (i + 2)) := so_sure hs
  refine g_aload_n hC dL_law_631 rfl rfl ?_
  refine lw_arg hC hL (n := 1) (j := 1) (by omega) rfl dL_law_632 dL_law_633 dL_law_634 dL_law_635 dL_law_636 ?_
  refine lw_arg hC hL (n := 2) (j := 2) (by omega) rfl dL_law_637 dL_law_638 dL_law_639 dL_law_640 dL_law_641 ?_
  refine g_invV (T := TX3) (N := 9) hC (is := [0, 1, 2, 3, 4, 5, 6, 7]) (st := []) (c_X3_sure v rf go vm rm gm vt rt gt tk lt len op to on last num nin re (xs (i + 1)) (xs (i + 2)) hv hnin hnum) dL_law_642 tw_3_94 tw_3_95 tw_3_96 tw_1_1 tw_3_97 ⟨hy_X3_sure.1.1, hy_X3_sure.1.2, hy_X3_sure.2⟩ ⟨by decide, by decide⟩ ⟨by decide, by decide⟩ rfl (by decide) rfl rfl rfl rfl rfl (Nat.le_of_ble_eq_true rfl) rfl rfl (fun r1 N1 hp => ?_)
  rw [e] at hp
  obtain ⟨rfl, go1, vm1, rm1, gm1, gt1, op1, to1, on1, last1, rfl⟩ := hp
  refine ⟨rfl, rfl, ?_⟩
  show G C 99 1346 645 (lwL i) [aI (ansOf (oSure u num nin (xs (i + 1)) (xs (i + 2))))] (mainW v rf go1 vm1 rm1 gm1 vt rt gt1 tk lt len op1 to1 on1 last1 num nin (bump re (oSure u num nin (xs (i + 1)) (xs (i + 2)))) ++ [modW u ro re lt len le la td fr ti pt st k1 tk ik cu go2 num nin up fo])
  refine g_aload_n hC dL_law_645 rfl rfl ?_
  refine lw_arg hC hL (n := 1) (j := 1) (by omega) rfl dL_law_646 dL_law_647 dL_law_648 dL_law_649 dL_law_650 ?_
  refine lw_arg hC hL (n := 2) (j := 2) (by omega) rfl dL_law_651 dL_law_652 dL_law_653 dL_law_654 dL_law_655 ?_
  refine g_invV (T := TX4) (N := 30) hC (is := [8]) (st := [aI (ansOf (oSure u num nin (xs (i + 1)) (xs (i + 2))))]) (c_X4_sure u ro re lt len le la td fr ti pt st k1 tk ik cu go2 num nin up fo hu (Nat.le_of_ble_eq_true rfl) hnin hnum (xs (i + 1)) (xs (i + 2))) dL_law_656 tw_5_9 tw_5_10 tw_5_11 tw_1_5 tw_5_12 ⟨hy_X4_sure.1.1, hy_X4_sure.1.2, hy_X4_sure.2⟩ ⟨by decide, by decide⟩ ⟨by decide, by decide⟩ rfl (by decide) rfl rfl rfl rfl rfl (Nat.le_of_ble_eq_true rfl) rfl rfl (fun r1 N1 hp => ?_)
  obtain ⟨rfl, le1, la1, td1, fr1, ti1, pt1, st1, k2, ik1, cu1, go21, up1, fo1, hk2, rfl⟩ := hp
  refine ⟨rfl, rfl, ?_⟩
  show G C 99 1346 659 (lwL i) [aI (ansOf (oSure u num nin (xs (i + 1)) (xs (i + 2)))), aI (ansOf (oSure u num nin (xs (i + 1)) (xs (i + 2))))] (mainW v rf go1 vm1 rm1 gm1 vt rt gt1 tk lt len op1 to1 on1 last1 num nin (bump re (oSure u num nin (xs (i + 1)) (xs (i + 2)))) ++ [modW u ro (bump re (oSure u num nin (xs (i + 1)) (xs (i + 2)))) lt len le1 la1 td1 fr1 ti1 pt1 st1 k2 tk ik1 cu1 go21 num nin up1 fo1])
  exact g_icmp_eq (tgt := 894) hC dL_law_659 (by decide) (fun _ => kk _ ⟨_, _, _, _, _, _, _, _, _, _, _, _, _, _, _, rfl, ⟨_, _, _, _, _, _, _, _, _, rfl⟩, ⟨_, _, _, _, _, _, _, _, _, _, _, _, _, hk2, rfl⟩, hb⟩) (fun q => absurd rfl q)
set_option maxRecDepth 100000 in
set_option maxHeartbeats 4000000 in
theorem lo_across {C : Cx} {L : Nat} {xs : Nat → Int32} (hC : Ok C cL_law RL 4 room_1 (EL C L xs)) (hL : L ≤ 2048) {i : Nat} (hi : i + 3 < L) {M : AM} (hI : Inv M) (kk : ∀ M', Inv M' → G C 99 1346 894 (lwL i) [] M') : G C 99 1346 664 (lwL i) [] M := by
  obtain ⟨v, rf, vt, rt, tk, lt, len, num, nin, re, u, ro, ke, M1, M2, rfl, ⟨go, vm, rm, gm, gt, op, to, on, last, rfl⟩, ⟨le, la, td, fr, ti, pt, st, k1, ik, cu, go2, up, fo, hk1, rfl⟩, hb⟩ := hI
  replace hb := hb.keep hk1
  obtain ⟨hv, hs, hr, hlen, hlt, hnin, hnum, htk⟩ := id hb
  have hu : wf 99 u := sm_wf hs hv
  have e : oSoon v false (xs (i + 1)) (xs (i + 2)) = oSoon u false (xs (i + 1)) (xs (i + 2)) := so_soon hs hv
  refine g_aload_n hC dL_law_664 rfl rfl ?_
  refine lw_arg hC hL (n := 1) (j := 1) (by omega) rfl dL_law_665 dL_law_666 dL_law_667 dL_law_668 dL_law_669 ?_
  refine lw_arg hC hL (n := 2) (j := 2) (by omega) rfl dL_law_670 dL_law_671 dL_law_672 dL_law_673 dL_law_674 ?_
  refine g_invV (T := TX3) (N := 9) hC (is := [0, 1, 2, 3, 4, 5, 6, 7]) (st := []) (c_X3_across v rf go vm rm gm vt rt gt tk lt len op to on last num nin re (xs (i + 1)) (xs (i + 2)) hv) dL_law_675 tw_3_102 tw_3_103 tw_3_104 tw_1_1 tw_3_105 ⟨hy_X3_across.1.1, hy_X3_across.1.2, hy_X3_across.2⟩ ⟨by decide, by decide⟩ ⟨by decide, by decide⟩ rfl (by decide) rfl rfl rfl rfl rfl (Nat.le_of_ble_eq_true rfl) rfl rfl (fun r1 N1 hp => ?_)
  rw [e] at hp
  obtain ⟨rfl, go1, vm1, rm1, gm1, gt1, op1, to1, on1, last1, rfl⟩ := hp
  refine ⟨rfl, rfl, ?_⟩
  show G C 99 1346 678 (lwL i) [aI (ansOf (oSoon u false (xs (i + 1)) (xs (i + 2))))] (mainW v rf go1 vm1 rm1 gm1 vt rt gt1 tk lt len op1 to1 on1 last1 num nin (bump re (oSoon u false (xs (i + 1)) (xs (i + 2)))) ++ [modW u ro re lt len le la td fr ti pt st k1 tk ik cu go2 num nin up fo])
  refine g_aload_n hC dL_law_678 rfl rfl ?_
  refine lw_arg hC hL (n := 1) (j := 1) (by omega) rfl dL_law_679 dL_law_680 dL_law_681 dL_law_682 dL_law_683 ?_
  refine lw_arg hC hL (n := 2) (j := 2) (by omega) rfl dL_law_684 dL_law_685 dL_law_686 dL_law_687 dL_law_688 ?_
  refine g_invV (T := TX4) (N := 30) hC (is := [8]) (st := [aI (ansOf (oSoon u false (xs (i + 1)) (xs (i + 2))))]) (c_X4_across u ro re lt len le la td fr ti pt st k1 tk ik cu go2 num nin up fo hu (Nat.le_of_ble_eq_true rfl) (xs (i + 1)) (xs (i + 2))) dL_law_689 tw_5_13 tw_5_14 tw_5_15 tw_1_5 tw_5_16 ⟨hy_X4_across.1.1, hy_X4_across.1.2, hy_X4_across.2⟩ ⟨by decide, by decide⟩ ⟨by decide, by decide⟩ rfl (by decide) rfl rfl rfl rfl rfl (Nat.le_of_ble_eq_true rfl) rfl rfl (fun r1 N1 hp => ?_)
  obtain ⟨rfl, u1, ro1, hs1, hro1, le1, la1, td1, fr1, ti1, pt1, st1, k2, ik1, cu1, go21, up1, fo1, hk2, rfl⟩ := hp
  refine ⟨rfl, rfl, ?_⟩
  show G C 99 1346 692 (lwL i) [aI (ansOf (oSoon u false (xs (i + 1)) (xs (i + 2)))), aI (ansOf (oSoon u false (xs (i + 1)) (xs (i + 2))))] (mainW v rf go1 vm1 rm1 gm1 vt rt gt1 tk lt len op1 to1 on1 last1 num nin (bump re (oSoon u false (xs (i + 1)) (xs (i + 2)))) ++ [modW u1 ro1 (bump re (oSoon u false (xs (i + 1)) (xs (i + 2)))) lt len le1 la1 td1 fr1 ti1 pt1 st1 k2 tk ik1 cu1 go21 num nin up1 fo1])
  exact g_icmp_eq (tgt := 894) hC dL_law_692 (by decide) (fun _ => kk _ ⟨_, _, _, _, _, _, _, _, _, _, _, _, _, _, _, rfl, ⟨_, _, _, _, _, _, _, _, _, rfl⟩, ⟨_, _, _, _, _, _, _, _, _, _, _, _, _, hk2, rfl⟩, hb.go hv (sm_trans hs (sm_symm hs1)) (rr_same hr hro1)⟩) (fun q => absurd rfl q)
set_option maxRecDepth 100000 in
set_option maxHeartbeats 4000000 in
theorem lo_covered {C : Cx} {L : Nat} {xs : Nat → Int32} (hC : Ok C cL_law RL 4 room_1 (EL C L xs)) (hL : L ≤ 2048) {i : Nat} (hi : i + 3 < L) {M : AM} (hI : Inv M) (kk : ∀ M', Inv M' → G C 99 1346 894 (lwL i) [] M') : G C 99 1346 697 (lwL i) [] M := by
  obtain ⟨v, rf, vt, rt, tk, lt, len, num, nin, re, u, ro, ke, M1, M2, rfl, ⟨go, vm, rm, gm, gt, op, to, on, last, rfl⟩, ⟨le, la, td, fr, ti, pt, st, k1, ik, cu, go2, up, fo, hk1, rfl⟩, hb⟩ := hI
  replace hb := hb.keep hk1
  obtain ⟨hv, hs, hr, hlen, hlt, hnin, hnum, htk⟩ := id hb
  have hu : wf 99 u := sm_wf hs hv
  have e : oSoon v true (xs (i + 1)) (xs (i + 2)) = oSoon u true (xs (i + 1)) (xs (i + 2)) := so_soon hs hv
  refine g_aload_n hC dL_law_697 rfl rfl ?_
  refine lw_arg hC hL (n := 1) (j := 1) (by omega) rfl dL_law_698 dL_law_699 dL_law_700 dL_law_701 dL_law_702 ?_
  refine lw_arg hC hL (n := 2) (j := 2) (by omega) rfl dL_law_703 dL_law_704 dL_law_705 dL_law_706 dL_law_707 ?_
  refine g_invV (T := TX3) (N := 9) hC (is := [0, 1, 2, 3, 4, 5, 6, 7]) (st := []) (c_X3_covered v rf go vm rm gm vt rt gt tk lt len op to on last num nin re (xs (i + 1)) (xs (i + 2)) hv) dL_law_708 tw_3_123 tw_3_124 tw_3_125 tw_1_1 tw_3_126 ⟨hy_X3_covered.1.1, hy_X3_covered.1.2, hy_X3_covered.2⟩ ⟨by decide, by decide⟩ ⟨by decide, by decide⟩ rfl (by decide) rfl rfl rfl rfl rfl (Nat.le_of_ble_eq_true rfl) rfl rfl (fun r1 N1 hp => ?_)
  rw [e] at hp
  obtain ⟨rfl, go1, vm1, rm1, gm1, gt1, op1, to1, on1, last1, rfl⟩ := hp
  refine ⟨rfl, rfl, ?_⟩
  show G C 99 1346 711 (lwL i) [aI (ansOf (oSoon u true (xs (i + 1)) (xs (i + 2))))] (mainW v rf go1 vm1 rm1 gm1 vt rt gt1 tk lt len op1 to1 on1 last1 num nin (bump re (oSoon u true (xs (i + 1)) (xs (i + 2)))) ++ [modW u ro re lt len le la td fr ti pt st k1 tk ik cu go2 num nin up fo])
  refine g_aload_n hC dL_law_711 rfl rfl ?_
  refine lw_arg hC hL (n := 1) (j := 1) (by omega) rfl dL_law_712 dL_law_713 dL_law_714 dL_law_715 dL_law_716 ?_
  refine lw_arg hC hL (n := 2) (j := 2) (by omega) rfl dL_law_717 dL_law_718 dL_law_719 dL_law_720 dL_law_721 ?_
  refine g_invV (T := TX4) (N := 30) hC (is := [8]) (st := [aI (ansOf (oSoon u true (xs (i + 1)) (xs (i + 2))))]) (c_X4_covered u ro re lt len le la td fr ti pt st k1 tk ik cu go2 num nin up fo hu (Nat.le_of_ble_eq_true rfl) (xs (i + 1)) (xs (i + 2))) dL_law_722 tw_5_25 tw_5_26 tw_5_27 tw_1_5 tw_5_28 ⟨hy_X4_covered.1.1, hy_X4_covered.1.2, hy_X4_covered.2⟩ ⟨by decide, by decide⟩ ⟨by decide, by decide⟩ rfl (by decide) rfl rfl rfl rfl rfl (Nat.le_of_ble_eq_true rfl) rfl rfl (fun r1 N1 hp => ?_)
  obtain ⟨rfl, u1, ro1, hs1, hro1, le1, la1, td1, fr1, ti1, pt1, st1, k2, ik1, cu1, go21, up1, fo1, hk2, rfl⟩ := hp
  refine ⟨rfl, rfl, ?_⟩
  show G C 99 1346 725 (lwL i) [aI (ansOf (oSoon u true (xs (i + 1)) (xs (i + 2)))), aI (ansOf (oSoon u true (xs (i + 1)) (xs (i + 2))))] (mainW v rf go1 vm1 rm1 gm1 vt rt gt1 tk lt len op1 to1 on1 last1 num nin (bump re (oSoon u true (xs (i + 1)) (xs (i + 2)))) ++ [modW u1 ro1 (bump re (oSoon u true (xs (i + 1)) (xs (i + 2)))) lt len le1 la1 td1 fr1 ti1 pt1 st1 k2 tk ik1 cu1 go21 num nin up1 fo1])
  exact g_icmp_eq (tgt := 894) hC dL_law_725 (by decide) (fun _ => kk _ ⟨_, _, _, _, _, _, _, _, _, _, _, _, _, _, _, rfl, ⟨_, _, _, _, _, _, _, _, _, rfl⟩, ⟨_, _, _, _, _, _, _, _, _, _, _, _, _, hk2, rfl⟩, hb.go hv (sm_trans hs (sm_symm hs1)) (rr_same hr hro1)⟩) (fun q => absurd rfl q)
set_option maxRecDepth 100000 in
set_option maxHeartbeats 4000000 in
theorem lo_told {C : Cx} {L : Nat} {xs : Nat → Int32} (hC : Ok C cL_law RL 4 room_1 (EL C L xs)) (hL : L ≤ 2048) {i : Nat} (hi : i + 3 < L) {M : AM} (hI : Inv M) (kk : ∀ M', Inv M' → G C 99 1346 894 (lwL i) [] M') : G C 99 1346 730 (lwL i) [] M := by
  obtain ⟨v, rf, vt, rt, tk, lt, len, num, nin, re, u, ro, ke, M1, M2, rfl, ⟨go, vm, rm, gm, gt, op, to, on, last, rfl⟩, ⟨le, la, td, fr, ti, pt, st, k1, ik, cu, go2, up, fo, hk1, rfl⟩, hb⟩ := hI
  replace hb := hb.keep hk1
  obtain ⟨hv, hs, hr, hlen, hlt, hnin, hnum, htk⟩ := id hb
  have hu : wf 99 u := sm_wf hs hv
  have e : oTold v (xs (i + 1)) = oTold u (xs (i + 1)) := so_told hs
  refine g_aload_n hC dL_law_730 rfl rfl ?_
  refine lw_arg hC hL (n := 1) (j := 1) (by omega) rfl dL_law_731 dL_law_732 dL_law_733 dL_law_734 dL_law_735 ?_
  refine g_invV (T := TX3) (N := 9) hC (is := [0, 1, 2, 3, 4, 5, 6, 7]) (st := []) (c_X3_told v rf go vm rm gm vt rt gt tk lt len op to on last num nin re (xs (i + 1)) hv) dL_law_736 tw_3_127 tw_3_128 tw_3_129 tw_1_1 tw_3_130 ⟨hy_X3_told.1.1, hy_X3_told.1.2, hy_X3_told.2⟩ ⟨by decide, by decide⟩ ⟨by decide, by decide⟩ rfl (by decide) rfl rfl rfl rfl rfl (Nat.le_of_ble_eq_true rfl) rfl rfl (fun r1 N1 hp => ?_)
  rw [e] at hp
  obtain ⟨rfl, go1, vm1, rm1, gm1, gt1, op1, to1, on1, last1, rfl⟩ := hp
  refine ⟨rfl, rfl, ?_⟩
  show G C 99 1346 739 (lwL i) [aI (ansOf (oTold u (xs (i + 1))))] (mainW v rf go1 vm1 rm1 gm1 vt rt gt1 tk lt len op1 to1 on1 last1 num nin (bump re (oTold u (xs (i + 1)))) ++ [modW u ro re lt len le la td fr ti pt st k1 tk ik cu go2 num nin up fo])
  refine g_aload_n hC dL_law_739 rfl rfl ?_
  refine lw_arg hC hL (n := 1) (j := 1) (by omega) rfl dL_law_740 dL_law_741 dL_law_742 dL_law_743 dL_law_744 ?_
  refine g_invV (T := TX4) (N := 30) hC (is := [8]) (st := [aI (ansOf (oTold u (xs (i + 1))))]) (c_X4_told u ro re lt len le la td fr ti pt st k1 tk ik cu go2 num nin up fo hu (Nat.le_of_ble_eq_true rfl) (xs (i + 1))) dL_law_745 tw_5_29 tw_5_30 tw_5_31 tw_1_5 tw_5_32 ⟨hy_X4_told.1.1, hy_X4_told.1.2, hy_X4_told.2⟩ ⟨by decide, by decide⟩ ⟨by decide, by decide⟩ rfl (by decide) rfl rfl rfl rfl rfl (Nat.le_of_ble_eq_true rfl) rfl rfl (fun r1 N1 hp => ?_)
  obtain ⟨rfl, le1, la1, td1, fr1, ti1, pt1, st1, k2, ik1, cu1, go21, up1, fo1, hk2, rfl⟩ := hp
  refine ⟨rfl, rfl, ?_⟩
  show G C 99 1346 748 (lwL i) [aI (ansOf (oTold u (xs (i + 1)))), aI (ansOf (oTold u (xs (i + 1))))] (mainW v rf go1 vm1 rm1 gm1 vt rt gt1 tk lt len op1 to1 on1 last1 num nin (bump re (oTold u (xs (i + 1)))) ++ [modW u ro (bump re (oTold u (xs (i + 1)))) lt len le1 la1 td1 fr1 ti1 pt1 st1 k2 tk ik1 cu1 go21 num nin up1 fo1])
  exact g_icmp_eq (tgt := 894) hC dL_law_748 (by decide) (fun _ => kk _ ⟨_, _, _, _, _, _, _, _, _, _, _, _, _, _, _, rfl, ⟨_, _, _, _, _, _, _, _, _, rfl⟩, ⟨_, _, _, _, _, _, _, _, _, _, _, _, _, hk2, rfl⟩, hb⟩) (fun q => absurd rfl q)
set_option maxRecDepth 100000 in
set_option maxHeartbeats 4000000 in
theorem lo_row {C : Cx} {L : Nat} {xs : Nat → Int32} (hC : Ok C cL_law RL 4 room_1 (EL C L xs)) (hL : L ≤ 2048) {i : Nat} (hi : i + 3 < L) {M : AM} (hI : Inv M) (kk : ∀ M', Inv M' → G C 99 1346 894 (lwL i) [] M') : G C 99 1346 753 (lwL i) [] M := by
  obtain ⟨v, rf, vt, rt, tk, lt, len, num, nin, re, u, ro, ke, M1, M2, rfl, ⟨go, vm, rm, gm, gt, op, to, on, last, rfl⟩, ⟨le, la, td, fr, ti, pt, st, k1, ik, cu, go2, up, fo, hk1, rfl⟩, hb⟩ := hI
  replace hb := hb.keep hk1
  obtain ⟨hv, hs, hr, hlen, hlt, hnin, hnum, htk⟩ := id hb
  have hu : wf 99 u := sm_wf hs hv
  refine g_aload_n hC dL_law_753 rfl rfl ?_
  refine lw_arg hC hL (n := 1) (j := 1) (by omega) rfl dL_law_754 dL_law_755 dL_law_756 dL_law_757 dL_law_758 ?_
  refine g_invV (T := TX3) (N := 9) hC (is := [0, 1, 2, 3, 4, 5, 6, 7]) (st := []) (c_X3_row v rf go vm rm gm vt rt gt tk lt len op to on last num nin re (xs (i + 1)) hnin) dL_law_759 tw_3_135 tw_3_136 tw_3_137 tw_1_1 tw_3_138 ⟨hy_X3_row.1.1, hy_X3_row.1.2, hy_X3_row.2⟩ ⟨by decide, by decide⟩ ⟨by decide, by decide⟩ rfl (by decide) rfl rfl rfl rfl rfl (Nat.le_of_ble_eq_true rfl) rfl rfl (fun r1 N1 hp => ?_)
  obtain ⟨rfl, go1, vm1, rm1, gm1, gt1, op1, to1, on1, last1, rfl⟩ := hp
  refine ⟨rfl, rfl, ?_⟩
  show G C 99 1346 762 (lwL i) [aI (ansOf (oRow num nin (xs (i + 1))))] (mainW v rf go1 vm1 rm1 gm1 vt rt gt1 tk lt len op1 to1 on1 last1 (tRow num nin (xs (i + 1))) (lRow num nin (xs (i + 1))) (bump re (oRow num nin (xs (i + 1)))) ++ [modW u ro re lt len le la td fr ti pt st k1 tk ik cu go2 num nin up fo])
  refine g_aload_n hC dL_law_762 rfl rfl ?_
  refine lw_arg hC hL (n := 1) (j := 1) (by omega) rfl dL_law_763 dL_law_764 dL_law_765 dL_law_766 dL_law_767 ?_
  refine g_invV (T := TX4) (N := 30) hC (is := [8]) (st := [aI (ansOf (oRow num nin (xs (i + 1))))]) (c_X4_row u ro re lt len le la td fr ti pt st k1 tk ik cu go2 num nin up fo hnin (xs (i + 1))) dL_law_768 tw_5_37 tw_5_38 tw_5_39 tw_1_5 tw_5_40 ⟨hy_X4_row.1.1, hy_X4_row.1.2, hy_X4_row.2⟩ ⟨by decide, by decide⟩ ⟨by decide, by decide⟩ rfl (by decide) rfl rfl rfl rfl rfl (Nat.le_of_ble_eq_true rfl) rfl rfl (fun r1 N1 hp => ?_)
  obtain ⟨rfl, le1, la1, td1, fr1, ti1, pt1, st1, k2, ik1, cu1, go21, up1, fo1, hk2, rfl⟩ := hp
  refine ⟨rfl, rfl, ?_⟩
  show G C 99 1346 771 (lwL i) [aI (ansOf (oRow num nin (xs (i + 1)))), aI (ansOf (oRow num nin (xs (i + 1))))] (mainW v rf go1 vm1 rm1 gm1 vt rt gt1 tk lt len op1 to1 on1 last1 (tRow num nin (xs (i + 1))) (lRow num nin (xs (i + 1))) (bump re (oRow num nin (xs (i + 1)))) ++ [modW u ro (bump re (oRow num nin (xs (i + 1)))) lt len le1 la1 td1 fr1 ti1 pt1 st1 k2 tk ik1 cu1 go21 (tRow num nin (xs (i + 1))) (lRow num nin (xs (i + 1))) up1 fo1])
  exact g_icmp_eq (tgt := 894) hC dL_law_771 (by decide) (fun _ => kk _ ⟨_, _, _, _, _, _, _, _, _, _, _, _, _, _, _, rfl, ⟨_, _, _, _, _, _, _, _, _, rfl⟩, ⟨_, _, _, _, _, _, _, _, _, _, _, _, _, hk2, rfl⟩, hb.row (xs (i + 1))⟩) (fun q => absurd rfl q)
set_option maxRecDepth 100000 in
set_option maxHeartbeats 4000000 in
theorem lo_judge {C : Cx} {L : Nat} {xs : Nat → Int32} (hC : Ok C cL_law RL 4 room_1 (EL C L xs)) (hL : L ≤ 2048) {i : Nat} (hi : i + 3 < L) {M : AM} (hI : Inv M) (kk : ∀ M', Inv M' → G C 99 1346 894 (lwL i) [] M') : G C 99 1346 776 (lwL i) [] M := by
  obtain ⟨v, rf, vt, rt, tk, lt, len, num, nin, re, u, ro, ke, M1, M2, rfl, ⟨go, vm, rm, gm, gt, op, to, on, last, rfl⟩, ⟨le, la, td, fr, ti, pt, st, k1, ik, cu, go2, up, fo, hk1, rfl⟩, hb⟩ := hI
  replace hb := hb.keep hk1
  obtain ⟨hv, hs, hr, hlen, hlt, hnin, hnum, htk⟩ := id hb
  have hu : wf 99 u := sm_wf hs hv
  have e : oJudge v num nin = oJudge u num nin := so_judge hs
  refine g_aload_n hC dL_law_776 rfl rfl ?_
  refine g_invV (T := TX3) (N := 9) hC (is := [0, 1, 2, 3, 4, 5, 6, 7]) (st := []) (c_X3_judge v rf go vm rm gm vt rt gt tk lt len op to on last num nin re hv hnin hnum) dL_law_777 tw_3_139 tw_3_140 tw_3_141 tw_1_1 tw_3_142 ⟨hy_X3_judge.1.1, hy_X3_judge.1.2, hy_X3_judge.2⟩ ⟨by decide, by decide⟩ ⟨by decide, by decide⟩ rfl (by decide) rfl rfl rfl rfl rfl (Nat.le_of_ble_eq_true rfl) rfl rfl (fun r1 N1 hp => ?_)
  rw [e] at hp
  obtain ⟨rfl, go1, vm1, rm1, gm1, gt1, op1, to1, on1, last1, rfl⟩ := hp
  refine ⟨rfl, rfl, ?_⟩
  show G C 99 1346 780 (lwL i) [aI (ansOf (oJudge u num nin))] (mainW v rf go1 vm1 rm1 gm1 vt rt gt1 tk lt len op1 to1 on1 last1 num 0 (bump re (oJudge u num nin)) ++ [modW u ro re lt len le la td fr ti pt st k1 tk ik cu go2 num nin up fo])
  refine g_aload_n hC dL_law_780 rfl rfl ?_
  refine g_invV (T := TX4) (N := 30) hC (is := [8]) (st := [aI (ansOf (oJudge u num nin))]) (c_X4_judge u ro re lt len le la td fr ti pt st k1 tk ik cu go2 num nin up fo hu (Nat.le_of_ble_eq_true rfl) hnin hnum) dL_law_781 tw_5_45 tw_5_46 tw_5_47 tw_1_5 tw_5_48 ⟨hy_X4_judge.1.1, hy_X4_judge.1.2, hy_X4_judge.2⟩ ⟨by decide, by decide⟩ ⟨by decide, by decide⟩ rfl (by decide) rfl rfl rfl rfl rfl (Nat.le_of_ble_eq_true rfl) rfl rfl (fun r1 N1 hp => ?_)
  obtain ⟨rfl, le1, la1, td1, fr1, ti1, pt1, st1, k2, ik1, cu1, go21, up1, fo1, hk2, rfl⟩ := hp
  refine ⟨rfl, rfl, ?_⟩
  show G C 99 1346 784 (lwL i) [aI (ansOf (oJudge u num nin)), aI (ansOf (oJudge u num nin))] (mainW v rf go1 vm1 rm1 gm1 vt rt gt1 tk lt len op1 to1 on1 last1 num 0 (bump re (oJudge u num nin)) ++ [modW u ro (bump re (oJudge u num nin)) lt len le1 la1 td1 fr1 ti1 pt1 st1 k2 tk ik1 cu1 go21 num 0 up1 fo1])
  exact g_icmp_eq (tgt := 894) hC dL_law_784 (by decide) (fun _ => kk _ ⟨_, _, _, _, _, _, _, _, _, _, _, _, _, _, _, rfl, ⟨_, _, _, _, _, _, _, _, _, rfl⟩, ⟨_, _, _, _, _, _, _, _, _, _, _, _, _, hk2, rfl⟩, hb.clear⟩) (fun q => absurd rfl q)
set_option maxRecDepth 100000 in
set_option maxHeartbeats 4000000 in
theorem lo_clear {C : Cx} {L : Nat} {xs : Nat → Int32} (hC : Ok C cL_law RL 4 room_1 (EL C L xs)) (hL : L ≤ 2048) {i : Nat} (hi : i + 3 < L) {M : AM} (hI : Inv M) (kk : ∀ M', Inv M' → G C 99 1346 894 (lwL i) [] M') : G C 99 1346 789 (lwL i) [] M := by
  obtain ⟨v, rf, vt, rt, tk, lt, len, num, nin, re, u, ro, ke, M1, M2, rfl, ⟨go, vm, rm, gm, gt, op, to, on, last, rfl⟩, ⟨le, la, td, fr, ti, pt, st, k1, ik, cu, go2, up, fo, hk1, rfl⟩, hb⟩ := hI
  replace hb := hb.keep hk1
  obtain ⟨hv, hs, hr, hlen, hlt, hnin, hnum, htk⟩ := id hb
  have hu : wf 99 u := sm_wf hs hv
  refine g_aload_n hC dL_law_789 rfl rfl ?_
  refine g_invV (T := TX3) (N := 9) hC (is := [0, 1, 2, 3, 4, 5, 6, 7]) (st := []) (c_X3_clear v rf go vm rm gm vt rt gt tk lt len op to on last num nin re ) dL_law_790 tw_3_147 tw_3_148 tw_3_149 tw_1_1 tw_3_150 ⟨hy_X3_clear.1.1, hy_X3_clear.1.2, hy_X3_clear.2⟩ ⟨by decide, by decide⟩ ⟨by decide, by decide⟩ rfl (by decide) rfl rfl rfl rfl rfl (Nat.le_of_ble_eq_true rfl) rfl rfl (fun r1 N1 hp => ?_)
  obtain ⟨rfl, go1, vm1, rm1, gm1, gt1, op1, to1, on1, last1, rfl⟩ := hp
  refine ⟨rfl, rfl, ?_⟩
  show G C 99 1346 793 (lwL i) [aI (ansOf (oClear nin))] (mainW v rf go1 vm1 rm1 gm1 vt rt gt1 tk lt len op1 to1 on1 last1 num 0 (bump re (oClear nin)) ++ [modW u ro re lt len le la td fr ti pt st k1 tk ik cu go2 num nin up fo])
  refine g_aload_n hC dL_law_793 rfl rfl ?_
  refine g_invV (T := TX4) (N := 30) hC (is := [8]) (st := [aI (ansOf (oClear nin))]) (c_X4_clear u ro re lt len le la td fr ti pt st k1 tk ik cu go2 num nin up fo ) dL_law_794 tw_5_41 tw_5_42 tw_5_43 tw_1_5 tw_5_44 ⟨hy_X4_clear.1.1, hy_X4_clear.1.2, hy_X4_clear.2⟩ ⟨by decide, by decide⟩ ⟨by decide, by decide⟩ rfl (by decide) rfl rfl rfl rfl rfl (Nat.le_of_ble_eq_true rfl) rfl rfl (fun r1 N1 hp => ?_)
  obtain ⟨rfl, le1, la1, td1, fr1, ti1, pt1, st1, k2, ik1, cu1, go21, up1, fo1, hk2, rfl⟩ := hp
  refine ⟨rfl, rfl, ?_⟩
  show G C 99 1346 797 (lwL i) [aI (ansOf (oClear nin)), aI (ansOf (oClear nin))] (mainW v rf go1 vm1 rm1 gm1 vt rt gt1 tk lt len op1 to1 on1 last1 num 0 (bump re (oClear nin)) ++ [modW u ro (bump re (oClear nin)) lt len le1 la1 td1 fr1 ti1 pt1 st1 k2 tk ik1 cu1 go21 num 0 up1 fo1])
  exact g_icmp_eq (tgt := 894) hC dL_law_797 (by decide) (fun _ => kk _ ⟨_, _, _, _, _, _, _, _, _, _, _, _, _, _, _, rfl, ⟨_, _, _, _, _, _, _, _, _, rfl⟩, ⟨_, _, _, _, _, _, _, _, _, _, _, _, _, hk2, rfl⟩, hb.clear⟩) (fun q => absurd rfl q)
set_option maxRecDepth 100000 in
set_option maxHeartbeats 4000000 in
theorem lo_seeds {C : Cx} {L : Nat} {xs : Nat → Int32} (hC : Ok C cL_law RL 4 room_1 (EL C L xs)) (hL : L ≤ 2048) {i : Nat} (hi : i + 3 < L) {M : AM} (hI : Inv M) (kk : ∀ M', Inv M' → G C 99 1346 894 (lwL i) [] M') : G C 99 1346 802 (lwL i) [] M := by
  obtain ⟨v, rf, vt, rt, tk, lt, len, num, nin, re, u, ro, ke, M1, M2, rfl, ⟨go, vm, rm, gm, gt, op, to, on, last, rfl⟩, ⟨le, la, td, fr, ti, pt, st, k1, ik, cu, go2, up, fo, hk1, rfl⟩, hb⟩ := hI
  replace hb := hb.keep hk1
  obtain ⟨hv, hs, hr, hlen, hlt, hnin, hnum, htk⟩ := id hb
  have hu : wf 99 u := sm_wf hs hv
  have e : oSeeds v (xs (i + 1)) (xs (i + 2)) (xs (i + 3)) = oSeeds u (xs (i + 1)) (xs (i + 2)) (xs (i + 3)) := so_seeds hs hv
  refine g_aload_n hC dL_law_802 rfl rfl ?_
  refine lw_arg hC hL (n := 1) (j := 1) (by omega) rfl dL_law_803 dL_law_804 dL_law_805 dL_law_806 dL_law_807 ?_
  refine lw_arg hC hL (n := 2) (j := 2) (by omega) rfl dL_law_808 dL_law_809 dL_law_810 dL_law_811 dL_law_812 ?_
  refine lw_arg hC hL (n := 3) (j := 3) (by omega) rfl dL_law_813 dL_law_814 dL_law_815 dL_law_816 dL_law_817 ?_
  refine g_invV (T := TX3) (N := 9) hC (is := [0, 1, 2, 3, 4, 5, 6, 7]) (st := []) (c_X3_seeds v rf go vm rm gm vt rt gt tk lt len op to on last num nin re (xs (i + 1)) (xs (i + 2)) (xs (i + 3)) hv) dL_law_818 tw_3_151 tw_3_152 tw_3_153 tw_1_1 tw_3_154 ⟨hy_X3_seeds.1.1, hy_X3_seeds.1.2, hy_X3_seeds.2⟩ ⟨by decide, by decide⟩ ⟨by decide, by decide⟩ rfl (by decide) rfl rfl rfl rfl rfl (Nat.le_of_ble_eq_true rfl) rfl rfl (fun r1 N1 hp => ?_)
  rw [e] at hp
  obtain ⟨rfl, go1, vm1, rm1, gm1, gt1, op1, to1, on1, last1, rfl⟩ := hp
  refine ⟨rfl, rfl, ?_⟩
  show G C 99 1346 821 (lwL i) [aI (ansOf (oSeeds u (xs (i + 1)) (xs (i + 2)) (xs (i + 3))))] (mainW v rf go1 vm1 rm1 gm1 vt rt gt1 tk lt len op1 to1 on1 last1 num nin (bump re (oSeeds u (xs (i + 1)) (xs (i + 2)) (xs (i + 3)))) ++ [modW u ro re lt len le la td fr ti pt st k1 tk ik cu go2 num nin up fo])
  refine g_aload_n hC dL_law_821 rfl rfl ?_
  refine lw_arg hC hL (n := 1) (j := 1) (by omega) rfl dL_law_822 dL_law_823 dL_law_824 dL_law_825 dL_law_826 ?_
  refine lw_arg hC hL (n := 2) (j := 2) (by omega) rfl dL_law_827 dL_law_828 dL_law_829 dL_law_830 dL_law_831 ?_
  refine lw_arg hC hL (n := 3) (j := 3) (by omega) rfl dL_law_832 dL_law_833 dL_law_834 dL_law_835 dL_law_836 ?_
  refine g_invV (T := TX4) (N := 30) hC (is := [8]) (st := [aI (ansOf (oSeeds u (xs (i + 1)) (xs (i + 2)) (xs (i + 3))))]) (c_X4_seeds u ro re lt len le la td fr ti pt st k1 tk ik cu go2 num nin up fo hu (Nat.le_of_ble_eq_true rfl) (xs (i + 1)) (xs (i + 2)) (xs (i + 3))) dL_law_837 tw_5_49 tw_5_50 tw_5_51 tw_1_5 tw_5_52 ⟨hy_X4_seeds.1.1, hy_X4_seeds.1.2, hy_X4_seeds.2⟩ ⟨by decide, by decide⟩ ⟨by decide, by decide⟩ rfl (by decide) rfl rfl rfl rfl rfl (Nat.le_of_ble_eq_true rfl) rfl rfl (fun r1 N1 hp => ?_)
  obtain ⟨rfl, u1, ro1, hs1, hro1, le1, la1, td1, fr1, ti1, pt1, st1, k2, ik1, cu1, go21, up1, fo1, hk2, rfl⟩ := hp
  refine ⟨rfl, rfl, ?_⟩
  show G C 99 1346 840 (lwL i) [aI (ansOf (oSeeds u (xs (i + 1)) (xs (i + 2)) (xs (i + 3)))), aI (ansOf (oSeeds u (xs (i + 1)) (xs (i + 2)) (xs (i + 3))))] (mainW v rf go1 vm1 rm1 gm1 vt rt gt1 tk lt len op1 to1 on1 last1 num nin (bump re (oSeeds u (xs (i + 1)) (xs (i + 2)) (xs (i + 3)))) ++ [modW u1 ro1 (bump re (oSeeds u (xs (i + 1)) (xs (i + 2)) (xs (i + 3)))) lt len le1 la1 td1 fr1 ti1 pt1 st1 k2 tk ik1 cu1 go21 num nin up1 fo1])
  exact g_icmp_eq (tgt := 894) hC dL_law_840 (by decide) (fun _ => kk _ ⟨_, _, _, _, _, _, _, _, _, _, _, _, _, _, _, rfl, ⟨_, _, _, _, _, _, _, _, _, rfl⟩, ⟨_, _, _, _, _, _, _, _, _, _, _, _, _, hk2, rfl⟩, hb.go hv (sm_trans hs (sm_symm hs1)) (rr_same hr hro1)⟩) (fun q => absurd rfl q)
set_option maxRecDepth 100000 in
set_option maxHeartbeats 4000000 in
theorem lo_image {C : Cx} {L : Nat} {xs : Nat → Int32} (hC : Ok C cL_law RL 4 room_1 (EL C L xs)) (hL : L ≤ 2048) {i : Nat} (hi : i + 3 < L) {M : AM} (hI : Inv M) (kk : ∀ M', Inv M' → G C 99 1346 894 (lwL i) [] M') : G C 99 1346 845 (lwL i) [] M := by
  obtain ⟨v, rf, vt, rt, tk, lt, len, num, nin, re, u, ro, ke, M1, M2, rfl, ⟨go, vm, rm, gm, gt, op, to, on, last, rfl⟩, ⟨le, la, td, fr, ti, pt, st, k1, ik, cu, go2, up, fo, hk1, rfl⟩, hb⟩ := hI
  replace hb := hb.keep hk1
  obtain ⟨hv, hs, hr, hlen, hlt, hnin, hnum, htk⟩ := id hb
  have hu : wf 99 u := sm_wf hs hv
  have e : oImage v = oImage u := so_image hs
  refine g_aload_n hC dL_law_845 rfl rfl ?_
  refine g_invV (T := TX3) (N := 9) hC (is := [0, 1, 2, 3, 4, 5, 6, 7]) (st := []) (c_X3_image v rf go vm rm gm vt rt gt tk lt len op to on last num nin re hv) dL_law_846 tw_3_162 tw_3_163 tw_3_164 tw_1_1 tw_3_165 ⟨hy_X3_image.1.1, hy_X3_image.1.2, hy_X3_image.2⟩ ⟨by decide, by decide⟩ ⟨by decide, by decide⟩ rfl (by decide) rfl rfl rfl rfl rfl (Nat.le_of_ble_eq_true rfl) rfl rfl (fun r1 N1 hp => ?_)
  rw [e] at hp
  obtain ⟨rfl, go1, vm1, rm1, gm1, gt1, op1, to1, on1, last1, rfl⟩ := hp
  refine ⟨rfl, rfl, ?_⟩
  show G C 99 1346 849 (lwL i) [aI (ansOf (oImage u))] (mainW v rf go1 vm1 rm1 gm1 (becm vt v) rf gt1 true lt len op1 to1 on1 last1 num nin (bump re (oImage u)) ++ [modW u ro re lt len le la td fr ti pt st k1 tk ik cu go2 num nin up fo])
  refine g_aload_n hC dL_law_849 rfl rfl ?_
  refine g_invV (T := TX4) (N := 30) hC (is := [8]) (st := [aI (ansOf (oImage u))]) (c_X4_image u ro re lt len le la td fr ti pt st k1 tk ik cu go2 num nin up fo ) dL_law_850 tw_4_113 tw_4_114 tw_4_115 tw_1_5 tw_4_116 ⟨hy_X4_image.1.1, hy_X4_image.1.2, hy_X4_image.2⟩ ⟨by decide, by decide⟩ ⟨by decide, by decide⟩ rfl (by decide) rfl rfl rfl rfl rfl (Nat.le_of_ble_eq_true rfl) rfl rfl (fun r1 N1 hp => ?_)
  obtain ⟨rfl, le1, la1, td1, fr1, ti1, pt1, st1, k2, ik1, cu1, go21, up1, fo1, hk2, rfl⟩ := hp
  refine ⟨rfl, rfl, ?_⟩
  show G C 99 1346 853 (lwL i) [aI (ansOf (oImage u)), aI (ansOf (oImage u))] (mainW v rf go1 vm1 rm1 gm1 (becm vt v) rf gt1 true lt len op1 to1 on1 last1 num nin (bump re (oImage u)) ++ [modW u ro (bump re (oImage u)) lt len le1 la1 td1 fr1 ti1 pt1 st1 k2 true ik1 cu1 go21 num nin up1 fo1])
  exact g_icmp_eq (tgt := 894) hC dL_law_853 (by decide) (fun _ => kk _ ⟨_, _, _, _, _, _, _, _, _, _, _, _, _, _, _, rfl, ⟨_, _, _, _, _, _, _, _, _, rfl⟩, ⟨_, _, _, _, _, _, _, _, _, _, _, _, _, hk2, rfl⟩, hb.image⟩) (fun q => absurd rfl q)
set_option maxRecDepth 100000 in
set_option maxHeartbeats 4000000 in
theorem lo_on {C : Cx} {L : Nat} {xs : Nat → Int32} (hC : Ok C cL_law RL 4 room_1 (EL C L xs)) (hL : L ≤ 2048) {i : Nat} (hi : i + 3 < L) {M : AM} (hI : Inv M) (kk : ∀ M', Inv M' → G C 99 1346 894 (lwL i) [] M') : G C 99 1346 858 (lwL i) [] M := by
  obtain ⟨v, rf, vt, rt, tk, lt, len, num, nin, re, u, ro, ke, M1, M2, rfl, ⟨go, vm, rm, gm, gt, op, to, on, last, rfl⟩, ⟨le, la, td, fr, ti, pt, st, k1, ik, cu, go2, up, fo, hk1, rfl⟩, hb⟩ := hI
  replace hb := hb.keep hk1
  obtain ⟨hv, hs, hr, hlen, hlt, hnin, hnum, htk⟩ := id hb
  have hu : wf 99 u := sm_wf hs hv
  have hvt : tk = true → wf 99 vt := fun q => (htk q).1
  rcases tk with _ | _
  · have z : True := trivial
    refine g_aload_n hC dL_law_858 rfl rfl ?_
    refine g_invV (T := TX3) (N := 9) hC (is := [0, 1, 2, 3, 4, 5, 6, 7]) (st := []) (c_X3_on v rf go vm rm gm vt rt gt false lt len op to on last num nin re hv hvt) dL_law_859 tw_3_166 tw_3_167 tw_3_168 tw_1_1 tw_3_169 ⟨hy_X3_on.1.1, hy_X3_on.1.2, hy_X3_on.2⟩ ⟨by decide, by decide⟩ ⟨by decide, by decide⟩ rfl (by decide) rfl rfl rfl rfl rfl (Nat.le_of_ble_eq_true rfl) rfl rfl (fun r1 N1 hp => ?_)
    obtain ⟨rfl, go1, vm1, rm1, gm1, gt1, op1, to1, on1, last1, rfl⟩ := hp
    refine ⟨rfl, rfl, ?_⟩
    show G C 99 1346 862 (lwL i) [aI (-(nI 3))] (mainW v rf go1 vm1 rm1 gm1 vt rt gt1 false lt len op1 to1 on1 last1 num nin (updN re 3 (re 3 + 1)) ++ [modW u ro re lt len le la td fr ti pt st k1 false ik cu go2 num nin up fo])
    refine g_aload_n hC dL_law_862 rfl rfl ?_
    refine g_invV (T := TX4) (N := 30) hC (is := [8]) (st := [aI (-(nI 3))]) (c_X4_on_f u ro re lt len le la td fr ti pt st k1 false ik cu go2 num nin up fo rfl) dL_law_863 tw_4_117 tw_4_118 tw_4_119 tw_1_5 tw_4_120 ⟨hy_X4_on.1.1, hy_X4_on.1.2, hy_X4_on.2⟩ ⟨by decide, by decide⟩ ⟨by decide, by decide⟩ rfl (by decide) rfl rfl rfl rfl rfl (Nat.le_of_ble_eq_true rfl) rfl rfl (fun r1 N1 hp => ?_)
    obtain ⟨rfl, le1, la1, td1, fr1, ti1, pt1, st1, k2, ik1, cu1, go21, up1, fo1, hk2, rfl⟩ := hp
    refine ⟨rfl, rfl, ?_⟩
    show G C 99 1346 866 (lwL i) [aI (-(nI 3)), aI (-(nI 3))] (mainW v rf go1 vm1 rm1 gm1 vt rt gt1 false lt len op1 to1 on1 last1 num nin (updN re 3 (re 3 + 1)) ++ [modW u ro (updN re 3 (re 3 + 1)) lt len le1 la1 td1 fr1 ti1 pt1 st1 k2 false ik1 cu1 go21 num nin up1 fo1])
    exact g_icmp_eq (tgt := 894) hC dL_law_866 (by decide) (fun _ => kk _ ⟨_, _, _, _, _, _, _, _, _, _, _, _, _, _, _, rfl, ⟨_, _, _, _, _, _, _, _, _, rfl⟩, ⟨_, _, _, _, _, _, _, _, _, _, _, _, _, hk2, rfl⟩, hb⟩) (fun q => absurd rfl q)
  · obtain ⟨hwt, t, rtt, hkt, hst, hrt⟩ := htk rfl
    have ht : wf 99 t := sm_wf hst hwt
    have e : nI (vMi t) = nI (vMi vt) := by rw [sm_mi hst]
    refine g_aload_n hC dL_law_858 rfl rfl ?_
    refine g_invV (T := TX3) (N := 9) hC (is := [0, 1, 2, 3, 4, 5, 6, 7]) (st := []) (c_X3_on v rf go vm rm gm vt rt gt true lt len op to on last num nin re hv hvt) dL_law_859 tw_3_166 tw_3_167 tw_3_168 tw_1_1 tw_3_169 ⟨hy_X3_on.1.1, hy_X3_on.1.2, hy_X3_on.2⟩ ⟨by decide, by decide⟩ ⟨by decide, by decide⟩ rfl (by decide) rfl rfl rfl rfl rfl (Nat.le_of_ble_eq_true rfl) rfl rfl (fun r1 N1 hp => ?_)
    obtain ⟨rfl, go1, vm1, rm1, gm1, gt1, op1, to1, on1, last1, rfl⟩ := hp
    refine ⟨rfl, rfl, ?_⟩
    show G C 99 1346 862 (lwL i) [aI (nI (vMi vt))] (mainW (becm v vt) rt go1 vm1 rm1 gm1 vt rt gt1 true lt len op1 to1 on1 last1 num nin re ++ [modW u ro re lt len le la td fr ti pt st k1 true ik cu go2 num nin up fo])
    refine g_aload_n hC dL_law_862 rfl rfl ?_
    refine g_invV (T := TX4) (N := 30) hC (is := [8]) (st := [aI (nI (vMi vt))]) (c_X4_on_t u ro re lt len le la td fr ti pt st k1 true ik cu go2 num nin up fo t rtt ht rfl hkt) dL_law_863 tw_4_117 tw_4_118 tw_4_119 tw_1_5 tw_4_120 ⟨hy_X4_on.1.1, hy_X4_on.1.2, hy_X4_on.2⟩ ⟨by decide, by decide⟩ ⟨by decide, by decide⟩ rfl (by decide) rfl rfl rfl rfl rfl (Nat.le_of_ble_eq_true rfl) rfl rfl (fun r1 N1 hp => ?_)
    rw [e] at hp
    obtain ⟨rfl, u1, ro1, hs1, hro1, le1, la1, td1, fr1, ti1, pt1, st1, k2, ik1, cu1, go21, up1, fo1, hk2, rfl⟩ := hp
    refine ⟨rfl, rfl, ?_⟩
    show G C 99 1346 866 (lwL i) [aI (nI (vMi vt)), aI (nI (vMi vt))] (mainW (becm v vt) rt go1 vm1 rm1 gm1 vt rt gt1 true lt len op1 to1 on1 last1 num nin re ++ [modW u1 ro1 re lt len le1 la1 td1 fr1 ti1 pt1 st1 k2 true ik1 cu1 go21 num nin up1 fo1])
    exact g_icmp_eq (tgt := 894) hC dL_law_866 (by decide) (fun _ => kk _ ⟨_, _, _, _, _, _, _, _, _, _, _, _, _, _, _, rfl, ⟨_, _, _, _, _, _, _, _, _, rfl⟩, ⟨_, _, _, _, _, _, _, _, _, _, _, _, _, hk2, rfl⟩, hb.go (wf_becm v hwt) (sm_trans (sm_bec v hwt) (sm_trans hst (sm_symm hs1))) (rr_same hrt hro1)⟩) (fun q => absurd rfl q)
set_option maxRecDepth 100000 in
set_option maxHeartbeats 4000000 in
theorem lo_count {C : Cx} {L : Nat} {xs : Nat → Int32} (hC : Ok C cL_law RL 4 room_1 (EL C L xs)) (hL : L ≤ 2048) {i : Nat} (hi : i + 3 < L) {M : AM} (hI : Inv M) (kk : ∀ M', Inv M' → G C 99 1346 894 (lwL i) [] M') : G C 99 1346 871 (lwL i) [] M := by
  obtain ⟨v, rf, vt, rt, tk, lt, len, num, nin, re, u, ro, ke, M1, M2, rfl, ⟨go, vm, rm, gm, gt, op, to, on, last, rfl⟩, ⟨le, la, td, fr, ti, pt, st, k1, ik, cu, go2, up, fo, hk1, rfl⟩, hb⟩ := hI
  replace hb := hb.keep hk1
  obtain ⟨hv, hs, hr, hlen, hlt, hnin, hnum, htk⟩ := id hb
  have hu : wf 99 u := sm_wf hs hv
  have e : oCount v nin len re (xs (i + 1)) = oCount u nin len re (xs (i + 1)) := so_count hs
  refine g_aload_n hC dL_law_871 rfl rfl ?_
  refine lw_arg hC hL (n := 1) (j := 1) (by omega) rfl dL_law_872 dL_law_873 dL_law_874 dL_law_875 dL_law_876 ?_
  refine g_invV (T := TX3) (N := 9) hC (is := [0, 1, 2, 3, 4, 5, 6, 7]) (st := []) (c_X3_count v rf go vm rm gm vt rt gt tk lt len op to on last num nin re (xs (i + 1)) hv) dL_law_877 tw_3_170 tw_3_171 tw_3_172 tw_1_1 tw_3_173 ⟨hy_X3_count.1.1, hy_X3_count.1.2, hy_X3_count.2⟩ ⟨by decide, by decide⟩ ⟨by decide, by decide⟩ rfl (by decide) rfl rfl rfl rfl rfl (Nat.le_of_ble_eq_true rfl) rfl rfl (fun r1 N1 hp => ?_)
  rw [e] at hp
  obtain ⟨rfl, go1, vm1, rm1, gm1, gt1, op1, to1, on1, last1, rfl⟩ := hp
  refine ⟨rfl, rfl, ?_⟩
  show G C 99 1346 880 (lwL i) [aI (ansOf (oCount u nin len re (xs (i + 1))))] (mainW v rf go1 vm1 rm1 gm1 vt rt gt1 tk lt len op1 to1 on1 last1 num nin (bump re (oCount u nin len re (xs (i + 1)))) ++ [modW u ro re lt len le la td fr ti pt st k1 tk ik cu go2 num nin up fo])
  refine g_aload_n hC dL_law_880 rfl rfl ?_
  refine lw_arg hC hL (n := 1) (j := 1) (by omega) rfl dL_law_881 dL_law_882 dL_law_883 dL_law_884 dL_law_885 ?_
  refine g_invV (T := TX4) (N := 30) hC (is := [8]) (st := [aI (ansOf (oCount u nin len re (xs (i + 1))))]) (c_X4_count u ro re lt len le la td fr ti pt st k1 tk ik cu go2 num nin up fo hu (Nat.le_of_ble_eq_true rfl) (xs (i + 1))) dL_law_886 tw_5_56 tw_5_57 tw_5_58 tw_1_5 tw_5_59 ⟨hy_X4_count.1.1, hy_X4_count.1.2, hy_X4_count.2⟩ ⟨by decide, by decide⟩ ⟨by decide, by decide⟩ rfl (by decide) rfl rfl rfl rfl rfl (Nat.le_of_ble_eq_true rfl) rfl rfl (fun r1 N1 hp => ?_)
  obtain ⟨rfl, le1, la1, td1, fr1, ti1, pt1, st1, k2, ik1, cu1, go21, up1, fo1, hk2, rfl⟩ := hp
  refine ⟨rfl, rfl, ?_⟩
  show G C 99 1346 889 (lwL i) [aI (ansOf (oCount u nin len re (xs (i + 1)))), aI (ansOf (oCount u nin len re (xs (i + 1))))] (mainW v rf go1 vm1 rm1 gm1 vt rt gt1 tk lt len op1 to1 on1 last1 num nin (bump re (oCount u nin len re (xs (i + 1)))) ++ [modW u ro (bump re (oCount u nin len re (xs (i + 1)))) lt len le1 la1 td1 fr1 ti1 pt1 st1 k2 tk ik1 cu1 go21 num nin up1 fo1])
  exact g_icmp_eq (tgt := 894) hC dL_law_889 (by decide) (fun _ => kk _ ⟨_, _, _, _, _, _, _, _, _, _, _, _, _, _, _, rfl, ⟨_, _, _, _, _, _, _, _, _, rfl⟩, ⟨_, _, _, _, _, _, _, _, _, _, _, _, _, hk2, rfl⟩, hb⟩) (fun q => absurd rfl q)
