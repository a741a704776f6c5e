/-! ===== the law's turns ===== -/
theorem lvK_w {b fb : Nat} {aq : Nat → Nat} {turn : Int} {lv : List Value} (h : lvK b fb aq turn lv) (i : Nat) (v : Value) (hi : ([.ref b, .ref fb, .ref (aq 0), .ref (aq 1), .ref (aq 2), .ref (aq 3), .ref (aq 4), .ref (aq 5), .int (iI turn), .null, .null, .null, .null, .int (iI 1), .null, .null, .null, .null, .null, .null, .null, .null, .null, .null, .null, .null, .null, .null, .null, .null] : List Value)[i]? = some v) (hne : v ≠ .null) : lv[i]? = some v := by
  obtain ⟨h0, h1, h2, h3, h4, h5, h6, h7, h8, h13⟩ := h
  match i, hi with
  | 0, hi => rw [h0]; exact hi
  | 1, hi => rw [h1]; exact hi
  | 2, hi => rw [h2]; exact hi
  | 3, hi => rw [h3]; exact hi
  | 4, hi => rw [h4]; exact hi
  | 5, hi => rw [h5]; exact hi
  | 6, hi => rw [h6]; exact hi
  | 7, hi => rw [h7]; exact hi
  | 8, hi => rw [h8]; exact hi
  | 9, hi => exact absurd (Option.some.inj hi).symm hne
  | 10, hi => exact absurd (Option.some.inj hi).symm hne
  | 11, hi => exact absurd (Option.some.inj hi).symm hne
  | 12, hi => exact absurd (Option.some.inj hi).symm hne
  | 13, hi => rw [h13]; exact hi
  | 14, hi => exact absurd (Option.some.inj hi).symm hne
  | 15, hi => exact absurd (Option.some.inj hi).symm hne
  | 16, hi => exact absurd (Option.some.inj hi).symm hne
  | 17, hi => exact absurd (Option.some.inj hi).symm hne
  | 18, hi => exact absurd (Option.some.inj hi).symm hne
  | 19, hi => exact absurd (Option.some.inj hi).symm hne
  | 20, hi => exact absurd (Option.some.inj hi).symm hne
  | 21, hi => exact absurd (Option.some.inj hi).symm hne
  | 22, hi => exact absurd (Option.some.inj hi).symm hne
  | 23, hi => exact absurd (Option.some.inj hi).symm hne
  | 24, hi => exact absurd (Option.some.inj hi).symm hne
  | 25, hi => exact absurd (Option.some.inj hi).symm hne
  | 26, hi => exact absurd (Option.some.inj hi).symm hne
  | 27, hi => exact absurd (Option.some.inj hi).symm hne
  | 28, hi => exact absurd (Option.some.inj hi).symm hne
  | 29, hi => exact absurd (Option.some.inj hi).symm hne
  | n + 30, hi => exact absurd hi (by intro q; cases q)
def LW (ad aq : Nat → Nat) (cI cJ : ClassId) (ws : va_W) : Prop := ∃ (hf at_ wg dy ti gg : Int → Int) (M B : Int → Int → Int) (lo ch wt sn vo mo le ln od fe se td th : Int → Int) (cnt bw bs pl tk tc sill day lau : Int), RelA M B hf wt sn wg at_ td th dy ti gg cnt bw bs pl tc sill day lau ∧ ws = (wA aq cI hf at_ wg dy ti gg) ++ (wX ad cI cJ M B lo ch wt sn vo mo le ln od fe se td th cnt bw bs pl tk tc sill day lau)
section LOOP
variable {p : Program} {l : Launch} {e : Env} {s : State} {m : MethodId} {args : Array Value} {below : List Frame} {meth : Method} {c : Code} {A : Nat → Prop} {D : va_G} {Q : State → Prop} {cI cJ cL : ClassId} {b L : Nat} {xs : Nat → Int32} {ad aq : Nat → Nat}
set_option maxHeartbeats 4000000 in
set_option maxRecDepth 100000 in
theorem law_end (C : Cx p s m args meth c 30 A D cI cJ cL cL_law wsL_law RL) (hl0 : l.stackTraces = false) {cells slots : Nat} (hc : cells + 10 ≤ 600130) (hs : slots + 40 ≤ 7301080) {ws : va_W} (hW : LW ad aq cI cJ ws) {lv : List Value} (hlv : lv[1]? = some (.ref (ad 0)))
    (hend : ∀ (ws' : va_W), Z p l e room_1 s m args below meth c 30 A D Q (cells + 10) (slots + 40) ws' lv 1377 [.int (iI 1)]) : Z p l e room_1 s m args below meth c 30 A D Q cells slots ws lv 1349 [] := by
  obtain ⟨hf, at_, wg, dy, ti, gg, M, B, lo, ch, wt, sn, vo, mo, le, ln, od, fe, se, td, th, cnt, bw, bs, pl, tk, tc, sill, day, lau, rr, rfl⟩ := hW
  refine Z.aload_n C dL_law_1349 hlv ?_
  refine Z.iconst C dL_law_1350 ?_
  refine Z.iconst C dL_law_1351 ?_
  refine Z.xSXIf (wr := (wA aq cI hf at_ wg dy ti gg)) C 3 (h_fair l D cI cJ cL ad M B lo ch wt sn vo mo le ln od fe se td th cnt bw bs pl tk tc sill day lau hl0 rr.1.hM rr.1.hB rr.1.i0 0 3 ⟨by decide, by decide⟩ ⟨by decide, by decide⟩) gL_law_L_fair rfl rfl rfl (by decide +kernel) ⟨Nat.le_of_ble_eq_true rfl, Nat.le_of_ble_eq_true rfl⟩ rfl rfl (Nat.le_of_ble_eq_true rfl) ⟨by show _ ≤ 600130; omega, by show _ ≤ 7301080; omega⟩ dL_law_1352 (fun r w9 h2 => ?_) (fun _ _ z => z.elim)
  have htc : tcFair 0 3 lau = 2 := by
    unfold tcFair
    rw [if_neg (by omega), if_pos (by omega)]
  have hd : r = -70200 ∧ w9 = (wX ad cI cJ M B lo ch wt sn vo mo le ln od fe se td th cnt bw bs pl tk tc sill day lau) := by
    rcases h2 with ⟨E, ⟨q1, q2⟩, q3⟩ | ⟨q1, -⟩
    · refine ⟨?_, q1⟩
      rcases q2 with ⟨-, q⟩ | ⟨q, -⟩ | ⟨-, q⟩
      · omega
      · subst q
        simp [eIX, eIA, eIS] at q3
        exact q3
      · omega
    · omega
  obtain ⟨rfl, rfl⟩ := hd
  refine Z.ldc C (v := iI (-70200)) (-70200) (by decide +kernel) rfl dL_law_1355 ?_
  refine Z.icmpne C 1376 dL_law_1357 (by decide) (⟨by omega, by omega⟩) (⟨by omega, by omega⟩) (fun h3 => ?_) (fun h3 => ?_)
  · exact absurd rfl h3
  · refine Z.aload_n C dL_law_1360 hlv ?_
    refine Z.bipush C dL_law_1361 (by decide) ?_
    refine Z.iconst C dL_law_1363 ?_
    refine Z.xSXIf (wr := (wA aq cI hf at_ wg dy ti gg)) C 3 (h_half l D cI cJ cL ad M B lo ch wt sn vo mo le ln od fe se td th cnt bw bs pl tk tc sill day lau hl0 9 0 ⟨by decide, by decide⟩ ⟨by decide, by decide⟩) gL_law_L_half rfl rfl rfl (by decide +kernel) ⟨Nat.le_of_ble_eq_true rfl, Nat.le_of_ble_eq_true rfl⟩ rfl rfl (Nat.le_of_ble_eq_true rfl) ⟨by show _ ≤ 600130; omega, by show _ ≤ 7301080; omega⟩ dL_law_1364 (fun r w9 h2 => ?_) (fun _ _ z => z.elim)
    have hts : tcSW 9 0 = 1 := by decide
    have hd2 : r = -70100 ∧ w9 = (wX ad cI cJ M B lo ch wt sn vo mo le ln od fe se td th cnt bw bs pl tk tc sill day lau) := by
      rcases h2 with ⟨E, ⟨q1, q2, -⟩, q3⟩ | ⟨q1, -⟩
      · subst q2
        simp [eIX] at q3
        exact ⟨q3, q1⟩
      · omega
    obtain ⟨rfl, rfl⟩ := hd2
    refine Z.ldc C (v := iI (-70100)) (-70100) (by decide +kernel) rfl dL_law_1367 ?_
    refine Z.icmpne C 1376 dL_law_1369 (by decide) (⟨by omega, by omega⟩) (⟨by omega, by omega⟩) (fun h4 => ?_) (fun h4 => ?_)
    · exact absurd rfl h4
    · skip
      refine Z.iconst C dL_law_1372 ?_
      refine Z.goto C 1377 dL_law_1373 (by decide) ?_
      exact Z.widen (by omega) (by omega) (hend _)
set_option maxHeartbeats 4000000 in
set_option maxRecDepth 100000 in
theorem law_loop (C : Cx p s m args meth c 30 A D cI cJ cL cL_law wsL_law RL) (hl0 : l.stackTraces = false) (hX : va_X b L xs s s.heap) (hbl : b < s.heap.size) (hbA : ¬ A b) (hL : L ≤ 2048)
    (hend : ∀ (cells slots : Nat) (ws : va_W) (lv : List Value), cells ≤ 600130 → slots ≤ 7301080 → Z p l e room_1 s m args below meth c 30 A D Q cells slots ws lv 1377 [.int (iI 1)]) :
    ∀ (n turn : Nat) (ws : va_W), turn + n = 110 → LW ad aq cI cJ ws → Z p l e room_1 s m args below meth c 30 A D Q (300 + 50 * turn) (2200 + 718 * turn) ws [.ref b, .ref (ad 0), .ref (aq 0), .ref (aq 1), .ref (aq 2), .ref (aq 3), .ref (aq 4), .ref (aq 5), .int (iI (turn : Int)), .null, .null, .null, .null, .null, .null, .null, .null, .null, .null, .null, .null, .null, .null, .null, .null, .null, .null, .null, .null, .null] 171 [] := by
  intro n
  induction n with
  | zero =>
    intro turn ws hn hW
    have e110 : turn = 110 := by omega
    subst e110
    refine Z.iload C dL_law_171 rfl ?_
    refine Z.bipush C dL_law_173 (by decide) ?_
    refine Z.icmpge C 1349 dL_law_175 (by decide) (⟨by omega, by omega⟩) (⟨by omega, by omega⟩) (fun h => ?_) (fun h => ?_)
    · exact law_end C hl0 (Nat.le_of_ble_eq_true rfl) (Nat.le_of_ble_eq_true rfl) hW rfl (fun ws' => hend _ _ _ _ (Nat.le_of_ble_eq_true rfl) (Nat.le_of_ble_eq_true rfl))
    · exfalso; omega
  | succ n ih =>
    intro turn ws hn hW
    refine Z.iload C dL_law_171 rfl ?_
    refine Z.bipush C dL_law_173 (by decide) ?_
    refine Z.icmpge C 1349 dL_law_175 (by decide) (⟨by omega, by omega⟩) (⟨by omega, by omega⟩) (fun h => ?_) (fun h => ?_)
    · exfalso; omega
    · skip
      refine Z.aload_n C dL_law_178 rfl ?_
      refine Z.bipush C dL_law_179 (by decide) ?_
      refine Z.iconst C dL_law_181 ?_
      refine Z.iload C dL_law_182 rfl ?_
      refine Z.imul C dL_law_184 ?_
      refine Z.iadd C dL_law_185 ?_
      refine Z.cSs C hX hbl hbA 2 (q_cell l D cI cJ cL b L xs hL (54 + 2 * (turn : Int)) (by omega) (by omega)) gL_law_L_cell rfl rfl rfl (by decide +kernel) ⟨Nat.le_of_ble_eq_true rfl, Nat.le_of_ble_eq_true rfl⟩ rfl rfl (Nat.le_of_ble_eq_true rfl) ⟨by show _ ≤ 600130; omega, by show _ ≤ 7301080; omega⟩ dL_law_186 (fun v hv => ?_)
      refine Z.istore C dL_law_189 (by decide) ?_
      refine Z.aload_n C dL_law_191 rfl ?_
      refine Z.bipush C dL_law_192 (by decide) ?_
      refine Z.iconst C dL_law_194 ?_
      refine Z.iload C dL_law_195 rfl ?_
      refine Z.imul C dL_law_197 ?_
      refine Z.iadd C dL_law_198 ?_
      refine Z.cSs C hX hbl hbA 2 (q_cell l D cI cJ cL b L xs hL (55 + 2 * (turn : Int)) (by omega) (by omega)) gL_law_L_cell rfl rfl rfl (by decide +kernel) ⟨Nat.le_of_ble_eq_true rfl, Nat.le_of_ble_eq_true rfl⟩ rfl rfl (Nat.le_of_ble_eq_true rfl) ⟨by show _ ≤ 600130; omega, by show _ ≤ 7301080; omega⟩ dL_law_199 (fun u hu => ?_)
      refine Z.istore C dL_law_202 (by decide) ?_
      refine Z.iload C dL_law_204 rfl ?_
      refine Z.iconst C dL_law_206 ?_
      refine Z.ishr C dL_law_207 (fun t1 ht1 => ?_)
      refine Z.bipush C dL_law_208 (by decide) ?_
      have hw := lowZ_bd t1 (n := 6) (by decide)
      refine Z.cSIp C 2 (q_low l D cI cJ cL t1 6 (by decide) (by decide)) gL_law_L_low rfl rfl rfl (by decide +kernel) ⟨Nat.le_of_ble_eq_true rfl, Nat.le_of_ble_eq_true rfl⟩ rfl rfl (Nat.le_of_ble_eq_true rfl) ⟨by show _ ≤ 600130; omega, by show _ ≤ 7301080; omega⟩ dL_law_210 ?_
      generalize lowZ t1 6 = w at hw
      refine Z.istore C dL_law_213 (by decide) ?_
      refine Z.iload C dL_law_215 rfl ?_
      refine Z.bipush C dL_law_217 (by decide) ?_
      refine Z.ishr C dL_law_219 (fun t2 ht2 => ?_)
      refine Z.bipush C dL_law_220 (by decide) ?_
      have hk := lowZ_bd t2 (n := 9) (by decide)
      refine Z.cSIp C 2 (q_low l D cI cJ cL t2 9 (by decide) (by decide)) gL_law_L_low rfl rfl rfl (by decide +kernel) ⟨Nat.le_of_ble_eq_true rfl, Nat.le_of_ble_eq_true rfl⟩ rfl rfl (Nat.le_of_ble_eq_true rfl) ⟨by show _ ≤ 600130; omega, by show _ ≤ 7301080; omega⟩ dL_law_222 ?_
      generalize lowZ t2 9 = k at hk
      refine Z.istore C dL_law_225 (by decide) ?_
      refine Z.iconst C dL_law_227 ?_
      refine Z.istore C dL_law_228 (by decide) ?_
      refine Z.iload C dL_law_230 rfl ?_
      refine Z.bipush C dL_law_232 (by decide) ?_
      have ht := lowZ_bd v (n := 15) (by decide)
      refine Z.cSIp C 2 (q_low l D cI cJ cL v 15 (by decide) (by decide)) gL_law_L_low rfl rfl rfl (by decide +kernel) ⟨Nat.le_of_ble_eq_true rfl, Nat.le_of_ble_eq_true rfl⟩ rfl rfl (Nat.le_of_ble_eq_true rfl) ⟨by show _ ≤ 600130; omega, by show _ ≤ 7301080; omega⟩ dL_law_234 ?_
      generalize lowZ v 15 = t at ht
      obtain ⟨hf, at_, wg, dy, ti, gg, M, B, lo, ch, wt, sn, vo, mo, le, ln, od, fe, se, td, th, cnt, bw, bs, pl, tk, tc, sill, day, lau, rr, rfl⟩ := hW
      have u0 : 0 ≤ (turn : Int) := by omega
      have u1 : (turn : Int) < 110 := by omega
      have w1 : w ≤ 5 := by omega
      have k1 : k ≤ 8 := by omega
      have hc : 300 + 50 * turn + 40 ≤ 600130 := by omega
      have hs : 2200 + 718 * turn + 600 ≤ 7301080 := by omega
      have kk : ∀ (hf at_ wg dy ti gg : Int → Int) (M B : Int → Int → Int) (lo ch wt sn vo mo le ln od fe se td th : Int → Int) (cnt bw bs pl tk tc sill day lau : Int) (lv9 : List Value), RelA M B hf wt sn wg at_ td th dy ti gg cnt bw bs pl tc sill day lau → lvK b (ad 0) aq (turn : Int) lv9 → Z p l e room_1 s m args below meth c 30 A D Q (300 + 50 * turn + 40) (2200 + 718 * turn + 600) ((wA aq cI hf at_ wg dy ti gg) ++ (wX ad cI cJ M B lo ch wt sn vo mo le ln od fe se td th cnt bw bs pl tk tc sill day lau)) lv9 1317 [] := by
        intro hf at_ wg dy ti gg M B lo ch wt sn vo mo le ln od fe se td th cnt bw bs pl tk tc sill day lau lv9 rr hlv
        refine Z.lvw (lvK_w hlv) ?_
        refine Z.iload C dL_law_1317 rfl ?_
        refine Z.ifeq C 1341 dL_law_1319 (by decide) (⟨by decide, by decide⟩) (fun h1 => ?_) (fun h1 => ?_)
        · exact absurd h1 (by decide)
        · skip
          refine Z.aload_n C dL_law_1322 rfl ?_
          refine Z.iload C dL_law_1323 rfl ?_
          refine Z.aload_n C dL_law_1325 rfl ?_
          refine Z.aload_n C dL_law_1326 rfl ?_
          refine Z.aload C dL_law_1327 rfl ?_
          refine Z.aload C dL_law_1329 rfl ?_
          refine Z.aload C dL_law_1331 rfl ?_
          refine Z.aload C dL_law_1333 rfl ?_
          refine Z.xSI C 8 (q_isTold l D cI cJ cL aq hf at_ wg dy ti gg ad M B lo ch wt sn vo mo le ln od fe se td th cnt bw bs pl tk tc sill day lau hl0 rr (turn : Int) u0 u1) gL_law_L_isTold rfl rfl rfl (by decide +kernel) ⟨Nat.le_of_ble_eq_true rfl, Nat.le_of_ble_eq_true rfl⟩ rfl rfl (Nat.le_of_ble_eq_true rfl) ⟨by show _ ≤ 600130; omega, by show _ ≤ 7301080; omega⟩ dL_law_1335 (fun r w9 h9 => ?_) (fun _ _ z => z.elim)
          obtain ⟨rfl, vo2, mo2, le2, ln2, od2, fe2, se2, tk2, rfl⟩ := h9
          refine Z.ifne C 1343 dL_law_1338 (by decide) (⟨by decide, by decide⟩) (fun h2 => ?_) (fun h2 => ?_)
          · skip
            refine Z.iinc C dL_law_1343 rfl (by decide) ?_
            refine Z.goto C 171 dL_law_1346 (by decide) ?_
            refine Z.pick 13 rfl ?_
            rw [show (turn : Int) + 1 = ((turn + 1 : Nat) : Int) by omega]
            refine Z.widen (k := 300 + 50 * (turn + 1)) (n := 2200 + 718 * (turn + 1)) (by omega) (by omega) ?_
            exact ih (turn + 1) _ (by omega) ⟨_, _, _, _, _, _, _, _, _, _, _, _, _, _, _, _, _, _, _, _, _, _, _, _, _, _, _, _, _, _, rr, rfl⟩
          · exact absurd h2 (by decide)
      by_cases h0 : t < 0 ∨ 12 < t
      · refine Z.tout C 1261 dL_law_237 ⟨by omega, by omega⟩ h0 (by decide) ?_
        exact arm_pass C hl0 hc hs rr u0 u1 hu hw.1 w1 hk.1 k1 kk
      · rcases (show t = 0 ∨ t = 1 ∨ t = 2 ∨ t = 3 ∨ t = 4 ∨ t = 5 ∨ t = 6 ∨ t = 7 ∨ t = 8 ∨ t = 9 ∨ t = 10 ∨ t = 11 ∨ t = 12 by omega) with rfl | rfl | rfl | rfl | rfl | rfl | rfl | rfl | rfl | rfl | rfl | rfl | rfl
        · refine Z.tin C (off := 67) 304 dL_law_237 ⟨by decide, by decide⟩ (by decide) (by decide) rfl (by decide) ?_
          exact arm_offset C hl0 hc hs rr u0 u1 hu hw.1 w1 hk.1 k1 kk
        · refine Z.tin C (off := 67) 304 dL_law_237 ⟨by decide, by decide⟩ (by decide) (by decide) rfl (by decide) ?_
          exact arm_offset C hl0 hc hs rr u0 u1 hu hw.1 w1 hk.1 k1 kk
        · refine Z.tin C (off := 67) 304 dL_law_237 ⟨by decide, by decide⟩ (by decide) (by decide) rfl (by decide) ?_
          exact arm_offset C hl0 hc hs rr u0 u1 hu hw.1 w1 hk.1 k1 kk
        · refine Z.tin C (off := 218) 455 dL_law_237 ⟨by decide, by decide⟩ (by decide) (by decide) rfl (by decide) ?_
          exact arm_fair C hl0 hc hs rr u0 u1 hu hw.1 w1 hk.1 k1 kk
        · refine Z.tin C (off := 218) 455 dL_law_237 ⟨by decide, by decide⟩ (by decide) (by decide) rfl (by decide) ?_
          exact arm_fair C hl0 hc hs rr u0 u1 hu hw.1 w1 hk.1 k1 kk
        · refine Z.tin C (off := 339) 576 dL_law_237 ⟨by decide, by decide⟩ (by decide) (by decide) rfl (by decide) ?_
          exact arm_weigh C hl0 hc hs rr u0 u1 hu hw.1 w1 hk.1 k1 kk
        · refine Z.tin C (off := 339) 576 dL_law_237 ⟨by decide, by decide⟩ (by decide) (by decide) rfl (by decide) ?_
          exact arm_weigh C hl0 hc hs rr u0 u1 hu hw.1 w1 hk.1 k1 kk
        · refine Z.tin C (off := 411) 648 dL_law_237 ⟨by decide, by decide⟩ (by decide) (by decide) rfl (by decide) ?_
          exact arm_change C hl0 hc hs rr u0 u1 hu hw.1 w1 hk.1 k1 kk
        · refine Z.tin C (off := 494) 731 dL_law_237 ⟨by decide, by decide⟩ (by decide) (by decide) rfl (by decide) ?_
          exact arm_ballast C hl0 hc hs rr u0 u1 hu hw.1 w1 hk.1 k1 kk
        · refine Z.tin C (off := 677) 914 dL_law_237 ⟨by decide, by decide⟩ (by decide) (by decide) rfl (by decide) ?_
          exact arm_planks C hl0 hc hs rr u0 u1 hu hw.1 w1 hk.1 k1 kk
        · refine Z.tin C (off := 723) 960 dL_law_237 ⟨by decide, by decide⟩ (by decide) (by decide) rfl (by decide) ?_
          exact arm_tide C hl0 hc hs rr u0 u1 hu hw.1 w1 hk.1 k1 kk
        · refine Z.tin C (off := 866) 1103 dL_law_237 ⟨by decide, by decide⟩ (by decide) (by decide) rfl (by decide) ?_
          exact arm_sill C hl0 hc hs rr u0 u1 hu hw.1 w1 hk.1 k1 kk
        · refine Z.tin C (off := 905) 1142 dL_law_237 ⟨by decide, by decide⟩ (by decide) (by decide) rfl (by decide) ?_
          exact arm_launch C hl0 hc hs rr u0 u1 hu hw.1 w1 hk.1 k1 kk
end LOOP
