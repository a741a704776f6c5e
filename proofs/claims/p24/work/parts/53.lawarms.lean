/-! ===== the law's arms: what they share ===== -/
def lvK (b fb : Nat) (aq : Nat → Nat) (turn : Int) (lv : List Value) : Prop := lv[0]? = some (.ref b) ∧ lv[1]? = some (.ref fb) ∧ lv[2]? = some (.ref (aq 0)) ∧ lv[3]? = some (.ref (aq 1)) ∧ lv[4]? = some (.ref (aq 2)) ∧ lv[5]? = some (.ref (aq 3)) ∧ lv[6]? = some (.ref (aq 4)) ∧ lv[7]? = some (.ref (aq 5)) ∧ lv[8]? = some (.int (iI turn)) ∧ lv[13]? = some (.int (iI 1))
theorem RH_set {M : Int → Int → Int} {hf : Int → Int} (hR : RH M hf) {w k : Int} (v : Int) (w0 : 0 ≤ w) (w1 : w ≤ 5) (k0 : 0 ≤ k) (k1 : k ≤ 8) : RH (zrow M w (zset (M w) k v)) (zset hf (9 * w + k) v) := by
  intro i j i0 i1 j0 j1
  by_cases e : i = w
  · subst e
    rw [zrow_eq]
    by_cases e2 : j = k
    · subst e2
      rw [zset_eq, zset_eq]
    · rw [zset_ne _ (by omega), zset_ne _ e2]
      exact hR i j i0 i1 j0 j1
  · rw [zrow_ne _ _ e, zset_ne _ (by omega)]
    exact hR i j i0 i1 j0 j1
theorem hOK_set {M : Int → Int → Int} (hM : hOK M) {w k v : Int} (h0 : 0 ≤ v) (h1 : v ≤ 200) : hOK (zrow M w (zset (M w) k v)) := by
  intro i j
  by_cases e : i = w
  · subst e
    rw [zrow_eq]
    by_cases e2 : j = k
    · subst e2
      rw [zset_eq]
      exact ⟨h0, h1⟩
    · rw [zset_ne _ e2]
      exact hM i j
  · rw [zrow_ne _ _ e]
    exact hM i j
set_option maxHeartbeats 4000000 in
set_option maxRecDepth 100000 in
theorem arm_offset {p : Program} {l : Launch} {e : Env} {s : State} {m : MethodId} {args : Array Value} {below : List Frame} {meth : Method} {c : Code} {A : Nat → Prop} {D : va_G} {Q : State → Prop} {cI cJ cL : ClassId} {b cells slots : Nat} {aq : Nat → Nat} {hf at_ wg dy ti gg : Int → Int} {ad : Nat → Nat} {M B : Int → Int → Int} {lo ch wt sn vo mo le ln od fe se td th : Int → Int} {cnt bw bs pl tk tc sill day lau : Int} {turn v u w k : Int} (C : Cx p s m args meth c 30 A D cI cJ cL cL_law wsL_law RL) (hl0 : l.stackTraces = false) (hc : cells + 40 ≤ 600130) (hs : slots + 600 ≤ 7301080) (rr : RelA M B hf wt sn wg at_ td th dy ti gg cnt bw bs pl tc sill day lau) (u0 : 0 ≤ turn) (u1 : turn < 110) (hui : inr u) (w0 : 0 ≤ w) (w1 : w ≤ 5) (k0 : 0 ≤ k) (k1 : k ≤ 8) (kk : ∀ (hf at_ wg dy ti gg : Int → Int) (M B : Int → Int → Int) (lo ch wt sn vo mo le ln od fe se td th : Int → Int) (cnt bw bs pl tk tc sill day lau : Int) (lv9 : List Value), RelA M B hf wt sn wg at_ td th dy ti gg cnt bw bs pl tc sill day lau → lvK b (ad 0) aq turn lv9 → Z p l e room_1 s m args below meth c 30 A D Q (cells + 40) (slots + 600) ((wA aq cI hf at_ wg dy ti gg) ++ (wX ad cI cJ M B lo ch wt sn vo mo le ln od fe se td th cnt bw bs pl tk tc sill day lau)) lv9 1317 []) : Z p l e room_1 s m args below meth c 30 A D Q cells slots ((wA aq cI hf at_ wg dy ti gg) ++ (wX ad cI cJ M B lo ch wt sn vo mo le ln od fe se td th cnt bw bs pl tk tc sill day lau)) [.ref b, .ref (ad 0), .ref (aq 0), .ref (aq 1), .ref (aq 2), .ref (aq 3), .ref (aq 4), .ref (aq 5), .int (iI turn), .int (iI v), .int (iI u), .int (iI w), .int (iI k), .int (iI 1), .null, .null, .null, .null, .null, .null, .null, .null, .null, .null, .null, .null, .null, .null, .null, .null] 304 [] := by
  have hM := rr.1.hM
  have hR := rr.1.rh
  have hMb := hM w k
  have hh : hf (9 * w + k) = M w k := RH_at hR rfl w0 w1 k0 k1
  refine Z.iload C dL_law_304 rfl ?_
  refine Z.bipush C dL_law_306 (by decide) ?_
  refine Z.iand C dL_law_308 (fun t ht => ?_)
  refine Z.cut (α := Int) 347 (fun _ => (wA aq cI hf at_ wg dy ti gg) ++ (wX ad cI cJ M B lo ch wt sn vo mo le ln od fe se td th cnt bw bs pl tk tc sill day lau)) (fun _ => [.ref b, .ref (ad 0), .ref (aq 0), .ref (aq 1), .ref (aq 2), .ref (aq 3), .ref (aq 4), .ref (aq 5), .int (iI turn), .int (iI v), .int (iI u), .int (iI w), .int (iI k), .int (iI 1), .null, .null, .null, .null, .null, .null, .null, .null, .null, .null, .null, .null, .null, .null, .null, .null]) (fun z => [.int (iI z)]) (fun z => -10 ≤ z ∧ z ≤ 300) (fun z hz => ?_) (fun join => ?_)
  · skip
    refine Z.istore C dL_law_347 (by decide) ?_
    refine Z.iload C dL_law_349 rfl ?_
    refine Z.cut (α := Int) 374 (fun _ => (wA aq cI hf at_ wg dy ti gg) ++ (wX ad cI cJ M B lo ch wt sn vo mo le ln od fe se td th cnt bw bs pl tk tc sill day lau)) (fun _ => [.ref b, .ref (ad 0), .ref (aq 0), .ref (aq 1), .ref (aq 2), .ref (aq 3), .ref (aq 4), .ref (aq 5), .int (iI turn), .int (iI v), .int (iI u), .int (iI w), .int (iI k), .int (iI 1), .int (iI z), .null, .null, .null, .null, .null, .null, .null, .null, .null, .null, .null, .null, .null, .null, .null]) (fun y => [.int (iI y)]) (fun y => 0 ≤ y ∧ y ≤ 200) (fun y hy => ?_) (fun join2 => ?_)
    · skip
      refine Z.istore C dL_law_374 (by decide) ?_
      refine Z.aload_n C dL_law_376 rfl ?_
      refine Z.iload C dL_law_377 rfl ?_
      refine Z.iload C dL_law_379 rfl ?_
      refine Z.iload C dL_law_381 rfl ?_
      refine Z.xSXIf (wr := (wA aq cI hf at_ wg dy ti gg)) C 4 (h_offset l D cI cJ cL ad M B lo ch wt sn vo mo le ln od fe se td th cnt bw bs pl tk tc sill day lau hl0 rr.1.i0 k w y ⟨by omega, by omega⟩ ⟨by omega, by omega⟩ ⟨by omega, by omega⟩) gL_law_L_offset rfl rfl rfl (by decide +kernel) ⟨Nat.le_of_ble_eq_true rfl, Nat.le_of_ble_eq_true rfl⟩ rfl rfl (Nat.le_of_ble_eq_true rfl) ⟨by show _ ≤ 600130; omega, by show _ ≤ 7301080; omega⟩ dL_law_383 (fun r w9 h1 => ?_) (fun _ _ z => z.elim)
      rcases rr.1.i0 with hla | hla
      · have htc : tcOffset k w y lau = 0 := by
          unfold tcOffset
          rw [if_neg (by omega), if_neg (by omega), if_neg (by omega)]
        obtain ⟨-, rfl, rfl⟩ := hq_det h1 (fun E z => by
          rcases z.2 with ⟨-, q⟩ | ⟨-, q⟩ | ⟨-, q⟩ <;> omega)
        have hg4 : gg 4 = 0 := by rw [rr.1.ei]; exact hla
        refine Z.aload C dL_law_386 rfl ?_
        refine Z.iconst C dL_law_388 ?_
        refine Z.iald C 5 rfl (by omega) (by omega) (by decide) dL_law_389 ?_
        refine Z.iconst C dL_law_390 ?_
        refine Z.icmpne C 399 dL_law_391 (by decide) (⟨by omega, by omega⟩) (⟨by omega, by omega⟩) (fun h2 => ?_) (fun h2 => ?_)
        · skip
          refine Z.aload_n C dL_law_399 rfl ?_
          refine Z.bipush C dL_law_400 (by decide) ?_
          refine Z.iload C dL_law_402 rfl ?_
          refine Z.imul C dL_law_404 ?_
          refine Z.iload C dL_law_405 rfl ?_
          refine Z.iadd C dL_law_407 ?_
          refine Z.iald C 0 rfl (by omega) (by omega) (by decide) dL_law_408 ?_
          rw [hh]
          refine Z.icmpne C 416 dL_law_409 (by decide) (⟨by omega, by omega⟩) (⟨by omega, by omega⟩) (fun h3 => ?_) (fun h3 => ?_)
          · exact absurd rfl h3
          · skip
            refine Z.iconst C dL_law_412 ?_
            refine Z.goto C 417 dL_law_413 (by decide) ?_
            refine Z.istore C dL_law_417 (by decide) ?_
            refine Z.aload_n C dL_law_419 rfl ?_
            refine Z.bipush C dL_law_420 (by decide) ?_
            refine Z.iload C dL_law_422 rfl ?_
            refine Z.imul C dL_law_424 ?_
            refine Z.iload C dL_law_425 rfl ?_
            refine Z.iadd C dL_law_427 ?_
            refine Z.aload C dL_law_428 rfl ?_
            refine Z.iconst C dL_law_430 ?_
            refine Z.iald C 5 rfl (by omega) (by omega) (by decide) dL_law_431 ?_
            refine Z.iconst C dL_law_432 ?_
            refine Z.icmpne C 449 dL_law_433 (by decide) (⟨by omega, by omega⟩) (⟨by omega, by omega⟩) (fun h4 => ?_) (fun h4 => ?_)
            · skip
              refine Z.iload C dL_law_449 rfl ?_
              refine Z.iast C 0 rfl (by omega) (by omega) (by decide) dL_law_451 wL_a0 ?_
              refine Z.goto C 1317 dL_law_452 (by decide) ?_
              refine Z.widen (by omega) (by omega) (kk (zset hf (9 * w + k) y) _ _ _ _ _ _ _ _ _ _ _ _ _ _ _ _ _ _ _ _ _ _ _ _ _ _ _ _ _ _ ?_ ⟨rfl, rfl, rfl, rfl, rfl, rfl, rfl, rfl, rfl, rfl⟩)
              exact ⟨⟨RH_set hR y w0 w1 k0 k1, hOK_set hM hy.1 hy.2, rr.1.hB, rr.1.c0, rr.1.c1, rr.1.en, rr.1.wa, rr.1.w0, rr.1.gb, rr.1.ab, rr.1.wk, rr.1.b0, rr.1.b1, rr.1.s0, rr.1.s1, rr.1.el, rr.1.p0, rr.1.p1, rr.1.et, rr.1.t0, rr.1.t1, rr.1.ta, rr.1.hu, rr.1.td0, rr.1.dy0, rr.1.th0, rr.1.ti0, rr.1.es, rr.1.l0, rr.1.l1, rr.1.ed, rr.1.d0, rr.1.d1, rr.1.ei, rr.1.i0⟩, rr.2⟩
            · omega
        · omega
      · have htc : tcOffset k w y lau = 3 := by
          unfold tcOffset
          rw [if_neg (by omega), if_neg (by omega), if_pos (by omega)]
        have hd : r = -70300 ∧ w9 = (wX ad cI cJ M B lo ch wt sn vo mo le ln od fe se td th cnt bw bs pl tk tc sill day lau) := by
          rcases h1 with ⟨E, ⟨q1, q2⟩, q3⟩ | ⟨q1, -⟩
          · refine ⟨?_, q1⟩
            rcases q2 with ⟨-, q⟩ | ⟨-, q⟩ | ⟨q, -⟩
            · omega
            · omega
            · subst q
              simp [eIX, eIA, eIS] at q3
              exact q3
          · omega
        obtain ⟨rfl, rfl⟩ := hd
        have hg4 : gg 4 = 1 := by rw [rr.1.ei]; exact hla
        refine Z.aload C dL_law_386 rfl ?_
        refine Z.iconst C dL_law_388 ?_
        refine Z.iald C 5 rfl (by omega) (by omega) (by decide) dL_law_389 ?_
        refine Z.iconst C dL_law_390 ?_
        refine Z.icmpne C 399 dL_law_391 (by decide) (⟨by omega, by omega⟩) (⟨by omega, by omega⟩) (fun h2 => ?_) (fun h2 => ?_)
        · omega
        · skip
          refine Z.ldc C (v := iI (-70300)) (-70300) (by decide +kernel) rfl dL_law_394 ?_
          refine Z.goto C 409 dL_law_396 (by decide) ?_
          refine Z.icmpne C 416 dL_law_409 (by decide) (⟨by omega, by omega⟩) (⟨by omega, by omega⟩) (fun h3 => ?_) (fun h3 => ?_)
          · exact absurd rfl h3
          · skip
            refine Z.iconst C dL_law_412 ?_
            refine Z.goto C 417 dL_law_413 (by decide) ?_
            refine Z.istore C dL_law_417 (by decide) ?_
            refine Z.aload_n C dL_law_419 rfl ?_
            refine Z.bipush C dL_law_420 (by decide) ?_
            refine Z.iload C dL_law_422 rfl ?_
            refine Z.imul C dL_law_424 ?_
            refine Z.iload C dL_law_425 rfl ?_
            refine Z.iadd C dL_law_427 ?_
            refine Z.aload C dL_law_428 rfl ?_
            refine Z.iconst C dL_law_430 ?_
            refine Z.iald C 5 rfl (by omega) (by omega) (by decide) dL_law_431 ?_
            refine Z.iconst C dL_law_432 ?_
            refine Z.icmpne C 449 dL_law_433 (by decide) (⟨by omega, by omega⟩) (⟨by omega, by omega⟩) (fun h4 => ?_) (fun h4 => ?_)
            · omega
            · skip
              refine Z.aload_n C dL_law_436 rfl ?_
              refine Z.bipush C dL_law_437 (by decide) ?_
              refine Z.iload C dL_law_439 rfl ?_
              refine Z.imul C dL_law_441 ?_
              refine Z.iload C dL_law_442 rfl ?_
              refine Z.iadd C dL_law_444 ?_
              refine Z.iald C 0 rfl (by omega) (by omega) (by decide) dL_law_445 ?_
              refine Z.goto C 451 dL_law_446 (by decide) ?_
              refine Z.iast C 0 rfl (by omega) (by omega) (by decide) dL_law_451 wL_a0 ?_
              refine Z.goto C 1317 dL_law_452 (by decide) ?_
              rw [zset_self]
              exact Z.widen (by omega) (by omega) (kk _ _ _ _ _ _ _ _ _ _ _ _ _ _ _ _ _ _ _ _ _ _ _ _ _ _ _ _ _ _ _ rr ⟨rfl, rfl, rfl, rfl, rfl, rfl, rfl, rfl, rfl, rfl⟩)
    · skip
      refine Z.ifge C 358 dL_law_351 (by decide) (⟨by omega, by omega⟩) (fun h2 => ?_) (fun h2 => ?_)
      · skip
        refine Z.iload C dL_law_358 rfl ?_
        refine Z.sipush C dL_law_360 (by decide) ?_
        refine Z.icmple C 372 dL_law_363 (by decide) (⟨by omega, by omega⟩) (⟨by omega, by omega⟩) (fun h3 => ?_) (fun h3 => ?_)
        · skip
          refine Z.iload C dL_law_372 rfl ?_
          exact join2 z ⟨by omega, by omega⟩
        · skip
          refine Z.sipush C dL_law_366 (by decide) ?_
          refine Z.goto C 374 dL_law_369 (by decide) ?_
          exact join2 200 ⟨by omega, by omega⟩
      · skip
        refine Z.iconst C dL_law_354 ?_
        refine Z.goto C 374 dL_law_355 (by decide) ?_
        exact join2 0 ⟨by omega, by omega⟩
  · skip
    refine Z.ifne C 325 dL_law_309 (by decide) (ht) (fun h1 => ?_) (fun h1 => ?_)
    · skip
      refine Z.aload_n C dL_law_325 rfl ?_
      refine Z.bipush C dL_law_326 (by decide) ?_
      refine Z.iload C dL_law_328 rfl ?_
      refine Z.imul C dL_law_330 ?_
      refine Z.iload C dL_law_331 rfl ?_
      refine Z.iadd C dL_law_333 ?_
      refine Z.iald C 0 rfl (by omega) (by omega) (by decide) dL_law_334 ?_
      rw [hh]
      refine Z.iload C dL_law_335 rfl ?_
      refine Z.iconst C dL_law_337 ?_
      refine Z.ishr C dL_law_338 (fun t2 ht2 => ?_)
      refine Z.bipush C dL_law_339 (by decide) ?_
      have hb := lowZ_bd t2 (n := 9) (by decide)
      refine Z.cSIp C 2 (q_low l D cI cJ cL t2 9 (by decide) (by decide)) gL_law_L_low rfl rfl rfl (by decide +kernel) ⟨Nat.le_of_ble_eq_true rfl, Nat.le_of_ble_eq_true rfl⟩ rfl rfl (Nat.le_of_ble_eq_true rfl) ⟨by show _ ≤ 600130; omega, by show _ ≤ 7301080; omega⟩ dL_law_341 ?_
      refine Z.iadd C dL_law_344 ?_
      refine Z.iconst C dL_law_345 ?_
      refine Z.isub C dL_law_346 ?_
      exact join _ ⟨by omega, by omega⟩
    · skip
      refine Z.iload C dL_law_312 rfl ?_
      refine Z.iconst C dL_law_314 ?_
      refine Z.ishr C dL_law_315 (fun t2 ht2 => ?_)
      refine Z.sipush C dL_law_316 (by decide) ?_
      have hb := lowZ_bd t2 (n := 201) (by decide)
      refine Z.cSIp C 2 (q_low l D cI cJ cL t2 201 (by decide) (by decide)) gL_law_L_low rfl rfl rfl (by decide +kernel) ⟨Nat.le_of_ble_eq_true rfl, Nat.le_of_ble_eq_true rfl⟩ rfl rfl (Nat.le_of_ble_eq_true rfl) ⟨by show _ ≤ 600130; omega, by show _ ≤ 7301080; omega⟩ dL_law_319 ?_
      refine Z.goto C 347 dL_law_322 (by decide) ?_
      exact join _ ⟨by omega, by omega⟩
