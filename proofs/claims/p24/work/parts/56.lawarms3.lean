/-! ===== the law's arms, 3 ===== -/
theorem RH_fair {M : Int → Int → Int} {hf hf2 f2 : Int → Int} {w x : Int} (hR : RH M hf) (w0 : 0 ≤ w) (w1 : w ≤ 5) (hh : ∀ j : Int, hf2 j = if 9 * w ≤ j ∧ j < 9 * w + 9 then frZ (M w) x (j - 9 * w) else hf j) (hf2' : ∀ s : Nat, s ≤ 8 → f2 s = frZ (M w) x s) : RH (zrow M w f2) hf2 := by
  intro i s i0 i1 s0 s1
  rw [hh]
  by_cases e : i = w
  · subst e
    have q := hf2' s.toNat (by omega)
    rw [Int.toNat_of_nonneg s0] at q
    rw [zrow_eq, if_pos (by omega), q, show 9 * i + s - 9 * i = s by omega]
  · rw [zrow_ne _ _ e, if_neg (by omega)]
    exact hR i s i0 i1 s0 s1
set_option maxHeartbeats 4000000 in
set_option maxRecDepth 100000 in
theorem fair_tail {p : Program} {l : Launch} {e : Env} {s : State} {m : MethodId} {args : Array Value} {below : List Frame} {meth : Method} {c : Code} {A : Nat → Prop} {D : va_G} {Q : State → Prop} {cI cJ cL : ClassId} {b cells slots : Nat} {aq : Nat → Nat} {hf at_ wg dy ti gg : Int → Int} {ad : Nat → Nat} {M B : Int → Int → Int} {lo ch wt sn vo mo le ln od fe se td th : Int → Int} {cnt bw bs pl tk tc sill day lau : Int} {turn v u w k : Int} (C : Cx p s m args meth c 30 A D cI cJ cL cL_law wsL_law RL) (hl0 : l.stackTraces = false) (hc : cells + 40 ≤ 600130) (hs : slots + 600 ≤ 7301080) (rr : RelA M B hf wt sn wg at_ td th dy ti gg cnt bw bs pl tc sill day lau) (u0 : 0 ≤ turn) (u1 : turn < 110) (hui : inr u) (w0 : 0 ≤ w) (w1 : w ≤ 5) (k0 : 0 ≤ k) (k1 : k ≤ 8) (kk : ∀ (hf at_ wg dy ti gg : Int → Int) (M B : Int → Int → Int) (lo ch wt sn vo mo le ln od fe se td th : Int → Int) (cnt bw bs pl tk tc sill day lau : Int) (lv9 : List Value), RelA M B hf wt sn wg at_ td th dy ti gg cnt bw bs pl tc sill day lau → lvK b (ad 0) aq turn lv9 → Z p l e room_1 s m args below meth c 30 A D Q (cells + 40) (slots + 600) ((wA aq cI hf at_ wg dy ti gg) ++ (wX ad cI cJ M B lo ch wt sn vo mo le ln od fe se td th cnt bw bs pl tk tc sill day lau)) lv9 1317 []) (v15 : Value) : Z p l e room_1 s m args below meth c 30 A D Q (cells + 19) (slots + 418) ((wA aq cI hf at_ wg dy ti gg) ++ (wX ad cI cJ M B lo ch wt sn vo mo le ln od fe se td th cnt bw bs pl tk tc sill day lau)) [.ref b, .ref (ad 0), .ref (aq 0), .ref (aq 1), .ref (aq 2), .ref (aq 3), .ref (aq 4), .ref (aq 5), .int (iI turn), .int (iI v), .int (iI u), .int (iI w), .int (iI k), .int (iI 1), .null, v15, .null, .null, .null, .null, .null, .null, .null, .null, .null, .null, .null, .null, .null, .null] 526 [] := by
  have hM := rr.1.hM
  have hR := rr.1.rh
  refine Z.iconst C dL_law_526 ?_
  refine Z.istore C dL_law_527 (by decide) ?_
  refine Z.loopC (α := Nat) (fun _ => (wA aq cI hf at_ wg dy ti gg) ++ (wX ad cI cJ M B lo ch wt sn vo mo le ln od fe se td th cnt bw bs pl tk tc sill day lau)) (fun i => [.ref b, .ref (ad 0), .ref (aq 0), .ref (aq 1), .ref (aq 2), .ref (aq 3), .ref (aq 4), .ref (aq 5), .int (iI turn), .int (iI v), .int (iI u), .int (iI w), .int (iI k), .int (iI 1), .null, v15, .int (iI i), .null, .null, .null, .null, .null, .null, .null, .null, .null, .null, .null, .null, .null]) (fun i => i ≤ 9) (fun i => 9 - i) (fun i => cells + 19 + 2 * i) (fun i => slots + 418 + 12 * i) 0 (by decide) rfl rfl (Nat.le_refl _) (Nat.le_refl _) (fun i hi ih => ?_)
  refine Z.iload C dL_law_529 rfl ?_
  refine Z.bipush C dL_law_531 (by decide) ?_
  refine Z.icmpge C 573 dL_law_533 (by decide) (⟨by omega, by omega⟩) (⟨by omega, by omega⟩) (fun h1 => ?_) (fun h1 => ?_)
  · have e9 : i = 9 := by omega
    subst e9
    refine Z.goto C 1317 dL_law_573 (by decide) ?_
    exact Z.widen (by omega) (by omega) (kk _ _ _ _ _ _ _ _ _ _ _ _ _ _ _ _ _ _ _ _ _ _ _ _ _ _ _ _ _ _ _ rr ⟨rfl, rfl, rfl, rfl, rfl, rfl, rfl, rfl, rfl, rfl⟩)
  · have hh : hf (9 * w + (i : Int)) = M w i := RH_at hR rfl w0 w1 (by omega) (by omega)
    have hb := hM w i
    refine Z.iload C dL_law_536 rfl ?_
    refine Z.aload_n C dL_law_538 rfl ?_
    refine Z.iload C dL_law_539 rfl ?_
    refine Z.iload C dL_law_541 rfl ?_
    refine Z.xSXIf (wr := (wA aq cI hf at_ wg dy ti gg)) C 3 (h_half l D cI cJ cL ad M B lo ch wt sn vo mo le ln od fe se td th cnt bw bs pl tk tc sill day lau hl0 i w ⟨by omega, by omega⟩ ⟨by omega, by omega⟩) gL_law_L_half rfl rfl rfl (by decide +kernel) ⟨Nat.le_of_ble_eq_true rfl, Nat.le_of_ble_eq_true rfl⟩ rfl rfl (Nat.le_of_ble_eq_true rfl) ⟨by show _ ≤ 600130; omega, by show _ ≤ 7301080; omega⟩ dL_law_543 (fun r w9 h2 => ?_) (fun _ _ z => z.elim)
    obtain ⟨-, rfl, rfl⟩ := hq_det h2 (fun E z => by have := z.2.2; rw [tcSW_0 (by omega) (by omega) (by omega) (by omega)] at this; omega)
    refine Z.aload_n C dL_law_546 rfl ?_
    refine Z.bipush C dL_law_547 (by decide) ?_
    refine Z.iload C dL_law_549 rfl ?_
    refine Z.imul C dL_law_551 ?_
    refine Z.iload C dL_law_552 rfl ?_
    refine Z.iadd C dL_law_554 ?_
    refine Z.iald C 0 rfl (by omega) (by omega) (by decide) dL_law_555 ?_
    rw [hh]
    refine Z.icmpne C 563 dL_law_556 (by decide) (⟨by omega, by omega⟩) (⟨by omega, by omega⟩) (fun h3 => ?_) (fun h3 => ?_)
    · exact absurd rfl h3
    · skip
      refine Z.iconst C dL_law_559 ?_
      refine Z.goto C 564 dL_law_560 (by decide) ?_
      refine Z.iandE C (z := 1) (by decide) dL_law_564 ?_
      refine Z.istore C dL_law_565 (by decide) ?_
      refine Z.iinc C dL_law_567 rfl (by decide) ?_
      refine Z.goto C 529 dL_law_570 (by decide) ?_
      rw [show (i : Int) + 1 = ((i + 1 : Nat) : Int) by omega]
      exact Z.widen (by omega) (by omega) (ih (i + 1) (by omega) (by omega))
set_option maxHeartbeats 4000000 in
set_option maxRecDepth 100000 in
theorem arm_fair {p : Program} {l : Launch} {e : Env} {s : State} {m : MethodId} {args : Array Value} {below : List Frame} {meth : Method} {c : Code} {A : Nat → Prop} {D : va_G} {Q : State → Prop} {cI cJ cL : ClassId} {b cells slots : Nat} {aq : Nat → Nat} {hf at_ wg dy ti gg : Int → Int} {ad : Nat → Nat} {M B : Int → Int → Int} {lo ch wt sn vo mo le ln od fe se td th : Int → Int} {cnt bw bs pl tk tc sill day lau : Int} {turn v u w k : Int} (C : Cx p s m args meth c 30 A D cI cJ cL cL_law wsL_law RL) (hl0 : l.stackTraces = false) (hc : cells + 40 ≤ 600130) (hs : slots + 600 ≤ 7301080) (rr : RelA M B hf wt sn wg at_ td th dy ti gg cnt bw bs pl tc sill day lau) (u0 : 0 ≤ turn) (u1 : turn < 110) (hui : inr u) (w0 : 0 ≤ w) (w1 : w ≤ 5) (k0 : 0 ≤ k) (k1 : k ≤ 8) (kk : ∀ (hf at_ wg dy ti gg : Int → Int) (M B : Int → Int → Int) (lo ch wt sn vo mo le ln od fe se td th : Int → Int) (cnt bw bs pl tk tc sill day lau : Int) (lv9 : List Value), RelA M B hf wt sn wg at_ td th dy ti gg cnt bw bs pl tc sill day lau → lvK b (ad 0) aq turn lv9 → Z p l e room_1 s m args below meth c 30 A D Q (cells + 40) (slots + 600) ((wA aq cI hf at_ wg dy ti gg) ++ (wX ad cI cJ M B lo ch wt sn vo mo le ln od fe se td th cnt bw bs pl tk tc sill day lau)) lv9 1317 []) : Z p l e room_1 s m args below meth c 30 A D Q cells slots ((wA aq cI hf at_ wg dy ti gg) ++ (wX ad cI cJ M B lo ch wt sn vo mo le ln od fe se td th cnt bw bs pl tk tc sill day lau)) [.ref b, .ref (ad 0), .ref (aq 0), .ref (aq 1), .ref (aq 2), .ref (aq 3), .ref (aq 4), .ref (aq 5), .int (iI turn), .int (iI v), .int (iI u), .int (iI w), .int (iI k), .int (iI 1), .null, .null, .null, .null, .null, .null, .null, .null, .null, .null, .null, .null, .null, .null, .null, .null] 455 [] := by
  have hM := rr.1.hM
  have hR := rr.1.rh
  have ei := rr.1.ei
  have hx := lowZ_bd u (n := 3) (by decide)
  have hb7 := bendZ_bd7 hM w
  refine Z.iload C dL_law_455 rfl ?_
  refine Z.aload_n C dL_law_457 rfl ?_
  refine Z.swap ?_
  refine Z.cSIf (wr := (wX ad cI cJ M B lo ch wt sn vo mo le ln od fe se td th cnt bw bs pl tk tc sill day lau)) C 2 (q_bendOf l D cI cJ cL aq hf at_ wg dy ti gg M hR w w0 w1) gL_law_L_bendOf rfl rfl rfl (by decide +kernel) ⟨Nat.le_of_ble_eq_true rfl, Nat.le_of_ble_eq_true rfl⟩ rfl rfl (Nat.le_of_ble_eq_true rfl) ⟨by show _ ≤ 600130; omega, by show _ ≤ 7301080; omega⟩ dL_law_458 (fun r9 w9 h9 => ?_)
  obtain ⟨rfl, rfl⟩ := h9
  refine Z.swap ?_
  refine Z.istore C dL_law_461 (by decide) ?_
  refine Z.aload C dL_law_463 rfl ?_
  refine Z.iconst C dL_law_465 ?_
  refine Z.iald C 5 rfl (by omega) (by omega) (by decide) dL_law_466 ?_
  rcases rr.1.i0 with hla | hla
  · have hg4 : gg 4 = 0 := by rw [ei]; exact hla
    refine Z.ifne C 482 dL_law_467 (by decide) (⟨by omega, by omega⟩) (fun h1 => ?_) (fun h1 => ?_)
    · omega
    · skip
      refine Z.iload C dL_law_470 rfl ?_
      refine Z.iload C dL_law_472 rfl ?_
      refine Z.iconst C dL_law_474 ?_
      refine Z.cSIp C 2 (q_low l D cI cJ cL u 3 (by decide) (by decide)) gL_law_L_low rfl rfl rfl (by decide +kernel) ⟨Nat.le_of_ble_eq_true rfl, Nat.le_of_ble_eq_true rfl⟩ rfl rfl (Nat.le_of_ble_eq_true rfl) ⟨by show _ ≤ 600130; omega, by show _ ≤ 7301080; omega⟩ dL_law_475 ?_
      refine Z.aload_n C dL_law_478 rfl ?_
      refine Z.swap ?_
      refine Z.xSVf (wr := (wX ad cI cJ M B lo ch wt sn vo mo le ln od fe se td th cnt bw bs pl tk tc sill day lau)) C 3 (q_fairs l D cI cJ cL aq hf at_ wg dy ti gg M hM hR w (lowZ u 3) w0 w1 hx.1 (by omega)) gL_law_L_fairs rfl rfl rfl (by decide +kernel) ⟨Nat.le_of_ble_eq_true rfl, Nat.le_of_ble_eq_true rfl⟩ rfl rfl (Nat.le_of_ble_eq_true rfl) ⟨by show _ ≤ 600130; omega, by show _ ≤ 7301080; omega⟩ dL_law_479 (fun w9 h9 => ?_) (fun _ _ z => z.elim)
      obtain ⟨hf2, hh, rfl⟩ := h9
      refine Z.swap ?_
      refine Z.aload_n C dL_law_482 rfl ?_
      refine Z.iload C dL_law_483 rfl ?_
      refine Z.iload C dL_law_485 rfl ?_
      refine Z.iconst C dL_law_487 ?_
      refine Z.cSIp C 2 (q_low l D cI cJ cL u 3 (by decide) (by decide)) gL_law_L_low rfl rfl rfl (by decide +kernel) ⟨Nat.le_of_ble_eq_true rfl, Nat.le_of_ble_eq_true rfl⟩ rfl rfl (Nat.le_of_ble_eq_true rfl) ⟨by show _ ≤ 600130; omega, by show _ ≤ 7301080; omega⟩ dL_law_488 ?_
      refine Z.xSXIf (wr := (wA aq cI hf2 at_ wg dy ti gg)) C 3 (h_fair l D cI cJ cL ad M B lo ch wt sn vo mo le ln od fe se td th cnt bw bs pl tk tc sill day lau hl0 hM rr.1.hB rr.1.i0 w (lowZ u 3) ⟨by omega, by omega⟩ ⟨by omega, by omega⟩) gL_law_L_fair rfl rfl rfl (by decide +kernel) ⟨Nat.le_of_ble_eq_true rfl, Nat.le_of_ble_eq_true rfl⟩ rfl rfl (Nat.le_of_ble_eq_true rfl) ⟨by show _ ≤ 600130; omega, by show _ ≤ 7301080; omega⟩ dL_law_491 (fun r w9 h2 => ?_) (fun _ _ z => z.elim)
      have htc : tcFair w (lowZ u 3) lau = 0 := by
        unfold tcFair
        rw [if_neg (by omega), if_neg (by omega), if_neg (by omega)]
      obtain ⟨-, rfl, B2, lo2, ch2, f2, hB2, hf20, hf2e, rfl⟩ := hq_det h2 (fun E z => by
        rcases z.2 with ⟨-, q⟩ | ⟨-, q⟩ | ⟨-, q⟩ <;> omega)
      have hR2 : RH (zrow M w f2) hf2 := RH_fair hR w0 w1 hh hf2e
      have hM2 : hOK (zrow M w f2) := hOK_row hM hf20
      have hb8 := bendZ_bd7 hM2 w
      have hbe : bendZ (zrow M w f2 w) 7 = bendZ (frZ (M w) (lowZ u 3)) 7 := by
        rw [zrow_eq]
        exact bendZ_cong 7 (fun s hs => hf2e s (by omega))
      refine Z.aload C dL_law_494 rfl ?_
      refine Z.iconst C dL_law_496 ?_
      refine Z.iald C 5 rfl (by omega) (by omega) (by decide) dL_law_497 ?_
      refine Z.iconst C dL_law_498 ?_
      refine Z.icmpne C 507 dL_law_499 (by decide) (⟨by omega, by omega⟩) (⟨by omega, by omega⟩) (fun h3 => ?_) (fun h3 => ?_)
      · skip
        refine Z.iload C dL_law_507 rfl ?_
        refine Z.iload C dL_law_509 rfl ?_
        refine Z.aload_n C dL_law_511 rfl ?_
        refine Z.swap ?_
        refine Z.cSIf (wr := (wX ad cI cJ (zrow M w f2) B2 lo2 ch2 wt sn vo mo le ln od fe se td th cnt bw bs pl tk tc sill day lau)) C 2 (q_bendOf l D cI cJ cL aq hf2 at_ wg dy ti gg (zrow M w f2) hR2 w w0 w1) gL_law_L_bendOf rfl rfl rfl (by decide +kernel) ⟨Nat.le_of_ble_eq_true rfl, Nat.le_of_ble_eq_true rfl⟩ rfl rfl (Nat.le_of_ble_eq_true rfl) ⟨by show _ ≤ 600130; omega, by show _ ≤ 7301080; omega⟩ dL_law_512 (fun r9 w9 h9 => ?_)
        obtain ⟨rfl, rfl⟩ := h9
        refine Z.swap ?_
        rw [hbe] at hb8 ⊢
        refine Z.isub C dL_law_515 ?_
        refine Z.icmpne C 523 dL_law_516 (by decide) (⟨by omega, by omega⟩) (⟨by omega, by omega⟩) (fun h4 => ?_) (fun h4 => ?_)
        · exact absurd rfl h4
        · skip
          refine Z.iconst C dL_law_519 ?_
          refine Z.goto C 524 dL_law_520 (by decide) ?_
          refine Z.istore C dL_law_524 (by decide) ?_
          exact fair_tail C hl0 hc hs ⟨⟨hR2, hM2, hB2, rr.1.c0, rr.1.c1, rr.1.en, rr.1.wa, rr.1.w0, rr.1.gb, rr.1.ab, rr.1.wk, rr.1.b0, rr.1.b1, rr.1.s0, rr.1.s1, rr.1.el, rr.1.p0, rr.1.p1, rr.1.et, rr.1.t0, rr.1.t1, rr.1.ta, rr.1.hu, rr.1.td0, rr.1.dy0, rr.1.th0, rr.1.ti0, rr.1.es, rr.1.l0, rr.1.l1, rr.1.ed, rr.1.d0, rr.1.d1, rr.1.ei, rr.1.i0⟩, rr.2⟩ u0 u1 hui w0 w1 k0 k1 kk _
      · omega
  · have hg4 : gg 4 = 1 := by rw [ei]; exact hla
    refine Z.ifne C 482 dL_law_467 (by decide) (⟨by omega, by omega⟩) (fun h1 => ?_) (fun h1 => ?_)
    · skip
      refine Z.aload_n C dL_law_482 rfl ?_
      refine Z.iload C dL_law_483 rfl ?_
      refine Z.iload C dL_law_485 rfl ?_
      refine Z.iconst C dL_law_487 ?_
      refine Z.cSIp C 2 (q_low l D cI cJ cL u 3 (by decide) (by decide)) gL_law_L_low rfl rfl rfl (by decide +kernel) ⟨Nat.le_of_ble_eq_true rfl, Nat.le_of_ble_eq_true rfl⟩ rfl rfl (Nat.le_of_ble_eq_true rfl) ⟨by show _ ≤ 600130; omega, by show _ ≤ 7301080; omega⟩ dL_law_488 ?_
      refine Z.xSXIf (wr := (wA aq cI hf at_ wg dy ti gg)) C 3 (h_fair l D cI cJ cL ad M B lo ch wt sn vo mo le ln od fe se td th cnt bw bs pl tk tc sill day lau hl0 hM rr.1.hB rr.1.i0 w (lowZ u 3) ⟨by omega, by omega⟩ ⟨by omega, by omega⟩) gL_law_L_fair rfl rfl rfl (by decide +kernel) ⟨Nat.le_of_ble_eq_true rfl, Nat.le_of_ble_eq_true rfl⟩ rfl rfl (Nat.le_of_ble_eq_true rfl) ⟨by show _ ≤ 600130; omega, by show _ ≤ 7301080; omega⟩ dL_law_491 (fun r w9 h2 => ?_) (fun _ _ z => z.elim)
      have htc : tcFair w (lowZ u 3) lau = 3 := by
        unfold tcFair
        rw [if_neg (by omega), if_neg (by omega), if_pos (by omega)]
      have hd : r = -70300 ∧ w9 = (wX ad cI cJ M B lo ch wt sn vo mo le ln od fe se td th cnt bw bs pl tk tc sill day lau) := by
        rcases h2 with ⟨E, ⟨q1, q2⟩, q3⟩ | ⟨q1, -⟩
        · refine ⟨?_, q1⟩
          rcases q2 with ⟨-, q⟩ | ⟨-, q⟩ | ⟨q, -⟩
          · omega
          · omega
          · subst q
            simp [eIX, eIA, eIS] at q3
            exact q3
        · omega
      obtain ⟨rfl, rfl⟩ := hd
      refine Z.aload C dL_law_494 rfl ?_
      refine Z.iconst C dL_law_496 ?_
      refine Z.iald C 5 rfl (by omega) (by omega) (by decide) dL_law_497 ?_
      refine Z.iconst C dL_law_498 ?_
      refine Z.icmpne C 507 dL_law_499 (by decide) (⟨by omega, by omega⟩) (⟨by omega, by omega⟩) (fun h3 => ?_) (fun h3 => ?_)
      · omega
      · skip
        refine Z.ldc C (v := iI (-70300)) (-70300) (by decide +kernel) rfl dL_law_502 ?_
        refine Z.goto C 516 dL_law_504 (by decide) ?_
        refine Z.icmpne C 523 dL_law_516 (by decide) (⟨by omega, by omega⟩) (⟨by omega, by omega⟩) (fun h4 => ?_) (fun h4 => ?_)
        · exact absurd rfl h4
        · skip
          refine Z.iconst C dL_law_519 ?_
          refine Z.goto C 524 dL_law_520 (by decide) ?_
          refine Z.istore C dL_law_524 (by decide) ?_
          exact Z.widen (by omega) (by omega) (fair_tail C hl0 hc hs rr u0 u1 hui w0 w1 k0 k1 kk _)
    · omega
set_option maxHeartbeats 4000000 in
set_option maxRecDepth 100000 in
theorem arm_tide {p : Program} {l : Launch} {e : Env} {s : State} {m : MethodId} {args : Array Value} {below : List Frame} {meth : Method} {c : Code} {A : Nat → Prop} {D : va_G} {Q : State → Prop} {cI cJ cL : ClassId} {b cells slots : Nat} {aq : Nat → Nat} {hf at_ wg dy ti gg : Int → Int} {ad : Nat → Nat} {M B : Int → Int → Int} {lo ch wt sn vo mo le ln od fe se td th : Int → Int} {cnt bw bs pl tk tc sill day lau : Int} {turn v u w k : Int} (C : Cx p s m args meth c 30 A D cI cJ cL cL_law wsL_law RL) (hl0 : l.stackTraces = false) (hc : cells + 40 ≤ 600130) (hs : slots + 600 ≤ 7301080) (rr : RelA M B hf wt sn wg at_ td th dy ti gg cnt bw bs pl tc sill day lau) (u0 : 0 ≤ turn) (u1 : turn < 110) (hui : inr u) (w0 : 0 ≤ w) (w1 : w ≤ 5) (k0 : 0 ≤ k) (k1 : k ≤ 8) (kk : ∀ (hf at_ wg dy ti gg : Int → Int) (M B : Int → Int → Int) (lo ch wt sn vo mo le ln od fe se td th : Int → Int) (cnt bw bs pl tk tc sill day lau : Int) (lv9 : List Value), RelA M B hf wt sn wg at_ td th dy ti gg cnt bw bs pl tc sill day lau → lvK b (ad 0) aq turn lv9 → Z p l e room_1 s m args below meth c 30 A D Q (cells + 40) (slots + 600) ((wA aq cI hf at_ wg dy ti gg) ++ (wX ad cI cJ M B lo ch wt sn vo mo le ln od fe se td th cnt bw bs pl tk tc sill day lau)) lv9 1317 []) : Z p l e room_1 s m args below meth c 30 A D Q cells slots ((wA aq cI hf at_ wg dy ti gg) ++ (wX ad cI cJ M B lo ch wt sn vo mo le ln od fe se td th cnt bw bs pl tk tc sill day lau)) [.ref b, .ref (ad 0), .ref (aq 0), .ref (aq 1), .ref (aq 2), .ref (aq 3), .ref (aq 4), .ref (aq 5), .int (iI turn), .int (iI v), .int (iI u), .int (iI w), .int (iI k), .int (iI 1), .null, .null, .null, .null, .null, .null, .null, .null, .null, .null, .null, .null, .null, .null, .null, .null] 960 [] := by
  have huq := rr.uq
  have et := rr.1.et
  have ed := rr.1.ed
  have en := rr.1.en
  have el := rr.1.el
  have es := rr.1.es
  have ei := rr.1.ei
  have t0 := rr.1.t0
  have t1 := rr.1.t1
  have d0 := rr.1.d0
  have d1 := rr.1.d1
  have hxl := lowZ_bd u (n := 40) (by decide)
  have rs : RelS M B hf wt sn wg at_ td th dy ti cnt bw bs pl tc sill day lau cnt pl tc sill day lau := by
    have h := rr.1
    rw [en, el, et, es, ed, ei] at h
    exact h
  refine Z.aload C dL_law_960 rfl ?_
  refine Z.iconst C dL_law_962 ?_
  refine Z.iald C 5 rfl (by omega) (by omega) (by decide) dL_law_963 ?_
  refine Z.bipush C dL_law_964 (by decide) ?_
  refine Z.icmpne C 972 dL_law_966 (by decide) (⟨by omega, by omega⟩) (⟨by omega, by omega⟩) (fun h1 => ?_) (fun h1 => ?_)
  · skip
    refine Z.aload C dL_law_972 rfl ?_
    refine Z.iconst C dL_law_974 ?_
    refine Z.iald C 5 rfl (by omega) (by omega) (by decide) dL_law_975 ?_
    refine Z.iload C dL_law_976 rfl ?_
    refine Z.bipush C dL_law_978 (by decide) ?_
    refine Z.cSIp C 2 (q_low l D cI cJ cL u 40 (by decide) (by decide)) gL_law_L_low rfl rfl rfl (by decide +kernel) ⟨Nat.le_of_ble_eq_true rfl, Nat.le_of_ble_eq_true rfl⟩ rfl rfl (Nat.le_of_ble_eq_true rfl) ⟨by show _ ≤ 600130; omega, by show _ ≤ 7301080; omega⟩ dL_law_980 ?_
    generalize lowZ u 40 = xl at hxl
    refine Z.iadd C dL_law_983 ?_
    refine Z.istore C dL_law_984 (by decide) ?_
    refine Z.iload C dL_law_986 rfl ?_
    refine Z.bipush C dL_law_988 (by decide) ?_
    refine Z.ishr C dL_law_990 (fun t ht => ?_)
    refine Z.bipush C dL_law_991 (by decide) ?_
    have hy := lowZ_bd t (n := 100) (by decide)
    refine Z.cSIp C 2 (q_low l D cI cJ cL t 100 (by decide) (by decide)) gL_law_L_low rfl rfl rfl (by decide +kernel) ⟨Nat.le_of_ble_eq_true rfl, Nat.le_of_ble_eq_true rfl⟩ rfl rfl (Nat.le_of_ble_eq_true rfl) ⟨by show _ ≤ 600130; omega, by show _ ≤ 7301080; omega⟩ dL_law_993 ?_
    generalize lowZ t 100 = y at hy
    refine Z.istore C dL_law_996 (by decide) ?_
    refine Z.aload_n C dL_law_998 rfl ?_
    refine Z.iload C dL_law_999 rfl ?_
    refine Z.iload C dL_law_1001 rfl ?_
    generalize hxx : gg 3 + xl = x
    have hx0 : 0 ≤ x ∧ x ≤ 9039 := by omega
    refine Z.xSXIf (wr := (wA aq cI hf at_ wg dy ti gg)) C 3 (h_tide l D cI cJ cL ad M B lo ch wt sn vo mo le ln od fe se td th cnt bw bs pl tk tc sill day lau hl0 t0 t1 rr.1.hu rr.1.td0 x y ⟨by omega, by omega⟩ ⟨by omega, by omega⟩) gL_law_L_tide rfl rfl rfl (by decide +kernel) ⟨Nat.le_of_ble_eq_true rfl, Nat.le_of_ble_eq_true rfl⟩ rfl rfl (Nat.le_of_ble_eq_true rfl) ⟨by show _ ≤ 600130; omega, by show _ ≤ 7301080; omega⟩ dL_law_1003 (fun r w9 h2 => ?_) (fun _ _ z => z.elim)
    have htc : tcTide x y tc (plZ td x tc.toNat) = 0 := by
      unfold tcTide
      rw [if_neg (by omega), if_neg (by omega)]
    obtain ⟨-, rfl, hw9⟩ := hq_det h2 (fun E z => by
      rcases z.2 with ⟨-, q⟩ | ⟨-, q⟩ <;> omega)
    obtain ⟨td1, th1, tc1, hpc, rel2, rfl⟩ := tideU rs htc hw9
    have hpb := pcZ_bd (dy := dy) (x := x) (n0 := tc) tc.toNat t0 (by omega)
    have htb := tdZ_bd (td := td) (th := th) (x := x) rr.1.th0 tc.toNat
    have hte : tdZ dy ti x (gg 5).toNat = tdZ td th x tc.toNat := rr.1.tdE x
    refine Z.iload C dL_law_1006 rfl ?_
    refine Z.aload C dL_law_1008 rfl ?_
    refine Z.aload C dL_law_1010 rfl ?_
    refine Z.aload C dL_law_1012 rfl ?_
    refine Z.swap ?_
    refine Z.cSIf (wr := (wX ad cI cJ M B lo ch wt sn vo mo le ln od fe se td1 th1 cnt bw bs pl tk tc1 sill day lau)) C 4 (q_tideOn l D cI cJ cL aq hf at_ wg dy ti gg x (by omega) (by omega) (by omega) (by omega) huq rr.1.dy0) gL_law_L_tideOn rfl rfl rfl (by decide +kernel) ⟨Nat.le_of_ble_eq_true rfl, Nat.le_of_ble_eq_true rfl⟩ rfl rfl (Nat.le_of_ble_eq_true rfl) ⟨by show _ ≤ 600130; omega, by show _ ≤ 7301080; omega⟩ dL_law_1014 (fun r9 w9 h9 => ?_)
    obtain ⟨rfl, rfl⟩ := h9
    refine Z.swap ?_
    rw [hte]
    refine Z.icmpne C 1024 dL_law_1017 (by decide) (⟨by omega, by omega⟩) (⟨by omega, by omega⟩) (fun h3 => ?_) (fun h3 => ?_)
    · exact absurd rfl h3
    · skip
      refine Z.iconst C dL_law_1020 ?_
      refine Z.goto C 1025 dL_law_1021 (by decide) ?_
      refine Z.istore C dL_law_1025 (by decide) ?_
      refine Z.aload C dL_law_1027 rfl ?_
      refine Z.iconst C dL_law_1029 ?_
      refine Z.iald C 5 rfl (by omega) (by omega) (by decide) dL_law_1030 ?_
      refine Z.istore C dL_law_1031 (by decide) ?_
      refine Z.iconst C dL_law_1033 ?_
      refine Z.istore C dL_law_1034 (by decide) ?_
      refine Z.loop (α := Nat) (fun _ => (wA aq cI hf at_ wg dy ti gg) ++ (wX ad cI cJ M B lo ch wt sn vo mo le ln od fe se td1 th1 cnt bw bs pl tk tc1 sill day lau)) (fun n => [.ref b, .ref (ad 0), .ref (aq 0), .ref (aq 1), .ref (aq 2), .ref (aq 3), .ref (aq 4), .ref (aq 5), .int (iI turn), .int (iI v), .int (iI u), .int (iI w), .int (iI k), .int (iI 1), .null, .null, .null, .null, .null, .null, .null, .null, .null, .int (iI x), .int (iI y), .int (iI (pcZ dy x (gg 5) n)), .int (iI n), .null, .null, .null]) (fun n => (n : Int) ≤ gg 5) (fun n => 40 - n) 0 (by omega) rfl rfl (fun n hn ih => ?_)
      refine Z.iload C dL_law_1036 rfl ?_
      refine Z.aload C dL_law_1038 rfl ?_
      refine Z.iconst C dL_law_1040 ?_
      refine Z.iald C 5 rfl (by omega) (by omega) (by decide) dL_law_1041 ?_
      refine Z.icmpge C 1065 dL_law_1042 (by decide) (⟨by omega, by omega⟩) (⟨by omega, by omega⟩) (fun h4 => ?_) (fun h4 => ?_)
      · have e5 : gg 5 = n := by omega
        have hP : pcZ dy x (gg 5) n = pcZ dy x tc tc.toNat := by
          rw [← et, e5]
          rfl
        rw [hP]
        generalize pcZ dy x tc tc.toNat = P at hpc rel2 hpb
        refine Z.aload C dL_law_1065 rfl ?_
        refine Z.iload C dL_law_1067 rfl ?_
        refine Z.iload C dL_law_1069 rfl ?_
        refine Z.iast C 3 rfl (by omega) (by omega) (by decide) dL_law_1071 wL_a3 ?_
        refine Z.aload C dL_law_1072 rfl ?_
        refine Z.iload C dL_law_1074 rfl ?_
        refine Z.iload C dL_law_1076 rfl ?_
        refine Z.iast C 4 rfl (by omega) (by omega) (by decide) dL_law_1078 wL_a4 ?_
        refine Z.aload C dL_law_1079 rfl ?_
        refine Z.iconst C dL_law_1081 ?_
        refine Z.dup2 C dL_law_1082 rfl rfl ?_
        refine Z.iald C 5 rfl (by omega) (by omega) (by decide) dL_law_1083 ?_
        refine Z.iload C dL_law_1084 rfl ?_
        refine Z.aload C dL_law_1086 rfl ?_
        refine Z.iconst C dL_law_1088 ?_
        refine Z.iald C 5 rfl (by omega) (by omega) (by decide) dL_law_1089 ?_
        have hg0 : ∀ v : Int, zset gg 5 v 0 = cnt := fun v => by rw [zset_ne _ (by decide)]; exact en
        have hg1 : ∀ v : Int, zset gg 5 v 1 = pl := fun v => by rw [zset_ne _ (by decide)]; exact el
        have hg2 : ∀ v : Int, zset gg 5 v 2 = sill := fun v => by rw [zset_ne _ (by decide)]; exact es
        have hg3 : ∀ v : Int, zset gg 5 v 3 = day := fun v => by rw [zset_ne _ (by decide)]; exact ed
        have hg4 : ∀ v : Int, zset gg 5 v 4 = lau := fun v => by rw [zset_ne _ (by decide)]; exact ei
        have hrel : ∀ v : Int, v = tc1 → RelA M B hf wt sn wg at_ td1 th1 (zset dy P x) (zset ti P y) (zset gg 5 v) cnt bw bs pl tc1 sill day lau := fun v hv => by
          refine ⟨?_, rr.2⟩
          rw [hg0, hg1, hg2, hg3, hg4, zset_eq, hv]
          exact rel2
        refine Z.icmpne C 1097 dL_law_1090 (by decide) (⟨by omega, by omega⟩) (⟨by omega, by omega⟩) (fun h5 => ?_) (fun h5 => ?_)
        · skip
          refine Z.iconst C dL_law_1097 ?_
          refine Z.iadd C dL_law_1098 ?_
          refine Z.iast C 5 rfl (by omega) (by omega) (by decide) dL_law_1099 wL_a5 ?_
          refine Z.goto C 1317 dL_law_1100 (by decide) ?_
          refine Z.widen (by omega) (by omega) (kk _ _ _ _ _ _ _ _ _ _ _ _ _ _ _ _ _ _ _ _ _ _ _ _ _ _ _ _ _ _ _ (hrel _ ?_) ⟨rfl, rfl, rfl, rfl, rfl, rfl, rfl, rfl, rfl, rfl⟩)
          rw [← hpc, if_neg (by omega)]
          omega
        · skip
          refine Z.iconst C dL_law_1093 ?_
          refine Z.goto C 1098 dL_law_1094 (by decide) ?_
          refine Z.iadd C dL_law_1098 ?_
          refine Z.iast C 5 rfl (by omega) (by omega) (by decide) dL_law_1099 wL_a5 ?_
          refine Z.goto C 1317 dL_law_1100 (by decide) ?_
          refine Z.widen (by omega) (by omega) (kk _ _ _ _ _ _ _ _ _ _ _ _ _ _ _ _ _ _ _ _ _ _ _ _ _ _ _ _ _ _ _ (hrel _ ?_) ⟨rfl, rfl, rfl, rfl, rfl, rfl, rfl, rfl, rfl, rfl⟩)
          rw [← hpc, if_pos (by omega)]
          omega
      · have hdn := rr.1.dy0 n
        have hpe : pcZ dy x (gg 5) (n + 1) = if dy n = x then (n : Int) else pcZ dy x (gg 5) n := rfl
        refine Z.aload C dL_law_1045 rfl ?_
        refine Z.iload C dL_law_1047 rfl ?_
        refine Z.iald C 3 rfl (by omega) (by omega) (by decide) dL_law_1049 ?_
        refine Z.iload C dL_law_1050 rfl ?_
        refine Z.icmpne C 1059 dL_law_1052 (by decide) (⟨by omega, by omega⟩) (⟨by omega, by omega⟩) (fun h5 => ?_) (fun h5 => ?_)
        · rw [if_neg h5] at hpe
          rw [← hpe]
          refine Z.iinc C dL_law_1059 rfl (by decide) ?_
          refine Z.goto C 1036 dL_law_1062 (by decide) ?_
          rw [show (n : Int) + 1 = ((n + 1 : Nat) : Int) by omega]
          exact ih (n + 1) (by omega) (by omega)
        · rw [if_pos h5] at hpe
          refine Z.iload C dL_law_1055 rfl ?_
          refine Z.istore C dL_law_1057 (by decide) ?_
          refine Z.iinc C dL_law_1059 rfl (by decide) ?_
          refine Z.goto C 1036 dL_law_1062 (by decide) ?_
          rw [show (n : Int) + 1 = ((n + 1 : Nat) : Int) by omega]
          refine Z.eqw rfl ?_
          have hih := ih (n + 1) (by omega) (by omega)
          rw [hpe] at hih
          exact hih
  · skip
    refine Z.goto C 1317 dL_law_969 (by decide) ?_
    exact Z.widen (by omega) (by omega) (kk _ _ _ _ _ _ _ _ _ _ _ _ _ _ _ _ _ _ _ _ _ _ _ _ _ _ _ _ _ _ _ rr ⟨rfl, rfl, rfl, rfl, rfl, rfl, rfl, rfl, rfl, rfl⟩)
