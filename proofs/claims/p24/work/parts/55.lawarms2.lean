/-! ===== the law's arms, 2 ===== -/
set_option maxHeartbeats 4000000 in
set_option maxRecDepth 100000 in
theorem arm_weigh {p : Program} {l : Launch} {e : Env} {s : State} {m : MethodId} {args : Array Value} {below : List Frame} {meth : Method} {c : Code} {A : Nat → Prop} {D : va_G} {Q : State → Prop} {cI cJ cL : ClassId} {b cells slots : Nat} {aq : Nat → Nat} {hf at_ wg dy ti gg : Int → Int} {ad : Nat → Nat} {M B : Int → Int → Int} {lo ch wt sn vo mo le ln od fe se td th : Int → Int} {cnt bw bs pl tk tc sill day lau : Int} {turn v u w k : Int} (C : Cx p s m args meth c 30 A D cI cJ cL cL_law wsL_law RL) (hl0 : l.stackTraces = false) (hc : cells + 40 ≤ 600130) (hs : slots + 600 ≤ 7301080) (rr : RelA M B hf wt sn wg at_ td th dy ti gg cnt bw bs pl tc sill day lau) (u0 : 0 ≤ turn) (u1 : turn < 110) (hui : inr u) (w0 : 0 ≤ w) (w1 : w ≤ 5) (k0 : 0 ≤ k) (k1 : k ≤ 8) (kk : ∀ (hf at_ wg dy ti gg : Int → Int) (M B : Int → Int → Int) (lo ch wt sn vo mo le ln od fe se td th : Int → Int) (cnt bw bs pl tk tc sill day lau : Int) (lv9 : List Value), RelA M B hf wt sn wg at_ td th dy ti gg cnt bw bs pl tc sill day lau → lvK b (ad 0) aq turn lv9 → Z p l e room_1 s m args below meth c 30 A D Q (cells + 40) (slots + 600) ((wA aq cI hf at_ wg dy ti gg) ++ (wX ad cI cJ M B lo ch wt sn vo mo le ln od fe se td th cnt bw bs pl tk tc sill day lau)) lv9 1317 []) : Z p l e room_1 s m args below meth c 30 A D Q cells slots ((wA aq cI hf at_ wg dy ti gg) ++ (wX ad cI cJ M B lo ch wt sn vo mo le ln od fe se td th cnt bw bs pl tk tc sill day lau)) [.ref b, .ref (ad 0), .ref (aq 0), .ref (aq 1), .ref (aq 2), .ref (aq 3), .ref (aq 4), .ref (aq 5), .int (iI turn), .int (iI v), .int (iI u), .int (iI w), .int (iI k), .int (iI 1), .null, .null, .null, .null, .null, .null, .null, .null, .null, .null, .null, .null, .null, .null, .null, .null] 576 [] := by
  have en := rr.1.en
  have c0 := rr.1.c0
  have c1 := rr.1.c1
  have hx := lowZ_bd u (n := 60) (by decide)
  refine Z.aload C dL_law_576 rfl ?_
  refine Z.iconst C dL_law_578 ?_
  refine Z.iald C 5 rfl (by omega) (by omega) (by decide) dL_law_579 ?_
  refine Z.bipush C dL_law_580 (by decide) ?_
  refine Z.icmpne C 588 dL_law_582 (by decide) (⟨by omega, by omega⟩) (⟨by omega, by omega⟩) (fun h1 => ?_) (fun h1 => ?_)
  · skip
    refine Z.aload_n C dL_law_588 rfl ?_
    refine Z.aload C dL_law_589 rfl ?_
    refine Z.iconst C dL_law_591 ?_
    refine Z.iald C 5 rfl (by omega) (by omega) (by decide) dL_law_592 ?_
    refine Z.iload C dL_law_593 rfl ?_
    refine Z.iast C 1 rfl (by omega) (by omega) (by decide) dL_law_595 wL_a1 ?_
    refine Z.aload C dL_law_596 rfl ?_
    refine Z.aload C dL_law_598 rfl ?_
    refine Z.iconst C dL_law_600 ?_
    refine Z.iald C 5 rfl (by omega) (by omega) (by decide) dL_law_601 ?_
    refine Z.iload C dL_law_602 rfl ?_
    refine Z.bipush C dL_law_604 (by decide) ?_
    refine Z.cSIp C 2 (q_low l D cI cJ cL u 60 (by decide) (by decide)) gL_law_L_low rfl rfl rfl (by decide +kernel) ⟨Nat.le_of_ble_eq_true rfl, Nat.le_of_ble_eq_true rfl⟩ rfl rfl (Nat.le_of_ble_eq_true rfl) ⟨by show _ ≤ 600130; omega, by show _ ≤ 7301080; omega⟩ dL_law_606 ?_
    refine Z.iast C 2 rfl (by omega) (by omega) (by decide) dL_law_609 wL_a2 ?_
    refine Z.aload_n C dL_law_610 rfl ?_
    refine Z.iload C dL_law_611 rfl ?_
    refine Z.aload C dL_law_613 rfl ?_
    refine Z.aload C dL_law_615 rfl ?_
    refine Z.iconst C dL_law_617 ?_
    refine Z.iald C 5 rfl (by omega) (by omega) (by decide) dL_law_618 ?_
    refine Z.iald C 2 rfl (by omega) (by omega) (by decide) dL_law_619 ?_
    rw [zset_eq]
    refine Z.xSXIf (wr := (wA aq cI hf (zset at_ (gg 0) k) (zset wg (gg 0) (lowZ u 60)) dy ti gg)) C 3 (h_weigh l D cI cJ cL ad M B lo ch wt sn vo mo le ln od fe se td th cnt bw bs pl tk tc sill day lau hl0 c0 c1 k (lowZ u 60) ⟨by omega, by omega⟩ ⟨by omega, by omega⟩) gL_law_L_weigh rfl rfl rfl (by decide +kernel) ⟨Nat.le_of_ble_eq_true rfl, Nat.le_of_ble_eq_true rfl⟩ rfl rfl (Nat.le_of_ble_eq_true rfl) ⟨by show _ ≤ 600130; omega, by show _ ≤ 7301080; omega⟩ dL_law_620 (fun r w9 h2 => ?_) (fun _ _ z => z.elim)
    have htc : tcWeigh k (lowZ u 60) cnt = 0 := by
      unfold tcWeigh
      rw [if_neg (by omega), if_neg (by omega), if_neg (by omega)]
    obtain ⟨-, hr, rfl⟩ := hq_det h2 (fun E z => by
      rcases z.2 with ⟨-, q⟩ | ⟨-, q⟩ | ⟨-, q⟩ <;> omega)
    subst hr
    refine Z.aload C dL_law_623 rfl ?_
    refine Z.iconst C dL_law_625 ?_
    refine Z.iald C 5 rfl (by omega) (by omega) (by decide) dL_law_626 ?_
    refine Z.icmpne C 634 dL_law_627 (by decide) (⟨by omega, by omega⟩) (⟨by omega, by omega⟩) (fun h3 => ?_) (fun h3 => ?_)
    · omega
    · skip
      refine Z.iconst C dL_law_630 ?_
      refine Z.goto C 635 dL_law_631 (by decide) ?_
      refine Z.istore C dL_law_635 (by decide) ?_
      refine Z.aload C dL_law_637 rfl ?_
      refine Z.iconst C dL_law_639 ?_
      refine Z.dup2 C dL_law_640 rfl rfl ?_
      refine Z.iald C 5 rfl (by omega) (by omega) (by decide) dL_law_641 ?_
      refine Z.iconst C dL_law_642 ?_
      refine Z.iadd C dL_law_643 ?_
      refine Z.iast C 5 rfl (by omega) (by omega) (by decide) dL_law_644 wL_a5 ?_
      refine Z.goto C 1317 dL_law_645 (by decide) ?_
      refine Z.widen (by omega) (by omega) (kk _ _ _ _ _ _ _ _ _ _ _ _ _ _ _ _ _ _ _ _ _ _ _ _ _ _ _ _ _ _ _ ?_ ⟨rfl, rfl, rfl, rfl, rfl, rfl, rfl, rfl, rfl, rfl⟩)
      have hen : zset gg 0 (gg 0 + 1) 0 = r + 1 := by rw [zset_eq]; omega
      have hwa : ∀ j : Int, 0 ≤ j → j < r + 1 → zset wg (gg 0) (lowZ u 60) j = zset wt r (lowZ u 60) j ∧ zset at_ (gg 0) k j = zset sn r k j := by
        intro j j0 j1
        rw [en]
        by_cases e : j = r
        · subst e
          rw [zset_eq, zset_eq, zset_eq, zset_eq]
          exact ⟨rfl, rfl⟩
        · rw [zset_ne _ e, zset_ne _ e, zset_ne _ e, zset_ne _ e]
          exact rr.1.wa j j0 (by omega)
      have hw0 : ∀ j : Int, r + 1 ≤ j → j < 16 → zset wg (gg 0) (lowZ u 60) j = 0 := by
        intro j j0 j1
        rw [zset_ne _ (by omega)]
        exact rr.1.w0 j (by omega) j1
      have hgb : zset wg (gg 0) (lowZ u 60) 16 = bw := by rw [zset_ne _ (by omega)]; exact rr.1.gb
      have hab : zset at_ (gg 0) k 16 = bs := by rw [zset_ne _ (by omega)]; exact rr.1.ab
      have hwk := wOK_set rr.1.wk (q := r) (x := lowZ u 60) (y := k) (by omega) (by omega) k0 k1
      exact ⟨⟨rr.1.rh, rr.1.hM, rr.1.hB, (by omega), (by omega), hen, hwa, hw0, hgb, hab, hwk, rr.1.b0, rr.1.b1, rr.1.s0, rr.1.s1, (by rw [zset_ne _ (by decide)]; exact rr.1.el), rr.1.p0, rr.1.p1, (by rw [zset_ne _ (by decide)]; exact rr.1.et), rr.1.t0, rr.1.t1, rr.1.ta, rr.1.hu, rr.1.td0, rr.1.dy0, rr.1.th0, rr.1.ti0, (by rw [zset_ne _ (by decide)]; exact rr.1.es), rr.1.l0, rr.1.l1, (by rw [zset_ne _ (by decide)]; exact rr.1.ed), rr.1.d0, rr.1.d1, (by rw [zset_ne _ (by decide)]; exact rr.1.ei), rr.1.i0⟩, rr.2⟩
  · skip
    refine Z.goto C 1317 dL_law_585 (by decide) ?_
    exact Z.widen (by omega) (by omega) (kk _ _ _ _ _ _ _ _ _ _ _ _ _ _ _ _ _ _ _ _ _ _ _ _ _ _ _ _ _ _ _ rr ⟨rfl, rfl, rfl, rfl, rfl, rfl, rfl, rfl, rfl, rfl⟩)
set_option maxHeartbeats 4000000 in
set_option maxRecDepth 100000 in
theorem arm_change {p : Program} {l : Launch} {e : Env} {s : State} {m : MethodId} {args : Array Value} {below : List Frame} {meth : Method} {c : Code} {A : Nat → Prop} {D : va_G} {Q : State → Prop} {cI cJ cL : ClassId} {b cells slots : Nat} {aq : Nat → Nat} {hf at_ wg dy ti gg : Int → Int} {ad : Nat → Nat} {M B : Int → Int → Int} {lo ch wt sn vo mo le ln od fe se td th : Int → Int} {cnt bw bs pl tk tc sill day lau : Int} {turn v u w k : Int} (C : Cx p s m args meth c 30 A D cI cJ cL cL_law wsL_law RL) (hl0 : l.stackTraces = false) (hc : cells + 40 ≤ 600130) (hs : slots + 600 ≤ 7301080) (rr : RelA M B hf wt sn wg at_ td th dy ti gg cnt bw bs pl tc sill day lau) (u0 : 0 ≤ turn) (u1 : turn < 110) (hui : inr u) (w0 : 0 ≤ w) (w1 : w ≤ 5) (k0 : 0 ≤ k) (k1 : k ≤ 8) (kk : ∀ (hf at_ wg dy ti gg : Int → Int) (M B : Int → Int → Int) (lo ch wt sn vo mo le ln od fe se td th : Int → Int) (cnt bw bs pl tk tc sill day lau : Int) (lv9 : List Value), RelA M B hf wt sn wg at_ td th dy ti gg cnt bw bs pl tc sill day lau → lvK b (ad 0) aq turn lv9 → Z p l e room_1 s m args below meth c 30 A D Q (cells + 40) (slots + 600) ((wA aq cI hf at_ wg dy ti gg) ++ (wX ad cI cJ M B lo ch wt sn vo mo le ln od fe se td th cnt bw bs pl tk tc sill day lau)) lv9 1317 []) : Z p l e room_1 s m args below meth c 30 A D Q cells slots ((wA aq cI hf at_ wg dy ti gg) ++ (wX ad cI cJ M B lo ch wt sn vo mo le ln od fe se td th cnt bw bs pl tk tc sill day lau)) [.ref b, .ref (ad 0), .ref (aq 0), .ref (aq 1), .ref (aq 2), .ref (aq 3), .ref (aq 4), .ref (aq 5), .int (iI turn), .int (iI v), .int (iI u), .int (iI w), .int (iI k), .int (iI 1), .null, .null, .null, .null, .null, .null, .null, .null, .null, .null, .null, .null, .null, .null, .null, .null] 648 [] := by
  have en := rr.1.en
  have c0 := rr.1.c0
  have c1 := rr.1.c1
  have hx := lowZ_bd u (n := 40) (by decide)
  refine Z.aload C dL_law_648 rfl ?_
  refine Z.iconst C dL_law_650 ?_
  refine Z.iald C 5 rfl (by omega) (by omega) (by decide) dL_law_651 ?_
  refine Z.ifne C 658 dL_law_652 (by decide) (⟨by omega, by omega⟩) (fun h1 => ?_) (fun h1 => ?_)
  · skip
    refine Z.iload C dL_law_658 rfl ?_
    refine Z.bipush C dL_law_660 (by decide) ?_
    refine Z.ishr C dL_law_662 (fun t ht => ?_)
    refine Z.aload C dL_law_663 rfl ?_
    refine Z.iconst C dL_law_665 ?_
    refine Z.iald C 5 rfl (by omega) (by omega) (by decide) dL_law_666 ?_
    have hq := lowZ_bd t (n := gg 0) (by omega)
    refine Z.cSIp C 2 (q_low l D cI cJ cL t (gg 0) (by omega) (by omega)) gL_law_L_low rfl rfl rfl (by decide +kernel) ⟨Nat.le_of_ble_eq_true rfl, Nat.le_of_ble_eq_true rfl⟩ rfl rfl (Nat.le_of_ble_eq_true rfl) ⟨by show _ ≤ 600130; omega, by show _ ≤ 7301080; omega⟩ dL_law_667 ?_
    generalize lowZ t (gg 0) = q at hq
    have hwa := rr.1.wa q hq.1 (by omega)
    have hwk := rr.1.wk q
    refine Z.istore C dL_law_670 (by decide) ?_
    refine Z.aload_n C dL_law_672 rfl ?_
    refine Z.iload C dL_law_673 rfl ?_
    refine Z.iload C dL_law_675 rfl ?_
    refine Z.iload C dL_law_677 rfl ?_
    refine Z.bipush C dL_law_679 (by decide) ?_
    refine Z.cSIp C 2 (q_low l D cI cJ cL u 40 (by decide) (by decide)) gL_law_L_low rfl rfl rfl (by decide +kernel) ⟨Nat.le_of_ble_eq_true rfl, Nat.le_of_ble_eq_true rfl⟩ rfl rfl (Nat.le_of_ble_eq_true rfl) ⟨by show _ ≤ 600130; omega, by show _ ≤ 7301080; omega⟩ dL_law_681 ?_
    refine Z.xSXIf (wr := (wA aq cI hf at_ wg dy ti gg)) C 4 (h_change l D cI cJ cL ad M B lo ch wt sn vo mo le ln od fe se td th cnt bw bs pl tk tc sill day lau hl0 c0 c1 q k (lowZ u 40) ⟨by omega, by omega⟩ ⟨by omega, by omega⟩ ⟨by omega, by omega⟩) gL_law_L_change rfl rfl rfl (by decide +kernel) ⟨Nat.le_of_ble_eq_true rfl, Nat.le_of_ble_eq_true rfl⟩ rfl rfl (Nat.le_of_ble_eq_true rfl) ⟨by show _ ≤ 600130; omega, by show _ ≤ 7301080; omega⟩ dL_law_684 (fun r w9 h2 => ?_) (fun _ _ z => z.elim)
    have htc : tcChange q k (lowZ u 40) cnt = 0 := by
      unfold tcChange
      rw [if_neg (by omega), if_neg (by omega)]
    obtain ⟨-, rfl, rfl⟩ := hq_det h2 (fun E z => by
      rcases z.2 with ⟨-, q⟩ | ⟨-, q⟩ | ⟨-, q⟩ <;> omega)
    refine Z.bipush C dL_law_687 (by decide) ?_
    refine Z.aload C dL_law_689 rfl ?_
    refine Z.iload C dL_law_691 rfl ?_
    refine Z.iald C 2 rfl (by omega) (by omega) (by decide) dL_law_693 ?_
    refine Z.imul C dL_law_694 ?_
    refine Z.aload_n C dL_law_695 rfl ?_
    refine Z.iload C dL_law_696 rfl ?_
    refine Z.iald C 1 rfl (by omega) (by omega) (by decide) dL_law_698 ?_
    refine Z.iadd C dL_law_699 ?_
    rw [hwa.1, hwa.2]
    refine Z.icmpne C 707 dL_law_700 (by decide) (⟨by omega, by omega⟩) (⟨by omega, by omega⟩) (fun h3 => ?_) (fun h3 => ?_)
    · exact absurd rfl h3
    · skip
      refine Z.iconst C dL_law_703 ?_
      refine Z.goto C 708 dL_law_704 (by decide) ?_
      refine Z.istore C dL_law_708 (by decide) ?_
      refine Z.aload_n C dL_law_710 rfl ?_
      refine Z.iload C dL_law_711 rfl ?_
      refine Z.iload C dL_law_713 rfl ?_
      refine Z.iast C 1 rfl (by omega) (by omega) (by decide) dL_law_715 wL_a1 ?_
      refine Z.aload C dL_law_716 rfl ?_
      refine Z.iload C dL_law_718 rfl ?_
      refine Z.iload C dL_law_720 rfl ?_
      refine Z.bipush C dL_law_722 (by decide) ?_
      refine Z.cSIp C 2 (q_low l D cI cJ cL u 40 (by decide) (by decide)) gL_law_L_low rfl rfl rfl (by decide +kernel) ⟨Nat.le_of_ble_eq_true rfl, Nat.le_of_ble_eq_true rfl⟩ rfl rfl (Nat.le_of_ble_eq_true rfl) ⟨by show _ ≤ 600130; omega, by show _ ≤ 7301080; omega⟩ dL_law_724 ?_
      refine Z.iast C 2 rfl (by omega) (by omega) (by decide) dL_law_727 wL_a2 ?_
      refine Z.goto C 1317 dL_law_728 (by decide) ?_
      refine Z.widen (by omega) (by omega) (kk _ _ _ _ _ _ _ _ _ _ _ _ _ _ _ _ _ _ _ _ _ _ _ _ _ _ _ _ _ _ _ ?_ ⟨rfl, rfl, rfl, rfl, rfl, rfl, rfl, rfl, rfl, rfl⟩)
      have hwa2 : ∀ j : Int, 0 ≤ j → j < cnt → zset wg q (lowZ u 40) j = zset wt q (lowZ u 40) j ∧ zset at_ q k j = zset sn q k j := by
        intro j j0 j1
        by_cases e : j = q
        · subst e
          rw [zset_eq, zset_eq, zset_eq, zset_eq]
          exact ⟨rfl, rfl⟩
        · rw [zset_ne _ e, zset_ne _ e, zset_ne _ e, zset_ne _ e]
          exact rr.1.wa j j0 (by omega)
      have hw0 : ∀ j : Int, cnt ≤ j → j < 16 → zset wg q (lowZ u 40) j = 0 := by
        intro j j0 j1
        rw [zset_ne _ (by omega)]
        exact rr.1.w0 j (by omega) j1
      have hgb : zset wg q (lowZ u 40) 16 = bw := by rw [zset_ne _ (by omega)]; exact rr.1.gb
      have hab : zset at_ q k 16 = bs := by rw [zset_ne _ (by omega)]; exact rr.1.ab
      have hwk2 := wOK_set rr.1.wk (q := q) (x := lowZ u 40) (y := k) (by omega) (by omega) k0 k1
      exact ⟨⟨rr.1.rh, rr.1.hM, rr.1.hB, rr.1.c0, rr.1.c1, rr.1.en, hwa2, hw0, hgb, hab, hwk2, rr.1.b0, rr.1.b1, rr.1.s0, rr.1.s1, rr.1.el, rr.1.p0, rr.1.p1, rr.1.et, rr.1.t0, rr.1.t1, rr.1.ta, rr.1.hu, rr.1.td0, rr.1.dy0, rr.1.th0, rr.1.ti0, rr.1.es, rr.1.l0, rr.1.l1, rr.1.ed, rr.1.d0, rr.1.d1, rr.1.ei, rr.1.i0⟩, rr.2⟩
  · skip
    refine Z.goto C 1317 dL_law_655 (by decide) ?_
    exact Z.widen (by omega) (by omega) (kk _ _ _ _ _ _ _ _ _ _ _ _ _ _ _ _ _ _ _ _ _ _ _ _ _ _ _ _ _ _ _ rr ⟨rfl, rfl, rfl, rfl, rfl, rfl, rfl, rfl, rfl, rfl⟩)
set_option maxHeartbeats 4000000 in
set_option maxRecDepth 100000 in
theorem arm_planks {p : Program} {l : Launch} {e : Env} {s : State} {m : MethodId} {args : Array Value} {below : List Frame} {meth : Method} {c : Code} {A : Nat → Prop} {D : va_G} {Q : State → Prop} {cI cJ cL : ClassId} {b cells slots : Nat} {aq : Nat → Nat} {hf at_ wg dy ti gg : Int → Int} {ad : Nat → Nat} {M B : Int → Int → Int} {lo ch wt sn vo mo le ln od fe se td th : Int → Int} {cnt bw bs pl tk tc sill day lau : Int} {turn v u w k : Int} (C : Cx p s m args meth c 30 A D cI cJ cL cL_law wsL_law RL) (hl0 : l.stackTraces = false) (hc : cells + 40 ≤ 600130) (hs : slots + 600 ≤ 7301080) (rr : RelA M B hf wt sn wg at_ td th dy ti gg cnt bw bs pl tc sill day lau) (u0 : 0 ≤ turn) (u1 : turn < 110) (hui : inr u) (w0 : 0 ≤ w) (w1 : w ≤ 5) (k0 : 0 ≤ k) (k1 : k ≤ 8) (kk : ∀ (hf at_ wg dy ti gg : Int → Int) (M B : Int → Int → Int) (lo ch wt sn vo mo le ln od fe se td th : Int → Int) (cnt bw bs pl tk tc sill day lau : Int) (lv9 : List Value), RelA M B hf wt sn wg at_ td th dy ti gg cnt bw bs pl tc sill day lau → lvK b (ad 0) aq turn lv9 → Z p l e room_1 s m args below meth c 30 A D Q (cells + 40) (slots + 600) ((wA aq cI hf at_ wg dy ti gg) ++ (wX ad cI cJ M B lo ch wt sn vo mo le ln od fe se td th cnt bw bs pl tk tc sill day lau)) lv9 1317 []) : Z p l e room_1 s m args below meth c 30 A D Q cells slots ((wA aq cI hf at_ wg dy ti gg) ++ (wX ad cI cJ M B lo ch wt sn vo mo le ln od fe se td th cnt bw bs pl tk tc sill day lau)) [.ref b, .ref (ad 0), .ref (aq 0), .ref (aq 1), .ref (aq 2), .ref (aq 3), .ref (aq 4), .ref (aq 5), .int (iI turn), .int (iI v), .int (iI u), .int (iI w), .int (iI k), .int (iI 1), .null, .null, .null, .null, .null, .null, .null, .null, .null, .null, .null, .null, .null, .null, .null, .null] 914 [] := by
  have hM := rr.1.hM
  have hR := rr.1.rh
  have hx := lowZ_bd u (n := 700) (by decide)
  refine Z.aload C dL_law_914 rfl ?_
  refine Z.iconst C dL_law_916 ?_
  refine Z.sipush C dL_law_917 (by decide) ?_
  refine Z.iload C dL_law_920 rfl ?_
  refine Z.sipush C dL_law_922 (by decide) ?_
  refine Z.cSIp C 2 (q_low l D cI cJ cL u 700 (by decide) (by decide)) gL_law_L_low rfl rfl rfl (by decide +kernel) ⟨Nat.le_of_ble_eq_true rfl, Nat.le_of_ble_eq_true rfl⟩ rfl rfl (Nat.le_of_ble_eq_true rfl) ⟨by show _ ≤ 600130; omega, by show _ ≤ 7301080; omega⟩ dL_law_925 ?_
  generalize hxx : lowZ u 700 = x at hx
  refine Z.iadd C dL_law_928 ?_
  refine Z.iast C 5 rfl (by omega) (by omega) (by decide) dL_law_929 wL_a5 ?_
  refine Z.aload_n C dL_law_930 rfl ?_
  refine Z.aload C dL_law_931 rfl ?_
  refine Z.iconst C dL_law_933 ?_
  refine Z.iald C 5 rfl (by omega) (by omega) (by decide) dL_law_934 ?_
  rw [zset_eq]
  refine Z.xSXIf (wr := (wA aq cI hf at_ wg dy ti (zset gg 1 (300 + x)))) C 2 (h_planks l D cI cJ cL ad M B lo ch wt sn vo mo le ln od fe se td th cnt bw bs pl tk tc sill day lau hl0 hM (300 + x) ⟨by omega, by omega⟩) gL_law_L_planks rfl rfl rfl (by decide +kernel) ⟨Nat.le_of_ble_eq_true rfl, Nat.le_of_ble_eq_true rfl⟩ rfl rfl (Nat.le_of_ble_eq_true rfl) ⟨by show _ ≤ 600130; omega, by show _ ≤ 7301080; omega⟩ dL_law_935 (fun r w9 h2 => ?_) (fun _ _ z => z.elim)
  obtain ⟨-, rfl, le4, ln4, od4, fe4, se4, tk4, rfl⟩ := hq_det h2 (fun E z => by have := z.2.2; omega)
  refine Z.iconst C dL_law_938 ?_
  refine Z.aload_n C dL_law_939 rfl ?_
  refine Z.aload C dL_law_940 rfl ?_
  refine Z.iconst C dL_law_942 ?_
  refine Z.iald C 5 rfl (by omega) (by omega) (by decide) dL_law_943 ?_
  rw [zset_eq]
  refine Z.swap ?_
  refine Z.xSIf (wr := (wX ad cI cJ M B lo ch wt sn vo mo le4 ln4 od4 fe4 se4 td th cnt bw bs (300 + x) tk4 tc sill day lau)) C 3 (q_planksOf l D cI cJ cL aq hf at_ wg dy ti (zset gg 1 (300 + x)) M hM hR (-1) (300 + x) (by omega) (by omega) (by omega) (by omega)) gL_law_L_planksOf rfl rfl rfl (by decide +kernel) ⟨Nat.le_of_ble_eq_true rfl, Nat.le_of_ble_eq_true rfl⟩ rfl rfl (Nat.le_of_ble_eq_true rfl) ⟨by show _ ≤ 600130; omega, by show _ ≤ 7301080; omega⟩ dL_law_944 (fun r w9 h3 => ?_) (fun _ _ z => z.elim)
  obtain ⟨⟨hr1, -⟩, rfl⟩ := h3
  have hr2 := hr1 rfl
  subst hr2
  refine Z.swap ?_
  have hpi := pk_inr (pl := 300 + x) (by omega) (by omega) hM
  refine Z.icmpne C 954 dL_law_947 (by decide) (hpi) (hpi) (fun h3 => ?_) (fun h3 => ?_)
  · exact absurd rfl h3
  · skip
    refine Z.iconst C dL_law_950 ?_
    refine Z.goto C 955 dL_law_951 (by decide) ?_
    refine Z.istore C dL_law_955 (by decide) ?_
    refine Z.goto C 1317 dL_law_957 (by decide) ?_
    refine Z.widen (by omega) (by omega) (kk _ _ _ _ _ _ _ _ _ _ _ _ _ _ _ _ _ _ _ _ _ _ _ _ _ _ _ _ _ _ _ ?_ ⟨rfl, rfl, rfl, rfl, rfl, rfl, rfl, rfl, rfl, rfl⟩)
    exact ⟨⟨rr.1.rh, rr.1.hM, rr.1.hB, rr.1.c0, rr.1.c1, (by rw [zset_ne _ (by decide)]; exact rr.1.en), rr.1.wa, rr.1.w0, rr.1.gb, rr.1.ab, rr.1.wk, rr.1.b0, rr.1.b1, rr.1.s0, rr.1.s1, zset_eq _ _ _, (by omega), (by omega), (by rw [zset_ne _ (by decide)]; exact rr.1.et), rr.1.t0, rr.1.t1, rr.1.ta, rr.1.hu, rr.1.td0, rr.1.dy0, rr.1.th0, rr.1.ti0, (by rw [zset_ne _ (by decide)]; exact rr.1.es), rr.1.l0, rr.1.l1, (by rw [zset_ne _ (by decide)]; exact rr.1.ed), rr.1.d0, rr.1.d1, (by rw [zset_ne _ (by decide)]; exact rr.1.ei), rr.1.i0⟩, (by omega)⟩
set_option maxHeartbeats 4000000 in
set_option maxRecDepth 100000 in
theorem arm_sill {p : Program} {l : Launch} {e : Env} {s : State} {m : MethodId} {args : Array Value} {below : List Frame} {meth : Method} {c : Code} {A : Nat → Prop} {D : va_G} {Q : State → Prop} {cI cJ cL : ClassId} {b cells slots : Nat} {aq : Nat → Nat} {hf at_ wg dy ti gg : Int → Int} {ad : Nat → Nat} {M B : Int → Int → Int} {lo ch wt sn vo mo le ln od fe se td th : Int → Int} {cnt bw bs pl tk tc sill day lau : Int} {turn v u w k : Int} (C : Cx p s m args meth c 30 A D cI cJ cL cL_law wsL_law RL) (hl0 : l.stackTraces = false) (hc : cells + 40 ≤ 600130) (hs : slots + 600 ≤ 7301080) (rr : RelA M B hf wt sn wg at_ td th dy ti gg cnt bw bs pl tc sill day lau) (u0 : 0 ≤ turn) (u1 : turn < 110) (hui : inr u) (w0 : 0 ≤ w) (w1 : w ≤ 5) (k0 : 0 ≤ k) (k1 : k ≤ 8) (kk : ∀ (hf at_ wg dy ti gg : Int → Int) (M B : Int → Int → Int) (lo ch wt sn vo mo le ln od fe se td th : Int → Int) (cnt bw bs pl tk tc sill day lau : Int) (lv9 : List Value), RelA M B hf wt sn wg at_ td th dy ti gg cnt bw bs pl tc sill day lau → lvK b (ad 0) aq turn lv9 → Z p l e room_1 s m args below meth c 30 A D Q (cells + 40) (slots + 600) ((wA aq cI hf at_ wg dy ti gg) ++ (wX ad cI cJ M B lo ch wt sn vo mo le ln od fe se td th cnt bw bs pl tk tc sill day lau)) lv9 1317 []) : Z p l e room_1 s m args below meth c 30 A D Q cells slots ((wA aq cI hf at_ wg dy ti gg) ++ (wX ad cI cJ M B lo ch wt sn vo mo le ln od fe se td th cnt bw bs pl tk tc sill day lau)) [.ref b, .ref (ad 0), .ref (aq 0), .ref (aq 1), .ref (aq 2), .ref (aq 3), .ref (aq 4), .ref (aq 5), .int (iI turn), .int (iI v), .int (iI u), .int (iI w), .int (iI k), .int (iI 1), .null, .null, .null, .null, .null, .null, .null, .null, .null, .null, .null, .null, .null, .null, .null, .null] 1103 [] := by
  have es := rr.1.es
  have l0 := rr.1.l0
  have l1 := rr.1.l1
  have hx := lowZ_bd u (n := 51) (by decide)
  refine Z.aload_n C dL_law_1103 rfl ?_
  refine Z.iload C dL_law_1104 rfl ?_
  refine Z.bipush C dL_law_1106 (by decide) ?_
  refine Z.cSIp C 2 (q_low l D cI cJ cL u 51 (by decide) (by decide)) gL_law_L_low rfl rfl rfl (by decide +kernel) ⟨Nat.le_of_ble_eq_true rfl, Nat.le_of_ble_eq_true rfl⟩ rfl rfl (Nat.le_of_ble_eq_true rfl) ⟨by show _ ≤ 600130; omega, by show _ ≤ 7301080; omega⟩ dL_law_1108 ?_
  refine Z.xSXIf (wr := (wA aq cI hf at_ wg dy ti gg)) C 2 (h_sill l D cI cJ cL ad M B lo ch wt sn vo mo le ln od fe se td th cnt bw bs pl tk tc sill day lau hl0 (lowZ u 51) ⟨by omega, by omega⟩) gL_law_L_sill rfl rfl rfl (by decide +kernel) ⟨Nat.le_of_ble_eq_true rfl, Nat.le_of_ble_eq_true rfl⟩ rfl rfl (Nat.le_of_ble_eq_true rfl) ⟨by show _ ≤ 600130; omega, by show _ ≤ 7301080; omega⟩ dL_law_1111 (fun r w9 h2 => ?_) (fun _ _ z => z.elim)
  obtain ⟨-, rfl, rfl⟩ := hq_det h2 (fun E z => by have := z.2.2; omega)
  refine Z.aload C dL_law_1114 rfl ?_
  refine Z.iconst C dL_law_1116 ?_
  refine Z.iald C 5 rfl (by omega) (by omega) (by decide) dL_law_1117 ?_
  refine Z.icmpne C 1125 dL_law_1118 (by decide) (⟨by omega, by omega⟩) (⟨by omega, by omega⟩) (fun h3 => ?_) (fun h3 => ?_)
  · omega
  · skip
    refine Z.iconst C dL_law_1121 ?_
    refine Z.goto C 1126 dL_law_1122 (by decide) ?_
    refine Z.istore C dL_law_1126 (by decide) ?_
    refine Z.aload C dL_law_1128 rfl ?_
    refine Z.iconst C dL_law_1130 ?_
    refine Z.iload C dL_law_1131 rfl ?_
    refine Z.bipush C dL_law_1133 (by decide) ?_
    refine Z.cSIp C 2 (q_low l D cI cJ cL u 51 (by decide) (by decide)) gL_law_L_low rfl rfl rfl (by decide +kernel) ⟨Nat.le_of_ble_eq_true rfl, Nat.le_of_ble_eq_true rfl⟩ rfl rfl (Nat.le_of_ble_eq_true rfl) ⟨by show _ ≤ 600130; omega, by show _ ≤ 7301080; omega⟩ dL_law_1135 ?_
    refine Z.iast C 5 rfl (by omega) (by omega) (by decide) dL_law_1138 wL_a5 ?_
    refine Z.goto C 1317 dL_law_1139 (by decide) ?_
    refine Z.widen (by omega) (by omega) (kk _ _ _ _ _ _ _ _ _ _ _ _ _ _ _ _ _ _ _ _ _ _ _ _ _ _ _ _ _ _ _ ?_ ⟨rfl, rfl, rfl, rfl, rfl, rfl, rfl, rfl, rfl, rfl⟩)
    exact ⟨⟨rr.1.rh, rr.1.hM, rr.1.hB, rr.1.c0, rr.1.c1, (by rw [zset_ne _ (by decide)]; exact rr.1.en), rr.1.wa, rr.1.w0, rr.1.gb, rr.1.ab, rr.1.wk, rr.1.b0, rr.1.b1, rr.1.s0, rr.1.s1, (by rw [zset_ne _ (by decide)]; exact rr.1.el), rr.1.p0, rr.1.p1, (by rw [zset_ne _ (by decide)]; exact rr.1.et), rr.1.t0, rr.1.t1, rr.1.ta, rr.1.hu, rr.1.td0, rr.1.dy0, rr.1.th0, rr.1.ti0, zset_eq _ _ _, hx.1, (by omega), (by rw [zset_ne _ (by decide)]; exact rr.1.ed), rr.1.d0, rr.1.d1, (by rw [zset_ne _ (by decide)]; exact rr.1.ei), rr.1.i0⟩, rr.2⟩
set_option maxHeartbeats 4000000 in
set_option maxRecDepth 100000 in
theorem arm_pass {p : Program} {l : Launch} {e : Env} {s : State} {m : MethodId} {args : Array Value} {below : List Frame} {meth : Method} {c : Code} {A : Nat → Prop} {D : va_G} {Q : State → Prop} {cI cJ cL : ClassId} {b cells slots : Nat} {aq : Nat → Nat} {hf at_ wg dy ti gg : Int → Int} {ad : Nat → Nat} {M B : Int → Int → Int} {lo ch wt sn vo mo le ln od fe se td th : Int → Int} {cnt bw bs pl tk tc sill day lau : Int} {turn v u w k : Int} (C : Cx p s m args meth c 30 A D cI cJ cL cL_law wsL_law RL) (hl0 : l.stackTraces = false) (hc : cells + 40 ≤ 600130) (hs : slots + 600 ≤ 7301080) (rr : RelA M B hf wt sn wg at_ td th dy ti gg cnt bw bs pl tc sill day lau) (u0 : 0 ≤ turn) (u1 : turn < 110) (hui : inr u) (w0 : 0 ≤ w) (w1 : w ≤ 5) (k0 : 0 ≤ k) (k1 : k ≤ 8) (kk : ∀ (hf at_ wg dy ti gg : Int → Int) (M B : Int → Int → Int) (lo ch wt sn vo mo le ln od fe se td th : Int → Int) (cnt bw bs pl tk tc sill day lau : Int) (lv9 : List Value), RelA M B hf wt sn wg at_ td th dy ti gg cnt bw bs pl tc sill day lau → lvK b (ad 0) aq turn lv9 → Z p l e room_1 s m args below meth c 30 A D Q (cells + 40) (slots + 600) ((wA aq cI hf at_ wg dy ti gg) ++ (wX ad cI cJ M B lo ch wt sn vo mo le ln od fe se td th cnt bw bs pl tk tc sill day lau)) lv9 1317 []) : Z p l e room_1 s m args below meth c 30 A D Q cells slots ((wA aq cI hf at_ wg dy ti gg) ++ (wX ad cI cJ M B lo ch wt sn vo mo le ln od fe se td th cnt bw bs pl tk tc sill day lau)) [.ref b, .ref (ad 0), .ref (aq 0), .ref (aq 1), .ref (aq 2), .ref (aq 3), .ref (aq 4), .ref (aq 5), .int (iI turn), .int (iI v), .int (iI u), .int (iI w), .int (iI k), .int (iI 1), .null, .null, .null, .null, .null, .null, .null, .null, .null, .null, .null, .null, .null, .null, .null, .null] 1261 [] := by
  have ed := rr.1.ed
  have d0 := rr.1.d0
  have d1 := rr.1.d1
  have hx := lowZ_bd u (n := 30) (by decide)
  refine Z.iconst C dL_law_1261 ?_
  refine Z.iload C dL_law_1262 rfl ?_
  refine Z.bipush C dL_law_1264 (by decide) ?_
  refine Z.cSIp C 2 (q_low l D cI cJ cL u 30 (by decide) (by decide)) gL_law_L_low rfl rfl rfl (by decide +kernel) ⟨Nat.le_of_ble_eq_true rfl, Nat.le_of_ble_eq_true rfl⟩ rfl rfl (Nat.le_of_ble_eq_true rfl) ⟨by show _ ≤ 600130; omega, by show _ ≤ 7301080; omega⟩ dL_law_1266 ?_
  generalize lowZ u 30 = x at hx
  refine Z.iadd C dL_law_1269 ?_
  refine Z.istore C dL_law_1270 (by decide) ?_
  refine Z.aload C dL_law_1272 rfl ?_
  refine Z.iconst C dL_law_1274 ?_
  refine Z.iald C 5 rfl (by omega) (by omega) (by decide) dL_law_1275 ?_
  refine Z.iload C dL_law_1276 rfl ?_
  refine Z.iadd C dL_law_1278 ?_
  refine Z.sipush C dL_law_1279 (by decide) ?_
  refine Z.icmple C 1288 dL_law_1282 (by decide) (⟨by omega, by omega⟩) (⟨by omega, by omega⟩) (fun h1 => ?_) (fun h1 => ?_)
  · skip
    refine Z.aload C dL_law_1288 rfl ?_
    refine Z.iconst C dL_law_1290 ?_
    refine Z.dup2 C dL_law_1291 rfl rfl ?_
    refine Z.iald C 5 rfl (by omega) (by omega) (by decide) dL_law_1292 ?_
    refine Z.iload C dL_law_1293 rfl ?_
    refine Z.iadd C dL_law_1295 ?_
    refine Z.iast C 5 rfl (by omega) (by omega) (by decide) dL_law_1296 wL_a5 ?_
    refine Z.aload_n C dL_law_1297 rfl ?_
    refine Z.iload C dL_law_1298 rfl ?_
    refine Z.xSXIf (wr := (wA aq cI hf at_ wg dy ti (zset gg 3 (gg 3 + (1 + x))))) C 2 (h_pass l D cI cJ cL ad M B lo ch wt sn vo mo le ln od fe se td th cnt bw bs pl tk tc sill day lau hl0 d0 d1 (1 + x) ⟨by omega, by omega⟩) gL_law_L_pass rfl rfl rfl (by decide +kernel) ⟨Nat.le_of_ble_eq_true rfl, Nat.le_of_ble_eq_true rfl⟩ rfl rfl (Nat.le_of_ble_eq_true rfl) ⟨by show _ ≤ 600130; omega, by show _ ≤ 7301080; omega⟩ dL_law_1300 (fun r w9 h2 => ?_) (fun _ _ z => z.elim)
    have htc : tcPass (1 + x) day = 0 := by
      unfold tcPass
      rw [if_neg (by omega), if_neg (by omega)]
    obtain ⟨-, rfl, rfl⟩ := hq_det h2 (fun E z => by
      rcases z.2 with ⟨-, q⟩ | ⟨-, q⟩ <;> omega)
    refine Z.aload C dL_law_1303 rfl ?_
    refine Z.iconst C dL_law_1305 ?_
    refine Z.iald C 5 rfl (by omega) (by omega) (by decide) dL_law_1306 ?_
    rw [zset_eq]
    refine Z.icmpne C 1314 dL_law_1307 (by decide) (⟨by omega, by omega⟩) (⟨by omega, by omega⟩) (fun h3 => ?_) (fun h3 => ?_)
    · omega
    · skip
      refine Z.iconst C dL_law_1310 ?_
      refine Z.goto C 1315 dL_law_1311 (by decide) ?_
      refine Z.istore C dL_law_1315 (by decide) ?_
      refine Z.widen (by omega) (by omega) (kk _ _ _ _ _ _ _ _ _ _ _ _ _ _ _ _ _ _ _ _ _ _ _ _ _ _ _ _ _ _ _ ?_ ⟨rfl, rfl, rfl, rfl, rfl, rfl, rfl, rfl, rfl, rfl⟩)
      have hed : zset gg 3 (gg 3 + (1 + x)) 3 = day + (1 + x) := by rw [zset_eq]; omega
      exact ⟨⟨rr.1.rh, rr.1.hM, rr.1.hB, rr.1.c0, rr.1.c1, (by rw [zset_ne _ (by decide)]; exact rr.1.en), rr.1.wa, rr.1.w0, rr.1.gb, rr.1.ab, rr.1.wk, rr.1.b0, rr.1.b1, rr.1.s0, rr.1.s1, (by rw [zset_ne _ (by decide)]; exact rr.1.el), rr.1.p0, rr.1.p1, (by rw [zset_ne _ (by decide)]; exact rr.1.et), rr.1.t0, rr.1.t1, rr.1.ta, rr.1.hu, rr.1.td0, rr.1.dy0, rr.1.th0, rr.1.ti0, (by rw [zset_ne _ (by decide)]; exact rr.1.es), rr.1.l0, rr.1.l1, hed, (by omega), (by omega), (by rw [zset_ne _ (by decide)]; exact rr.1.ei), rr.1.i0⟩, rr.2⟩
  · skip
    refine Z.goto C 1317 dL_law_1285 (by decide) ?_
    exact Z.widen (by omega) (by omega) (kk _ _ _ _ _ _ _ _ _ _ _ _ _ _ _ _ _ _ _ _ _ _ _ _ _ _ _ _ _ _ _ rr ⟨rfl, rfl, rfl, rfl, rfl, rfl, rfl, rfl, rfl, rfl⟩)
set_option maxHeartbeats 4000000 in
set_option maxRecDepth 100000 in
theorem arm_launch {p : Program} {l : Launch} {e : Env} {s : State} {m : MethodId} {args : Array Value} {below : List Frame} {meth : Method} {c : Code} {A : Nat → Prop} {D : va_G} {Q : State → Prop} {cI cJ cL : ClassId} {b cells slots : Nat} {aq : Nat → Nat} {hf at_ wg dy ti gg : Int → Int} {ad : Nat → Nat} {M B : Int → Int → Int} {lo ch wt sn vo mo le ln od fe se td th : Int → Int} {cnt bw bs pl tk tc sill day lau : Int} {turn v u w k : Int} (C : Cx p s m args meth c 30 A D cI cJ cL cL_law wsL_law RL) (hl0 : l.stackTraces = false) (hc : cells + 40 ≤ 600130) (hs : slots + 600 ≤ 7301080) (rr : RelA M B hf wt sn wg at_ td th dy ti gg cnt bw bs pl tc sill day lau) (u0 : 0 ≤ turn) (u1 : turn < 110) (hui : inr u) (w0 : 0 ≤ w) (w1 : w ≤ 5) (k0 : 0 ≤ k) (k1 : k ≤ 8) (kk : ∀ (hf at_ wg dy ti gg : Int → Int) (M B : Int → Int → Int) (lo ch wt sn vo mo le ln od fe se td th : Int → Int) (cnt bw bs pl tk tc sill day lau : Int) (lv9 : List Value), RelA M B hf wt sn wg at_ td th dy ti gg cnt bw bs pl tc sill day lau → lvK b (ad 0) aq turn lv9 → Z p l e room_1 s m args below meth c 30 A D Q (cells + 40) (slots + 600) ((wA aq cI hf at_ wg dy ti gg) ++ (wX ad cI cJ M B lo ch wt sn vo mo le ln od fe se td th cnt bw bs pl tk tc sill day lau)) lv9 1317 []) : Z p l e room_1 s m args below meth c 30 A D Q cells slots ((wA aq cI hf at_ wg dy ti gg) ++ (wX ad cI cJ M B lo ch wt sn vo mo le ln od fe se td th cnt bw bs pl tk tc sill day lau)) [.ref b, .ref (ad 0), .ref (aq 0), .ref (aq 1), .ref (aq 2), .ref (aq 3), .ref (aq 4), .ref (aq 5), .int (iI turn), .int (iI v), .int (iI u), .int (iI w), .int (iI k), .int (iI 1), .null, .null, .null, .null, .null, .null, .null, .null, .null, .null, .null, .null, .null, .null, .null, .null] 1142 [] := by
  obtain ⟨L, Mo, hL, hMo, hLx, hMox, L0, L1, M0, M1⟩ := rr.lds
  have huq := rr.uq
  have hM := rr.1.hM
  have hR := rr.1.rh
  have hc0 := rr.1.c0
  have hc1 := rr.1.c1
  have es := rr.1.es
  have et := rr.1.et
  have ed := rr.1.ed
  have ei := rr.1.ei
  have t0 := rr.1.t0
  have t1 := rr.1.t1
  have l0 := rr.1.l0
  have l1 := rr.1.l1
  have d0 := rr.1.d0
  have d1 := rr.1.d1
  have i0 := rr.1.i0
  have hnb := ndZ_bd hM (load := L) (mo := Mo) (sill := sill) M0 L0 M1 l0 l1
  have htb := tdZ_bd (td := td) (th := th) (x := day) rr.1.th0 tc.toNat
  have htd : tdZ dy ti (gg 3) (gg 5).toNat = tdZ td th day tc.toNat := by rw [ed]; exact rr.1.tdE day
  refine Z.iload C dL_law_1142 rfl ?_
  refine Z.iconst C dL_law_1144 ?_
  refine Z.iand C dL_law_1145 (fun t ht => ?_)
  refine Z.ifgt C 1317 dL_law_1146 (by decide) (ht) (fun h1 => ?_) (fun h1 => ?_)
  · exact Z.widen (by omega) (by omega) (kk _ _ _ _ _ _ _ _ _ _ _ _ _ _ _ _ _ _ _ _ _ _ _ _ _ _ _ _ _ _ _ rr ⟨rfl, rfl, rfl, rfl, rfl, rfl, rfl, rfl, rfl, rfl⟩)
  · skip
    refine Z.iload C dL_law_1149 rfl ?_
    refine Z.bipush C dL_law_1151 (by decide) ?_
    refine Z.icmpge C 1159 dL_law_1153 (by decide) (⟨by omega, by omega⟩) (⟨by omega, by omega⟩) (fun h2 => ?_) (fun h2 => ?_)
    · skip
      refine Z.aload_n C dL_law_1159 rfl ?_
      refine Z.aload_n C dL_law_1160 rfl ?_
      refine Z.aload C dL_law_1161 rfl ?_
      refine Z.aload C dL_law_1163 rfl ?_
      refine Z.swap ?_
      refine Z.cSIf (wr := (wX ad cI cJ M B lo ch wt sn vo mo le ln od fe se td th cnt bw bs pl tk tc sill day lau)) C 4 (q_needed l D cI cJ cL aq hf at_ wg dy ti gg M hM hR L Mo hL hMo L0 L1 M0 M1) gL_law_L_needed rfl rfl rfl (by decide +kernel) ⟨Nat.le_of_ble_eq_true rfl, Nat.le_of_ble_eq_true rfl⟩ rfl rfl (Nat.le_of_ble_eq_true rfl) ⟨by show _ ≤ 600130; omega, by show _ ≤ 7301080; omega⟩ dL_law_1165 (fun r9 w9 h9 => ?_)
      obtain ⟨rfl, rfl⟩ := h9
      refine Z.swap ?_
      rw [es]
      refine Z.istore C dL_law_1168 (by decide) ?_
      refine Z.aload C dL_law_1170 rfl ?_
      refine Z.iconst C dL_law_1172 ?_
      refine Z.iald C 5 rfl (by omega) (by omega) (by decide) dL_law_1173 ?_
      refine Z.aload C dL_law_1174 rfl ?_
      refine Z.aload C dL_law_1176 rfl ?_
      refine Z.aload C dL_law_1178 rfl ?_
      refine Z.swap ?_
      refine Z.cSIf (wr := (wX ad cI cJ M B lo ch wt sn vo mo le ln od fe se td th cnt bw bs pl tk tc sill day lau)) C 4 (q_tideOn l D cI cJ cL aq hf at_ wg dy ti gg (gg 3) (by omega) (by omega) (by omega) (by omega) huq rr.1.dy0) gL_law_L_tideOn rfl rfl rfl (by decide +kernel) ⟨Nat.le_of_ble_eq_true rfl, Nat.le_of_ble_eq_true rfl⟩ rfl rfl (Nat.le_of_ble_eq_true rfl) ⟨by show _ ≤ 600130; omega, by show _ ≤ 7301080; omega⟩ dL_law_1180 (fun r9 w9 h9 => ?_)
      obtain ⟨rfl, rfl⟩ := h9
      refine Z.swap ?_
      rw [htd]
      refine Z.istore C dL_law_1183 (by decide) ?_
      generalize hN : ndZ M L Mo sill = N at hnb
      generalize hT : tdZ td th day tc.toNat = T at htb
      refine Z.cut (α := Int) 1210 (fun _ => (wA aq cI hf at_ wg dy ti gg) ++ (wX ad cI cJ M B lo ch wt sn vo mo le ln od fe se td th cnt bw bs pl tk tc sill day lau)) (fun _ => [.ref b, .ref (ad 0), .ref (aq 0), .ref (aq 1), .ref (aq 2), .ref (aq 3), .ref (aq 4), .ref (aq 5), .int (iI turn), .int (iI v), .int (iI u), .int (iI w), .int (iI k), .int (iI 1), .null, .null, .null, .null, .null, .null, .null, .null, .null, .null, .null, .null, .int (iI N), .int (iI T), .null, .null]) (fun z => [.int (iI z)]) (fun z => (z = 1 ∧ lau = 0 ∧ N ≠ -1 ∧ N ≤ T) ∨ (z = 0 ∧ (lau = 1 ∨ N = -1 ∨ T < N))) (fun z hz => ?_) (fun join => ?_)
      · skip
        refine Z.istore C dL_law_1210 (by decide) ?_
        refine Z.aload_n C dL_law_1212 rfl ?_
        refine Z.xSXIf (wr := (wA aq cI hf at_ wg dy ti gg)) C 1 (h_launch l D cI cJ cL ad M B lo ch wt sn vo mo le ln od fe se td th cnt bw bs pl tk tc sill day lau hl0 hM hc0 hc1 i0 l0 l1 d0 d1 t0 t1 rr.1.hu rr.1.td0 rr.1.th0 L Mo hLx hMox L0 L1 M0 M1) gL_law_L_launch rfl rfl rfl (by decide +kernel) ⟨Nat.le_of_ble_eq_true rfl, Nat.le_of_ble_eq_true rfl⟩ rfl rfl (Nat.le_of_ble_eq_true rfl) ⟨by show _ ≤ 600130; omega, by show _ ≤ 7301080; omega⟩ dL_law_1213 (fun r w9 h3 => ?_) (fun _ _ z => z.elim)
        rcases hz with ⟨rfl, z1, z2, z3⟩ | ⟨rfl, z1⟩
        · have hd : ∃ vo2 mo2 : Int → Int, r = T - N ∧ w9 = (wX ad cI cJ M B lo ch wt sn vo2 mo2 le ln od fe se td th cnt bw bs pl tk tc sill day 1) := by
            rcases h3 with ⟨E, ⟨vo2, mo2, q1, q2, q3⟩, q4⟩ | ⟨q1, q2, vo2, mo2, q3⟩
            · rw [hN, hT] at q3
              omega
            · rw [hN, hT] at q2
              exact ⟨vo2, mo2, q2, q3⟩
          obtain ⟨vo2, mo2, rfl, rfl⟩ := hd
          refine Z.iload C dL_law_1216 rfl ?_
          refine Z.ifeq C 1229 dL_law_1218 (by decide) (⟨by omega, by omega⟩) (fun h4 => ?_) (fun h4 => ?_)
          · omega
          · skip
            refine Z.iload C dL_law_1221 rfl ?_
            refine Z.iload C dL_law_1223 rfl ?_
            refine Z.isub C dL_law_1225 ?_
            refine Z.goto C 1231 dL_law_1226 (by decide) ?_
            refine Z.icmpne C 1238 dL_law_1231 (by decide) (⟨by omega, by omega⟩) (⟨by omega, by omega⟩) (fun h5 => ?_) (fun h5 => ?_)
            · exact absurd rfl h5
            · skip
              refine Z.iconst C dL_law_1234 ?_
              refine Z.goto C 1239 dL_law_1235 (by decide) ?_
              refine Z.istore C dL_law_1239 (by decide) ?_
              refine Z.aload C dL_law_1241 rfl ?_
              refine Z.iconst C dL_law_1243 ?_
              refine Z.dup2 C dL_law_1244 rfl rfl ?_
              refine Z.iald C 5 rfl (by omega) (by omega) (by decide) dL_law_1245 ?_
              refine Z.iload C dL_law_1246 rfl ?_
              refine Z.ifeq C 1255 dL_law_1248 (by decide) (⟨by omega, by omega⟩) (fun h6 => ?_) (fun h6 => ?_)
              · omega
              · skip
                refine Z.iconst C dL_law_1251 ?_
                refine Z.goto C 1256 dL_law_1252 (by decide) ?_
                rw [ei, z1]
                refine Z.iorE C (z := 1) (by decide) dL_law_1256 ?_
                refine Z.iast C 5 rfl (by omega) (by omega) (by decide) dL_law_1257 wL_a5 ?_
                refine Z.goto C 1317 dL_law_1258 (by decide) ?_
                refine Z.widen (by omega) (by omega) (kk _ _ _ _ _ _ _ _ _ _ _ _ _ _ _ _ _ _ _ _ _ _ _ _ _ _ _ _ _ _ _ ?_ ⟨rfl, rfl, rfl, rfl, rfl, rfl, rfl, rfl, rfl, rfl⟩)
                exact ⟨⟨rr.1.rh, rr.1.hM, rr.1.hB, rr.1.c0, rr.1.c1, (by rw [zset_ne _ (by decide)]; exact rr.1.en), rr.1.wa, rr.1.w0, rr.1.gb, rr.1.ab, rr.1.wk, rr.1.b0, rr.1.b1, rr.1.s0, rr.1.s1, (by rw [zset_ne _ (by decide)]; exact rr.1.el), rr.1.p0, rr.1.p1, (by rw [zset_ne _ (by decide)]; exact rr.1.et), rr.1.t0, rr.1.t1, rr.1.ta, rr.1.hu, rr.1.td0, rr.1.dy0, rr.1.th0, rr.1.ti0, (by rw [zset_ne _ (by decide)]; exact rr.1.es), rr.1.l0, rr.1.l1, (by rw [zset_ne _ (by decide)]; exact rr.1.ed), rr.1.d0, rr.1.d1, zset_eq _ _ _, Or.inr rfl⟩, rr.2⟩
        · have hd : ∃ vo2 mo2 : Int → Int, r = -70300 ∧ w9 = (wX ad cI cJ M B lo ch wt sn vo2 mo2 le ln od fe se td th cnt bw bs pl tk tc sill day lau) := by
            rcases h3 with ⟨E, ⟨vo2, mo2, q1, q2, q3⟩, q4⟩ | ⟨q1, q2, vo2, mo2, q3⟩
            · subst q2
              simp [eIS] at q4
              exact ⟨vo2, mo2, q4, q1⟩
            · rw [hN, hT] at q1
              exact absurd z1 q1
          obtain ⟨vo2, mo2, rfl, rfl⟩ := hd
          refine Z.iload C dL_law_1216 rfl ?_
          refine Z.ifeq C 1229 dL_law_1218 (by decide) (⟨by omega, by omega⟩) (fun h4 => ?_) (fun h4 => ?_)
          · skip
            refine Z.ldc C (v := iI (-70300)) (-70300) (by decide +kernel) rfl dL_law_1229 ?_
            refine Z.icmpne C 1238 dL_law_1231 (by decide) (⟨by omega, by omega⟩) (⟨by omega, by omega⟩) (fun h5 => ?_) (fun h5 => ?_)
            · exact absurd rfl h5
            · skip
              refine Z.iconst C dL_law_1234 ?_
              refine Z.goto C 1239 dL_law_1235 (by decide) ?_
              refine Z.istore C dL_law_1239 (by decide) ?_
              refine Z.aload C dL_law_1241 rfl ?_
              refine Z.iconst C dL_law_1243 ?_
              refine Z.dup2 C dL_law_1244 rfl rfl ?_
              refine Z.iald C 5 rfl (by omega) (by omega) (by decide) dL_law_1245 ?_
              refine Z.iload C dL_law_1246 rfl ?_
              refine Z.ifeq C 1255 dL_law_1248 (by decide) (⟨by omega, by omega⟩) (fun h6 => ?_) (fun h6 => ?_)
              · skip
                refine Z.iconst C dL_law_1255 ?_
                refine Z.iorE C (z := gg 4) (by rcases i0 with q | q <;> rw [ei, q] <;> decide) dL_law_1256 ?_
                refine Z.iast C 5 rfl (by omega) (by omega) (by decide) dL_law_1257 wL_a5 ?_
                refine Z.goto C 1317 dL_law_1258 (by decide) ?_
                rw [zset_self]
                exact Z.widen (by omega) (by omega) (kk _ _ _ _ _ _ _ _ _ _ _ _ _ _ _ _ _ _ _ _ _ _ _ _ _ _ _ _ _ _ _ rr ⟨rfl, rfl, rfl, rfl, rfl, rfl, rfl, rfl, rfl, rfl⟩)
              · omega
          · omega
      · have hgi : inr (gg 4) := by rcases i0 with q | q <;> rw [ei, q] <;> exact ⟨by decide, by decide⟩
        refine Z.aload C dL_law_1185 rfl ?_
        refine Z.iconst C dL_law_1187 ?_
        refine Z.iald C 5 rfl (by omega) (by omega) (by decide) dL_law_1188 ?_
        refine Z.ifne C 1209 dL_law_1189 (by decide) (hgi) (fun h3 => ?_) (fun h3 => ?_)
        · skip
          refine Z.iconst C dL_law_1209 ?_
          exact join 0 (Or.inr ⟨rfl, Or.inl (by omega)⟩)
        · skip
          refine Z.iload C dL_law_1192 rfl ?_
          refine Z.iconst C dL_law_1194 ?_
          refine Z.icmpeq C 1209 dL_law_1195 (by decide) (⟨by omega, by omega⟩) (⟨by omega, by omega⟩) (fun h4 => ?_) (fun h4 => ?_)
          · skip
            refine Z.iconst C dL_law_1209 ?_
            exact join 0 (Or.inr ⟨rfl, Or.inr (Or.inl h4)⟩)
          · skip
            refine Z.iload C dL_law_1198 rfl ?_
            refine Z.iload C dL_law_1200 rfl ?_
            refine Z.icmplt C 1209 dL_law_1202 (by decide) (⟨by omega, by omega⟩) (⟨by omega, by omega⟩) (fun h5 => ?_) (fun h5 => ?_)
            · skip
              refine Z.iconst C dL_law_1209 ?_
              exact join 0 (Or.inr ⟨rfl, Or.inr (Or.inr h5)⟩)
            · skip
              refine Z.iconst C dL_law_1205 ?_
              refine Z.goto C 1210 dL_law_1206 (by decide) ?_
              exact join 1 (Or.inl ⟨rfl, by omega, h4, h5⟩)
    · skip
      refine Z.goto C 1317 dL_law_1156 (by decide) ?_
      exact Z.widen (by omega) (by omega) (kk _ _ _ _ _ _ _ _ _ _ _ _ _ _ _ _ _ _ _ _ _ _ _ _ _ _ _ _ _ _ _ rr ⟨rfl, rfl, rfl, rfl, rfl, rfl, rfl, rfl, rfl, rfl⟩)
