/-! ===== the arms of the law, 2 ===== -/
theorem RH_cg {M : Int → Int → Int} {w : Int} {f g hf : Int → Int} (h : RH (zrow M w f) hf) (hg : ∀ s : Nat, s ≤ 8 → g s = f s) : RH (zrow M w g) hf := by
  intro v s v0 v1 s0 s1
  have q := h v s v0 v1 s0 s1
  by_cases e : v = w
  · subst e
    rw [zrow_eq] at q ⊢
    have := hg s.toNat (by omega)
    rw [Int.toNat_of_nonneg s0] at this
    rw [this]; exact q
  · rw [zrow_ne _ _ e] at q ⊢; exact q
def balB (q : Int × Int × Int) : Prop := (0 ≤ q.2.1 ∧ q.2.1 ≤ 99) ∧ (0 ≤ q.2.2 ∧ q.2.2 ≤ 8)
theorem balIn_B {M : Int → Int → Int} {L Mo : Int} {k : Nat} (hk : k ≤ 99) {q : Int × Int × Int} (h : balB q) : ∀ s : Nat, s ≤ 9 → balB (balIn M L Mo k q s)
  | 0, _ => h
  | s + 1, hs => by
    have ih := balIn_B (M := M) (L := L) (Mo := Mo) hk h s (by omega)
    simp only [balIn, balStep]
    split
    · refine ⟨⟨?_, ?_⟩, ?_, ?_⟩ <;> dsimp only <;> omega
    · exact ih
theorem balOut_B {M : Int → Int → Int} {L Mo : Int} {q : Int × Int × Int} (h : balB q) : ∀ n : Nat, n ≤ 100 → balB (balOut M L Mo q n)
  | 0, _ => h
  | n + 1, hn => by
    simp only [balOut]
    exact balIn_B (by omega) (balOut_B h n (by omega)) 9 (by omega)
section ARMS2
variable {p : Program} {l : Launch} {e : Env} {s : State} {m : MethodId} {args : Array Value} {below : List Frame} {meth : Method} {c : Code} {A : Nat → Prop} {D : va_G} {Q : State → Prop} {cells slots : Nat} {ws : va_W} {cI cJ cL : ClassId} {b L fb mdl o : Nat} {xs : Nat → Int32} {k : Int}
set_option maxHeartbeats 4000000 in
set_option maxRecDepth 100000 in
theorem arm_fair (C : Cx p s m args meth c 7 A D cI cJ cL cL_law wsL_law RL) (hl0 : l.stackTraces = false) (hX : va_X b L xs s s.heap) (hbl : b < s.heap.size) (hbA : ¬ A b) (hL : L ≤ 2048) (k0 : 0 ≤ k) (k1 : k + 4 ≤ L) (hc : cells + 4 ≤ 601024) (hs : slots + 24 ≤ 7293034) (hW : LWp fb mdl o cI cJ cL ws) (kk : ∀ ws' : va_W, LWp fb mdl o cI cJ cL ws' → Z p l e room_1 s m args below meth c 7 A D Q (cells + 4) (slots + 24) ws' [.ref b, .ref fb, .ref mdl, .ref o, .int (iI k), .null, .null] 1264 []) : Z p l e room_1 s m args below meth c 7 A D Q cells slots ws [.ref b, .ref fb, .ref mdl, .ref o, .int (iI k), .null, .null] 340 [] := by
  obtain ⟨adX, adM, M, B, lo, ch, wt, sn, vo, mo, le, ln, od, fe, se, td, th, cnt, bw, bs, pl, tk, tc, sill, day, lau, hf, at_, wg, lf, cf, dy, ti, bh, ln2, thr, v, rfl, rfl, r, rfl⟩ := hW
  obtain ⟨x1, hx1, e1⟩ : ∃ x : Int, inr x ∧ (xs (k + 1).toNat).toInt = x := ⟨_, inr_of _, rfl⟩
  obtain ⟨x2, hx2, e2⟩ : ∃ x : Int, inr x ∧ (xs (k + 2).toNat).toInt = x := ⟨_, inr_of _, rfl⟩
  have htc : 0 ≤ tcFair x1 x2 lau ∧ tcFair x1 x2 lau ≤ 3 := by unfold tcFair; (repeat' split) <;> omega
  refine Z.aload_n C dL_law_340 rfl ?_
  refine Z.aload_n C dL_law_341 rfl ?_
  refine Z.iload C dL_law_342 rfl ?_
  refine Z.iconst C dL_law_344 ?_
  refine Z.iadd C dL_law_345 ?_
  refine Z.sld C hX hbl hbA (by omega) (by omega) hL dL_law_346 ?_
  rw [e1]
  refine Z.aload_n C dL_law_347 rfl ?_
  refine Z.iload C dL_law_348 rfl ?_
  refine Z.iconst C dL_law_350 ?_
  refine Z.iadd C dL_law_351 ?_
  refine Z.sld C hX hbl hbA (by omega) (by omega) hL dL_law_352 ?_
  rw [e2]
  refine Z.aload_n C dL_law_353 rfl ?_
  refine Z.xSXIf (R := room_1) C (wr := wM adM cI hf at_ wg lf cf dy ti bh ln2 thr cnt pl tc sill day lau) 4 (h_fair l D cI cJ cL adX M B lo ch wt sn vo mo le ln od fe se td th cnt bw bs pl tk tc sill day lau hl0 r.hM r.hB r.i0 x1 x2 hx1 hx2 o v) gL_law_L_fair rfl rfl rfl (by decide +kernel) ⟨Nat.le_of_ble_eq_true rfl, Nat.le_of_ble_eq_true rfl⟩ rfl rfl (Nat.le_of_ble_eq_true rfl) ⟨by show cells + 3 ≤ 601024; omega, by show slots + 18 ≤ 7293034; omega⟩ dL_law_354 (fun r1 w1 h1 => ?_) (fun E w1 hE => hE.elim)
  refine Z.istore C dL_law_357 (by decide) ?_
  rcases h1 with ⟨E, u, ⟨hu, hE⟩, hm, rfl⟩ | ⟨rfl, v1, u, ⟨hq, hv, hu⟩, rfl⟩
  · subst hu
    have hq := exO_r hE hm
    refine Z.aload_n C dL_law_359 rfl ?_
    refine Z.aload_n C dL_law_360 rfl ?_
    refine Z.iload C dL_law_361 rfl ?_
    refine Z.iconst C dL_law_363 ?_
    refine Z.iadd C dL_law_364 ?_
    refine Z.sld C hX hbl hbA (by omega) (by omega) hL dL_law_365 ?_
    rw [e1]
    refine Z.aload_n C dL_law_366 rfl ?_
    refine Z.iload C dL_law_367 rfl ?_
    refine Z.iconst C dL_law_369 ?_
    refine Z.iadd C dL_law_370 ?_
    refine Z.sld C hX hbl hbA (by omega) (by omega) hL dL_law_371 ?_
    rw [e2]
    refine Z.swap ?_
    refine Z.cVIf (R := room_1) C (wr := (o, oE cL v) :: wX adX cI cJ M B lo ch wt sn vo mo le ln od fe se td th cnt bw bs pl tk tc sill day lau) (wc := wM adM cI hf at_ wg lf cf dy ti bh ln2 thr cnt pl tc sill day lau) 0 2 (m_fair l D cI cJ cL adM hf at_ wg lf cf dy ti bh ln2 thr cnt pl tc sill day lau M r.hM r.rh r.i0 x1 x2 hx1 hx2) rfl rfl gL_law_X7_fair rfl rfl rfl (by decide +kernel) ⟨Nat.le_of_ble_eq_true rfl, Nat.le_of_ble_eq_true rfl⟩ rfl rfl (Nat.le_of_ble_eq_true rfl) ⟨by show cells + 3 ≤ 601024; omega, by show slots + 18 ≤ 7293034; omega⟩ dL_law_372 (fun r2 w2 h2 => ?_)
    refine Z.istore C dL_law_375 (by decide) ?_
    obtain ⟨hz, rfl⟩ := h2.resolve_right (fun h => by have := h.1; omega)
    refine Z.aload_n C dL_law_377 rfl ?_
    refine Z.cVIf (R := room_1) C (wr := (o, oE cL v) :: wX adX cI cJ M B lo ch wt sn vo mo le ln od fe se td th cnt bw bs pl tk tc sill day lau) (wc := wM adM cI hf at_ wg lf cf dy ti bh ln2 (tcFair x1 x2 lau) cnt pl tc sill day lau) 0 0 (m_thrown l D cI cJ cL adM hf at_ wg lf cf dy ti bh ln2 (tcFair x1 x2 lau) cnt pl tc sill day lau) rfl rfl gL_law_X7_thrown rfl rfl rfl (by decide +kernel) ⟨Nat.le_of_ble_eq_true rfl, Nat.le_of_ble_eq_true rfl⟩ rfl rfl (Nat.le_of_ble_eq_true rfl) ⟨by show cells + 3 ≤ 601024; omega, by show slots + 18 ≤ 7293034; omega⟩ dL_law_378 (fun r3 w3 h3 => ?_)
    obtain ⟨rfl, rfl⟩ := h3
    refine Z.iload C dL_law_381 rfl ?_
    refine Z.icmpeq C 388 dL_law_383 (by decide) ⟨by omega, by omega⟩ ⟨by omega, by omega⟩ (fun hcmp => ?_) (fun hcmp => absurd (by omega) hcmp)
    refine Z.iload C dL_law_388 rfl ?_
    refine Z.ifne C 405 dL_law_390 (by decide) ⟨by omega, by omega⟩ (fun hcmp => ?_) (fun hcmp => absurd hcmp (by omega))
    refine Z.goto C 1264 dL_law_405 (by decide) ?_
    refine Z.swap ?_
    refine Z.widen (k := cells + 4) (n := slots + 24) (by omega) (by omega) ?_
    refine Z.lvw (lv' := [.ref b, .ref (adX 0), .ref (adM 0), .ref o, .int (iI k), .null, .null]) (fun i v9 h9 hne => lv7 i v9 h9 hne) ?_
    exact kk _ ⟨adX, adM, M, B, lo, ch, wt, sn, vo, mo, le, ln, od, fe, se, td, th, cnt, bw, bs, pl, tk, tc, sill, day, lau, hf, at_, wg, lf, cf, dy, ti, bh, ln2, tcFair x1 x2 lau, _, rfl, rfl, r, rfl⟩
  · obtain ⟨B1, lo1, ch1, f1, g1, g2, g3, rfl⟩ := hu
    refine Z.aload_n C dL_law_359 rfl ?_
    refine Z.aload_n C dL_law_360 rfl ?_
    refine Z.iload C dL_law_361 rfl ?_
    refine Z.iconst C dL_law_363 ?_
    refine Z.iadd C dL_law_364 ?_
    refine Z.sld C hX hbl hbA (by omega) (by omega) hL dL_law_365 ?_
    rw [e1]
    refine Z.aload_n C dL_law_366 rfl ?_
    refine Z.iload C dL_law_367 rfl ?_
    refine Z.iconst C dL_law_369 ?_
    refine Z.iadd C dL_law_370 ?_
    refine Z.sld C hX hbl hbA (by omega) (by omega) hL dL_law_371 ?_
    rw [e2]
    refine Z.swap ?_
    refine Z.cVIf (R := room_1) C (wr := (o, oE cL v1) :: wX adX cI cJ (zrow M x1 f1) B1 lo1 ch1 wt sn vo mo le ln od fe se td th cnt bw bs pl tk tc sill day lau) (wc := wM adM cI hf at_ wg lf cf dy ti bh ln2 thr cnt pl tc sill day lau) 0 2 (m_fair l D cI cJ cL adM hf at_ wg lf cf dy ti bh ln2 thr cnt pl tc sill day lau M r.hM r.rh r.i0 x1 x2 hx1 hx2) rfl rfl gL_law_X7_fair rfl rfl rfl (by decide +kernel) ⟨Nat.le_of_ble_eq_true rfl, Nat.le_of_ble_eq_true rfl⟩ rfl rfl (Nat.le_of_ble_eq_true rfl) ⟨by show cells + 3 ≤ 601024; omega, by show slots + 18 ≤ 7293034; omega⟩ dL_law_372 (fun r2 w2 h2 => ?_)
    refine Z.istore C dL_law_375 (by decide) ?_
    obtain ⟨hz, hr2, hf1, bh1, ln1, hRH, rfl⟩ := h2.resolve_left (fun h => h.1 hq)
    refine Z.aload_n C dL_law_377 rfl ?_
    refine Z.cVIf (R := room_1) C (wr := (o, oE cL v1) :: wX adX cI cJ (zrow M x1 f1) B1 lo1 ch1 wt sn vo mo le ln od fe se td th cnt bw bs pl tk tc sill day lau) (wc := wM adM cI hf1 at_ wg lf cf dy ti bh1 ln1 0 cnt pl tc sill day lau) 0 0 (m_thrown l D cI cJ cL adM hf1 at_ wg lf cf dy ti bh1 ln1 0 cnt pl tc sill day lau) rfl rfl gL_law_X7_thrown rfl rfl rfl (by decide +kernel) ⟨Nat.le_of_ble_eq_true rfl, Nat.le_of_ble_eq_true rfl⟩ rfl rfl (Nat.le_of_ble_eq_true rfl) ⟨by show cells + 3 ≤ 601024; omega, by show slots + 18 ≤ 7293034; omega⟩ dL_law_378 (fun r3 w3 h3 => ?_)
    obtain ⟨rfl, rfl⟩ := h3
    refine Z.iload C dL_law_381 rfl ?_
    refine Z.icmpeq C 388 dL_law_383 (by decide) ⟨by omega, by omega⟩ ⟨by omega, by omega⟩ (fun hcmp => ?_) (fun hcmp => absurd (by omega) hcmp)
    refine Z.iload C dL_law_388 rfl ?_
    refine Z.ifne C 405 dL_law_390 (by decide) ⟨by omega, by omega⟩ (fun hcmp => absurd rfl hcmp) (fun hcmp => ?_)
    refine Z.aload_n C dL_law_393 rfl ?_
    refine Z.iconst C dL_law_394 ?_
    refine Z.laldO C 0 rfl dL_law_395 ?_
    refine Z.iload C dL_law_396 rfl ?_
    refine Z.i2l C dL_law_398 ?_
    rw [hv, hr2]
    refine Z.lcmpE C dL_law_399 ?_
    refine Z.ifeq C 405 dL_law_400 (by decide) ⟨by decide, by decide⟩ (fun hcmp => ?_) (fun hcmp => absurd rfl hcmp)
    refine Z.goto C 1264 dL_law_405 (by decide) ?_
    refine Z.swap ?_
    refine Z.widen (k := cells + 4) (n := slots + 24) (by omega) (by omega) ?_
    refine Z.lvw (lv' := [.ref b, .ref (adX 0), .ref (adM 0), .ref o, .int (iI k), .null, .null]) (fun i v9 h9 hne => lv7 i v9 h9 hne) ?_
    exact kk _ ⟨adX, adM, zrow M x1 f1, B1, lo1, ch1, wt, sn, vo, mo, le, ln, od, fe, se, td, th, cnt, bw, bs, pl, tk, tc, sill, day, lau, hf1, at_, wg, lf, cf, dy, ti, bh1, ln1, 0, _, rfl, rfl, ⟨RH_cg hRH g3, hOK_row r.hM g2, g1, r.c0, r.c1, r.en, r.wa, r.w0, r.gb, r.ab, r.wk, r.b0, r.b1, r.s0, r.s1, r.el, r.p0, r.p1, r.et, r.t0, r.t1, r.ta, r.hu, r.td0, r.dy0, r.th0, r.ti0, r.es, r.l0, r.l1, r.ed, r.d0, r.d1, r.ei, r.i0⟩, rfl⟩
set_option maxHeartbeats 4000000 in
set_option maxRecDepth 100000 in
theorem arm_sill (C : Cx p s m args meth c 7 A D cI cJ cL cL_law wsL_law RL) (hl0 : l.stackTraces = false) (hX : va_X b L xs s s.heap) (hbl : b < s.heap.size) (hbA : ¬ A b) (hL : L ≤ 2048) (k0 : 0 ≤ k) (k1 : k + 4 ≤ L) (hc : cells + 4 ≤ 601024) (hs : slots + 24 ≤ 7293034) (hW : LWp fb mdl o cI cJ cL ws) (kk : ∀ ws' : va_W, LWp fb mdl o cI cJ cL ws' → Z p l e room_1 s m args below meth c 7 A D Q (cells + 4) (slots + 24) ws' [.ref b, .ref fb, .ref mdl, .ref o, .int (iI k), .null, .null] 1264 []) : Z p l e room_1 s m args below meth c 7 A D Q cells slots ws [.ref b, .ref fb, .ref mdl, .ref o, .int (iI k), .null, .null] 1082 [] := by
  obtain ⟨adX, adM, M, B, lo, ch, wt, sn, vo, mo, le, ln, od, fe, se, td, th, cnt, bw, bs, pl, tk, tc, sill, day, lau, hf, at_, wg, lf, cf, dy, ti, bh, ln2, thr, v, rfl, rfl, r, rfl⟩ := hW
  obtain ⟨x1, hx1, e1⟩ : ∃ x : Int, inr x ∧ (xs (k + 1).toNat).toInt = x := ⟨_, inr_of _, rfl⟩
  refine Z.aload_n C dL_law_1082 rfl ?_
  refine Z.aload_n C dL_law_1083 rfl ?_
  refine Z.iload C dL_law_1084 rfl ?_
  refine Z.iconst C dL_law_1086 ?_
  refine Z.iadd C dL_law_1087 ?_
  refine Z.sld C hX hbl hbA (by omega) (by omega) hL dL_law_1088 ?_
  rw [e1]
  refine Z.aload_n C dL_law_1089 rfl ?_
  refine Z.xSXIf (R := room_1) C (wr := wM adM cI hf at_ wg lf cf dy ti bh ln2 thr cnt pl tc sill day lau) 3 (h_sill l D cI cJ cL adX M B lo ch wt sn vo mo le ln od fe se td th cnt bw bs pl tk tc sill day lau hl0 x1 hx1 o v) gL_law_L_sill rfl rfl rfl (by decide +kernel) ⟨Nat.le_of_ble_eq_true rfl, Nat.le_of_ble_eq_true rfl⟩ rfl rfl (Nat.le_of_ble_eq_true rfl) ⟨by show cells + 1 ≤ 601024; omega, by show slots + 6 ≤ 7293034; omega⟩ dL_law_1090 (fun r1 w1 h1 => ?_) (fun E w1 hE => hE.elim)
  refine Z.istore C dL_law_1093 (by decide) ?_
  rcases h1 with ⟨E, u, ⟨hu, hE⟩, hm, rfl⟩ | ⟨rfl, v1, u, ⟨hq, hv, hu⟩, rfl⟩
  · subst hu
    have hq := ex1_r hE hm
    refine Z.aload_n C dL_law_1095 rfl ?_
    refine Z.aload_n C dL_law_1096 rfl ?_
    refine Z.iload C dL_law_1097 rfl ?_
    refine Z.iconst C dL_law_1099 ?_
    refine Z.iadd C dL_law_1100 ?_
    refine Z.sld C hX hbl hbA (by omega) (by omega) hL dL_law_1101 ?_
    rw [e1]
    refine Z.swap ?_
    refine Z.cVIf (R := room_1) C (wr := (o, oE cL v) :: wX adX cI cJ M B lo ch wt sn vo mo le ln od fe se td th cnt bw bs pl tk tc sill day lau) (wc := wM adM cI hf at_ wg lf cf dy ti bh ln2 thr cnt pl tc sill day lau) 0 1 (m_sill l D cI cJ cL adM hf at_ wg lf cf dy ti bh ln2 thr cnt pl tc sill day lau x1 hx1) rfl rfl gL_law_X7_sill rfl rfl rfl (by decide +kernel) ⟨Nat.le_of_ble_eq_true rfl, Nat.le_of_ble_eq_true rfl⟩ rfl rfl (Nat.le_of_ble_eq_true rfl) ⟨by show cells + 1 ≤ 601024; omega, by show slots + 6 ≤ 7293034; omega⟩ dL_law_1102 (fun r2 w2 h2 => ?_)
    refine Z.istore C dL_law_1105 (by decide) ?_
    obtain ⟨hz, rfl⟩ := h2.resolve_right (fun h => hq.2 h.1)
    refine Z.aload_n C dL_law_1107 rfl ?_
    refine Z.cVIf (R := room_1) C (wr := (o, oE cL v) :: wX adX cI cJ M B lo ch wt sn vo mo le ln od fe se td th cnt bw bs pl tk tc sill day lau) (wc := wM adM cI hf at_ wg lf cf dy ti bh ln2 1 cnt pl tc sill day lau) 0 0 (m_thrown l D cI cJ cL adM hf at_ wg lf cf dy ti bh ln2 1 cnt pl tc sill day lau) rfl rfl gL_law_X7_thrown rfl rfl rfl (by decide +kernel) ⟨Nat.le_of_ble_eq_true rfl, Nat.le_of_ble_eq_true rfl⟩ rfl rfl (Nat.le_of_ble_eq_true rfl) ⟨by show cells + 1 ≤ 601024; omega, by show slots + 6 ≤ 7293034; omega⟩ dL_law_1108 (fun r3 w3 h3 => ?_)
    obtain ⟨rfl, rfl⟩ := h3
    refine Z.iload C dL_law_1111 rfl ?_
    refine Z.icmpeq C 1118 dL_law_1113 (by decide) ⟨by omega, by omega⟩ ⟨by omega, by omega⟩ (fun hcmp => ?_) (fun hcmp => absurd (by omega) hcmp)
    refine Z.iload C dL_law_1118 rfl ?_
    refine Z.ifne C 1135 dL_law_1120 (by decide) ⟨by omega, by omega⟩ (fun hcmp => ?_) (fun hcmp => absurd hcmp (by omega))
    refine Z.goto C 1264 dL_law_1135 (by decide) ?_
    refine Z.swap ?_
    refine Z.widen (k := cells + 4) (n := slots + 24) (by omega) (by omega) ?_
    refine Z.lvw (lv' := [.ref b, .ref (adX 0), .ref (adM 0), .ref o, .int (iI k), .null, .null]) (fun i v9 h9 hne => lv7 i v9 h9 hne) ?_
    exact kk _ ⟨adX, adM, M, B, lo, ch, wt, sn, vo, mo, le, ln, od, fe, se, td, th, cnt, bw, bs, pl, tk, tc, sill, day, lau, hf, at_, wg, lf, cf, dy, ti, bh, ln2, 1, _, rfl, rfl, r, rfl⟩
  · subst hu
    refine Z.aload_n C dL_law_1095 rfl ?_
    refine Z.aload_n C dL_law_1096 rfl ?_
    refine Z.iload C dL_law_1097 rfl ?_
    refine Z.iconst C dL_law_1099 ?_
    refine Z.iadd C dL_law_1100 ?_
    refine Z.sld C hX hbl hbA (by omega) (by omega) hL dL_law_1101 ?_
    rw [e1]
    refine Z.swap ?_
    refine Z.cVIf (R := room_1) C (wr := (o, oE cL v1) :: wX adX cI cJ M B lo ch wt sn vo mo le ln od fe se td th cnt bw bs pl tk tc x1 day lau) (wc := wM adM cI hf at_ wg lf cf dy ti bh ln2 thr cnt pl tc sill day lau) 0 1 (m_sill l D cI cJ cL adM hf at_ wg lf cf dy ti bh ln2 thr cnt pl tc sill day lau x1 hx1) rfl rfl gL_law_X7_sill rfl rfl rfl (by decide +kernel) ⟨Nat.le_of_ble_eq_true rfl, Nat.le_of_ble_eq_true rfl⟩ rfl rfl (Nat.le_of_ble_eq_true rfl) ⟨by show cells + 1 ≤ 601024; omega, by show slots + 6 ≤ 7293034; omega⟩ dL_law_1102 (fun r2 w2 h2 => ?_)
    refine Z.istore C dL_law_1105 (by decide) ?_
    obtain ⟨hz, hr2, rfl⟩ := h2.resolve_left (fun h => h.1 hq)
    refine Z.aload_n C dL_law_1107 rfl ?_
    refine Z.cVIf (R := room_1) C (wr := (o, oE cL v1) :: wX adX cI cJ M B lo ch wt sn vo mo le ln od fe se td th cnt bw bs pl tk tc x1 day lau) (wc := wM adM cI hf at_ wg lf cf dy ti bh ln2 0 cnt pl tc x1 day lau) 0 0 (m_thrown l D cI cJ cL adM hf at_ wg lf cf dy ti bh ln2 0 cnt pl tc x1 day lau) rfl rfl gL_law_X7_thrown rfl rfl rfl (by decide +kernel) ⟨Nat.le_of_ble_eq_true rfl, Nat.le_of_ble_eq_true rfl⟩ rfl rfl (Nat.le_of_ble_eq_true rfl) ⟨by show cells + 1 ≤ 601024; omega, by show slots + 6 ≤ 7293034; omega⟩ dL_law_1108 (fun r3 w3 h3 => ?_)
    obtain ⟨rfl, rfl⟩ := h3
    refine Z.iload C dL_law_1111 rfl ?_
    refine Z.icmpeq C 1118 dL_law_1113 (by decide) ⟨by omega, by omega⟩ ⟨by omega, by omega⟩ (fun hcmp => ?_) (fun hcmp => absurd (by omega) hcmp)
    refine Z.iload C dL_law_1118 rfl ?_
    refine Z.ifne C 1135 dL_law_1120 (by decide) ⟨by omega, by omega⟩ (fun hcmp => absurd rfl hcmp) (fun hcmp => ?_)
    refine Z.aload_n C dL_law_1123 rfl ?_
    refine Z.iconst C dL_law_1124 ?_
    refine Z.laldO C 0 rfl dL_law_1125 ?_
    refine Z.iload C dL_law_1126 rfl ?_
    refine Z.i2l C dL_law_1128 ?_
    rw [hv, hr2]
    refine Z.lcmpE C dL_law_1129 ?_
    refine Z.ifeq C 1135 dL_law_1130 (by decide) ⟨by decide, by decide⟩ (fun hcmp => ?_) (fun hcmp => absurd rfl hcmp)
    refine Z.goto C 1264 dL_law_1135 (by decide) ?_
    refine Z.swap ?_
    refine Z.widen (k := cells + 4) (n := slots + 24) (by omega) (by omega) ?_
    refine Z.lvw (lv' := [.ref b, .ref (adX 0), .ref (adM 0), .ref o, .int (iI k), .null, .null]) (fun i v9 h9 hne => lv7 i v9 h9 hne) ?_
    exact kk _ ⟨adX, adM, M, B, lo, ch, wt, sn, vo, mo, le, ln, od, fe, se, td, th, cnt, bw, bs, pl, tk, tc, x1, day, lau, hf, at_, wg, lf, cf, dy, ti, bh, ln2, 0, _, rfl, rfl, ⟨r.rh, r.hM, r.hB, r.c0, r.c1, r.en, r.wa, r.w0, r.gb, r.ab, r.wk, r.b0, r.b1, r.s0, r.s1, r.el, r.p0, r.p1, r.et, r.t0, r.t1, r.ta, r.hu, r.td0, r.dy0, r.th0, r.ti0, rfl, hq.1, hq.2, r.ed, r.d0, r.d1, r.ei, r.i0⟩, rfl⟩
set_option maxHeartbeats 4000000 in
set_option maxRecDepth 100000 in
theorem arm_planks (C : Cx p s m args meth c 7 A D cI cJ cL cL_law wsL_law RL) (hl0 : l.stackTraces = false) (hX : va_X b L xs s s.heap) (hbl : b < s.heap.size) (hbA : ¬ A b) (hL : L ≤ 2048) (k0 : 0 ≤ k) (k1 : k + 4 ≤ L) (hc : cells + 4 ≤ 601024) (hs : slots + 24 ≤ 7293034) (hW : LWp fb mdl o cI cJ cL ws) (kk : ∀ ws' : va_W, LWp fb mdl o cI cJ cL ws' → Z p l e room_1 s m args below meth c 7 A D Q (cells + 4) (slots + 24) ws' [.ref b, .ref fb, .ref mdl, .ref o, .int (iI k), .null, .null] 1264 []) : Z p l e room_1 s m args below meth c 7 A D Q cells slots ws [.ref b, .ref fb, .ref mdl, .ref o, .int (iI k), .null, .null] 874 [] := by
  obtain ⟨adX, adM, M, B, lo, ch, wt, sn, vo, mo, le, ln, od, fe, se, td, th, cnt, bw, bs, pl, tk, tc, sill, day, lau, hf, at_, wg, lf, cf, dy, ti, bh, ln2, thr, v, rfl, rfl, r, rfl⟩ := hW
  obtain ⟨x1, hx1, e1⟩ : ∃ x : Int, inr x ∧ (xs (k + 1).toNat).toInt = x := ⟨_, inr_of _, rfl⟩
  refine Z.aload_n C dL_law_874 rfl ?_
  refine Z.aload_n C dL_law_875 rfl ?_
  refine Z.iload C dL_law_876 rfl ?_
  refine Z.iconst C dL_law_878 ?_
  refine Z.iadd C dL_law_879 ?_
  refine Z.sld C hX hbl hbA (by omega) (by omega) hL dL_law_880 ?_
  rw [e1]
  refine Z.aload_n C dL_law_881 rfl ?_
  refine Z.xSXIf (R := room_1) C (wr := wM adM cI hf at_ wg lf cf dy ti bh ln2 thr cnt pl tc sill day lau) 3 (h_planks l D cI cJ cL adX M B lo ch wt sn vo mo le ln od fe se td th cnt bw bs pl tk tc sill day lau hl0 r.hM x1 hx1 o v) gL_law_L_planks rfl rfl rfl (by decide +kernel) ⟨Nat.le_of_ble_eq_true rfl, Nat.le_of_ble_eq_true rfl⟩ rfl rfl (Nat.le_of_ble_eq_true rfl) ⟨by show cells + 1 ≤ 601024; omega, by show slots + 6 ≤ 7293034; omega⟩ dL_law_882 (fun r1 w1 h1 => ?_) (fun E w1 hE => hE.elim)
  refine Z.istore C dL_law_885 (by decide) ?_
  rcases h1 with ⟨E, u, ⟨hu, hE⟩, hm, rfl⟩ | ⟨rfl, v1, u, ⟨hq, hv, hu⟩, rfl⟩
  · subst hu
    have hq := ex1_r hE hm
    refine Z.aload_n C dL_law_887 rfl ?_
    refine Z.aload_n C dL_law_888 rfl ?_
    refine Z.iload C dL_law_889 rfl ?_
    refine Z.iconst C dL_law_891 ?_
    refine Z.iadd C dL_law_892 ?_
    refine Z.sld C hX hbl hbA (by omega) (by omega) hL dL_law_893 ?_
    rw [e1]
    refine Z.swap ?_
    refine Z.cVIf (R := room_1) C (wr := (o, oE cL v) :: wX adX cI cJ M B lo ch wt sn vo mo le ln od fe se td th cnt bw bs pl tk tc sill day lau) (wc := wM adM cI hf at_ wg lf cf dy ti bh ln2 thr cnt pl tc sill day lau) 0 1 (m_planks l D cI cJ cL adM hf at_ wg lf cf dy ti bh ln2 thr cnt pl tc sill day lau M r.hM r.rh x1 hx1) rfl rfl gL_law_X7_planks rfl rfl rfl (by decide +kernel) ⟨Nat.le_of_ble_eq_true rfl, Nat.le_of_ble_eq_true rfl⟩ rfl rfl (Nat.le_of_ble_eq_true rfl) ⟨by show cells + 1 ≤ 601024; omega, by show slots + 6 ≤ 7293034; omega⟩ dL_law_894 (fun r2 w2 h2 => ?_)
    refine Z.istore C dL_law_897 (by decide) ?_
    obtain ⟨hz, rfl⟩ := h2.resolve_right (fun h => hq.2 h.1)
    refine Z.aload_n C dL_law_899 rfl ?_
    refine Z.cVIf (R := room_1) C (wr := (o, oE cL v) :: wX adX cI cJ M B lo ch wt sn vo mo le ln od fe se td th cnt bw bs pl tk tc sill day lau) (wc := wM adM cI hf at_ wg lf cf dy ti bh ln2 1 cnt pl tc sill day lau) 0 0 (m_thrown l D cI cJ cL adM hf at_ wg lf cf dy ti bh ln2 1 cnt pl tc sill day lau) rfl rfl gL_law_X7_thrown rfl rfl rfl (by decide +kernel) ⟨Nat.le_of_ble_eq_true rfl, Nat.le_of_ble_eq_true rfl⟩ rfl rfl (Nat.le_of_ble_eq_true rfl) ⟨by show cells + 1 ≤ 601024; omega, by show slots + 6 ≤ 7293034; omega⟩ dL_law_900 (fun r3 w3 h3 => ?_)
    obtain ⟨rfl, rfl⟩ := h3
    refine Z.iload C dL_law_903 rfl ?_
    refine Z.icmpeq C 910 dL_law_905 (by decide) ⟨by omega, by omega⟩ ⟨by omega, by omega⟩ (fun hcmp => ?_) (fun hcmp => absurd (by omega) hcmp)
    refine Z.iload C dL_law_910 rfl ?_
    refine Z.ifne C 927 dL_law_912 (by decide) ⟨by omega, by omega⟩ (fun hcmp => ?_) (fun hcmp => absurd hcmp (by omega))
    refine Z.goto C 1264 dL_law_927 (by decide) ?_
    refine Z.swap ?_
    refine Z.widen (k := cells + 4) (n := slots + 24) (by omega) (by omega) ?_
    refine Z.lvw (lv' := [.ref b, .ref (adX 0), .ref (adM 0), .ref o, .int (iI k), .null, .null]) (fun i v9 h9 hne => lv7 i v9 h9 hne) ?_
    exact kk _ ⟨adX, adM, M, B, lo, ch, wt, sn, vo, mo, le, ln, od, fe, se, td, th, cnt, bw, bs, pl, tk, tc, sill, day, lau, hf, at_, wg, lf, cf, dy, ti, bh, ln2, 1, _, rfl, rfl, r, rfl⟩
  · obtain ⟨le1, ln1, od1, fe1, se1, tk1, rfl⟩ := hu
    refine Z.aload_n C dL_law_887 rfl ?_
    refine Z.aload_n C dL_law_888 rfl ?_
    refine Z.iload C dL_law_889 rfl ?_
    refine Z.iconst C dL_law_891 ?_
    refine Z.iadd C dL_law_892 ?_
    refine Z.sld C hX hbl hbA (by omega) (by omega) hL dL_law_893 ?_
    rw [e1]
    refine Z.swap ?_
    refine Z.cVIf (R := room_1) C (wr := (o, oE cL v1) :: wX adX cI cJ M B lo ch wt sn vo mo le1 ln1 od1 fe1 se1 td th cnt bw bs x1 tk1 tc sill day lau) (wc := wM adM cI hf at_ wg lf cf dy ti bh ln2 thr cnt pl tc sill day lau) 0 1 (m_planks l D cI cJ cL adM hf at_ wg lf cf dy ti bh ln2 thr cnt pl tc sill day lau M r.hM r.rh x1 hx1) rfl rfl gL_law_X7_planks rfl rfl rfl (by decide +kernel) ⟨Nat.le_of_ble_eq_true rfl, Nat.le_of_ble_eq_true rfl⟩ rfl rfl (Nat.le_of_ble_eq_true rfl) ⟨by show cells + 1 ≤ 601024; omega, by show slots + 6 ≤ 7293034; omega⟩ dL_law_894 (fun r2 w2 h2 => ?_)
    refine Z.istore C dL_law_897 (by decide) ?_
    obtain ⟨hz, hr2, lf1, cf1, rfl⟩ := h2.resolve_left (fun h => h.1 hq)
    refine Z.aload_n C dL_law_899 rfl ?_
    refine Z.cVIf (R := room_1) C (wr := (o, oE cL v1) :: wX adX cI cJ M B lo ch wt sn vo mo le1 ln1 od1 fe1 se1 td th cnt bw bs x1 tk1 tc sill day lau) (wc := wM adM cI hf at_ wg lf1 cf1 dy ti bh ln2 0 cnt x1 tc sill day lau) 0 0 (m_thrown l D cI cJ cL adM hf at_ wg lf1 cf1 dy ti bh ln2 0 cnt x1 tc sill day lau) rfl rfl gL_law_X7_thrown rfl rfl rfl (by decide +kernel) ⟨Nat.le_of_ble_eq_true rfl, Nat.le_of_ble_eq_true rfl⟩ rfl rfl (Nat.le_of_ble_eq_true rfl) ⟨by show cells + 1 ≤ 601024; omega, by show slots + 6 ≤ 7293034; omega⟩ dL_law_900 (fun r3 w3 h3 => ?_)
    obtain ⟨rfl, rfl⟩ := h3
    refine Z.iload C dL_law_903 rfl ?_
    refine Z.icmpeq C 910 dL_law_905 (by decide) ⟨by omega, by omega⟩ ⟨by omega, by omega⟩ (fun hcmp => ?_) (fun hcmp => absurd (by omega) hcmp)
    refine Z.iload C dL_law_910 rfl ?_
    refine Z.ifne C 927 dL_law_912 (by decide) ⟨by omega, by omega⟩ (fun hcmp => absurd rfl hcmp) (fun hcmp => ?_)
    refine Z.aload_n C dL_law_915 rfl ?_
    refine Z.iconst C dL_law_916 ?_
    refine Z.laldO C 0 rfl dL_law_917 ?_
    refine Z.iload C dL_law_918 rfl ?_
    refine Z.i2l C dL_law_920 ?_
    rw [hv, hr2]
    refine Z.lcmpE C dL_law_921 ?_
    refine Z.ifeq C 927 dL_law_922 (by decide) ⟨by decide, by decide⟩ (fun hcmp => ?_) (fun hcmp => absurd rfl hcmp)
    refine Z.goto C 1264 dL_law_927 (by decide) ?_
    refine Z.swap ?_
    refine Z.widen (k := cells + 4) (n := slots + 24) (by omega) (by omega) ?_
    refine Z.lvw (lv' := [.ref b, .ref (adX 0), .ref (adM 0), .ref o, .int (iI k), .null, .null]) (fun i v9 h9 hne => lv7 i v9 h9 hne) ?_
    exact kk _ ⟨adX, adM, M, B, lo, ch, wt, sn, vo, mo, le1, ln1, od1, fe1, se1, td, th, cnt, bw, bs, x1, tk1, tc, sill, day, lau, hf, at_, wg, lf1, cf1, dy, ti, bh, ln2, 0, _, rfl, rfl, ⟨r.rh, r.hM, r.hB, r.c0, r.c1, r.en, r.wa, r.w0, r.gb, r.ab, r.wk, r.b0, r.b1, r.s0, r.s1, rfl, hq.1, hq.2, r.et, r.t0, r.t1, r.ta, r.hu, r.td0, r.dy0, r.th0, r.ti0, r.es, r.l0, r.l1, r.ed, r.d0, r.d1, r.ei, r.i0⟩, rfl⟩
set_option maxHeartbeats 4000000 in
set_option maxRecDepth 100000 in
theorem arm_ballast (C : Cx p s m args meth c 7 A D cI cJ cL cL_law wsL_law RL) (hl0 : l.stackTraces = false) (hX : va_X b L xs s s.heap) (hbl : b < s.heap.size) (hbA : ¬ A b) (hL : L ≤ 2048) (k0 : 0 ≤ k) (k1 : k + 4 ≤ L) (hc : cells + 4 ≤ 601024) (hs : slots + 24 ≤ 7293034) (hW : LWp fb mdl o cI cJ cL ws) (kk : ∀ ws' : va_W, LWp fb mdl o cI cJ cL ws' → Z p l e room_1 s m args below meth c 7 A D Q (cells + 4) (slots + 24) ws' [.ref b, .ref fb, .ref mdl, .ref o, .int (iI k), .null, .null] 1264 []) : Z p l e room_1 s m args below meth c 7 A D Q cells slots ws [.ref b, .ref fb, .ref mdl, .ref o, .int (iI k), .null, .null] 736 [] := by
  obtain ⟨adX, adM, M, B, lo, ch, wt, sn, vo, mo, le, ln, od, fe, se, td, th, cnt, bw, bs, pl, tk, tc, sill, day, lau, hf, at_, wg, lf, cf, dy, ti, bh, ln2, thr, v, rfl, rfl, r, rfl⟩ := hW
  obtain ⟨x1, hx1, e1⟩ : ∃ x : Int, inr x ∧ (xs (k + 1).toNat).toInt = x := ⟨_, inr_of _, rfl⟩
  refine Z.aload_n C dL_law_736 rfl ?_
  refine Z.aload_n C dL_law_737 rfl ?_
  refine Z.iload C dL_law_738 rfl ?_
  refine Z.iconst C dL_law_740 ?_
  refine Z.iadd C dL_law_741 ?_
  refine Z.sld C hX hbl hbA (by omega) (by omega) hL dL_law_742 ?_
  rw [e1]
  refine Z.aload_n C dL_law_743 rfl ?_
  refine Z.xSXIf (R := room_1) C (wr := wM adM cI hf at_ wg lf cf dy ti bh ln2 thr cnt pl tc sill day lau) 3 (h_ballast l D cI cJ cL adX M B lo ch wt sn vo mo le ln od fe se td th cnt bw bs pl tk tc sill day lau hl0 r.hM r.wk r.c0 r.c1 x1 hx1 o v) gL_law_L_ballast rfl rfl rfl (by decide +kernel) ⟨Nat.le_of_ble_eq_true rfl, Nat.le_of_ble_eq_true rfl⟩ rfl rfl (Nat.le_of_ble_eq_true rfl) ⟨by show cells + 1 ≤ 601024; omega, by show slots + 6 ≤ 7293034; omega⟩ dL_law_744 (fun r1 w1 h1 => ?_) (fun E w1 hE => hE.elim)
  refine Z.istore C dL_law_747 (by decide) ?_
  rcases h1 with ⟨E, u, ⟨hu, hE⟩, hm, rfl⟩ | ⟨rfl, v1, u, ⟨hq, b1, c1, hbc, hv, vo1, mo1, hu⟩, rfl⟩
  · subst hu
    have hq := ex1_r hE hm
    refine Z.aload_n C dL_law_749 rfl ?_
    refine Z.aload_n C dL_law_750 rfl ?_
    refine Z.iload C dL_law_751 rfl ?_
    refine Z.iconst C dL_law_753 ?_
    refine Z.iadd C dL_law_754 ?_
    refine Z.sld C hX hbl hbA (by omega) (by omega) hL dL_law_755 ?_
    rw [e1]
    refine Z.swap ?_
    refine Z.cVIf (R := room_1) C (wr := (o, oE cL v) :: wX adX cI cJ M B lo ch wt sn vo mo le ln od fe se td th cnt bw bs pl tk tc sill day lau) (wc := wM adM cI hf at_ wg lf cf dy ti bh ln2 thr cnt pl tc sill day lau) 0 1 (m_ballast l D cI cJ cL adM hf at_ wg lf cf dy ti bh ln2 thr cnt pl tc sill day lau M r.hM r.rh (10 * sumZ wt cnt.toNat) (msZ wt sn cnt.toNat) r.L16 r.M16 r.bds.1 r.bds.2.1 r.bds.2.2.1 r.bds.2.2.2.1 x1 hx1) rfl rfl gL_law_X7_ballast rfl rfl rfl (by decide +kernel) ⟨Nat.le_of_ble_eq_true rfl, Nat.le_of_ble_eq_true rfl⟩ rfl rfl (Nat.le_of_ble_eq_true rfl) ⟨by show cells + 1 ≤ 601024; omega, by show slots + 6 ≤ 7293034; omega⟩ dL_law_756 (fun r2 w2 h2 => ?_)
    refine Z.istore C dL_law_759 (by decide) ?_
    obtain ⟨hz, rfl⟩ := h2.resolve_right (fun h => hq.2 h.1)
    refine Z.aload_n C dL_law_761 rfl ?_
    refine Z.cVIf (R := room_1) C (wr := (o, oE cL v) :: wX adX cI cJ M B lo ch wt sn vo mo le ln od fe se td th cnt bw bs pl tk tc sill day lau) (wc := wM adM cI hf at_ wg lf cf dy ti bh ln2 1 cnt pl tc sill day lau) 0 0 (m_thrown l D cI cJ cL adM hf at_ wg lf cf dy ti bh ln2 1 cnt pl tc sill day lau) rfl rfl gL_law_X7_thrown rfl rfl rfl (by decide +kernel) ⟨Nat.le_of_ble_eq_true rfl, Nat.le_of_ble_eq_true rfl⟩ rfl rfl (Nat.le_of_ble_eq_true rfl) ⟨by show cells + 1 ≤ 601024; omega, by show slots + 6 ≤ 7293034; omega⟩ dL_law_762 (fun r3 w3 h3 => ?_)
    obtain ⟨rfl, rfl⟩ := h3
    refine Z.iload C dL_law_765 rfl ?_
    refine Z.icmpeq C 772 dL_law_767 (by decide) ⟨by omega, by omega⟩ ⟨by omega, by omega⟩ (fun hcmp => ?_) (fun hcmp => absurd (by omega) hcmp)
    refine Z.iload C dL_law_772 rfl ?_
    refine Z.ifne C 789 dL_law_774 (by decide) ⟨by omega, by omega⟩ (fun hcmp => ?_) (fun hcmp => absurd hcmp (by omega))
    refine Z.goto C 1264 dL_law_789 (by decide) ?_
    refine Z.swap ?_
    refine Z.widen (k := cells + 4) (n := slots + 24) (by omega) (by omega) ?_
    refine Z.lvw (lv' := [.ref b, .ref (adX 0), .ref (adM 0), .ref o, .int (iI k), .null, .null]) (fun i v9 h9 hne => lv7 i v9 h9 hne) ?_
    exact kk _ ⟨adX, adM, M, B, lo, ch, wt, sn, vo, mo, le, ln, od, fe, se, td, th, cnt, bw, bs, pl, tk, tc, sill, day, lau, hf, at_, wg, lf, cf, dy, ti, bh, ln2, 1, _, rfl, rfl, r, rfl⟩
  · subst hu
    have hB9 : balB (balOut M (10 * sumZ wt cnt.toNat) (msZ wt sn cnt.toNat) (FAR, bw, bs) (x1.toNat + 1)) := balOut_B ⟨⟨r.b0, r.b1⟩, r.s0, r.s1⟩ _ (by omega)
    unfold balB at hB9
    rw [hbc] at hB9
    dsimp only at hB9
    refine Z.aload_n C dL_law_749 rfl ?_
    refine Z.aload_n C dL_law_750 rfl ?_
    refine Z.iload C dL_law_751 rfl ?_
    refine Z.iconst C dL_law_753 ?_
    refine Z.iadd C dL_law_754 ?_
    refine Z.sld C hX hbl hbA (by omega) (by omega) hL dL_law_755 ?_
    rw [e1]
    refine Z.swap ?_
    refine Z.cVIf (R := room_1) C (wr := (o, oE cL v1) :: wX adX cI cJ M B lo ch wt sn vo1 mo1 le ln od fe se td th cnt b1 c1 pl tk tc sill day lau) (wc := wM adM cI hf at_ wg lf cf dy ti bh ln2 thr cnt pl tc sill day lau) 0 1 (m_ballast l D cI cJ cL adM hf at_ wg lf cf dy ti bh ln2 thr cnt pl tc sill day lau M r.hM r.rh (10 * sumZ wt cnt.toNat) (msZ wt sn cnt.toNat) r.L16 r.M16 r.bds.1 r.bds.2.1 r.bds.2.2.1 r.bds.2.2.2.1 x1 hx1) rfl rfl gL_law_X7_ballast rfl rfl rfl (by decide +kernel) ⟨Nat.le_of_ble_eq_true rfl, Nat.le_of_ble_eq_true rfl⟩ rfl rfl (Nat.le_of_ble_eq_true rfl) ⟨by show cells + 1 ≤ 601024; omega, by show slots + 6 ≤ 7293034; omega⟩ dL_law_756 (fun r2 w2 h2 => ?_)
    refine Z.istore C dL_law_759 (by decide) ?_
    obtain ⟨hz, hr2, hw2⟩ := h2.resolve_left (fun h => h.1 hq)
    rw [r.gb, r.ab, hbc] at hr2 hw2
    dsimp only at hr2 hw2
    subst hw2
    refine Z.aload_n C dL_law_761 rfl ?_
    refine Z.cVIf (R := room_1) C (wr := (o, oE cL v1) :: wX adX cI cJ M B lo ch wt sn vo1 mo1 le ln od fe se td th cnt b1 c1 pl tk tc sill day lau) (wc := wM adM cI hf (zset at_ 16 c1) (zset wg 16 b1) lf cf dy ti bh ln2 0 cnt pl tc sill day lau) 0 0 (m_thrown l D cI cJ cL adM hf (zset at_ 16 c1) (zset wg 16 b1) lf cf dy ti bh ln2 0 cnt pl tc sill day lau) rfl rfl gL_law_X7_thrown rfl rfl rfl (by decide +kernel) ⟨Nat.le_of_ble_eq_true rfl, Nat.le_of_ble_eq_true rfl⟩ rfl rfl (Nat.le_of_ble_eq_true rfl) ⟨by show cells + 1 ≤ 601024; omega, by show slots + 6 ≤ 7293034; omega⟩ dL_law_762 (fun r3 w3 h3 => ?_)
    obtain ⟨rfl, rfl⟩ := h3
    refine Z.iload C dL_law_765 rfl ?_
    refine Z.icmpeq C 772 dL_law_767 (by decide) ⟨by omega, by omega⟩ ⟨by omega, by omega⟩ (fun hcmp => ?_) (fun hcmp => absurd (by omega) hcmp)
    refine Z.iload C dL_law_772 rfl ?_
    refine Z.ifne C 789 dL_law_774 (by decide) ⟨by omega, by omega⟩ (fun hcmp => absurd rfl hcmp) (fun hcmp => ?_)
    refine Z.aload_n C dL_law_777 rfl ?_
    refine Z.iconst C dL_law_778 ?_
    refine Z.laldO C 0 rfl dL_law_779 ?_
    refine Z.iload C dL_law_780 rfl ?_
    refine Z.i2l C dL_law_782 ?_
    rw [hv, hr2]
    refine Z.lcmpE C dL_law_783 ?_
    refine Z.ifeq C 789 dL_law_784 (by decide) ⟨by decide, by decide⟩ (fun hcmp => ?_) (fun hcmp => absurd rfl hcmp)
    refine Z.goto C 1264 dL_law_789 (by decide) ?_
    refine Z.swap ?_
    refine Z.widen (k := cells + 4) (n := slots + 24) (by omega) (by omega) ?_
    refine Z.lvw (lv' := [.ref b, .ref (adX 0), .ref (adM 0), .ref o, .int (iI k), .null, .null]) (fun i v9 h9 hne => lv7 i v9 h9 hne) ?_
    exact kk _ ⟨adX, adM, M, B, lo, ch, wt, sn, vo1, mo1, le, ln, od, fe, se, td, th, cnt, b1, c1, pl, tk, tc, sill, day, lau, hf, zset at_ 16 c1, zset wg 16 b1, lf, cf, dy, ti, bh, ln2, 0, _, rfl, rfl, ⟨r.rh, r.hM, r.hB, r.c0, r.c1, r.en, (fun j h1 h2 => by have := r.c1; rw [zset_ne _ (by omega), zset_ne _ (by omega)]; exact r.wa j h1 h2), (fun j h1 h2 => by rw [zset_ne _ (by omega)]; exact r.w0 j h1 h2), zset_eq _ _ _, zset_eq _ _ _, r.wk, hB9.1.1, hB9.1.2, hB9.2.1, hB9.2.2, r.el, r.p0, r.p1, r.et, r.t0, r.t1, r.ta, r.hu, r.td0, r.dy0, r.th0, r.ti0, r.es, r.l0, r.l1, r.ed, r.d0, r.d1, r.ei, r.i0⟩, rfl⟩
set_option maxHeartbeats 4000000 in
set_option maxRecDepth 100000 in
theorem arm_launch (C : Cx p s m args meth c 7 A D cI cJ cL cL_law wsL_law RL) (hl0 : l.stackTraces = false) (hX : va_X b L xs s s.heap) (hbl : b < s.heap.size) (hbA : ¬ A b) (hL : L ≤ 2048) (k0 : 0 ≤ k) (k1 : k + 4 ≤ L) (hc : cells + 4 ≤ 601024) (hs : slots + 24 ≤ 7293034) (hW : LWp fb mdl o cI cJ cL ws) (kk : ∀ ws' : va_W, LWp fb mdl o cI cJ cL ws' → Z p l e room_1 s m args below meth c 7 A D Q (cells + 4) (slots + 24) ws' [.ref b, .ref fb, .ref mdl, .ref o, .int (iI k), .null, .null] 1264 []) : Z p l e room_1 s m args below meth c 7 A D Q cells slots ws [.ref b, .ref fb, .ref mdl, .ref o, .int (iI k), .null, .null] 1164 [] := by
  obtain ⟨adX, adM, M, B, lo, ch, wt, sn, vo, mo, le, ln, od, fe, se, td, th, cnt, bw, bs, pl, tk, tc, sill, day, lau, hf, at_, wg, lf, cf, dy, ti, bh, ln2, thr, v, rfl, rfl, r, rfl⟩ := hW
  refine Z.aload_n C dL_law_1164 rfl ?_
  refine Z.aload_n C dL_law_1165 rfl ?_
  refine Z.xSXIf (R := room_1) C (wr := wM adM cI hf at_ wg lf cf dy ti bh ln2 thr cnt pl tc sill day lau) 2 (h_launch l D cI cJ cL adX M B lo ch wt sn vo mo le ln od fe se td th cnt bw bs pl tk tc sill day lau hl0 r.hM r.c0 r.c1 r.i0 r.l0 r.l1 r.d0 r.d1 r.t0 r.t1 r.hu r.td0 r.th0 (10 * sumZ wt cnt.toNat + 10 * bw) (msZ wt sn cnt.toNat + bw * 20 * bs) rfl rfl (by have := r.bds; have := r.b0; omega) (by have := r.bds; have := r.b1; omega) (by have := r.bds; omega) (by have := r.bds; omega) o v) gL_law_L_launch rfl rfl rfl (by decide +kernel) ⟨Nat.le_of_ble_eq_true rfl, Nat.le_of_ble_eq_true rfl⟩ rfl rfl (Nat.le_of_ble_eq_true rfl) ⟨by show cells + 2 ≤ 601024; omega, by show slots + 12 ≤ 7293034; omega⟩ dL_law_1166 (fun r1 w1 h1 => ?_) (fun E w1 hE => hE.elim)
  refine Z.istore C dL_law_1169 (by decide) ?_
  rcases h1 with ⟨E, u, ⟨vo1, mo1, hu, hE⟩, hm, rfl⟩ | ⟨rfl, v1, u, ⟨hq, hv, vo1, mo1, hu⟩, rfl⟩
  · subst hu
    have hq := ex1_r hE hm
    refine Z.aload_n C dL_law_1171 rfl ?_
    refine Z.swap ?_
    refine Z.cVIf (R := room_1) C (wr := (o, oE cL v) :: wX adX cI cJ M B lo ch wt sn vo1 mo1 le ln od fe se td th cnt bw bs pl tk tc sill day lau) (wc := wM adM cI hf at_ wg lf cf dy ti bh ln2 thr cnt pl tc sill day lau) 0 0 (m_launch l D cI cJ cL adM hf at_ wg lf cf dy ti bh ln2 thr cnt pl tc sill day lau M r.hM r.rh (10 * sumZ wt cnt.toNat + 10 * bw) (msZ wt sn cnt.toNat + bw * 20 * bs) r.L17 r.M17 (by have := r.bds; have := r.b0; omega) (by have := r.bds; have := r.b1; omega) (by have := r.bds; omega) (by have := r.bds; omega) r.l0 r.l1 r.t0 r.t1 r.dy0 r.ti0 r.d0 r.d1 r.i0) rfl rfl gL_law_X7_launch rfl rfl rfl (by decide +kernel) ⟨Nat.le_of_ble_eq_true rfl, Nat.le_of_ble_eq_true rfl⟩ rfl rfl (Nat.le_of_ble_eq_true rfl) ⟨by show cells + 2 ≤ 601024; omega, by show slots + 12 ≤ 7293034; omega⟩ dL_law_1172 (fun r2 w2 h2 => ?_)
    refine Z.istore C dL_law_1175 (by decide) ?_
    rw [r.tdE day] at h2
    obtain ⟨hz, rfl⟩ := h2.resolve_right (fun h => h.1 hq.2)
    refine Z.aload_n C dL_law_1177 rfl ?_
    refine Z.cVIf (R := room_1) C (wr := (o, oE cL v) :: wX adX cI cJ M B lo ch wt sn vo1 mo1 le ln od fe se td th cnt bw bs pl tk tc sill day lau) (wc := wM adM cI hf at_ wg lf cf dy ti bh ln2 1 cnt pl tc sill day lau) 0 0 (m_thrown l D cI cJ cL adM hf at_ wg lf cf dy ti bh ln2 1 cnt pl tc sill day lau) rfl rfl gL_law_X7_thrown rfl rfl rfl (by decide +kernel) ⟨Nat.le_of_ble_eq_true rfl, Nat.le_of_ble_eq_true rfl⟩ rfl rfl (Nat.le_of_ble_eq_true rfl) ⟨by show cells + 2 ≤ 601024; omega, by show slots + 12 ≤ 7293034; omega⟩ dL_law_1178 (fun r3 w3 h3 => ?_)
    obtain ⟨rfl, rfl⟩ := h3
    refine Z.iload C dL_law_1181 rfl ?_
    refine Z.icmpeq C 1188 dL_law_1183 (by decide) ⟨by omega, by omega⟩ ⟨by omega, by omega⟩ (fun hcmp => ?_) (fun hcmp => absurd (by omega) hcmp)
    refine Z.iload C dL_law_1188 rfl ?_
    refine Z.ifne C 1205 dL_law_1190 (by decide) ⟨by omega, by omega⟩ (fun hcmp => ?_) (fun hcmp => absurd hcmp (by omega))
    refine Z.goto C 1264 dL_law_1205 (by decide) ?_
    refine Z.swap ?_
    refine Z.widen (k := cells + 4) (n := slots + 24) (by omega) (by omega) ?_
    refine Z.lvw (lv' := [.ref b, .ref (adX 0), .ref (adM 0), .ref o, .int (iI k), .null, .null]) (fun i v9 h9 hne => lv7 i v9 h9 hne) ?_
    exact kk _ ⟨adX, adM, M, B, lo, ch, wt, sn, vo1, mo1, le, ln, od, fe, se, td, th, cnt, bw, bs, pl, tk, tc, sill, day, lau, hf, at_, wg, lf, cf, dy, ti, bh, ln2, 1, _, rfl, rfl, r, rfl⟩
  · subst hu
    refine Z.aload_n C dL_law_1171 rfl ?_
    refine Z.swap ?_
    refine Z.cVIf (R := room_1) C (wr := (o, oE cL v1) :: wX adX cI cJ M B lo ch wt sn vo1 mo1 le ln od fe se td th cnt bw bs pl tk tc sill day 1) (wc := wM adM cI hf at_ wg lf cf dy ti bh ln2 thr cnt pl tc sill day lau) 0 0 (m_launch l D cI cJ cL adM hf at_ wg lf cf dy ti bh ln2 thr cnt pl tc sill day lau M r.hM r.rh (10 * sumZ wt cnt.toNat + 10 * bw) (msZ wt sn cnt.toNat + bw * 20 * bs) r.L17 r.M17 (by have := r.bds; have := r.b0; omega) (by have := r.bds; have := r.b1; omega) (by have := r.bds; omega) (by have := r.bds; omega) r.l0 r.l1 r.t0 r.t1 r.dy0 r.ti0 r.d0 r.d1 r.i0) rfl rfl gL_law_X7_launch rfl rfl rfl (by decide +kernel) ⟨Nat.le_of_ble_eq_true rfl, Nat.le_of_ble_eq_true rfl⟩ rfl rfl (Nat.le_of_ble_eq_true rfl) ⟨by show cells + 2 ≤ 601024; omega, by show slots + 12 ≤ 7293034; omega⟩ dL_law_1172 (fun r2 w2 h2 => ?_)
    refine Z.istore C dL_law_1175 (by decide) ?_
    rw [r.tdE day] at h2
    obtain ⟨hz, hr2, rfl⟩ := h2.resolve_left (fun h => hq h.1)
    refine Z.aload_n C dL_law_1177 rfl ?_
    refine Z.cVIf (R := room_1) C (wr := (o, oE cL v1) :: wX adX cI cJ M B lo ch wt sn vo1 mo1 le ln od fe se td th cnt bw bs pl tk tc sill day 1) (wc := wM adM cI hf at_ wg lf cf dy ti bh ln2 0 cnt pl tc sill day 1) 0 0 (m_thrown l D cI cJ cL adM hf at_ wg lf cf dy ti bh ln2 0 cnt pl tc sill day 1) rfl rfl gL_law_X7_thrown rfl rfl rfl (by decide +kernel) ⟨Nat.le_of_ble_eq_true rfl, Nat.le_of_ble_eq_true rfl⟩ rfl rfl (Nat.le_of_ble_eq_true rfl) ⟨by show cells + 2 ≤ 601024; omega, by show slots + 12 ≤ 7293034; omega⟩ dL_law_1178 (fun r3 w3 h3 => ?_)
    obtain ⟨rfl, rfl⟩ := h3
    refine Z.iload C dL_law_1181 rfl ?_
    refine Z.icmpeq C 1188 dL_law_1183 (by decide) ⟨by omega, by omega⟩ ⟨by omega, by omega⟩ (fun hcmp => ?_) (fun hcmp => absurd (by omega) hcmp)
    refine Z.iload C dL_law_1188 rfl ?_
    refine Z.ifne C 1205 dL_law_1190 (by decide) ⟨by omega, by omega⟩ (fun hcmp => absurd rfl hcmp) (fun hcmp => ?_)
    refine Z.aload_n C dL_law_1193 rfl ?_
    refine Z.iconst C dL_law_1194 ?_
    refine Z.laldO C 0 rfl dL_law_1195 ?_
    refine Z.iload C dL_law_1196 rfl ?_
    refine Z.i2l C dL_law_1198 ?_
    rw [hv, hr2]
    refine Z.lcmpE C dL_law_1199 ?_
    refine Z.ifeq C 1205 dL_law_1200 (by decide) ⟨by decide, by decide⟩ (fun hcmp => ?_) (fun hcmp => absurd rfl hcmp)
    refine Z.goto C 1264 dL_law_1205 (by decide) ?_
    refine Z.swap ?_
    refine Z.widen (k := cells + 4) (n := slots + 24) (by omega) (by omega) ?_
    refine Z.lvw (lv' := [.ref b, .ref (adX 0), .ref (adM 0), .ref o, .int (iI k), .null, .null]) (fun i v9 h9 hne => lv7 i v9 h9 hne) ?_
    exact kk _ ⟨adX, adM, M, B, lo, ch, wt, sn, vo1, mo1, le, ln, od, fe, se, td, th, cnt, bw, bs, pl, tk, tc, sill, day, 1, hf, at_, wg, lf, cf, dy, ti, bh, ln2, 0, _, rfl, rfl, ⟨r.rh, r.hM, r.hB, r.c0, r.c1, r.en, r.wa, r.w0, r.gb, r.ab, r.wk, r.b0, r.b1, r.s0, r.s1, r.el, r.p0, r.p1, r.et, r.t0, r.t1, r.ta, r.hu, r.td0, r.dy0, r.th0, r.ti0, r.es, r.l0, r.l1, r.ed, r.d0, r.d1, rfl, (Or.inr rfl)⟩, rfl⟩
end ARMS2
