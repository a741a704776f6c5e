/-! ===== the law's fairs ===== -/
abbrev rmL_fairs : Room := { frames := 1, cells := 16, slots := 400, locals := 25 }
set_option maxHeartbeats 4000000 in
set_option maxRecDepth 100000 in
theorem q_fairs (l : Launch) (D : va_G) (cI cJ cL : ClassId) (aq : Nat → Nat) (hf at_ wg dy ti gg : Int → Int) (M : Int → Int → Int) (hM : hOK M) (hR : RH M hf) (w x : Int) (w0 : 0 ≤ w) (w1 : w ≤ 5) (x0 : 0 ≤ x) (x1 : x ≤ 2) : XV l yL_fairs wsL_fairs rmL_fairs [.int (iI w), .int (iI x), .ref (aq 0)] D cI cJ cL (wA aq cI hf at_ wg dy ti gg) 16 400 (fun w' => ∃ hf' : Int → Int, (∀ j : Int, hf' j = if 9 * w ≤ j ∧ j < 9 * w + 9 then frZ (M w) x (j - 9 * w) else hf j) ∧ w' = (wA aq cI hf' at_ wg dy ti gg)) (fun _ _ => False) := by
  have hF : FAR = 100000000 := rfl
  have hf0 := hM w
  refine XV.of (cc := cL_fairs) (maxL := 15) (ret := none) (own := RL) _ 12 (by decide +kernel) rfl rfl rfl (Nat.le_of_ble_eq_true rfl) rfl (fun sz9 p9 e9 s9 m9 a9 b9 h9 c9 C hr hnx => ?_)
  refine Z.bipush C dL_fairs_0 (by decide) ?_
  refine Z.newL C (by decide +kernel) 25 rfl (by decide) (Nat.le_of_ble_eq_true rfl) (Nat.le_of_ble_eq_true rfl) dL_fairs_2 (fun q1 => ?_)
  refine Z.astore_n C dL_fairs_4 (by decide) ?_
  refine Z.bipush C dL_fairs_5 (by decide) ?_
  refine Z.newa C (by decide +kernel) 25 rfl (by decide) (Nat.le_of_ble_eq_true rfl) (Nat.le_of_ble_eq_true rfl) dL_fairs_7 (fun q2 => ?_)
  refine Z.astore C dL_fairs_9 (by decide) ?_
  refine Z.iconst C dL_fairs_11 ?_
  refine Z.istore C dL_fairs_12 (by decide) ?_
  refine Z.re (ws' := [(q1, aL cL 25 (fun _ => 0)), (q2, aI cI 25 (fun _ => 0))] ++ (wA aq cI hf at_ wg dy ti gg)) [6, 7, 0, 1, 2, 3, 4, 5] (by decide) rfl rfl ?_
  refine Z.loop (α := Nat × (Int → Int) × (Int → Int)) (fun y => [(q1, aL cL 25 y.2.1), (q2, aI cI 25 y.2.2)] ++ (wA aq cI hf at_ wg dy ti gg)) (fun y => [.int (iI w), .int (iI x), .ref (aq 0), .ref q1, .ref q2, .int (iI y.1), .null, .null, .null, .null, .null, .null, .null, .null, .null]) (fun y => y.1 ≤ 25 ∧ ∀ k : Nat, k < y.1 → ((mayP (M w) x 0 ((k : Int) / 5) ∧ mayP (M w) x 1 ((k : Int) % 5) → y.2.2 k = 0) ∧ (¬ (mayP (M w) x 0 ((k : Int) / 5) ∧ mayP (M w) x 1 ((k : Int) % 5)) → y.2.2 k = FAR)) ∧ y.2.1 k = 5 * ((k : Int) / 5) + (k : Int) % 5) (fun y => 25 - y.1) (0, (fun _ => 0), (fun _ => 0)) ⟨by decide, fun k hk => absurd hk (Nat.not_lt_zero _)⟩ rfl rfl (fun y hy ih => ?_)
  obtain ⟨k, ln, bd⟩ := y
  dsimp only at hy ih ⊢
  obtain ⟨hk, hinv⟩ := hy
  refine Z.iload C dL_fairs_14 rfl ?_
  refine Z.bipush C dL_fairs_16 (by decide) ?_
  refine Z.icmpge C 85 dL_fairs_18 (by decide) (⟨by omega, by omega⟩) (⟨by omega, by omega⟩) (fun h => ?_) (fun h => ?_)
  · have e25 : k = 25 := by omega
    subst e25
    have hw0 := fwP_0 hf0 x0 x1 hinv
    refine Z.iconst C dL_fairs_85 ?_
    refine Z.istore C dL_fairs_86 (by decide) ?_
    refine Z.loopC (α := Nat × Nat × Nat × (Int → Int) × (Int → Int)) (fun y => [(y.2.1, aL cL 25 y.2.2.2.1), (y.2.2.1, aI cI 25 y.2.2.2.2)] ++ (wA aq cI hf at_ wg dy ti gg)) (fun y => [.int (iI w), .int (iI x), .ref (aq 0), .ref y.2.1, .ref y.2.2.1, .int (iI ((y.1 : Int) + 2)), .null, .null, .null, .null, .null, .null, .null, .null, .null]) (fun y => y.1 ≤ 7 ∧ fwP (M w) x y.1 y.2.2.2.2 y.2.2.2.1) (fun y => 7 - y.1) (fun y => 2 + 2 * y.1) (fun y => 50 + 50 * y.1) (0, q1, q2, ln, bd) ⟨Nat.zero_le _, hw0⟩ rfl rfl (Nat.le_refl _) (Nat.le_refl _) (fun y hy ih2 => ?_)
    clear ih
    obtain ⟨t, p1, p2, ln2, bd2⟩ := y
    dsimp only at hy ih2 ⊢
    obtain ⟨ht, hfw⟩ := hy
    refine Z.iload C dL_fairs_88 rfl ?_
    refine Z.bipush C dL_fairs_90 (by decide) ?_
    refine Z.icmpge C 316 dL_fairs_92 (by decide) (⟨by omega, by omega⟩) (⟨by omega, by omega⟩) (fun h2 => ?_) (fun h2 => ?_)
    · have e7 : t = 7 := by omega
      subst e7
      refine Z.iconst C dL_fairs_316 ?_
      refine Z.istore C dL_fairs_317 (by decide) ?_
      refine Z.iconst C dL_fairs_319 ?_
      refine Z.istore C dL_fairs_320 (by decide) ?_
      refine Z.loop (α := Nat × Int) (fun y => [(p1, aL cL 25 ln2), (p2, aI cI 25 bd2)] ++ (wA aq cI hf at_ wg dy ti gg)) (fun y => [.int (iI w), .int (iI x), .ref (aq 0), .ref p1, .ref p2, .int (iI y.2), .int (iI y.1), .null, .null, .null, .null, .null, .null, .null, .null]) (fun y => y.1 ≤ 25 ∧ beP bd2 ln2 y.1 y.2) (fun y => 25 - y.1) (1, 0) ⟨by decide, by decide, by decide, fun j hj => by
        have e0 : j = 0 := by omega
        subst e0
        exact leL_refl _ _⟩ rfl rfl (fun y hy ih3 => ?_)
      obtain ⟨i, be⟩ := y
      dsimp only at hy ih3 ⊢
      obtain ⟨hi, hbe⟩ := hy
      obtain ⟨be0, be1, be2⟩ := hbe
      have vb := (hfw (be / 5) (be % 5) (by omega) (by omega) (by omega) (by omega)).1
      rw [show 5 * (be / 5) + be % 5 = be by omega] at vb
      refine Z.iload C dL_fairs_322 rfl ?_
      refine Z.bipush C dL_fairs_324 (by decide) ?_
      refine Z.icmpge C 377 dL_fairs_326 (by decide) (⟨by omega, by omega⟩) (⟨by omega, by omega⟩) (fun h3 => ?_) (fun h3 => ?_)
      · have e25 : i = 25 := by omega
        subst e25
        have hln := beP_end hf0 x0 x1 hfw ⟨be0, be1, be2⟩
        refine Z.pick 6 rfl ?_
        refine Z.aload_n C dL_fairs_377 rfl ?_
        refine Z.iload C dL_fairs_378 rfl ?_
        refine Z.lald C 0 rfl (by omega) (by omega) (by decide) dL_fairs_380 ?_
        rw [hln]
        refine Z.lstore C dL_fairs_381 rfl rfl (by decide) ?_
        refine Y.bipush C dL_fairs_383 (by decide) ?_
        refine Y.istore C dL_fairs_385 (by decide) rfl ?_
        refine Y.loop (α := Nat × (Int → Int)) (fun y => (6, nmZ (dsZ (M w) x) y.1)) (fun y => [(p1, aL cL 25 ln2), (p2, aI cI 25 bd2)] ++ (wA aq cI y.2 at_ wg dy ti gg)) (fun y => [.int (iI w), .int (iI x), .ref (aq 0), .ref p1, .ref p2, .int (iI be), .null, .null, .int (iI ((y.1 : Int) - 1)), .null, .null, .null, .null, .null, .null]) (fun y => y.1 ≤ 9 ∧ ∀ j : Int, y.2 j = if 9 * w + y.1 ≤ j ∧ j < 9 * w + 9 then frZ (M w) x (j - 9 * w) else hf j) (fun y => y.1) (9, hf) ⟨Nat.le_refl _, fun j => by
          rw [if_neg]
          dsimp only
          omega⟩ rfl rfl rfl (fun y hy ih4 => ?_)
        obtain ⟨n, hf2⟩ := y
        dsimp only at hy ih4 ⊢
        obtain ⟨hn, hh⟩ := hy
        refine Y.iload C dL_fairs_387 rfl ?_
        refine Y.iflt C 427 dL_fairs_389 (by decide) (⟨by omega, by omega⟩) (fun h4 => ?_) (fun h4 => ?_)
        · have e0 : n = 0 := by omega
          subst e0
          refine Y.toZ ?_
          refine Z.re (ws' := (wA aq cI hf2 at_ wg dy ti gg)) [2, 3, 4, 5, 6, 7] (by decide) rfl rfl ?_
          exact Z.vretX C hr (Nat.le_of_ble_eq_true rfl) (Nat.le_of_ble_eq_true rfl) dL_fairs_427 ⟨hf2, fun j => by
            rw [hh j]
            rw [show 9 * w + ((0 : Nat) : Int) = 9 * w by omega], rfl⟩
        · obtain ⟨m, rfl⟩ : ∃ m : Nat, n = m + 1 := ⟨n - 1, by omega⟩
          have hdm := ds_mod hf0 x0 x1 m (by omega)
          have hfm : hf2 (9 * w + (m : Int)) = M w m := by
            rw [hh, if_neg (by push_cast; omega)]
            exact RH_at hR rfl w0 w1 (by omega) (by omega)
          have hfr := ds_fr (M w) x m
          have hbm := hf0 m
          rw [show ((m + 1 : Nat) : Int) - 1 = m by omega]
          have hmo : 0 ≤ nmZ (dsZ (M w) x) (m + 1) % 5 ∧ nmZ (dsZ (M w) x) (m + 1) % 5 < 5 := ⟨Int.emod_nonneg _ (by decide), Int.emod_lt_of_pos _ (by decide)⟩
          have hmo1 := hdm.1
          refine Y.aload_n C dL_fairs_392 rfl ?_
          refine Y.bipush C dL_fairs_393 (by decide) ?_
          refine Y.iload_n C dL_fairs_395 rfl ?_
          refine Y.imul C dL_fairs_396 ?_
          refine Y.iload C dL_fairs_397 rfl ?_
          refine Y.iadd C dL_fairs_399 ?_
          refine Y.dup2 C dL_fairs_400 rfl rfl ?_
          refine Y.iald C 2 rfl (by omega) (by omega) (by decide) dL_fairs_401 ?_
          rw [hfm]
          refine Y.lload C dL_fairs_402 rfl ?_
          refine Y.ldc2 C (v := lI 5) 5 (by decide +kernel) rfl dL_fairs_404 ?_
          refine Y.lrem C (by omega) (by omega) (by omega) (by omega) dL_fairs_407 ?_
          refine Y.l2i C ⟨by omega, by omega⟩ dL_fairs_408 ?_
          refine Y.iconst C dL_fairs_409 ?_
          refine Y.isub C dL_fairs_410 ?_
          refine Y.iadd C dL_fairs_411 ?_
          refine Y.iast C 2 rfl (by omega) (by omega) (by decide) dL_fairs_412 wF2_a2 ?_
          refine Y.lload C dL_fairs_413 rfl ?_
          refine Y.ldc2 C (v := lI 5) 5 (by decide +kernel) rfl dL_fairs_415 ?_
          refine Y.ldiv C (by omega) (by omega) (by omega) (by omega) dL_fairs_418 ?_
          refine Y.lstore C dL_fairs_419 rfl rfl (by decide) ?_
          rw [hdm.2.1]
          refine Y.iinc C dL_fairs_421 rfl (by decide) rfl ?_
          refine Y.goto C 387 dL_fairs_424 (by decide) ?_
          rw [show (m : Int) + -1 = m - 1 by omega]
          refine ih4 (m, zset hf2 (9 * w + (m : Int)) (M w m + (nmZ (dsZ (M w) x) (m + 1) % 5 - 2))) ⟨by dsimp only; omega, fun j => ?_⟩ (by dsimp only; omega)
          dsimp only
          by_cases e : j = 9 * w + m
          · rw [e, zset_eq, if_pos (by omega), show 9 * w + (m : Int) - 9 * w = m by omega, ← hfr, hmo1]
            unfold liZ
            omega
          · rw [zset_ne _ e, hh j]
            by_cases e2 : 9 * w + (m : Int) ≤ j ∧ j < 9 * w + 9
            · rw [if_pos e2, if_pos (by push_cast; omega)]
            · rw [if_neg e2, if_neg (by push_cast; omega)]
      · have vi := (hfw ((i : Int) / 5) ((i : Int) % 5) (by omega) (by omega) (by omega) (by omega)).1
        rw [show 5 * ((i : Int) / 5) + (i : Int) % 5 = i by omega] at vi
        have keep : leL (bd2 be) (ln2 be) (bd2 i) (ln2 i) → beP bd2 ln2 (i + 1) be := fun z => ⟨be0, by push_cast; omega, fun j hj => by
          by_cases e : j = i
          · rw [e]; exact z
          · exact be2 j (by omega)⟩
        have take : leL (bd2 i) (ln2 i) (bd2 be) (ln2 be) → beP bd2 ln2 (i + 1) i := fun z => ⟨by omega, by push_cast; omega, fun j hj => by
          by_cases e : j = i
          · rw [e]; exact leL_refl _ _
          · exact leL_trans z (be2 j (by omega))⟩
        refine Z.cut (α := Int) 371 (fun _ => [(p1, aL cL 25 ln2), (p2, aI cI 25 bd2)] ++ (wA aq cI hf at_ wg dy ti gg)) (fun z => [.int (iI w), .int (iI x), .ref (aq 0), .ref p1, .ref p2, .int (iI z), .int (iI (i : Int)), .null, .null, .null, .null, .null, .null, .null, .null]) (fun _ => []) (fun z => beP bd2 ln2 (i + 1) z) (fun z hz => ?_) (fun join => ?_)
        · skip
          refine Z.iinc C dL_fairs_371 rfl (by decide) ?_
          refine Z.goto C 322 dL_fairs_374 (by decide) ?_
          exact ih3 (i + 1, z) ⟨by dsimp only; omega, hz⟩ (by dsimp only; omega)
        · skip
          refine Z.aload C dL_fairs_329 rfl ?_
          refine Z.iload C dL_fairs_331 rfl ?_
          refine Z.iald C 1 rfl (by omega) (by omega) (by decide) dL_fairs_333 ?_
          refine Z.aload C dL_fairs_334 rfl ?_
          refine Z.iload C dL_fairs_336 rfl ?_
          refine Z.iald C 1 rfl (by omega) (by omega) (by decide) dL_fairs_338 ?_
          refine Z.icmplt C 367 dL_fairs_339 (by decide) (⟨by omega, by omega⟩) (⟨by omega, by omega⟩) (fun h4 => ?_) (fun h4 => ?_)
          · skip
            refine Z.iload C dL_fairs_367 rfl ?_
            refine Z.istore C dL_fairs_369 (by decide) ?_
            exact join i (take (Or.inl h4))
          · skip
            refine Z.aload C dL_fairs_342 rfl ?_
            refine Z.iload C dL_fairs_344 rfl ?_
            refine Z.iald C 1 rfl (by omega) (by omega) (by decide) dL_fairs_346 ?_
            refine Z.aload C dL_fairs_347 rfl ?_
            refine Z.iload C dL_fairs_349 rfl ?_
            refine Z.iald C 1 rfl (by omega) (by omega) (by decide) dL_fairs_351 ?_
            refine Z.icmpne C 371 dL_fairs_352 (by decide) (⟨by omega, by omega⟩) (⟨by omega, by omega⟩) (fun h5 => ?_) (fun h5 => ?_)
            · exact join be (keep (by unfold leL; omega))
            · skip
              refine Z.aload_n C dL_fairs_355 rfl ?_
              refine Z.iload C dL_fairs_356 rfl ?_
              refine Z.lald C 0 rfl (by omega) (by omega) (by decide) dL_fairs_358 ?_
              refine Z.aload_n C dL_fairs_359 rfl ?_
              refine Z.iload C dL_fairs_360 rfl ?_
              refine Z.lald C 0 rfl (by omega) (by omega) (by decide) dL_fairs_362 ?_
              refine Z.lcmp C ⟨by omega, by omega⟩ ⟨by omega, by omega⟩ dL_fairs_363 ?_
              refine Z.ifge C 371 dL_fairs_364 (by decide) ((cmpZ_r _ _)) (fun h6 => ?_) (fun h6 => ?_)
              · refine join be (keep ?_)
                unfold cmpZ at h6
                unfold leL
                split at h6
                · omega
                · split at h6 <;> omega
              · skip
                refine Z.iload C dL_fairs_367 rfl ?_
                refine Z.istore C dL_fairs_369 (by decide) ?_
                refine join i (take ?_)
                unfold cmpZ at h6
                unfold leL
                split at h6
                · omega
                · split at h6 <;> omega
    · skip
      refine Z.bipush C dL_fairs_95 (by decide) ?_
      refine Z.newL C (by decide +kernel) 25 rfl (by decide) (by show 2 + 2 * t + 1 ≤ 16; omega) (by show 50 + 50 * t + 25 ≤ 400; omega) dL_fairs_97 (fun p3 => ?_)
      refine Z.astore C dL_fairs_99 (by decide) ?_
      refine Z.bipush C dL_fairs_101 (by decide) ?_
      refine Z.newa C (by decide +kernel) 25 rfl (by decide) (by show 2 + 2 * t + 1 + 1 ≤ 16; omega) (by show 50 + 50 * t + 25 + 25 ≤ 400; omega) dL_fairs_103 (fun p4 => ?_)
      refine Z.astore C dL_fairs_105 (by decide) ?_
      refine Z.iconst C dL_fairs_107 ?_
      refine Z.istore C dL_fairs_108 (by decide) ?_
      refine Z.re (ws' := [(p1, aL cL 25 ln2), (p2, aI cI 25 bd2), (p3, aL cL 25 (fun _ => 0)), (p4, aI cI 25 (fun _ => 0))] ++ (wA aq cI hf at_ wg dy ti gg)) [0, 1, 8, 9, 2, 3, 4, 5, 6, 7] (by decide) rfl rfl ?_
      refine Z.loop (α := Nat × (Int → Int) × (Int → Int)) (fun y => [(p1, aL cL 25 ln2), (p2, aI cI 25 bd2), (p3, aL cL 25 y.2.1), (p4, aI cI 25 y.2.2)] ++ (wA aq cI hf at_ wg dy ti gg)) (fun y => [.int (iI w), .int (iI x), .ref (aq 0), .ref p1, .ref p2, .int (iI ((t : Int) + 2)), .ref p3, .ref p4, .int (iI y.1), .null, .null, .null, .null, .null, .null]) (fun y => y.1 ≤ 25 ∧ (∀ j : Int, (y.1 : Int) ≤ j → y.2.1 j = 0) ∧ ∀ j : Nat, j < y.1 → (mayP (M w) x ((t : Int) + 2) ((j : Int) % 5) → inP (M w) x t bd2 ln2 ((j : Int) / 5) ((j : Int) % 5) 5 (y.2.2 j) (y.2.1 j)) ∧ (¬ mayP (M w) x ((t : Int) + 2) ((j : Int) % 5) → y.2.2 j = FAR ∧ y.2.1 j = 0)) (fun y => 25 - y.1) (0, (fun _ => 0), (fun _ => 0)) ⟨by decide, fun _ _ => rfl, fun j hj => absurd hj (Nat.not_lt_zero _)⟩ rfl rfl (fun y hy ih3 => ?_)
      obtain ⟨k3, ln3, bd3⟩ := y
      dsimp only at hy ih3 ⊢
      obtain ⟨hk3, hzero, hold⟩ := hy
      refine Z.iload C dL_fairs_110 rfl ?_
      refine Z.bipush C dL_fairs_112 (by decide) ?_
      refine Z.icmpge C 303 dL_fairs_114 (by decide) (⟨by omega, by omega⟩) (⟨by omega, by omega⟩) (fun h3 => ?_) (fun h3 => ?_)
      · have e25 : k3 = 25 := by omega
        subst e25
        refine Z.aload C dL_fairs_303 rfl ?_
        refine Z.astore_n C dL_fairs_305 (by decide) ?_
        refine Z.aload C dL_fairs_306 rfl ?_
        refine Z.astore C dL_fairs_308 (by decide) ?_
        refine Z.iinc C dL_fairs_310 rfl (by decide) ?_
        refine Z.goto C 88 dL_fairs_313 (by decide) ?_
        refine Z.re (ws' := [(p3, aL cL 25 ln3), (p4, aI cI 25 bd3)] ++ (wA aq cI hf at_ wg dy ti gg)) [2, 3, 4, 5, 6, 7, 8, 9] (by decide) rfl rfl ?_
        refine Z.pick 6 rfl ?_
        refine Z.pick 7 rfl ?_
        refine Z.pick 8 rfl ?_
        rw [show (t : Int) + 2 + 1 = ((t + 1 : Nat) : Int) + 2 by omega]
        refine Z.widen (k := 2 + 2 * (t + 1)) (n := 50 + 50 * (t + 1)) (by omega) (by omega) ?_
        refine ih2 (t + 1, p3, p4, ln3, bd3) ⟨by dsimp only; omega, ?_⟩ (by dsimp only; omega)
        refine inP_end hf0 x0 x1 (t := t) (by omega) hfw (fun b c b0 b1 c0 c1 => ?_)
        have z := hold (5 * b + c).toNat (by omega)
        rw [Int.toNat_of_nonneg (by omega), show (5 * b + c) / 5 = b by omega, show (5 * b + c) % 5 = c by omega] at z
        exact z
      · have hb0 : 0 ≤ (k3 : Int) / 5 ∧ (k3 : Int) / 5 < 5 := by omega
        have hc0 : 0 ≤ (k3 : Int) % 5 ∧ (k3 : Int) % 5 < 5 := by omega
        refine Z.aload C dL_fairs_117 rfl ?_
        refine Z.iload C dL_fairs_119 rfl ?_
        refine Z.ldc C (v := iI (100000000)) (100000000) (by decide +kernel) rfl dL_fairs_121 ?_
        refine Z.iast C 3 rfl (by omega) (by omega) (by decide) dL_fairs_123 wF4_a3 ?_
        refine Z.iload_n C dL_fairs_124 rfl ?_
        refine Z.iload C dL_fairs_125 rfl ?_
        refine Z.iload C dL_fairs_127 rfl ?_
        refine Z.iconst C dL_fairs_129 ?_
        refine Z.irem C dL_fairs_130 (by omega) (by omega) (by omega) (by omega) ?_
        refine Z.iload_n C dL_fairs_131 rfl ?_
        refine Z.aload_n C dL_fairs_132 rfl ?_
        refine Z.cSIf (wr := [(p1, aL cL 25 ln2), (p2, aI cI 25 bd2), (p3, aL cL 25 ln3), (p4, aI cI 25 (zset bd3 k3 100000000))]) C 5 (q_may l D cI cJ cL aq hf at_ wg dy ti gg M hM hR w ((t : Int) + 2) ((k3 : Int) % 5) x w0 w1 (by omega) (by omega) (by omega) (by omega) x0 x1) gL_fairs_L_may rfl rfl rfl (by decide +kernel) ⟨Nat.le_of_ble_eq_true rfl, Nat.le_of_ble_eq_true rfl⟩ rfl rfl (Nat.le_of_ble_eq_true rfl) ⟨by show 2 + 2 * t + 1 + 1 ≤ 16; omega, by show 50 + 50 * t + 25 + 25 ≤ 400; omega⟩ dL_fairs_133 (fun r1 w1' hr1 => ?_)
        obtain ⟨hr1, rfl⟩ := hr1
        have hri : inr r1 := by rcases hr1 with ⟨z, -⟩ | ⟨z, -⟩ <;> exact ⟨by omega, by omega⟩
        have hstep : ∀ le th : Int, ((mayP (M w) x ((t : Int) + 2) ((k3 : Int) % 5) → inP (M w) x t bd2 ln2 ((k3 : Int) / 5) ((k3 : Int) % 5) 5 le th) ∧ (¬ mayP (M w) x ((t : Int) + 2) ((k3 : Int) % 5) → le = FAR ∧ th = 0)) → (∀ j : Int, ((k3 + 1 : Nat) : Int) ≤ j → zset ln3 k3 th j = 0) ∧ ∀ j : Nat, j < k3 + 1 → (mayP (M w) x ((t : Int) + 2) ((j : Int) % 5) → inP (M w) x t bd2 ln2 ((j : Int) / 5) ((j : Int) % 5) 5 (zset bd3 k3 le j) (zset ln3 k3 th j)) ∧ (¬ mayP (M w) x ((t : Int) + 2) ((j : Int) % 5) → zset bd3 k3 le j = FAR ∧ zset ln3 k3 th j = 0) := fun le th hz => ⟨fun j hj => by
            rw [zset_ne _ (by omega)]
            exact hzero j (by omega), fun j hj => by
            by_cases e : j = k3
            · subst e
              rw [zset_eq, zset_eq]
              exact hz
            · rw [zset_ne _ (by omega), zset_ne _ (by omega)]
              exact hold j (by omega)⟩
        have hself : zset ln3 k3 0 = ln3 := by
          have z := hzero k3 (Int.le_refl _)
          rw [← z]
          exact zset_self ln3 k3
        refine Z.ifne C 142 dL_fairs_136 (by decide) (hri) (fun h4 => ?_) (fun h4 => ?_)
        · rcases hr1 with ⟨-, z⟩ | ⟨z, -⟩
          · skip
            refine Z.iconst C dL_fairs_142 ?_
            refine Z.istore C dL_fairs_143 (by decide) ?_
            rw [show (100000000 : Int) = FAR from rfl, show [(p1, aL cL 25 ln2), (p2, aI cI 25 bd2), (p3, aL cL 25 ln3), (p4, aI cI 25 (zset bd3 k3 FAR))] ++ (wA aq cI hf at_ wg dy ti gg) = [(p1, aL cL 25 ln2), (p2, aI cI 25 bd2), (p3, aL cL 25 (zset ln3 k3 0)), (p4, aI cI 25 (zset bd3 k3 FAR))] ++ (wA aq cI hf at_ wg dy ti gg) by rw [hself]]
            refine Z.loop (α := Nat × Int × Int) (fun y => [(p1, aL cL 25 ln2), (p2, aI cI 25 bd2), (p3, aL cL 25 (zset ln3 k3 y.2.2)), (p4, aI cI 25 (zset bd3 k3 y.2.1))] ++ (wA aq cI hf at_ wg dy ti gg)) (fun y => [.int (iI w), .int (iI x), .ref (aq 0), .ref p1, .ref p2, .int (iI ((t : Int) + 2)), .ref p3, .ref p4, .int (iI (k3 : Int)), .int (iI y.1), .null, .null, .null, .null, .null]) (fun y => y.1 ≤ 5 ∧ inP (M w) x t bd2 ln2 ((k3 : Int) / 5) ((k3 : Int) % 5) y.1 y.2.1 y.2.2) (fun y => 5 - y.1) (0, FAR, 0) ⟨by decide, inP_0 _ _ _ _ _ _ _⟩ rfl rfl (fun y hy ih4 => ?_)
            obtain ⟨a, le, th⟩ := y
            dsimp only at hy ih4 ⊢
            obtain ⟨ha, hin⟩ := hy
            refine Z.iload C dL_fairs_145 rfl ?_
            refine Z.iconst C dL_fairs_147 ?_
            refine Z.icmpge C 297 dL_fairs_148 (by decide) (⟨by omega, by omega⟩) (⟨by omega, by omega⟩) (fun h5 => ?_) (fun h5 => ?_)
            · have e5 : a = 5 := by omega
              subst e5
              refine Z.iinc C dL_fairs_297 rfl (by decide) ?_
              refine Z.goto C 110 dL_fairs_300 (by decide) ?_
              refine Z.pick 9 rfl ?_
              exact ih3 (k3 + 1, zset ln3 k3 th, zset bd3 k3 le) ⟨by dsimp only; omega, hstep le th ⟨fun _ => hin, fun q => absurd z q⟩⟩ (by dsimp only; omega)
            · have v0 := hfw a ((k3 : Int) / 5) (by omega) (by omega) hb0.1 hb0.2
              have vv := v0.1
              have ho := offZ_bd hf0 (t := (t : Int)) (a := (a : Int)) (b := (k3 : Int) / 5) (c := (k3 : Int) % 5) (by omega) (by omega) hb0.1 hb0.2 hc0.1 hc0.2
              have g1 : hf (9 * w + ((t : Int) + 2) - 2) = M w t := RH_at hR (by omega) w0 w1 (by omega) (by omega)
              have g2 : hf (9 * w + ((t : Int) + 2)) = M w ((t : Int) + 2) := RH_at hR rfl w0 w1 (by omega) (by omega)
              have g3 : hf (9 * w + ((t : Int) + 2) - 1) = M w ((t : Int) + 1) := RH_at hR (by omega) w0 w1 (by omega) (by omega)
              have hth := hin.1
              have hth2 := hin.2.1
              have hle := hin.2.2.1
              have hle2 := hin.2.2.2.1
              refine Z.iconst C dL_fairs_151 ?_
              refine Z.iload C dL_fairs_152 rfl ?_
              refine Z.imul C dL_fairs_154 ?_
              refine Z.iload C dL_fairs_155 rfl ?_
              refine Z.iconst C dL_fairs_157 ?_
              refine Z.idiv C dL_fairs_158 (by omega) (by omega) (by omega) (by omega) ?_
              refine Z.iadd C dL_fairs_159 ?_
              refine Z.istore C dL_fairs_160 (by decide) ?_
              refine Z.aload_n C dL_fairs_162 rfl ?_
              refine Z.bipush C dL_fairs_163 (by decide) ?_
              refine Z.iload_n C dL_fairs_165 rfl ?_
              refine Z.imul C dL_fairs_166 ?_
              refine Z.iload C dL_fairs_167 rfl ?_
              refine Z.iadd C dL_fairs_169 ?_
              refine Z.iconst C dL_fairs_170 ?_
              refine Z.isub C dL_fairs_171 ?_
              refine Z.iald C 4 rfl (by omega) (by omega) (by decide) dL_fairs_172 ?_
              rw [g1]
              refine Z.iload C dL_fairs_173 rfl ?_
              refine Z.iadd C dL_fairs_175 ?_
              refine Z.aload_n C dL_fairs_176 rfl ?_
              refine Z.bipush C dL_fairs_177 (by decide) ?_
              refine Z.iload_n C dL_fairs_179 rfl ?_
              refine Z.imul C dL_fairs_180 ?_
              refine Z.iload C dL_fairs_181 rfl ?_
              refine Z.iadd C dL_fairs_183 ?_
              refine Z.iald C 4 rfl (by omega) (by omega) (by decide) dL_fairs_184 ?_
              rw [g2]
              refine Z.iadd C dL_fairs_185 ?_
              refine Z.iload C dL_fairs_186 rfl ?_
              refine Z.iconst C dL_fairs_188 ?_
              refine Z.irem C dL_fairs_189 (by omega) (by omega) (by omega) (by omega) ?_
              refine Z.iadd C dL_fairs_190 ?_
              refine Z.iconst C dL_fairs_191 ?_
              refine Z.aload_n C dL_fairs_192 rfl ?_
              refine Z.bipush C dL_fairs_193 (by decide) ?_
              refine Z.iload_n C dL_fairs_195 rfl ?_
              refine Z.imul C dL_fairs_196 ?_
              refine Z.iload C dL_fairs_197 rfl ?_
              refine Z.iadd C dL_fairs_199 ?_
              refine Z.iconst C dL_fairs_200 ?_
              refine Z.isub C dL_fairs_201 ?_
              refine Z.iald C 4 rfl (by omega) (by omega) (by decide) dL_fairs_202 ?_
              rw [g3]
              refine Z.imul C dL_fairs_203 ?_
              refine Z.isub C dL_fairs_204 ?_
              refine Z.iconst C dL_fairs_205 ?_
              refine Z.iload C dL_fairs_206 rfl ?_
              refine Z.iconst C dL_fairs_208 ?_
              refine Z.idiv C dL_fairs_209 (by omega) (by omega) (by omega) (by omega) ?_
              refine Z.imul C dL_fairs_210 ?_
              refine Z.isub C dL_fairs_211 ?_
              rw [show M w (t : Int) + (a : Int) + M w ((t : Int) + 2) + (k3 : Int) % 5 - 2 * M w ((t : Int) + 1) - 2 * ((k3 : Int) / 5) = offZ (M w) t a ((k3 : Int) / 5) ((k3 : Int) % 5) from rfl]
              refine Z.istore C dL_fairs_212 (by decide) ?_
              refine Z.aload C dL_fairs_214 rfl ?_
              refine Z.iload C dL_fairs_216 rfl ?_
              refine Z.iald C 1 rfl (by omega) (by omega) (by decide) dL_fairs_218 ?_
              refine Z.iload C dL_fairs_219 rfl ?_
              refine Z.iload C dL_fairs_221 rfl ?_
              refine Z.imul C dL_fairs_223 ?_
              refine Z.iadd C dL_fairs_224 ?_
              refine Z.istore C dL_fairs_225 (by decide) ?_
              refine Z.ldc2 C (v := lI 5) 5 (by decide +kernel) rfl dL_fairs_227 ?_
              refine Z.aload_n C dL_fairs_230 rfl ?_
              refine Z.iload C dL_fairs_231 rfl ?_
              refine Z.lald C 0 rfl (by omega) (by omega) (by decide) dL_fairs_233 ?_
              refine Z.lmul C dL_fairs_234 ?_
              refine Z.iload C dL_fairs_235 rfl ?_
              refine Z.iconst C dL_fairs_237 ?_
              refine Z.irem C dL_fairs_238 (by omega) (by omega) (by omega) (by omega) ?_
              refine Z.i2l C ⟨by omega, by omega⟩ dL_fairs_239 ?_
              refine Z.ladd C dL_fairs_240 ?_
              refine Z.pick 10 rfl ?_
              refine Z.pick 11 rfl ?_
              generalize hits : bd2 (5 * (a : Int) + (k3 : Int) / 5) + offZ (M w) t a ((k3 : Int) / 5) ((k3 : Int) % 5) * offZ (M w) t a ((k3 : Int) / 5) ((k3 : Int) % 5) = its
              generalize hnum : 5 * ln2 (5 * (a : Int) + (k3 : Int) / 5) + (k3 : Int) % 5 = num
              have hskip := fun q => inP_skip hf0 x0 x1 (t := t) (by omega) hfw hb0.1 hb0.2 hc0.1 hc0.2 z (n := a) (by omega) hin q
              have htake := fun q => inP_take hf0 x0 x1 (t := t) (by omega) hfw hb0.1 hb0.2 hc0.1 hc0.2 z (n := a) (by omega) hin q
              rw [hits, hnum] at hskip htake
              refine Z.lstore C dL_fairs_241 rfl rfl (by decide) ?_
              refine Y.iload C dL_fairs_243 rfl ?_
              refine Y.aload C dL_fairs_245 rfl ?_
              refine Y.iload C dL_fairs_247 rfl ?_
              refine Y.iald C 3 rfl (by omega) (by omega) (by decide) dL_fairs_249 ?_
              rw [zset_eq]
              have back : ∀ le' th' : Int, inP (M w) x t bd2 ln2 ((k3 : Int) / 5) ((k3 : Int) % 5) (a + 1) le' th' → Z p9 l e9 rmL_fairs s9 m9 a9 b9 h9 c9 15 (va_A (wA aq cI hf at_ wg dy ti gg) sz9) D (QXV b9 a9 s9 D (wA aq cI hf at_ wg dy ti gg) sz9 16 400 (fun w' => ∃ hf' : Int → Int, (∀ j : Int, hf' j = if 9 * w ≤ j ∧ j < 9 * w + 9 then frZ (M w) x (j - 9 * w) else hf j) ∧ w' = (wA aq cI hf' at_ wg dy ti gg)) (fun _ _ => False)) (2 + 2 * t + 1 + 1) (50 + 50 * t + 25 + 25) ([(p1, aL cL 25 ln2), (p2, aI cI 25 bd2), (p3, aL cL 25 (zset ln3 k3 th')), (p4, aI cI 25 (zset bd3 k3 le'))] ++ (wA aq cI hf at_ wg dy ti gg)) [.int (iI w), .int (iI x), .ref (aq 0), .ref p1, .ref p2, .int (iI ((t : Int) + 2)), .ref p3, .ref p4, .int (iI (k3 : Int)), .int (iI (a : Int)), .null, .null, .int (iI its), .null, .null] 291 [] := by
                intro le' th' hin'
                refine Z.iinc C dL_fairs_291 rfl (by decide) ?_
                refine Z.goto C 145 dL_fairs_294 (by decide) ?_
                refine Z.pick 12 rfl ?_
                exact ih4 (a + 1, le', th') ⟨by dsimp only; omega, hin'⟩ (by dsimp only; omega)
              refine Y.icmpgt C 291 dL_fairs_250 (by decide) (⟨by omega, by omega⟩) (⟨by omega, by omega⟩) (fun h6 => ?_) (fun h6 => ?_)
              · refine Y.toZ ?_
                exact back le th (hskip (by unfold leL; omega))
              · skip
                refine Y.iload C dL_fairs_253 rfl ?_
                refine Y.aload C dL_fairs_255 rfl ?_
                refine Y.iload C dL_fairs_257 rfl ?_
                refine Y.iald C 3 rfl (by omega) (by omega) (by decide) dL_fairs_259 ?_
                rw [zset_eq]
                refine Y.icmpne C 277 dL_fairs_260 (by decide) (⟨by omega, by omega⟩) (⟨by omega, by omega⟩) (fun h7 => ?_) (fun h7 => ?_)
                · skip
                  refine Y.aload C dL_fairs_277 rfl ?_
                  refine Y.iload C dL_fairs_279 rfl ?_
                  refine Y.iload C dL_fairs_281 rfl ?_
                  refine Y.iast C 3 rfl (by omega) (by omega) (by decide) dL_fairs_283 wF4_a3 ?_
                  refine Y.aload C dL_fairs_284 rfl ?_
                  refine Y.iload C dL_fairs_286 rfl ?_
                  refine Y.lload C dL_fairs_288 rfl ?_
                  refine Y.last C 2 rfl (by omega) (by omega) (by decide) dL_fairs_290 wF4_a2 ?_
                  rw [zset_zset, zset_zset]
                  refine Y.toZ ?_
                  exact back its num (htake (by unfold leL; omega))
                · skip
                  refine Y.lload C dL_fairs_263 rfl ?_
                  refine Y.aload C dL_fairs_265 rfl ?_
                  refine Y.iload C dL_fairs_267 rfl ?_
                  refine Y.lald C 2 rfl (by omega) (by omega) (by decide) dL_fairs_269 ?_
                  rw [zset_eq]
                  refine Y.lcmp C ⟨by omega, by omega⟩ ⟨by omega, by omega⟩ dL_fairs_270 ?_
                  refine Y.iflt C 277 dL_fairs_271 (by decide) ((cmpZ_r _ _)) (fun h8 => ?_) (fun h8 => ?_)
                  · skip
                    refine Y.aload C dL_fairs_277 rfl ?_
                    refine Y.iload C dL_fairs_279 rfl ?_
                    refine Y.iload C dL_fairs_281 rfl ?_
                    refine Y.iast C 3 rfl (by omega) (by omega) (by decide) dL_fairs_283 wF4_a3 ?_
                    refine Y.aload C dL_fairs_284 rfl ?_
                    refine Y.iload C dL_fairs_286 rfl ?_
                    refine Y.lload C dL_fairs_288 rfl ?_
                    refine Y.last C 2 rfl (by omega) (by omega) (by decide) dL_fairs_290 wF4_a2 ?_
                    rw [zset_zset, zset_zset]
                    refine Y.toZ ?_
                    refine back its num (htake ?_)
                    unfold cmpZ at h8
                    unfold leL
                    split at h8
                    · omega
                    · split at h8 <;> omega
                  · skip
                    refine Y.goto C 291 dL_fairs_274 (by decide) ?_
                    refine Y.toZ ?_
                    refine back le th (hskip ?_)
                    unfold cmpZ at h8
                    unfold leL
                    split at h8
                    · omega
                    · split at h8 <;> omega
          · omega
        · rcases hr1 with ⟨z, -⟩ | ⟨-, z⟩
          · omega
          · skip
            refine Z.goto C 297 dL_fairs_139 (by decide) ?_
            refine Z.iinc C dL_fairs_297 rfl (by decide) ?_
            refine Z.goto C 110 dL_fairs_300 (by decide) ?_
            have q := hstep FAR 0 ⟨fun q => absurd q z, fun _ => ⟨rfl, rfl⟩⟩
            rw [hself] at q
            exact ih3 (k3 + 1, ln3, zset bd3 k3 FAR) ⟨by dsimp only; omega, q⟩ (by dsimp only; omega)
  · skip
    have hk0 : 0 ≤ (k : Int) / 5 ∧ (k : Int) / 5 ≤ 4 := by omega
    have hk1 : 0 ≤ (k : Int) % 5 ∧ (k : Int) % 5 ≤ 4 := by omega
    refine Z.cut (α := Int) 59 (fun _ => [(q1, aL cL 25 ln), (q2, aI cI 25 bd)] ++ (wA aq cI hf at_ wg dy ti gg)) (fun _ => [.int (iI w), .int (iI x), .ref (aq 0), .ref q1, .ref q2, .int (iI (k : Int)), .null, .null, .null, .null, .null, .null, .null, .null, .null]) (fun v => [.int (iI v), .int (iI (k : Int)), .ref q2]) (fun v => (mayP (M w) x 0 ((k : Int) / 5) ∧ mayP (M w) x 1 ((k : Int) % 5) → v = 0) ∧ (¬ (mayP (M w) x 0 ((k : Int) / 5) ∧ mayP (M w) x 1 ((k : Int) % 5)) → v = FAR)) (fun v hv => ?_) (fun join => ?_)
    · skip
      refine Z.iast C 1 rfl (by omega) (by omega) (by decide) dL_fairs_59 wF2_a1 ?_
      refine Z.aload_n C dL_fairs_60 rfl ?_
      refine Z.iload C dL_fairs_61 rfl ?_
      refine Z.ldc2 C (v := lI 5) 5 (by decide +kernel) rfl dL_fairs_63 ?_
      refine Z.iload C dL_fairs_66 rfl ?_
      refine Z.iconst C dL_fairs_68 ?_
      refine Z.idiv C dL_fairs_69 (by omega) (by omega) (by omega) (by omega) ?_
      refine Z.i2l C ⟨by omega, by omega⟩ dL_fairs_70 ?_
      refine Z.lmul C dL_fairs_71 ?_
      refine Z.iload C dL_fairs_72 rfl ?_
      refine Z.iconst C dL_fairs_74 ?_
      refine Z.irem C dL_fairs_75 (by omega) (by omega) (by omega) (by omega) ?_
      refine Z.i2l C ⟨by omega, by omega⟩ dL_fairs_76 ?_
      refine Z.ladd C dL_fairs_77 ?_
      refine Z.last C 0 rfl (by omega) (by omega) (by decide) dL_fairs_78 wF2_a0 ?_
      refine Z.iinc C dL_fairs_79 rfl (by decide) ?_
      refine Z.goto C 14 dL_fairs_82 (by decide) ?_
      refine ih (k + 1, zset ln k (5 * ((k : Int) / 5) + (k : Int) % 5), zset bd k v) ⟨by dsimp only; omega, fun j hj => ?_⟩ (by dsimp only; omega)
      dsimp only
      by_cases e : j = k
      · subst e
        rw [zset_eq, zset_eq]
        exact ⟨hv, rfl⟩
      · rw [zset_ne _ (by omega), zset_ne _ (by omega)]
        exact hinv j (by omega)
    · skip
      refine Z.aload C dL_fairs_21 rfl ?_
      refine Z.iload C dL_fairs_23 rfl ?_
      refine Z.iload_n C dL_fairs_25 rfl ?_
      refine Z.iconst C dL_fairs_26 ?_
      refine Z.iload C dL_fairs_27 rfl ?_
      refine Z.iconst C dL_fairs_29 ?_
      refine Z.idiv C dL_fairs_30 (by omega) (by omega) (by omega) (by omega) ?_
      refine Z.iload_n C dL_fairs_31 rfl ?_
      refine Z.aload_n C dL_fairs_32 rfl ?_
      refine Z.cSIf (wr := [(q1, aL cL 25 ln), (q2, aI cI 25 bd)]) C 5 (q_may l D cI cJ cL aq hf at_ wg dy ti gg M hM hR w 0 ((k : Int) / 5) x w0 w1 (by omega) (by omega) hk0.1 hk0.2 x0 x1) gL_fairs_L_may rfl rfl rfl (by decide +kernel) ⟨Nat.le_of_ble_eq_true rfl, Nat.le_of_ble_eq_true rfl⟩ rfl rfl (Nat.le_of_ble_eq_true rfl) ⟨Nat.le_of_ble_eq_true rfl, Nat.le_of_ble_eq_true rfl⟩ dL_fairs_33 (fun r1 w1' hr1 => ?_)
      obtain ⟨hr1, rfl⟩ := hr1
      have hri : inr r1 := by rcases hr1 with ⟨z, -⟩ | ⟨z, -⟩ <;> exact ⟨by omega, by omega⟩
      refine Z.ifeq C 57 dL_fairs_36 (by decide) (hri) (fun h2 => ?_) (fun h2 => ?_)
      · rcases hr1 with ⟨z, -⟩ | ⟨-, z⟩
        · omega
        · skip
          refine Z.ldc C (v := iI (100000000)) (100000000) (by decide +kernel) rfl dL_fairs_57 ?_
          exact join 100000000 ⟨fun q => absurd q.1 z, fun _ => rfl⟩
      · rcases hr1 with ⟨-, z1⟩ | ⟨z, -⟩
        · skip
          refine Z.iload_n C dL_fairs_39 rfl ?_
          refine Z.iconst C dL_fairs_40 ?_
          refine Z.iload C dL_fairs_41 rfl ?_
          refine Z.iconst C dL_fairs_43 ?_
          refine Z.irem C dL_fairs_44 (by omega) (by omega) (by omega) (by omega) ?_
          refine Z.iload_n C dL_fairs_45 rfl ?_
          refine Z.aload_n C dL_fairs_46 rfl ?_
          refine Z.cSIf (wr := [(q1, aL cL 25 ln), (q2, aI cI 25 bd)]) C 5 (q_may l D cI cJ cL aq hf at_ wg dy ti gg M hM hR w 1 ((k : Int) % 5) x w0 w1 (by omega) (by omega) hk1.1 hk1.2 x0 x1) gL_fairs_L_may rfl rfl rfl (by decide +kernel) ⟨Nat.le_of_ble_eq_true rfl, Nat.le_of_ble_eq_true rfl⟩ rfl rfl (Nat.le_of_ble_eq_true rfl) ⟨Nat.le_of_ble_eq_true rfl, Nat.le_of_ble_eq_true rfl⟩ dL_fairs_47 (fun r2 w2' hr2 => ?_)
          obtain ⟨hr2, rfl⟩ := hr2
          have hri2 : inr r2 := by rcases hr2 with ⟨z, -⟩ | ⟨z, -⟩ <;> exact ⟨by omega, by omega⟩
          refine Z.ifeq C 57 dL_fairs_50 (by decide) (hri2) (fun h3 => ?_) (fun h3 => ?_)
          · rcases hr2 with ⟨z, -⟩ | ⟨-, z⟩
            · omega
            · skip
              refine Z.ldc C (v := iI (100000000)) (100000000) (by decide +kernel) rfl dL_fairs_57 ?_
              exact join 100000000 ⟨fun q => absurd q.2 z, fun _ => rfl⟩
          · rcases hr2 with ⟨-, z2⟩ | ⟨z, -⟩
            · skip
              refine Z.iconst C dL_fairs_53 ?_
              refine Z.goto C 59 dL_fairs_54 (by decide) ?_
              exact join 0 ⟨fun _ => rfl, fun q => absurd ⟨z1, z2⟩ q⟩
            · omega
        · omega
