/-! ===== Nest.cutAll ===== -/
def plS (pl : Int) (Ls : Int → Int) : Nat → (Int → Int) × Int × (Int → Int) × (Int → Int)
  | 0 => (fun _ => 0, 0, fun _ => 0, fun _ => 0)
  | t + 1 => ((cutZ pl (cutZ pl (plS pl Ls t).1 (plS pl Ls t).2.1 (Ls (skZ Ls t 5))).2.1 (cutZ pl (plS pl Ls t).1 (plS pl Ls t).2.1 (Ls (skZ Ls t 5))).2.2 (Ls (skZ Ls t 5))).2.1, (cutZ pl (cutZ pl (plS pl Ls t).1 (plS pl Ls t).2.1 (Ls (skZ Ls t 5))).2.1 (cutZ pl (plS pl Ls t).1 (plS pl Ls t).2.1 (Ls (skZ Ls t 5))).2.2 (Ls (skZ Ls t 5))).2.2, zset (plS pl Ls t).2.2.1 (skZ Ls t 5) (cutZ pl (plS pl Ls t).1 (plS pl Ls t).2.1 (Ls (skZ Ls t 5))).1, zset (plS pl Ls t).2.2.2 (skZ Ls t 5) (cutZ pl (cutZ pl (plS pl Ls t).1 (plS pl Ls t).2.1 (Ls (skZ Ls t 5))).2.1 (cutZ pl (plS pl Ls t).1 (plS pl Ls t).2.1 (Ls (skZ Ls t 5))).2.2 (Ls (skZ Ls t 5))).1)
set_option maxRecDepth 20000 in
theorem iw_X5_cutAll_5 : ∀ w ∈ u_ws RX5 TX5 7, w ∈ wsX5_cutAll := by decide +kernel
abbrev rmX5_cutAll : Room := { frames := 3, cells := 0, slots := 0, locals := 68 }
set_option maxHeartbeats 4000000 in
set_option maxRecDepth 100000 in
theorem c_cutAll (l : Launch) (D : va_G) (cI cJ cL : ClassId) (ad : Nat → Nat) (M B : Int → Int → Int) (lo ch wt sn vo mo le ln od fe se td th : Int → Int) (cnt bw bs pl tk tc sill day lau : Int) (hM : hOK M) (hp : 100 ≤ pl) (hp2 : pl ≤ 4000) : CV l yX5_cutAll wsX5_cutAll rmX5_cutAll [.ref (ad 7), .ref (ad 1)] D cI cJ cL (wX ad cI cJ M B lo ch wt sn vo mo le ln od fe se td th cnt bw bs pl tk tc sill day lau) (fun w' => ∃ le' ln' od' fe' se' : Int → Int, (∀ j : Int, 0 ≤ j → j < 5 → fe' j = (plS pl (LsM M) 5).2.2.1 j ∧ se' j = (plS pl (LsM M) 5).2.2.2 j) ∧ w' = (wX ad cI cJ M B lo ch wt sn vo mo le' ln' od' fe' se' td th cnt bw bs pl (plS pl (LsM M) 5).2.1 tc sill day lau)) := by
  refine CV.of (cc := cX5_cutAll) (maxL := 4) (ret := none) (own := RX5) _ 2 (by decide +kernel) rfl rfl rfl (Nat.le_of_ble_eq_true rfl) rfl (fun sz9 p9 e9 s9 m9 a9 b9 h9 c9 C hr => ?_)
  refine Z.aload_n C dX5_cutAll_0 rfl ?_
  refine Z.aload_n C dX5_cutAll_1 rfl ?_
  refine Z.cVV C 7 1 ( c_sortByLength l D cI cJ cL ad M B lo ch wt sn vo mo le ln od fe se td th cnt bw bs pl tk tc sill day lau hM) rfl rfl gX5_cutAll_X5_sortByLength rfl rfl rfl (by decide +kernel) ⟨Nat.le_of_ble_eq_true rfl, Nat.le_of_ble_eq_true rfl⟩ rfl rfl (Nat.le_of_ble_eq_true rfl) ⟨Nat.le_of_ble_eq_true rfl, Nat.le_of_ble_eq_true rfl⟩ dX5_cutAll_2 (fun w1 hw1 => ?_)
  obtain ⟨ln1, od1, hl1, hso, rfl⟩ := hw1
  refine Z.aload_n C dX5_cutAll_5 rfl ?_
  refine Z.iconst C dX5_cutAll_6 ?_
  refine Z.putf C 7 6 iw_X5_cutAll_5 rfl rfl (by decide) tyX5 tyX5_ok nmX5 (by decide +kernel) rfl (ty := .int) (by decide +kernel) rfl rfl (Nat.le_of_ble_eq_true rfl) dX5_cutAll_7 wX_s_tk ?_
  refine Z.iconst C dX5_cutAll_10 ?_
  refine Z.istore_n C dX5_cutAll_11 (by decide) ?_
  refine Z.loop (α := Nat × (Int → Int) × Int × (Int → Int) × (Int → Int) × Value) (fun y => (wX ad cI cJ M B lo ch wt sn vo mo y.2.1 ln1 od1 y.2.2.2.1 y.2.2.2.2.1 td th cnt bw bs pl y.2.2.1 tc sill day lau)) (fun y => [.ref (ad 7), .ref (ad 1), .int (iI y.1), y.2.2.2.2.2]) (fun y => y.1 ≤ 5 ∧ agN y.2.1 (plS pl (LsM M) y.1).1 (plS pl (LsM M) y.1).2.1 ∧ bdN (plS pl (LsM M) y.1).1 (plS pl (LsM M) y.1).2.1 ∧ y.2.2.1 = (plS pl (LsM M) y.1).2.1 ∧ 0 ≤ y.2.2.1 ∧ y.2.2.1 ≤ 34 * y.1 ∧ (∀ t' : Nat, t' < y.1 → y.2.2.2.1 (od1 t') = (plS pl (LsM M) y.1).2.2.1 (od1 t') ∧ y.2.2.2.2.1 (od1 t') = (plS pl (LsM M) y.1).2.2.2 (od1 t'))) (fun y => 5 - y.1) (0, le, 0, fe, se, .null) ⟨Nat.zero_le _, fun j a b => absurd b (by simp only [plS]; omega), fun j a b => absurd b (by simp only [plS]; omega), rfl, by dsimp only; omega, by dsimp only; omega, fun t h => absurd h (Nat.not_lt_zero _)⟩ rfl rfl (fun y hk ih => ?_)
  obtain ⟨t, le1, n, fe1, se1, v3⟩ := y
  dsimp only at hk ih ⊢
  obtain ⟨q1, q2, q3, q4, q5, q6, q7⟩ := hk
  refine Z.iload_n C dX5_cutAll_12 rfl ?_
  refine Z.iconst C dX5_cutAll_13 ?_
  refine Z.icmpge C 62 dX5_cutAll_14 (by decide) (⟨by omega, by omega⟩) (⟨by omega, by omega⟩) (fun h => ?_) (fun h => ?_)
  · have e5 : t = 5 := by omega
    subst e5
    refine Z.vret C hr dX5_cutAll_62 ⟨le1, ln1, od1, fe1, se1, fun j h0 h1 => ?_, by rw [q4]⟩
    obtain ⟨t', h2, h3⟩ := SO_surj hso h0 h1
    have := q7 t' h2
    rw [h3] at this
    exact this
  · have hk := hso.1 t (by omega)
    have hsk := SO_sk hso (t := t) (by omega)
    have hlk : ln1 (od1 t) = LsM M (od1 t) := by
      have := hl1 (od1 t).toNat (by omega)
      rw [Int.toNat_of_nonneg hk.1] at this
      exact this
    have hb := strZ_bd hM (od1 t) 8
    have hLd : LsM M (od1 t) = strZ (M (od1 t)) 8 := rfl
    have c1 := cutZ_bd hp hp2 (f := (plS pl (LsM M) t).1) (n := n) (len := LsM M (od1 t)) q5 (by rw [q4]; exact q3) (by omega) (by omega)
    have c2 := cutZ_bd hp hp2 (f := (cutZ pl (plS pl (LsM M) t).1 n (LsM M (od1 t))).2.1) (n := (cutZ pl (plS pl (LsM M) t).1 n (LsM M (od1 t))).2.2) (len := LsM M (od1 t)) (by omega) c1.2.2.1 (by omega) (by omega)
    refine Z.aload_n C dX5_cutAll_17 rfl ?_
    refine Z.getf C 7 2 iw_X5_cutAll_5 rfl rfl (by decide) (by decide +kernel) rfl dX5_cutAll_18 ?_
    refine Z.iload_n C dX5_cutAll_21 rfl ?_
    refine Z.iald C 31 rfl (by omega) (by omega) (by decide) dX5_cutAll_22 ?_
    refine Z.istore_n C dX5_cutAll_23 (by decide) ?_
    refine Z.aload_n C dX5_cutAll_24 rfl ?_
    refine Z.getf C 7 3 iw_X5_cutAll_5 rfl rfl (by decide) (by decide +kernel) rfl dX5_cutAll_25 ?_
    refine Z.iload_n C dX5_cutAll_28 rfl ?_
    refine Z.aload_n C dX5_cutAll_29 rfl ?_
    refine Z.aload_n C dX5_cutAll_30 rfl ?_
    refine Z.getf C 7 1 iw_X5_cutAll_5 rfl rfl (by decide) (by decide +kernel) rfl dX5_cutAll_31 ?_
    refine Z.iload_n C dX5_cutAll_34 rfl ?_
    refine Z.iald C 30 rfl (by omega) (by omega) (by decide) dX5_cutAll_35 ?_
    rw [hlk]
    refine Z.cVI C 7 1 ( c_cut l D cI cJ cL ad M B lo ch wt sn vo mo le1 ln1 od1 fe1 se1 td th cnt bw bs pl n tc sill day lau hp hp2 (plS pl (LsM M) t).1 (by rw [q4]; exact q2) (by rw [q4]; exact q3) q5 (by omega) (LsM M (od1 t)) (by omega) (by omega)) rfl rfl gX5_cutAll_X5_cut rfl rfl rfl (by decide +kernel) ⟨Nat.le_of_ble_eq_true rfl, Nat.le_of_ble_eq_true rfl⟩ rfl rfl (Nat.le_of_ble_eq_true rfl) ⟨Nat.le_of_ble_eq_true rfl, Nat.le_of_ble_eq_true rfl⟩ dX5_cutAll_36 (fun r1 w1 hw1 => ?_)
    obtain ⟨rfl, le2, ag2, rfl⟩ := hw1
    refine Z.iast C 32 rfl (by omega) (by omega) (by decide) dX5_cutAll_39 wX_a32 ?_
    refine Z.aload_n C dX5_cutAll_40 rfl ?_
    refine Z.getf C 7 4 iw_X5_cutAll_5 rfl rfl (by decide) (by decide +kernel) rfl dX5_cutAll_41 ?_
    refine Z.iload_n C dX5_cutAll_44 rfl ?_
    refine Z.aload_n C dX5_cutAll_45 rfl ?_
    refine Z.aload_n C dX5_cutAll_46 rfl ?_
    refine Z.getf C 7 1 iw_X5_cutAll_5 rfl rfl (by decide) (by decide +kernel) rfl dX5_cutAll_47 ?_
    refine Z.iload_n C dX5_cutAll_50 rfl ?_
    refine Z.iald C 30 rfl (by omega) (by omega) (by decide) dX5_cutAll_51 ?_
    rw [hlk]
    refine Z.cVI C 7 1 ( c_cut l D cI cJ cL ad M B lo ch wt sn vo mo le2 ln1 od1 _ se1 td th cnt bw bs pl _ tc sill day lau hp hp2 (cutZ pl (plS pl (LsM M) t).1 n (LsM M (od1 t))).2.1 ag2 c1.2.2.1 (by omega) (by omega) (LsM M (od1 t)) (by omega) (by omega)) rfl rfl gX5_cutAll_X5_cut rfl rfl rfl (by decide +kernel) ⟨Nat.le_of_ble_eq_true rfl, Nat.le_of_ble_eq_true rfl⟩ rfl rfl (Nat.le_of_ble_eq_true rfl) ⟨Nat.le_of_ble_eq_true rfl, Nat.le_of_ble_eq_true rfl⟩ dX5_cutAll_52 (fun r1 w1 hw1 => ?_)
    obtain ⟨rfl, le3, ag3, rfl⟩ := hw1
    refine Z.iast C 33 rfl (by omega) (by omega) (by decide) dX5_cutAll_55 wX_a33 ?_
    refine Z.iinc C dX5_cutAll_56 rfl (by decide) ?_
    refine Z.goto C 12 dX5_cutAll_59 (by decide) ?_
    have hpl : plS pl (LsM M) (t + 1) = ((cutZ pl (cutZ pl (plS pl (LsM M) t).1 n (LsM M (od1 t))).2.1 (cutZ pl (plS pl (LsM M) t).1 n (LsM M (od1 t))).2.2 (LsM M (od1 t))).2.1, (cutZ pl (cutZ pl (plS pl (LsM M) t).1 n (LsM M (od1 t))).2.1 (cutZ pl (plS pl (LsM M) t).1 n (LsM M (od1 t))).2.2 (LsM M (od1 t))).2.2, zset (plS pl (LsM M) t).2.2.1 (od1 t) (cutZ pl (plS pl (LsM M) t).1 n (LsM M (od1 t))).1, zset (plS pl (LsM M) t).2.2.2 (od1 t) (cutZ pl (cutZ pl (plS pl (LsM M) t).1 n (LsM M (od1 t))).2.1 (cutZ pl (plS pl (LsM M) t).1 n (LsM M (od1 t))).2.2 (LsM M (od1 t))).1) := by
      simp only [plS]
      rw [hsk, ← q4]
    refine ih (t + 1, le3, (cutZ pl (cutZ pl (plS pl (LsM M) t).1 n (LsM M (od1 t))).2.1 (cutZ pl (plS pl (LsM M) t).1 n (LsM M (od1 t))).2.2 (LsM M (od1 t))).2.2, zset fe1 (od1 t) (cutZ pl (plS pl (LsM M) t).1 n (LsM M (od1 t))).1, zset se1 (od1 t) (cutZ pl (cutZ pl (plS pl (LsM M) t).1 n (LsM M (od1 t))).2.1 (cutZ pl (plS pl (LsM M) t).1 n (LsM M (od1 t))).2.2 (LsM M (od1 t))).1, .int (iI (od1 t))) ⟨by dsimp only; omega, by dsimp only; rw [hpl]; exact ag3, by dsimp only; rw [hpl]; exact c2.2.2.1, by dsimp only; rw [hpl], by dsimp only; omega, by dsimp only; push_cast; omega, fun t' ht' => ?_⟩ (by dsimp only; omega)
    dsimp only at ht' ⊢
    rw [hpl]
    dsimp only
    by_cases e : od1 t' = od1 t
    · rw [e, zset_eq, zset_eq, zset_eq, zset_eq]
      exact ⟨rfl, rfl⟩
    · rw [zset_ne _ e, zset_ne _ e, zset_ne _ e, zset_ne _ e]
      refine q7 t' ?_
      have : t' ≠ t := fun q => e (by rw [q])
      omega
