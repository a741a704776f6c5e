/-! ===== Batten.draw, straighten ===== -/
def dStep (R : Int → Int → Int) (h n : Nat) (q : Int × Int × Int) : Int × Int × Int := if R h n < q.1 then (R h n, (h : Int), (n : Int)) else q
def dIn (R : Int → Int → Int) (h : Nat) (q : Int × Int × Int) : Nat → Int × Int × Int
  | 0 => q
  | n + 1 => dStep R h n (dIn R h q n)
def dOut (R : Int → Int → Int) (c : Nat) (q : Int × Int × Int) : Nat → Int × Int × Int
  | 0 => q
  | h + 1 => dIn R h (dOut R c q h) c
def oZ (lo ch : Int → Int) (h0 n0 : Int) : Nat → Int × Int
  | 0 => (h0, n0)
  | s + 1 => ((oZ lo ch h0 n0 s).2, amF (gZ lo ch s (oZ lo ch h0 n0 s).1 (oZ lo ch h0 n0 s).2) (ch (s + 2)).toNat)
theorem amF_bd (g : Int → Int) : ∀ n : Nat, 0 < n → 0 ≤ amF g n ∧ amF g n < n
  | 0, h => absurd h (Nat.lt_irrefl _)
  | n + 1, _ => by
    by_cases q : g n < mnF g n
    · rw [amF_lt q]; omega
    · rw [amF_ge q]
      by_cases e : n = 0
      · subst e
        show 0 ≤ (0 : Int) ∧ (0 : Int) < _
        omega
      · have := amF_bd g n (by omega)
        omega
def dQ (lo ch : Int → Int) : Int × Int × Int := dOut (RZ lo ch 7) (ch 1).toNat (NOL, 0, 0) (ch 0).toNat
theorem oZ_bd {lo ch : Int → Int} (hL : LC lo ch) {h0 n0 : Int} (a0 : 0 ≤ h0) (a1 : h0 < ch 0) (b0 : 0 ≤ n0) (b1 : n0 < ch 1) : ∀ s : Nat, s ≤ 7 → 0 ≤ (oZ lo ch h0 n0 s).1 ∧ (oZ lo ch h0 n0 s).1 < ch s ∧ 0 ≤ (oZ lo ch h0 n0 s).2 ∧ (oZ lo ch h0 n0 s).2 < ch (s + 1)
  | 0, _ => ⟨a0, a1, b0, b1⟩
  | s + 1, hs => by
    have ih := oZ_bd hL a0 a1 b0 b1 s (by omega)
    have c2 := hL (s + 2) (by omega) (by omega)
    have hb := amF_bd (gZ lo ch s (oZ lo ch h0 n0 s).1 (oZ lo ch h0 n0 s).2) (ch (s + 2)).toNat (by omega)
    simp only [oZ]
    rw [show ((s + 1 : Nat) : Int) = (s : Int) + 1 by omega, show (s : Int) + 1 + 1 = s + 2 by omega]
    exact ⟨ih.2.2.1, ih.2.2.2, hb.1, by omega⟩
set_option maxRecDepth 20000 in
theorem iw_X1_draw_1 : ∀ w ∈ u_ws RX1 TX1 3, w ∈ wsX1_draw := by decide +kernel
abbrev rmX1_draw : Room := { frames := 3, cells := 0, slots := 0, locals := 75 }
set_option maxHeartbeats 4000000 in
set_option maxRecDepth 100000 in
theorem c_draw (l : Launch) (D : va_G) (cI cJ cL : ClassId) (ad : Nat → Nat) (M B : Int → Int → Int) (lo ch wt sn vo mo le ln od fe se td th : Int → Int) (cnt bw bs pl tk tc sill day lau : Int) (hM : hOK M) (hL : LC lo ch) (i : Int) (hi0 : 0 ≤ i) (hi1 : i < 6) (hR : ∀ s : Nat, s ≤ 7 → ∀ h n : Nat, h < ch s → n < ch (s + 1) → B s (h * 5 + n) = RZ lo ch (7 - s) h n) : CV l yX1_draw wsX1_draw rmX1_draw [.ref (ad 3), .ref (ad (9 + i.toNat))] D cI cJ cL (wX ad cI cJ M B lo ch wt sn vo mo le ln od fe se td th cnt bw bs pl tk tc sill day lau) (fun w' => ∃ f' : Int → Int, (∀ j : Int, 0 ≤ f' j ∧ f' j ≤ 200) ∧ (∀ s : Nat, s ≤ 8 → f' s = lo s + (oZ lo ch (dQ lo ch).2.1 (dQ lo ch).2.2 s).1) ∧ w' = (wX ad cI cJ (zrow M i f') B lo ch wt sn vo mo le ln od fe se td th cnt bw bs pl tk tc sill day lau)) := by
  have c0 := hL 0 (by omega) (by omega)
  have c1 := hL 1 (by omega) (by omega)
  have hN : NOL = 2000000 := rfl
  refine CV.of (cc := cX1_draw) (maxL := 7) (ret := none) (own := RX1) _ 5 (by decide +kernel) rfl rfl rfl (Nat.le_of_ble_eq_true rfl) rfl (fun sz9 p9 e9 s9 m9 a9 b9 h9 c9 C hr => ?_)
  refine Z.iconst C dX1_draw_0 ?_
  refine Z.istore_n C dX1_draw_1 (by decide) ?_
  refine Z.iconst C dX1_draw_2 ?_
  refine Z.istore_n C dX1_draw_3 (by decide) ?_
  refine Z.ldc C (v := iI 2000000) 2000000 (by decide +kernel) rfl dX1_draw_4 ?_
  refine Z.istore C dX1_draw_6 (by decide) ?_
  refine Z.iconst C dX1_draw_8 ?_
  refine Z.istore C dX1_draw_9 (by decide) ?_
  refine Z.loop (α := Nat × (Int × Int × Int) × Value) (fun y => (wX ad cI cJ M B lo ch wt sn vo mo le ln od fe se td th cnt bw bs pl tk tc sill day lau)) (fun y => [.ref (ad 3), .ref (ad (9 + i.toNat)), .int (iI y.2.1.2.1), .int (iI y.2.1.2.2), .int (iI y.2.1.1), .int (iI y.1), y.2.2]) (fun y => y.1 ≤ ch 0 ∧ y.2.1 = dOut (RZ lo ch 7) (ch 1).toNat (NOL, 0, 0) y.1 ∧ 0 ≤ y.2.1.1 ∧ y.2.1.1 ≤ NOL ∧ 0 ≤ y.2.1.2.1 ∧ y.2.1.2.1 < ch 0 ∧ 0 ≤ y.2.1.2.2 ∧ y.2.1.2.2 < ch 1) (fun y => 5 - y.1) (0, (NOL, 0, 0), .null) ⟨by dsimp only; omega, rfl, by dsimp only; omega, by dsimp only; omega, by dsimp only; omega, by dsimp only; omega, by dsimp only; omega, by dsimp only; omega⟩ rfl rfl (fun y hy ih => ?_)
  obtain ⟨h, q, v6⟩ := y
  dsimp only at hy ih ⊢
  obtain ⟨h1, h2, h3, h4, h5, h6, h7, h8⟩ := hy
  refine Z.iload C dX1_draw_11 rfl ?_
  refine Z.aload_n C dX1_draw_13 rfl ?_
  refine Z.getf C 3 2 iw_X1_draw_1 rfl rfl (by decide) (by decide +kernel) rfl dX1_draw_14 ?_
  refine Z.iconst C dX1_draw_17 ?_
  refine Z.iald C 24 rfl (by omega) (by omega) (by decide) dX1_draw_18 ?_
  refine Z.icmpge C 89 dX1_draw_19 (by decide) (⟨by omega, by omega⟩) (⟨by omega, by omega⟩) (fun hc => ?_) (fun hc => ?_)
  · have eh : (ch 0).toNat = h := by omega
    have hq : q = dQ lo ch := by unfold dQ; rw [eh]; exact h2
    rw [hq] at h5 h6 h7 h8 ⊢
    generalize (dQ lo ch).2.1 = h0 at h5 h6
    generalize (dQ lo ch).2.2 = n0 at h7 h8
    generalize (dQ lo ch).1 = le0
    refine Z.aload_n C dX1_draw_89 rfl ?_
    refine Z.iconst C dX1_draw_90 ?_
    refine Z.aload_n C dX1_draw_91 rfl ?_
    refine Z.getf C 3 1 iw_X1_draw_1 rfl rfl (by decide) (by decide +kernel) rfl dX1_draw_92 ?_
    refine Z.iconst C dX1_draw_95 ?_
    refine Z.iald C 23 rfl (by omega) (by omega) (by decide) dX1_draw_96 ?_
    refine Z.iload_n C dX1_draw_97 rfl ?_
    refine Z.iadd C dX1_draw_98 ?_
    refine Z.iast C _ (wX_row (by omega) (by omega)) (by omega) (by omega) (by decide) dX1_draw_99 (wX_setrow (by omega) (by omega)) ?_
    refine Z.aload_n C dX1_draw_100 rfl ?_
    refine Z.iconst C dX1_draw_101 ?_
    refine Z.aload_n C dX1_draw_102 rfl ?_
    refine Z.getf C 3 1 iw_X1_draw_1 rfl rfl (by decide) (by decide +kernel) rfl dX1_draw_103 ?_
    refine Z.iconst C dX1_draw_106 ?_
    refine Z.iald C 23 rfl (by omega) (by omega) (by decide) dX1_draw_107 ?_
    refine Z.iload_n C dX1_draw_108 rfl ?_
    refine Z.iadd C dX1_draw_109 ?_
    refine Z.iast C _ (wX_row (by omega) (by omega)) (by omega) (by omega) (by decide) dX1_draw_110 (wX_setrow (by omega) (by omega)) ?_
    rw [zrow_eq, zrow_zrow]
    refine Z.iconst C dX1_draw_111 ?_
    refine Z.istore C dX1_draw_112 (by decide) ?_
    refine Z.loop (α := Nat × (Int → Int) × Value) (fun y => (wX ad cI cJ (zrow M i y.2.1) B lo ch wt sn vo mo le ln od fe se td th cnt bw bs pl tk tc sill day lau)) (fun y => [.ref (ad 3), .ref (ad (9 + i.toNat)), .int (iI (oZ lo ch h0 n0 y.1).1), .int (iI (oZ lo ch h0 n0 y.1).2), .int (iI le0), .int (iI y.1), y.2.2]) (fun y => y.1 ≤ 7 ∧ (∀ j : Int, 0 ≤ y.2.1 j ∧ y.2.1 j ≤ 200) ∧ (∀ s : Nat, s < y.1 + 2 → y.2.1 s = lo s + (oZ lo ch h0 n0 s).1)) (fun y => 7 - y.1) (0, zset (zset (M i) 0 (lo 0 + h0)) 1 (lo 1 + n0), v6) ⟨by dsimp only; omega, fun j => ?_, fun s hs => ?_⟩ rfl rfl (fun y hy ih2 => ?_)
    · dsimp only
      by_cases e : j = 1
      · rw [e, zset_eq]; omega
      · rw [zset_ne _ e]
        by_cases e2 : j = 0
        · rw [e2, zset_eq]; omega
        · rw [zset_ne _ e2]; exact hM i j
    · dsimp only at hs ⊢
      rcases (show s = 0 ∨ s = 1 by omega) with rfl | rfl <;> rfl
    obtain ⟨s, f1, v7⟩ := y
    dsimp only at hy ih2 ⊢
    obtain ⟨g1, g2, g3⟩ := hy
    refine Z.iload C dX1_draw_114 rfl ?_
    refine Z.bipush C dX1_draw_116 (by decide) ?_
    refine Z.icmpge C 160 dX1_draw_118 (by decide) (⟨by omega, by omega⟩) (⟨by omega, by omega⟩) (fun hc2 => ?_) (fun hc2 => ?_)
    · refine Z.vret C hr dX1_draw_160 ⟨f1, g2, fun j hj => g3 j (by omega), rfl⟩
    · have ho := oZ_bd hL h5 h6 h7 h8 s (by omega)
      have d2 := hL (s + 2) (by omega) (by omega)
      have ham := amF_bd (gZ lo ch s (oZ lo ch h0 n0 s).1 (oZ lo ch h0 n0 s).2) (ch (s + 2)).toNat (by omega)
      refine Z.aload_n C dX1_draw_121 rfl ?_
      refine Z.iload C dX1_draw_122 rfl ?_
      refine Z.iload_n C dX1_draw_124 rfl ?_
      refine Z.iload_n C dX1_draw_125 rfl ?_
      refine Z.cVId C 3 3 (c_lowestThird l D cI cJ cL ad (zrow M i f1) B lo ch wt sn vo mo le ln od fe se td th cnt bw bs pl tk tc sill day lau hL s (by omega) (oZ lo ch h0 n0 s).1 (oZ lo ch h0 n0 s).2 ho.1 ho.2.1 ho.2.2.1 ho.2.2.2 (fun t ht => by have z := hR (s + 1) (by omega) (oZ lo ch h0 n0 s).2.toNat t (by push_cast; omega) (by push_cast; rw [show (s : Int) + 1 + 1 = s + 2 by omega]; exact ht); rw [Int.toNat_of_nonneg ho.2.2.1, show 7 - (s + 1) = 6 - s by omega] at z; push_cast at z; exact z)) rfl rfl gX1_draw_X1_lowestThird rfl rfl rfl (by decide +kernel) ⟨Nat.le_of_ble_eq_true rfl, Nat.le_of_ble_eq_true rfl⟩ rfl rfl (Nat.le_of_ble_eq_true rfl) ⟨Nat.le_of_ble_eq_true rfl, Nat.le_of_ble_eq_true rfl⟩ dX1_draw_126 ?_
      refine Z.istore C dX1_draw_129 (by decide) ?_
      refine Z.aload_n C dX1_draw_131 rfl ?_
      refine Z.iload C dX1_draw_132 rfl ?_
      refine Z.iconst C dX1_draw_134 ?_
      refine Z.iadd C dX1_draw_135 ?_
      refine Z.aload_n C dX1_draw_136 rfl ?_
      refine Z.getf C 3 1 iw_X1_draw_1 rfl rfl (by decide) (by decide +kernel) rfl dX1_draw_137 ?_
      refine Z.iload C dX1_draw_140 rfl ?_
      refine Z.iconst C dX1_draw_142 ?_
      refine Z.iadd C dX1_draw_143 ?_
      refine Z.iald C 23 rfl (by omega) (by omega) (by decide) dX1_draw_144 ?_
      refine Z.iload C dX1_draw_145 rfl ?_
      refine Z.iadd C dX1_draw_147 ?_
      refine Z.iast C _ (wX_row (by omega) (by omega)) (by omega) (by omega) (by decide) dX1_draw_148 (wX_setrow (by omega) (by omega)) ?_
      rw [zrow_eq, zrow_zrow]
      refine Z.iload_n C dX1_draw_149 rfl ?_
      refine Z.istore_n C dX1_draw_150 (by decide) ?_
      refine Z.iload C dX1_draw_151 rfl ?_
      refine Z.istore_n C dX1_draw_153 (by decide) ?_
      refine Z.iinc C dX1_draw_154 rfl (by decide) ?_
      refine Z.goto C 114 dX1_draw_157 (by decide) ?_
      refine ih2 (s + 1, zset f1 (s + 2) (lo (s + 2) + amF (gZ lo ch s (oZ lo ch h0 n0 s).1 (oZ lo ch h0 n0 s).2) (ch (s + 2)).toNat), .int (iI (amF (gZ lo ch s (oZ lo ch h0 n0 s).1 (oZ lo ch h0 n0 s).2) (ch (s + 2)).toNat))) ⟨by dsimp only; omega, fun j => ?_, fun s' hs' => ?_⟩ (by dsimp only; omega)
      · dsimp only
        by_cases e : j = s + 2
        · rw [e, zset_eq]; omega
        · rw [zset_ne _ e]; exact g2 j
      · dsimp only at hs' ⊢
        by_cases e : s' = s + 2
        · subst e
          rw [show ((s + 2 : Nat) : Int) = (s : Int) + 2 by omega, zset_eq]
          rfl
        · rw [zset_ne _ (by omega)]
          exact g3 s' (by omega)
  · refine Z.iconst C dX1_draw_22 ?_
    refine Z.istore C dX1_draw_23 (by decide) ?_
    refine Z.loop (α := Nat × (Int × Int × Int)) (fun y => (wX ad cI cJ M B lo ch wt sn vo mo le ln od fe se td th cnt bw bs pl tk tc sill day lau)) (fun y => [.ref (ad 3), .ref (ad (9 + i.toNat)), .int (iI y.2.2.1), .int (iI y.2.2.2), .int (iI y.2.1), .int (iI h), .int (iI y.1)]) (fun y => y.1 ≤ ch 1 ∧ y.2 = dIn (RZ lo ch 7) h q y.1 ∧ 0 ≤ y.2.1 ∧ y.2.1 ≤ NOL ∧ 0 ≤ y.2.2.1 ∧ y.2.2.1 < ch 0 ∧ 0 ≤ y.2.2.2 ∧ y.2.2.2 < ch 1) (fun y => 5 - y.1) (0, q) ⟨by dsimp only; omega, rfl, h3, h4, h5, h6, h7, h8⟩ rfl rfl (fun y hy ih2 => ?_)
    obtain ⟨n, q1⟩ := y
    dsimp only at hy ih2 ⊢
    obtain ⟨g1, g2, g3, g4, g5, g6, g7, g8⟩ := hy
    refine Z.iload C dX1_draw_25 rfl ?_
    refine Z.aload_n C dX1_draw_27 rfl ?_
    refine Z.getf C 3 2 iw_X1_draw_1 rfl rfl (by decide) (by decide +kernel) rfl dX1_draw_28 ?_
    refine Z.iconst C dX1_draw_31 ?_
    refine Z.iald C 24 rfl (by omega) (by omega) (by decide) dX1_draw_32 ?_
    refine Z.icmpge C 83 dX1_draw_33 (by decide) (⟨by omega, by omega⟩) (⟨by omega, by omega⟩) (fun hc2 => ?_) (fun hc2 => ?_)
    · refine Z.iinc C dX1_draw_83 rfl (by decide) ?_
      refine Z.goto C 11 dX1_draw_86 (by decide) ?_
      refine ih (h + 1, q1, .int (iI n)) ⟨by dsimp only; omega, ?_, g3, g4, g5, g6, g7, g8⟩ (by dsimp only; omega)
      dsimp only [dOut]
      rw [show (ch 1).toNat = n by omega, g2, h2, show (ch 1).toNat = n by omega]
    · have hv := hR 0 (by omega) h n (by show (h : Int) < ch 0; omega) (by show (n : Int) < ch 1; omega)
      have hb := RZ_bd hL 7 (by omega) h n (by omega) (by show (h : Int) < ch 0; omega) (by omega) (by show (n : Int) < ch 1; omega)
      have hv2 : B 0 (h * 5 + n) = RZ lo ch 7 h n := hv
      refine Z.aload_n C dX1_draw_36 rfl ?_
      refine Z.getf C 3 0 iw_X1_draw_1 rfl rfl (by decide) (by decide +kernel) rfl dX1_draw_37 ?_
      refine Z.iconst C dX1_draw_40 ?_
      refine Z.aald C 4 rfl (by omega) (by omega) (by decide) dX1_draw_41 ?_
      refine Z.iload C dX1_draw_42 rfl ?_
      refine Z.iconst C dX1_draw_44 ?_
      refine Z.imul C dX1_draw_45 ?_
      refine Z.iload C dX1_draw_46 rfl ?_
      refine Z.iadd C dX1_draw_48 ?_
      refine Z.iald C _ (wX_brow (by omega) (by omega)) (by omega) (by omega) (by decide) dX1_draw_49 ?_
      rw [hv2]
      refine Z.iload C dX1_draw_50 rfl ?_
      refine Z.icmpge C 77 dX1_draw_52 (by decide) (⟨by omega, by omega⟩) (⟨by omega, by omega⟩) (fun hc3 => ?_) (fun hc3 => ?_)
      · refine Z.iinc C dX1_draw_77 rfl (by decide) ?_
        refine Z.goto C 25 dX1_draw_80 (by decide) ?_
        refine ih2 (n + 1, q1) ⟨by dsimp only; omega, ?_, g3, g4, g5, g6, g7, g8⟩ (by dsimp only; omega)
        dsimp only [dIn]
        rw [← g2]
        unfold dStep
        rw [if_neg (by omega)]
      · refine Z.aload_n C dX1_draw_55 rfl ?_
        refine Z.getf C 3 0 iw_X1_draw_1 rfl rfl (by decide) (by decide +kernel) rfl dX1_draw_56 ?_
        refine Z.iconst C dX1_draw_59 ?_
        refine Z.aald C 4 rfl (by omega) (by omega) (by decide) dX1_draw_60 ?_
        refine Z.iload C dX1_draw_61 rfl ?_
        refine Z.iconst C dX1_draw_63 ?_
        refine Z.imul C dX1_draw_64 ?_
        refine Z.iload C dX1_draw_65 rfl ?_
        refine Z.iadd C dX1_draw_67 ?_
        refine Z.iald C _ (wX_brow (by omega) (by omega)) (by omega) (by omega) (by decide) dX1_draw_68 ?_
        rw [hv2]
        refine Z.istore C dX1_draw_69 (by decide) ?_
        refine Z.iload C dX1_draw_71 rfl ?_
        refine Z.istore_n C dX1_draw_73 (by decide) ?_
        refine Z.iload C dX1_draw_74 rfl ?_
        refine Z.istore_n C dX1_draw_76 (by decide) ?_
        refine Z.iinc C dX1_draw_77 rfl (by decide) ?_
        refine Z.goto C 25 dX1_draw_80 (by decide) ?_
        refine ih2 (n + 1, (RZ lo ch 7 h n, (h : Int), (n : Int))) ⟨by dsimp only; omega, ?_, hb.1, by dsimp only; omega, by dsimp only; omega, by dsimp only; omega, by dsimp only; omega, by dsimp only; omega⟩ (by dsimp only; omega)
        dsimp only [dIn]
        rw [← g2]
        unfold dStep
        rw [if_pos (by omega)]
def loZ (f : Int → Int) (x s : Int) : Int := if 0 < f s - x then f s - x else 0
def hiZ (f : Int → Int) (x s : Int) : Int := if f s + x < 200 then f s + x else 200
def chZ (f : Int → Int) (x s : Int) : Int := hiZ f x s - loZ f x s + 1
def fairZ (f : Int → Int) (x : Int) (s : Nat) : Int := loZ f x s + (oZ (loZ f x) (chZ f x) (dQ (loZ f x) (chZ f x)).2.1 (dQ (loZ f x) (chZ f x)).2.2 s).1
def eqL (lo ch lo' ch' : Int → Int) : Prop := ∀ s : Int, 0 ≤ s → s ≤ 8 → lo s = lo' s ∧ ch s = ch' s
theorem RZ_cong {lo ch lo' ch' : Int → Int} (h : eqL lo ch lo' ch') : ∀ j : Nat, j ≤ 7 → RZ lo ch j = RZ lo' ch' j
  | 0, _ => rfl
  | j + 1, hj => by
    have ih := RZ_cong h j (by omega)
    have e0 := h ((6 - j : Nat) : Int) (by omega) (by omega)
    have e1 := h (((6 - j : Nat) : Int) + 1) (by omega) (by omega)
    have e2 := h (((6 - j : Nat) : Int) + 2) (by omega) (by omega)
    simp only [RZ]
    rw [ih, e0.1, e1.1, e2.1, e2.2]
theorem gZ_cong {lo ch lo' ch' : Int → Int} (h : eqL lo ch lo' ch') {s : Nat} (hs : s ≤ 6) (a b : Int) : gZ lo ch s a b = gZ lo' ch' s a b := by
  have e0 := h s (by omega) (by omega)
  have e1 := h (s + 1) (by omega) (by omega)
  have e2 := h (s + 2) (by omega) (by omega)
  unfold gZ
  rw [RZ_cong h (6 - s) (by omega), e0.1, e1.1, e2.1]
theorem oZ_cong {lo ch lo' ch' : Int → Int} (h : eqL lo ch lo' ch') (h0 n0 : Int) : ∀ s : Nat, s ≤ 7 → oZ lo ch h0 n0 s = oZ lo' ch' h0 n0 s
  | 0, _ => rfl
  | s + 1, hs => by
    simp only [oZ]
    rw [oZ_cong h h0 n0 s (by omega), gZ_cong h (by omega), (h (s + 2) (by omega) (by omega)).2]
theorem oZ_cong1 {lo ch lo' ch' : Int → Int} (h : eqL lo ch lo' ch') (h0 n0 : Int) {s : Nat} (hs : s ≤ 8) : (oZ lo ch h0 n0 s).1 = (oZ lo' ch' h0 n0 s).1 := by
  by_cases e : s ≤ 7
  · rw [oZ_cong h h0 n0 s e]
  · have : s = 7 + 1 := by omega
    subst this
    show (oZ lo ch h0 n0 7).2 = (oZ lo' ch' h0 n0 7).2
    rw [oZ_cong h h0 n0 7 (by omega)]
theorem dQ_cong {lo ch lo' ch' : Int → Int} (h : eqL lo ch lo' ch') : dQ lo ch = dQ lo' ch' := by
  unfold dQ
  rw [RZ_cong h 7 (by omega), (h 0 (by omega) (by omega)).2, (h 1 (by omega) (by omega)).2]
theorem LC_Z {f : Int → Int} (hf : ∀ j : Int, 0 ≤ f j ∧ f j ≤ 200) {x : Int} (x0 : 0 ≤ x) (x1 : x ≤ 2) : LC (loZ f x) (chZ f x) := by
  intro s _ _
  have := hf s
  unfold chZ loZ hiZ
  split <;> split <;> omega
set_option maxRecDepth 20000 in
theorem iw_X1_straighten_1 : ∀ w ∈ u_ws RX1 TX1 3, w ∈ wsX1_straighten := by decide +kernel
abbrev rmX1_straighten : Room := { frames := 4, cells := 0, slots := 0, locals := 101 }
set_option maxHeartbeats 4000000 in
set_option maxRecDepth 100000 in
theorem c_straighten (l : Launch) (D : va_G) (cI cJ cL : ClassId) (ad : Nat → Nat) (M B : Int → Int → Int) (lo ch wt sn vo mo le ln od fe se td th : Int → Int) (cnt bw bs pl tk tc sill day lau : Int) (hM : hOK M) (i : Int) (hi0 : 0 ≤ i) (hi1 : i < 6) (x : Int) (x0 : 0 ≤ x) (x1 : x ≤ 2) (hB : ∀ j : Int, B 7 j = 0) : CV l yX1_straighten wsX1_straighten rmX1_straighten [.ref (ad 3), .ref (ad (9 + i.toNat)), .int (iI x)] D cI cJ cL (wX ad cI cJ M B lo ch wt sn vo mo le ln od fe se td th cnt bw bs pl tk tc sill day lau) (fun w' => ∃ (B' : Int → Int → Int) (lo' ch' f' : Int → Int), (∀ j : Int, B' 7 j = 0) ∧ (∀ j : Int, 0 ≤ f' j ∧ f' j ≤ 200) ∧ (∀ s : Nat, s ≤ 8 → f' s = fairZ (M i) x s) ∧ w' = (wX ad cI cJ (zrow M i f') B' lo' ch' wt sn vo mo le ln od fe se td th cnt bw bs pl tk tc sill day lau)) := by
  refine CV.of (cc := cX1_straighten) (maxL := 4) (ret := none) (own := RX1) _ 1 (by decide +kernel) rfl rfl rfl (Nat.le_of_ble_eq_true rfl) rfl (fun sz9 p9 e9 s9 m9 a9 b9 h9 c9 C hr => ?_)
  refine Z.iconst C dX1_straighten_0 ?_
  refine Z.istore_n C dX1_straighten_1 (by decide) ?_
  refine Z.loop (α := Nat × (Int → Int) × (Int → Int)) (fun y => (wX ad cI cJ M B y.2.1 y.2.2 wt sn vo mo le ln od fe se td th cnt bw bs pl tk tc sill day lau)) (fun y => [.ref (ad 3), .ref (ad (9 + i.toNat)), .int (iI x), .int (iI y.1)]) (fun y => y.1 ≤ 9 ∧ ∀ s : Nat, s < y.1 → y.2.1 s = loZ (M i) x s ∧ y.2.2 s = chZ (M i) x s) (fun y => 9 - y.1) (0, lo, ch) ⟨by dsimp only; omega, fun s h => absurd h (Nat.not_lt_zero _)⟩ rfl rfl (fun y hy ih => ?_)
  obtain ⟨k, lo1, ch1⟩ := y
  dsimp only at hy ih ⊢
  obtain ⟨hk, hl⟩ := hy
  refine Z.iload_n C dX1_straighten_2 rfl ?_
  refine Z.bipush C dX1_straighten_3 (by decide) ?_
  refine Z.icmpge C 55 dX1_straighten_5 (by decide) (⟨by omega, by omega⟩) (⟨by omega, by omega⟩) (fun h => ?_) (fun h => ?_)
  · have hq : eqL lo1 ch1 (loZ (M i) x) (chZ (M i) x) := by
      intro s s0 s1
      have := hl s.toNat (by omega)
      rw [Int.toNat_of_nonneg s0] at this
      exact this
    have hLZ := LC_Z (f := M i) (hM i) x0 x1
    have hL1 : LC lo1 ch1 := fun s s0 s1 => by rw [(hq s s0 s1).1, (hq s s0 s1).2]; exact hLZ s s0 s1
    refine Z.bipush C dX1_straighten_55 (by decide) ?_
    refine Z.istore_n C dX1_straighten_57 (by decide) ?_
    refine Z.loop (α := Nat × (Int → Int → Int)) (fun y => (wX ad cI cJ M y.2 lo1 ch1 wt sn vo mo le ln od fe se td th cnt bw bs pl tk tc sill day lau)) (fun y => [.ref (ad 3), .ref (ad (9 + i.toNat)), .int (iI x), .int (iI ((y.1 : Int) - 1))]) (fun y => y.1 ≤ 7 ∧ (∀ j : Int, y.2 7 j = 0) ∧ ∀ s : Nat, y.1 ≤ s → s ≤ 7 → ∀ h n : Nat, h < ch1 s → n < ch1 (s + 1) → y.2 s (h * 5 + n) = RZ lo1 ch1 (7 - s) h n) (fun y => y.1) (7, B) ⟨by dsimp only; omega, hB, fun s a b h n _ _ => ?_⟩ rfl rfl (fun y hy ih2 => ?_)
    · dsimp only at a ⊢
      have e7 : s = 7 := by omega
      subst e7
      exact hB _
    obtain ⟨k2, B1⟩ := y
    dsimp only at hy ih2 ⊢
    obtain ⟨g1, g2, g3⟩ := hy
    refine Z.iload_n C dX1_straighten_58 rfl ?_
    refine Z.iflt C 73 dX1_straighten_59 (by decide) (⟨by omega, by omega⟩) (fun h2 => ?_) (fun h2 => ?_)
    · refine Z.aload_n C dX1_straighten_73 rfl ?_
      refine Z.aload_n C dX1_straighten_74 rfl ?_
      refine Z.cVV C 3 1 ( c_draw l D cI cJ cL ad M B1 lo1 ch1 wt sn vo mo le ln od fe se td th cnt bw bs pl tk tc sill day lau hM hL1 i hi0 hi1 (fun s hs h n a b => g3 s (by omega) hs h n a b)) rfl rfl gX1_straighten_X1_draw rfl rfl rfl (by decide +kernel) ⟨Nat.le_of_ble_eq_true rfl, Nat.le_of_ble_eq_true rfl⟩ rfl rfl (Nat.le_of_ble_eq_true rfl) ⟨Nat.le_of_ble_eq_true rfl, Nat.le_of_ble_eq_true rfl⟩ dX1_straighten_75 (fun w1 hw1 => ?_)
      obtain ⟨f', hf1, hf2, rfl⟩ := hw1
      refine Z.vret C hr dX1_straighten_78 ⟨B1, lo1, ch1, f', g2, hf1, fun s hs => ?_, rfl⟩
      rw [hf2 s hs, (hq s (by omega) (by omega)).1, dQ_cong hq, oZ_cong1 hq _ _ hs]
      rfl
    · obtain ⟨s, rfl⟩ : ∃ s : Nat, k2 = s + 1 := ⟨k2 - 1, by omega⟩
      rw [show ((s + 1 : Nat) : Int) - 1 = s by omega]
      refine Z.aload_n C dX1_straighten_62 rfl ?_
      refine Z.iload_n C dX1_straighten_63 rfl ?_
      refine Z.cVV C 3 1 ( c_reckonRest l D cI cJ cL ad M B1 lo1 ch1 wt sn vo mo le ln od fe se td th cnt bw bs pl tk tc sill day lau hL1 s (by omega) (fun n t a b => by have z := g3 (s + 1) (by omega) (by omega) n t (by push_cast; exact a) (by push_cast; rw [show (s : Int) + 1 + 1 = s + 2 by omega]; exact b); rw [show 7 - (s + 1) = 6 - s by omega] at z; push_cast at z; exact z)) rfl rfl gX1_straighten_X1_reckonRest rfl rfl rfl (by decide +kernel) ⟨Nat.le_of_ble_eq_true rfl, Nat.le_of_ble_eq_true rfl⟩ rfl rfl (Nat.le_of_ble_eq_true rfl) ⟨Nat.le_of_ble_eq_true rfl, Nat.le_of_ble_eq_true rfl⟩ dX1_straighten_64 (fun w1 hw1 => ?_)
      obtain ⟨f', hf1, rfl⟩ := hw1
      refine Z.iinc C dX1_straighten_67 rfl (by decide) ?_
      refine Z.goto C 58 dX1_straighten_70 (by decide) ?_
      rw [show (s : Int) + -1 = s - 1 by omega]
      refine ih2 (s, zrow B1 s f') ⟨by dsimp only; omega, fun j => ?_, fun s' a b h n c d => ?_⟩ (by dsimp only; omega)
      · dsimp only
        rw [zrow_ne _ _ (by omega)]
        exact g2 j
      · dsimp only at a ⊢
        by_cases e : s' = s
        · subst e
          rw [zrow_eq]
          exact hf1 h n c d
        · rw [zrow_ne _ _ (by omega)]
          exact g3 s' (by omega) b h n c d
  · have hb := hM i k
    refine Z.aload_n C dX1_straighten_8 rfl ?_
    refine Z.getf C 3 1 iw_X1_straighten_1 rfl rfl (by decide) (by decide +kernel) rfl dX1_straighten_9 ?_
    refine Z.iload_n C dX1_straighten_12 rfl ?_
    refine Z.iconst C dX1_straighten_13 ?_
    refine Z.aload_n C dX1_straighten_14 rfl ?_
    refine Z.iload_n C dX1_straighten_15 rfl ?_
    refine Z.iald C _ (wX_row (by omega) (by omega)) (by omega) (by omega) (by decide) dX1_straighten_16 ?_
    refine Z.iload_n C dX1_straighten_17 rfl ?_
    refine Z.isub C dX1_straighten_18 ?_
    refine Z.mmax C (by decide +kernel) (by decide +kernel) (by decide +kernel) (by decide +kernel) (Nat.le_of_ble_eq_true rfl) (Nat.le_of_ble_eq_true rfl) ⟨Nat.le_of_ble_eq_true rfl, Nat.le_of_ble_eq_true rfl⟩ (⟨by omega, by omega⟩) (⟨by omega, by omega⟩) dX1_straighten_19 ?_
    refine Z.iast C 23 rfl (by omega) (by omega) (by decide) dX1_straighten_22 wX_a23 ?_
    refine Z.aload_n C dX1_straighten_23 rfl ?_
    refine Z.getf C 3 2 iw_X1_straighten_1 rfl rfl (by decide) (by decide +kernel) rfl dX1_straighten_24 ?_
    refine Z.iload_n C dX1_straighten_27 rfl ?_
    refine Z.sipush C dX1_straighten_28 (by decide) ?_
    refine Z.aload_n C dX1_straighten_31 rfl ?_
    refine Z.iload_n C dX1_straighten_32 rfl ?_
    refine Z.iald C _ (wX_row (by omega) (by omega)) (by omega) (by omega) (by decide) dX1_straighten_33 ?_
    refine Z.iload_n C dX1_straighten_34 rfl ?_
    refine Z.iadd C dX1_straighten_35 ?_
    refine Z.mmin C (by decide +kernel) (by decide +kernel) (by decide +kernel) (by decide +kernel) (Nat.le_of_ble_eq_true rfl) (Nat.le_of_ble_eq_true rfl) ⟨Nat.le_of_ble_eq_true rfl, Nat.le_of_ble_eq_true rfl⟩ (⟨by omega, by omega⟩) (⟨by omega, by omega⟩) dX1_straighten_36 ?_
    refine Z.aload_n C dX1_straighten_39 rfl ?_
    refine Z.getf C 3 1 iw_X1_straighten_1 rfl rfl (by decide) (by decide +kernel) rfl dX1_straighten_40 ?_
    refine Z.iload_n C dX1_straighten_43 rfl ?_
    refine Z.iald C 23 rfl (by omega) (by omega) (by decide) dX1_straighten_44 ?_
    rw [zset_eq]
    refine Z.isub C dX1_straighten_45 ?_
    refine Z.iconst C dX1_straighten_46 ?_
    refine Z.iadd C dX1_straighten_47 ?_
    refine Z.iast C 24 rfl (by omega) (by omega) (by decide) dX1_straighten_48 wX_a24 ?_
    refine Z.iinc C dX1_straighten_49 rfl (by decide) ?_
    refine Z.goto C 2 dX1_straighten_52 (by decide) ?_
    refine ih (k + 1, zset lo1 k (loZ (M i) x k), zset ch1 k (chZ (M i) x k)) ⟨by dsimp only; omega, fun s hs => ?_⟩ (by dsimp only; omega)
    dsimp only at hs ⊢
    by_cases e : s = k
    · subst e
      rw [zset_eq, zset_eq]
      exact ⟨rfl, rfl⟩
    · rw [zset_ne _ (by omega), zset_ne _ (by omega)]
      exact hl s (by omega)
