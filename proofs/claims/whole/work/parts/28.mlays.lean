/-! ===== the reference: laysLine, fair ===== -/
def lexP (R : Int → Int → Int) (c1 h n : Nat) (q : Int × Int × Int) : Prop := (h = 0 ∧ n = 0 ∧ q = (NOL, 0, 0)) ∨ ∃ a b : Nat, b < c1 ∧ (a < h ∨ (a = h ∧ b < n)) ∧ q = (R a b, (a : Int), (b : Int)) ∧ ∀ a' b' : Nat, b' < c1 → (a' < h ∨ (a' = h ∧ b' < n)) → R a b ≤ R a' b' ∧ ((a' < a ∨ (a' = a ∧ b' < b)) → R a b < R a' b')
theorem lexP_step {R : Int → Int → Int} {c1 h n : Nat} {q : Int × Int × Int} (hq : lexP R c1 h n q) (hn : n < c1) (hR : R h n < NOL) : lexP R c1 h (n + 1) (dStep R h n q) := by
  rcases hq with ⟨rfl, rfl, rfl⟩ | ⟨a, b, h1, h2, rfl, h3⟩
  · refine Or.inr ⟨0, 0, hn, Or.inr ⟨rfl, by omega⟩, ?_, fun a' b' h4 h5 => ?_⟩
    · unfold dStep
      rw [if_pos hR]
    · have ea : a' = 0 := by omega
      have eb : b' = 0 := by omega
      subst ea
      subst eb
      exact ⟨Int.le_refl _, fun z => by omega⟩
  · by_cases e : R h n < R a b
    · refine Or.inr ⟨h, n, hn, Or.inr ⟨rfl, by omega⟩, ?_, fun a' b' h4 h5 => ?_⟩
      · unfold dStep
        rw [if_pos e]
      · by_cases e2 : a' = h ∧ b' = n
        · rw [e2.1, e2.2]
          exact ⟨Int.le_refl _, fun z => by omega⟩
        · have := (h3 a' b' h4 (by omega)).1
          exact ⟨by omega, fun _ => by omega⟩
    · refine Or.inr ⟨a, b, h1, by omega, ?_, fun a' b' h4 h5 => ?_⟩
      · unfold dStep
        rw [if_neg e]
      · by_cases e2 : a' = h ∧ b' = n
        · rw [e2.1, e2.2]
          exact ⟨by omega, fun z => by omega⟩
        · exact h3 a' b' h4 (by omega)
theorem lexP_in {R : Int → Int → Int} {c1 h : Nat} {q : Int × Int × Int} (hq : lexP R c1 h 0 q) (hR : ∀ n : Nat, n < c1 → R h n < NOL) : ∀ n : Nat, n ≤ c1 → lexP R c1 h n (dIn R h q n)
  | 0, _ => hq
  | n + 1, hn => lexP_step (lexP_in hq hR n (by omega)) (by omega) (hR n (by omega))
theorem lexP_next {R : Int → Int → Int} {c1 h : Nat} {q : Int × Int × Int} (h0 : 0 < c1) (hq : lexP R c1 h c1 q) : lexP R c1 (h + 1) 0 q := by
  rcases hq with ⟨-, z, -⟩ | ⟨a, b, h1, h2, h3, h4⟩
  · omega
  · exact Or.inr ⟨a, b, h1, by omega, h3, fun a' b' g1 g2 => h4 a' b' g1 (by omega)⟩
theorem lexP_out {R : Int → Int → Int} {c1 : Nat} (h0 : 0 < c1) (c0 : Nat) (hR : ∀ h n : Nat, h < c0 → n < c1 → R h n < NOL) : ∀ h : Nat, h ≤ c0 → lexP R c1 h 0 (dOut R c1 (NOL, 0, 0) h)
  | 0, _ => Or.inl ⟨rfl, rfl, rfl⟩
  | h + 1, hh => lexP_next h0 (lexP_in (lexP_out h0 c0 hR h (by omega)) (fun n hn => hR h n (by omega) hn) c1 (Nat.le_refl _))
theorem amF_min {g : Int → Int} : ∀ n : Nat, 0 < n → (∀ t : Nat, t < n → g t < FAR) → g (amF g n) = mnF g n ∧ (∀ t : Nat, t < n → mnF g n ≤ g t) ∧ ∀ t : Nat, (t : Int) < amF g n → mnF g n < g t
  | 0, h, _ => absurd h (Nat.lt_irrefl _)
  | n + 1, _, hF => by
    by_cases q : g n < mnF g n
    · rw [amF_lt q, mnF_lt q]
      refine ⟨rfl, fun t ht => ?_, fun t ht => ?_⟩
      · by_cases e : t = n
        · rw [e]; exact Int.le_refl _
        · have := (amF_min n (by omega) (fun t ht => hF t (by omega))).2.1 t (by omega)
          omega
      · have := (amF_min n (by omega) (fun t ht => hF t (by omega))).2.1 t (by omega)
        omega
    · rw [amF_ge q, mnF_ge q]
      by_cases e : n = 0
      · subst e
        rw [mnF_zero] at q
        have := hF 0 (by omega)
        omega
      · obtain ⟨h1, h2, h3⟩ := amF_min n (by omega) (fun t ht => hF t (by omega))
        refine ⟨h1, fun t ht => ?_, h3⟩
        by_cases e2 : t = n
        · rw [e2]; omega
        · exact h2 t (by omega)
def fstP (f bh : Int → Int) (x : Int) (k : Nat) (least best : Int) : Prop := 0 ≤ least ∧ ((least = FAR ∧ best = 0 ∧ ∀ j : Nat, j < k → ¬ (mayP f x 0 ((j : Int) / 5) ∧ mayP f x 1 ((j : Int) % 5))) ∨ ∃ b : Nat, b < k ∧ best = b ∧ mayP f x 0 ((b : Int) / 5) ∧ mayP f x 1 ((b : Int) % 5) ∧ least = bh (25 + b) ∧ (∀ j : Nat, j < k → mayP f x 0 ((j : Int) / 5) → mayP f x 1 ((j : Int) % 5) → least ≤ bh (25 + j)) ∧ ∀ j : Nat, j < b → mayP f x 0 ((j : Int) / 5) → mayP f x 1 ((j : Int) % 5) → least < bh (25 + j))
theorem fstP_dQ {f bh : Int → Int} (hf : ∀ j : Int, 0 ≤ f j ∧ f j ≤ 200) {x : Int} (x0 : 0 ≤ x) (x1 : x ≤ 2) (hb : bhP f bh x 1) {least best : Int} (h : fstP f bh x 25 least best) : best / 5 = dZ f x 0 + (dQ (loZ f x) (chZ f x)).2.1 ∧ best % 5 = dZ f x 1 + (dQ (loZ f x) (chZ f x)).2.2 ∧ 0 ≤ (dQ (loZ f x) (chZ f x)).2.1 ∧ (dQ (loZ f x) (chZ f x)).2.1 < chZ f x 0 ∧ 0 ≤ (dQ (loZ f x) (chZ f x)).2.2 ∧ (dQ (loZ f x) (chZ f x)).2.2 < chZ f x 1 ∧ 0 ≤ best ∧ best < 25 := by
  have d0 := dZ_bd hf x0 x1 0
  have d1 := dZ_bd hf x0 x1 1
  have hLC := LC_Z (f := f) hf x0 x1
  have hR : ∀ a b : Nat, a < chZ f x 0 → b < chZ f x 1 → bh (25 + (5 * (dZ f x 0 + a) + (dZ f x 1 + b))) = RZ (loZ f x) (chZ f x) 7 a b := fun a b ha hb' => (hb 1 (by omega) (by omega)).2 a b ha hb'
  have hRb : ∀ a b : Nat, a < (chZ f x 0).toNat → b < (chZ f x 1).toNat → RZ (loZ f x) (chZ f x) 7 a b < NOL := fun a b ha hb' => by
    have := RZ_bd hLC 7 (by omega) a b (by omega) (by show (a : Int) < chZ f x 0; omega) (by omega) (by show (b : Int) < chZ f x 1; omega)
    unfold NOL
    omega
  have hlex := lexP_out (R := RZ (loZ f x) (chZ f x) 7) (c1 := (chZ f x 1).toNat) (by omega) (chZ f x 0).toNat hRb (chZ f x 0).toNat (Nat.le_refl _)
  have hdq : dQ (loZ f x) (chZ f x) = dOut (RZ (loZ f x) (chZ f x) 7) (chZ f x 1).toNat (NOL, 0, 0) (chZ f x 0).toNat := rfl
  rw [← hdq] at hlex
  generalize dQ (loZ f x) (chZ f x) = q at hlex
  rcases hlex with ⟨z, -, -⟩ | ⟨a, b, h1, h2, rfl, h3⟩
  · omega
  · obtain ⟨-, h⟩ := h
    rcases h with ⟨-, -, hno⟩ | ⟨c, c1, rfl, c2, c3, c4, c5, c6⟩
    · exact absurd ⟨mayP_2 hf x0 x1 0, mayP_2 hf x0 x1 1⟩ (hno 12 (by omega))
    · unfold mayP at c2 c3
      have ei : 25 + (c : Int) = 25 + (5 * (dZ f x 0 + (((c : Int) / 5 - dZ f x 0).toNat : Int)) + (dZ f x 1 + (((c : Int) % 5 - dZ f x 1).toNat : Int))) := by omega
      have hv := hR ((c : Int) / 5 - dZ f x 0).toNat ((c : Int) % 5 - dZ f x 1).toNat (by omega) (by omega)
      rw [← ei] at hv
      have k1 := h3 ((c : Int) / 5 - dZ f x 0).toNat ((c : Int) % 5 - dZ f x 1).toNat (by omega) (by omega)
      have hv2 := hR a b (by omega) (by omega)
      have ej : 25 + (5 * (dZ f x 0 + a) + (dZ f x 1 + b)) = 25 + (((5 * (dZ f x 0 + a) + (dZ f x 1 + b)).toNat : Nat) : Int) := by omega
      rw [ej] at hv2
      have m0 : mayP f x 0 ((((5 * (dZ f x 0 + a) + (dZ f x 1 + b)).toNat : Nat) : Int) / 5) := by unfold mayP; omega
      have m1 : mayP f x 1 ((((5 * (dZ f x 0 + a) + (dZ f x 1 + b)).toNat : Nat) : Int) % 5) := by unfold mayP; omega
      have k2 := c5 (5 * (dZ f x 0 + a) + (dZ f x 1 + b)).toNat (by omega) m0 m1
      have k3 : ¬ ((5 * (dZ f x 0 + a) + (dZ f x 1 + b)).toNat < c) := fun z => by
        have := c6 (5 * (dZ f x 0 + a) + (dZ f x 1 + b)).toNat z m0 m1
        omega
      have k4 : ¬ (((c : Int) / 5 - dZ f x 0).toNat < a ∨ (((c : Int) / 5 - dZ f x 0).toNat = a ∧ ((c : Int) % 5 - dZ f x 1).toNat < b)) := fun z => by
        have := k1.2 z
        omega
      dsimp only
      omega
set_option maxRecDepth 20000 in
theorem iw_X7_laysLine_7 : ∀ w ∈ u_ws RX7 TX7 16, w ∈ wsX7_laysLine := by decide +kernel
abbrev rmX7_laysLine : Room := { frames := 2, cells := 0, slots := 0, locals := 48 }
set_option maxHeartbeats 4000000 in
set_option maxRecDepth 100000 in
theorem m_laysLine (l : Launch) (D : va_G) (cI cJ cL : ClassId) (ad : Nat → Nat) (hf at_ wg lf cf dy ti bh ln : Int → Int) (thr nw lg nt sl dd il : Int) (M : Int → Int → Int) (hM : hOK M) (hR : RH M hf) (w x : Int) (hw0 : 0 ≤ w) (hw1 : w ≤ 5) (x0 : 0 ≤ x) (x1 : x ≤ 2) (hb : bhP (M w) bh x 1) : CV l yX7_laysLine wsX7_laysLine rmX7_laysLine [.ref (ad 0), .int (iI w), .int (iI x)] D cI cJ cL (wM ad cI hf at_ wg lf cf dy ti bh ln thr nw lg nt sl dd il) (fun w' => ∃ ln' : Int → Int, (∀ s : Nat, s ≤ 8 → ln' s = dZ (M w) x s + (oZ (loZ (M w) x) (chZ (M w) x) (dQ (loZ (M w) x) (chZ (M w) x)).2.1 (dQ (loZ (M w) x) (chZ (M w) x)).2.2 s).1) ∧ w' = (wM ad cI hf at_ wg lf cf dy ti bh ln' thr nw lg nt sl dd il)) := by
  have hF : FAR = 100000000 := rfl
  have hLC := LC_Z (f := M w) (hM w) x0 x1
  have hb1 := hb 1 (by omega) (by omega)
  have hbv : ∀ j : Int, 0 ≤ j → j < 25 → 0 ≤ bh (25 + j) ∧ bh (25 + j) ≤ 1188208 := fun j a b => hb1.1 j a b
  refine CV.of (cc := cX7_laysLine) (maxL := 9) (ret := none) (own := RX7) _ 6 (by decide +kernel) rfl rfl rfl (Nat.le_of_ble_eq_true rfl) rfl (fun sz9 p9 e9 s9 m9 a9 b9 h9 c9 C hr => ?_)
  refine Z.ldc C (v := iI 100000000) 100000000 (by decide +kernel) rfl dX7_laysLine_0 ?_
  refine Z.istore_n C dX7_laysLine_2 (by decide) ?_
  refine Z.iconst C dX7_laysLine_3 ?_
  refine Z.istore C dX7_laysLine_4 (by decide) ?_
  refine Z.iconst C dX7_laysLine_6 ?_
  refine Z.istore C dX7_laysLine_7 (by decide) ?_
  refine Z.loop (α := Nat × Int × Int × Value) (fun y => (wM ad cI hf at_ wg lf cf dy ti bh ln thr nw lg nt sl dd il)) (fun y => [.ref (ad 0), .int (iI w), .int (iI x), .int (iI y.2.1), .int (iI y.2.2.1), .int (iI y.1), y.2.2.2, .null, .null]) (fun y => y.1 ≤ 25 ∧ y.2.1 ≤ FAR ∧ fstP (M w) bh x y.1 y.2.1 y.2.2.1) (fun y => 25 - y.1) (0, FAR, 0, .null) ⟨by dsimp only; omega, by dsimp only; omega, by dsimp only; omega, Or.inl ⟨rfl, rfl, fun j h => absurd h (Nat.not_lt_zero _)⟩⟩ rfl rfl (fun y hy ih => ?_)
  obtain ⟨k, lea, be, v6⟩ := y
  dsimp only at hy ih ⊢
  obtain ⟨hk, hle, hfs⟩ := hy
  refine Z.iload C dX7_laysLine_9 rfl ?_
  refine Z.bipush C dX7_laysLine_11 (by decide) ?_
  refine Z.icmpge C 95 dX7_laysLine_13 (by decide) (⟨by omega, by omega⟩) (⟨by omega, by omega⟩) (fun h => ?_) (fun h => ?_)
  · have e25 : k = 25 := by omega
    subst e25
    obtain ⟨e1, e2, e3, e4, e5, e6, e7, e8⟩ := fstP_dQ (hM w) x0 x1 hb hfs
    generalize (dQ (loZ (M w) x) (chZ (M w) x)).2.1 = h0 at e1 e3 e4
    generalize (dQ (loZ (M w) x) (chZ (M w) x)).2.2 = n0 at e2 e5 e6
    refine Z.aload_n C dX7_laysLine_95 rfl ?_
    refine Z.getf C 0 15 iw_X7_laysLine_7 rfl rfl (by decide) (by decide +kernel) rfl dX7_laysLine_96 ?_
    refine Z.iconst C dX7_laysLine_99 ?_
    refine Z.iload C dX7_laysLine_100 rfl ?_
    refine Z.iconst C dX7_laysLine_102 ?_
    refine Z.idiv C dX7_laysLine_103 (by omega) (by omega) (by omega) (by omega) ?_
    rw [e1]
    refine Z.iast C 9 rfl (by omega) (by omega) (by decide) dX7_laysLine_104 wM_a9 ?_
    refine Z.aload_n C dX7_laysLine_105 rfl ?_
    refine Z.getf C 0 15 iw_X7_laysLine_7 rfl rfl (by decide) (by decide +kernel) rfl dX7_laysLine_106 ?_
    refine Z.iconst C dX7_laysLine_109 ?_
    refine Z.iload C dX7_laysLine_110 rfl ?_
    refine Z.iconst C dX7_laysLine_112 ?_
    refine Z.irem C dX7_laysLine_113 (by omega) (by omega) (by omega) (by omega) ?_
    rw [e2]
    refine Z.iast C 9 rfl (by omega) (by omega) (by decide) dX7_laysLine_114 wM_a9 ?_
    refine Z.iconst C dX7_laysLine_115 ?_
    refine Z.istore C dX7_laysLine_116 (by decide) ?_
    refine Z.loop (α := Nat × (Int → Int) × Value × Value × Value) (fun y => (wM ad cI hf at_ wg lf cf dy ti bh y.2.1 thr nw lg nt sl dd il)) (fun y => [.ref (ad 0), .int (iI w), .int (iI x), .int (iI lea), .int (iI be), .int (iI ((y.1 : Int) + 1)), y.2.2.1, y.2.2.2.1, y.2.2.2.2]) (fun y => y.1 ≤ 7 ∧ ∀ s : Nat, s < y.1 + 2 → y.2.1 s = dZ (M w) x s + (oZ (loZ (M w) x) (chZ (M w) x) h0 n0 s).1) (fun y => 7 - y.1) (0, zset (zset ln 0 (dZ (M w) x 0 + h0)) 1 (dZ (M w) x 1 + n0), v6, .null, .null) ⟨by dsimp only; omega, fun s hs => ?_⟩ rfl rfl (fun y hy ih2 => ?_)
    · dsimp only at hs ⊢
      rcases (show s = 0 ∨ s = 1 by omega) with rfl | rfl <;> rfl
    obtain ⟨q, ln1, u6, u7, u8⟩ := y
    dsimp only at hy ih2 ⊢
    obtain ⟨hq, hln⟩ := hy
    refine Z.iload C dX7_laysLine_118 rfl ?_
    refine Z.iconst C dX7_laysLine_120 ?_
    refine Z.iadd C dX7_laysLine_121 ?_
    refine Z.bipush C dX7_laysLine_122 (by decide) ?_
    refine Z.icmpge C 243 dX7_laysLine_124 (by decide) (⟨by omega, by omega⟩) (⟨by omega, by omega⟩) (fun h2 => ?_) (fun h2 => ?_)
    · exact Z.vret C hr dX7_laysLine_243 ⟨ln1, fun s hs => hln s (by omega), rfl⟩
    · have ho := oZ_bd hLC (h0 := h0) (n0 := n0) e3 e4 e5 e6 q (by omega)
      have l0 := hln q (by omega)
      have l1 := hln (q + 1) (by omega)
      have l2 : (oZ (loZ (M w) x) (chZ (M w) x) h0 n0 (q + 1)).1 = (oZ (loZ (M w) x) (chZ (M w) x) h0 n0 q).2 := rfl
      have l3 : (oZ (loZ (M w) x) (chZ (M w) x) h0 n0 (q + 2)).1 = amF (gZ (loZ (M w) x) (chZ (M w) x) q (oZ (loZ (M w) x) (chZ (M w) x) h0 n0 q).1 (oZ (loZ (M w) x) (chZ (M w) x) h0 n0 q).2) (chZ (M w) x (q + 2)).toNat := rfl
      rw [l2] at l1
      generalize (oZ (loZ (M w) x) (chZ (M w) x) h0 n0 q).1 = ha at ho l0 l3
      generalize (oZ (loZ (M w) x) (chZ (M w) x) h0 n0 q).2 = na at ho l1 l3
      rw [show ((q + 1 : Nat) : Int) = (q : Int) + 1 by omega] at l1
      have D0 := dZ_bd (hM w) x0 x1 (q : Int)
      have D1 := dZ_bd (hM w) x0 x1 ((q : Int) + 1)
      have D2 := dZ_bd (hM w) x0 x1 ((q : Int) + 2)
      have hbq := hb (q + 1) (by omega) (by omega)
      have hbq2 := hb (q + 2) (by omega) (by omega)
      have hneed : bh (25 * ((q : Int) + 1) + 5 * ln1 q + ln1 ((q : Int) + 1)) = mnF (gZ (loZ (M w) x) (chZ (M w) x) q ha na) (chZ (M w) x (q + 2)).toNat := by
        have z := hbq.2 ha.toNat na.toNat (by rw [show ((q + 1 : Nat) : Int) - 1 = q by omega]; omega) (by rw [show ((q + 1 : Nat) : Int) = (q : Int) + 1 by omega]; omega)
        rw [show ((q + 1 : Nat) : Int) - 1 = q by omega, show ((q + 1 : Nat) : Int) = (q : Int) + 1 by omega, show 8 - (q + 1) = 7 - q by omega, RZ_s _ _ (by omega), Int.toNat_of_nonneg ho.1, Int.toNat_of_nonneg ho.2.2.1] at z
        rw [← z, l0, l1, show 25 * ((q : Int) + 1) + 5 * (dZ (M w) x q + ha) + (dZ (M w) x ((q : Int) + 1) + na) = 25 * ((q : Int) + 1) + (5 * (dZ (M w) x q + ha) + (dZ (M w) x ((q : Int) + 1) + na)) by omega]
      have hgb : ∀ t : Nat, t < chZ (M w) x (q + 2) → 0 ≤ gZ (loZ (M w) x) (chZ (M w) x) q ha na t ∧ gZ (loZ (M w) x) (chZ (M w) x) q ha na t ≤ 1120000 := fun t ht => gZ_bd hLC (by omega) ho.1 ho.2.1 ho.2.2.1 ho.2.2.2 (by omega) ht
      obtain ⟨a1, a2, a3⟩ := amF_min (g := gZ (loZ (M w) x) (chZ (M w) x) q ha na) (chZ (M w) x (q + 2)).toNat (by omega) (fun t ht => by have := (hgb t (by omega)).2; omega)
      have a4 := amF_bd (gZ (loZ (M w) x) (chZ (M w) x) q ha na) (chZ (M w) x (q + 2)).toNat (by omega)
      have a5 := mnF_bd (g := gZ (loZ (M w) x) (chZ (M w) x) q ha na) (b := 1120000) (chZ (M w) x (q + 2)).toNat (by omega) (fun t ht => hgb t (by omega)) (by omega)
      generalize mnF (gZ (loZ (M w) x) (chZ (M w) x) q ha na) (chZ (M w) x (q + 2)).toNat = mn at hneed a1 a2 a3 a5
      generalize hT : amF (gZ (loZ (M w) x) (chZ (M w) x) q ha na) (chZ (M w) x (q + 2)).toNat = T at l3 a1 a3 a4
      have hbbg : ∀ t : Nat, t < chZ (M w) x (q + 2) → bbZ (M w) bh ((q : Int) + 1) (ln1 q) (ln1 ((q : Int) + 1)) (dZ (M w) x ((q : Int) + 2) + t) = gZ (loZ (M w) x) (chZ (M w) x) q ha na t := fun t ht => by
        have z := hbq2.2 na.toNat t (by rw [show ((q + 2 : Nat) : Int) - 1 = (q : Int) + 1 by omega]; omega) (by rw [show ((q + 2 : Nat) : Int) = (q : Int) + 2 by omega]; exact ht)
        rw [show ((q + 2 : Nat) : Int) - 1 = (q : Int) + 1 by omega, show 8 - (q + 2) = 6 - q by omega] at z
        have z2 := bb_g (f := M w) (bh := bh) (x := x) (s := q) (by omega) ha.toNat na.toNat t (by rw [show (q : Int) + 2 = ((q + 2 : Nat) : Int) by omega]; exact z)
        rw [Int.toNat_of_nonneg ho.1, Int.toNat_of_nonneg ho.2.2.1] at z2
        rw [l0, l1]
        exact z2
      refine Z.aload_n C dX7_laysLine_127 rfl ?_
      refine Z.getf C 0 14 iw_X7_laysLine_7 rfl rfl (by decide) (by decide +kernel) rfl dX7_laysLine_128 ?_
      refine Z.iload C dX7_laysLine_131 rfl ?_
      refine Z.aload_n C dX7_laysLine_133 rfl ?_
      refine Z.getf C 0 15 iw_X7_laysLine_7 rfl rfl (by decide) (by decide +kernel) rfl dX7_laysLine_134 ?_
      refine Z.iload C dX7_laysLine_137 rfl ?_
      refine Z.iconst C dX7_laysLine_139 ?_
      refine Z.isub C dX7_laysLine_140 ?_
      rw [show (q : Int) + 1 - 1 = q by omega]
      refine Z.iald C 9 rfl (by omega) (by omega) (by decide) dX7_laysLine_141 ?_
      refine Z.aload_n C dX7_laysLine_142 rfl ?_
      refine Z.getf C 0 15 iw_X7_laysLine_7 rfl rfl (by decide) (by decide +kernel) rfl dX7_laysLine_143 ?_
      refine Z.iload C dX7_laysLine_146 rfl ?_
      refine Z.iald C 9 rfl (by omega) (by omega) (by decide) dX7_laysLine_148 ?_
      refine Z.cSIp C 3 (m_place l D cI cJ cL ((q : Int) + 1) (ln1 q) (ln1 ((q : Int) + 1))) gX7_laysLine_X7_place rfl rfl rfl (by decide +kernel) ⟨Nat.le_of_ble_eq_true rfl, Nat.le_of_ble_eq_true rfl⟩ rfl rfl (Nat.le_of_ble_eq_true rfl) ⟨Nat.le_of_ble_eq_true rfl, Nat.le_of_ble_eq_true rfl⟩ dX7_laysLine_149 ?_
      refine Z.iald C 8 rfl (by omega) (by omega) (by decide) dX7_laysLine_152 ?_
      rw [hneed]
      refine Z.istore C dX7_laysLine_153 (by decide) ?_
      refine Z.iconst C dX7_laysLine_155 ?_
      refine Z.istore C dX7_laysLine_156 (by decide) ?_
      refine Z.iconst C dX7_laysLine_158 ?_
      refine Z.istore C dX7_laysLine_159 (by decide) ?_
      refine Z.loop (α := Nat × Int) (fun y => (wM ad cI hf at_ wg lf cf dy ti bh ln1 thr nw lg nt sl dd il)) (fun y => [.ref (ad 0), .int (iI w), .int (iI x), .int (iI lea), .int (iI be), .int (iI ((q : Int) + 1)), .int (iI mn), .int (iI y.2), .int (iI ((y.1 : Int) - 1))]) (fun y => y.1 ≤ 5 ∧ ((y.1 : Int) ≤ dZ (M w) x ((q : Int) + 2) + T → y.2 = dZ (M w) x ((q : Int) + 2) + T)) (fun y => y.1) (5, -1) ⟨by dsimp only; omega, fun z => absurd z (by dsimp only; omega)⟩ rfl rfl (fun y hy ih3 => ?_)
      obtain ⟨k8, fv⟩ := y
      dsimp only at hy ih3 ⊢
      obtain ⟨hk8, hfv⟩ := hy
      refine Z.iload C dX7_laysLine_161 rfl ?_
      refine Z.iflt C 226 dX7_laysLine_163 (by decide) (⟨by omega, by omega⟩) (fun h3 => ?_) (fun h3 => ?_)
      · have hfT := hfv (by omega)
        subst hfT
        refine Z.aload_n C dX7_laysLine_226 rfl ?_
        refine Z.getf C 0 15 iw_X7_laysLine_7 rfl rfl (by decide) (by decide +kernel) rfl dX7_laysLine_227 ?_
        refine Z.iload C dX7_laysLine_230 rfl ?_
        refine Z.iconst C dX7_laysLine_232 ?_
        refine Z.iadd C dX7_laysLine_233 ?_
        refine Z.iload C dX7_laysLine_234 rfl ?_
        refine Z.iast C 9 rfl (by omega) (by omega) (by decide) dX7_laysLine_236 wM_a9 ?_
        refine Z.iinc C dX7_laysLine_237 rfl (by decide) ?_
        refine Z.goto C 118 dX7_laysLine_240 (by decide) ?_
        refine ih2 (q + 1, zset ln1 ((q : Int) + 1 + 1) (dZ (M w) x ((q : Int) + 2) + T), .int (iI mn), .int (iI (dZ (M w) x ((q : Int) + 2) + T)), .int (iI ((k8 : Int) - 1))) ⟨by dsimp only; omega, fun s hs => ?_⟩ (by dsimp only; omega)
        dsimp only at hs ⊢
        by_cases e : s = q + 2
        · subst e
          rw [l3, zset_at _ (by omega), show ((q + 2 : Nat) : Int) = (q : Int) + 2 by omega]
        · rw [zset_ne _ (by omega)]
          exact hln s (by omega)
      · obtain ⟨c, rfl⟩ : ∃ c : Nat, k8 = c + 1 := ⟨k8 - 1, by omega⟩
        rw [show ((c + 1 : Nat) : Int) - 1 = c by omega]
        refine Z.cut (α := Int) 218 (fun _ => (wM ad cI hf at_ wg lf cf dy ti bh ln1 thr nw lg nt sl dd il)) (fun _ => [.ref (ad 0), .int (iI w), .int (iI x), .int (iI lea), .int (iI be), .int (iI ((q : Int) + 1)), .int (iI mn), .int (iI fv), .int (iI c)]) (fun k => [.int (iI k)]) (fun k => (k = c ∧ dZ (M w) x ((q : Int) + 2) + T ≤ c) ∨ (k = fv ∧ (c : Int) ≠ dZ (M w) x ((q : Int) + 2) + T)) (fun k hk => ?_) (fun join => ?_)
        · skip
          refine Z.istore C dX7_laysLine_218 (by decide) ?_
          refine Z.iinc C dX7_laysLine_220 rfl (by decide) ?_
          refine Z.goto C 161 dX7_laysLine_223 (by decide) ?_
          rw [show (c : Int) + -1 = c - 1 by omega]
          refine ih3 (c, k) ⟨by dsimp only; omega, fun z => ?_⟩ (by dsimp only; omega)
          dsimp only at z ⊢
          rcases hk with ⟨k1, k2⟩ | ⟨k1, k2⟩
          · omega
          · rw [k1]
            exact hfv (by omega)
        · skip
          refine Z.aload_n C dX7_laysLine_166 rfl ?_
          refine Z.iload_n C dX7_laysLine_167 rfl ?_
          refine Z.iload C dX7_laysLine_168 rfl ?_
          refine Z.iconst C dX7_laysLine_170 ?_
          refine Z.iadd C dX7_laysLine_171 ?_
          refine Z.iload C dX7_laysLine_172 rfl ?_
          refine Z.iload_n C dX7_laysLine_174 rfl ?_
          refine Z.cVI C 0 4 ( m_may l D cI cJ cL ad hf at_ wg lf cf dy ti bh ln1 thr nw lg nt sl dd il M hM hR w ((q : Int) + 1 + 1) c x hw0 hw1 (by omega) (by omega) (by omega) (by omega) x0 x1) rfl rfl gX7_laysLine_X7_may rfl rfl rfl (by decide +kernel) ⟨Nat.le_of_ble_eq_true rfl, Nat.le_of_ble_eq_true rfl⟩ rfl rfl (Nat.le_of_ble_eq_true rfl) ⟨Nat.le_of_ble_eq_true rfl, Nat.le_of_ble_eq_true rfl⟩ dX7_laysLine_175 (fun r1 w1 hw1 => ?_)
          obtain ⟨hr1, rfl⟩ := hw1
          rw [show (q : Int) + 1 + 1 = (q : Int) + 2 by omega] at hr1
          have hri : inr r1 := by rcases hr1 with ⟨z, -⟩ | ⟨z, -⟩ <;> exact ⟨by omega, by omega⟩
          refine Z.ifeq C 216 dX7_laysLine_178 (by decide) (hri) (fun h4 => ?_) (fun h4 => ?_)
          · rcases hr1 with ⟨z, -⟩ | ⟨-, z⟩
            · omega
            · unfold mayP at z
              refine Z.iload C dX7_laysLine_216 rfl ?_
              exact join fv (Or.inr ⟨rfl, by omega⟩)
          · rcases hr1 with ⟨-, z⟩ | ⟨z, -⟩
            · unfold mayP at z
              have ht := hbbg ((c : Int) - dZ (M w) x ((q : Int) + 2)).toNat (by omega)
              have ht2 := hgb ((c : Int) - dZ (M w) x ((q : Int) + 2)).toNat (by omega)
              rw [show dZ (M w) x ((q : Int) + 2) + ((((c : Int) - dZ (M w) x ((q : Int) + 2)).toNat : Nat) : Int) = c by omega] at ht
              refine Z.aload_n C dX7_laysLine_181 rfl ?_
              refine Z.iload_n C dX7_laysLine_182 rfl ?_
              refine Z.iload C dX7_laysLine_183 rfl ?_
              refine Z.aload_n C dX7_laysLine_185 rfl ?_
              refine Z.getf C 0 15 iw_X7_laysLine_7 rfl rfl (by decide) (by decide +kernel) rfl dX7_laysLine_186 ?_
              refine Z.iload C dX7_laysLine_189 rfl ?_
              refine Z.iconst C dX7_laysLine_191 ?_
              refine Z.isub C dX7_laysLine_192 ?_
              rw [show (q : Int) + 1 - 1 = q by omega]
              refine Z.iald C 9 rfl (by omega) (by omega) (by decide) dX7_laysLine_193 ?_
              refine Z.aload_n C dX7_laysLine_194 rfl ?_
              refine Z.getf C 0 15 iw_X7_laysLine_7 rfl rfl (by decide) (by decide +kernel) rfl dX7_laysLine_195 ?_
              refine Z.iload C dX7_laysLine_198 rfl ?_
              refine Z.iald C 9 rfl (by omega) (by omega) (by decide) dX7_laysLine_200 ?_
              refine Z.iload C dX7_laysLine_201 rfl ?_
              refine Z.cVId C 0 5 (m_bendBy l D cI cJ cL ad hf at_ wg lf cf dy ti bh ln1 thr nw lg nt sl dd il M hR w ((q : Int) + 1) (ln1 q) (ln1 ((q : Int) + 1)) c hw0 hw1 (by omega) (by omega) (by omega) (by omega) (by omega) (by omega)) rfl rfl gX7_laysLine_X7_bendBy rfl rfl rfl (by decide +kernel) ⟨Nat.le_of_ble_eq_true rfl, Nat.le_of_ble_eq_true rfl⟩ rfl rfl (Nat.le_of_ble_eq_true rfl) ⟨Nat.le_of_ble_eq_true rfl, Nat.le_of_ble_eq_true rfl⟩ dX7_laysLine_203 ?_
              rw [ht]
              refine Z.iload C dX7_laysLine_206 rfl ?_
              refine Z.icmpne C 216 dX7_laysLine_208 (by decide) (⟨by omega, by omega⟩) (⟨by omega, by omega⟩) (fun h5 => ?_) (fun h5 => ?_)
              · skip
                refine Z.iload C dX7_laysLine_216 rfl ?_
                refine join fv (Or.inr ⟨rfl, fun e => h5 ?_⟩)
                rw [show (((c : Int) - dZ (M w) x ((q : Int) + 2)).toNat : Int) = T by omega]
                exact a1
              · skip
                refine Z.iload C dX7_laysLine_211 rfl ?_
                refine Z.goto C 218 dX7_laysLine_213 (by decide) ?_
                refine join c (Or.inl ⟨rfl, ?_⟩)
                by_cases e : ((((c : Int) - dZ (M w) x ((q : Int) + 2)).toNat : Nat) : Int) < T
                · have := a3 ((c : Int) - dZ (M w) x ((q : Int) + 2)).toNat e
                  omega
                · omega
            · omega
  · have hbk := hbv k (by omega) (by omega)
    have hle0 : 0 ≤ lea := hfs.1
    refine Z.cut (α := Int) 49 (fun _ => (wM ad cI hf at_ wg lf cf dy ti bh ln thr nw lg nt sl dd il)) (fun _ => [.ref (ad 0), .int (iI w), .int (iI x), .int (iI lea), .int (iI be), .int (iI k), v6, .null, .null]) (fun a => [.int (iI a)]) (fun a => (a = 1 ∧ mayP (M w) x 0 ((k : Int) / 5) ∧ mayP (M w) x 1 ((k : Int) % 5)) ∨ (a = 0 ∧ ¬ (mayP (M w) x 0 ((k : Int) / 5) ∧ mayP (M w) x 1 ((k : Int) % 5)))) (fun a ha => ?_) (fun join => ?_)
    · have hai : inr a := by rcases ha with ⟨z, -⟩ | ⟨z, -⟩ <;> exact ⟨by omega, by omega⟩
      refine Z.istore C dX7_laysLine_49 (by decide) ?_
      refine Z.iload C dX7_laysLine_51 rfl ?_
      have keep : (lea ≤ bh (25 + k) ∨ ¬ (mayP (M w) x 0 ((k : Int) / 5) ∧ mayP (M w) x 1 ((k : Int) % 5))) → fstP (M w) bh x (k + 1) lea be := by
        intro hz
        obtain ⟨f0, f1⟩ := hfs
        refine ⟨f0, ?_⟩
        rcases f1 with ⟨f1, f2, f3⟩ | ⟨b, f1, f2, f3, f4, f5, f6, f7⟩
        · refine Or.inl ⟨f1, f2, fun j hj hm => ?_⟩
          by_cases e : j = k
          · subst e
            rcases hz with z | z
            · omega
            · exact z hm
          · exact f3 j (by omega) hm
        · refine Or.inr ⟨b, by omega, f2, f3, f4, f5, fun j hj g1 g2 => ?_, f7⟩
          by_cases e : j = k
          · subst e
            rcases hz with z | z
            · exact z
            · exact absurd ⟨g1, g2⟩ z
          · exact f6 j (by omega) g1 g2
      refine Z.ifeq C 89 dX7_laysLine_53 (by decide) (hai) (fun h2 => ?_) (fun h2 => ?_)
      · rcases ha with ⟨z, -⟩ | ⟨-, z⟩
        · omega
        · skip
          refine Z.iinc C dX7_laysLine_89 rfl (by decide) ?_
          refine Z.goto C 9 dX7_laysLine_92 (by decide) ?_
          exact ih (k + 1, lea, be, .int (iI a)) ⟨by dsimp only; omega, hle, keep (Or.inr z)⟩ (by dsimp only; omega)
      · rcases ha with ⟨-, z1, z2⟩ | ⟨z, -⟩
        · skip
          refine Z.aload_n C dX7_laysLine_56 rfl ?_
          refine Z.getf C 0 14 iw_X7_laysLine_7 rfl rfl (by decide) (by decide +kernel) rfl dX7_laysLine_57 ?_
          refine Z.iconst C dX7_laysLine_60 ?_
          refine Z.iconst C dX7_laysLine_61 ?_
          refine Z.iload C dX7_laysLine_62 rfl ?_
          refine Z.cSIp C 3 (m_place l D cI cJ cL 1 0 k) gX7_laysLine_X7_place rfl rfl rfl (by decide +kernel) ⟨Nat.le_of_ble_eq_true rfl, Nat.le_of_ble_eq_true rfl⟩ rfl rfl (Nat.le_of_ble_eq_true rfl) ⟨Nat.le_of_ble_eq_true rfl, Nat.le_of_ble_eq_true rfl⟩ dX7_laysLine_64 ?_
          rw [show 25 * 1 + 5 * 0 + (k : Int) = 25 + k by omega]
          refine Z.iald C 8 rfl (by omega) (by omega) (by decide) dX7_laysLine_67 ?_
          refine Z.iload_n C dX7_laysLine_68 rfl ?_
          refine Z.icmpge C 89 dX7_laysLine_69 (by decide) (⟨by omega, by omega⟩) (⟨by omega, by omega⟩) (fun h3 => ?_) (fun h3 => ?_)
          · skip
            refine Z.iinc C dX7_laysLine_89 rfl (by decide) ?_
            refine Z.goto C 9 dX7_laysLine_92 (by decide) ?_
            exact ih (k + 1, lea, be, .int (iI a)) ⟨by dsimp only; omega, hle, keep (Or.inl h3)⟩ (by dsimp only; omega)
          · skip
            refine Z.aload_n C dX7_laysLine_72 rfl ?_
            refine Z.getf C 0 14 iw_X7_laysLine_7 rfl rfl (by decide) (by decide +kernel) rfl dX7_laysLine_73 ?_
            refine Z.iconst C dX7_laysLine_76 ?_
            refine Z.iconst C dX7_laysLine_77 ?_
            refine Z.iload C dX7_laysLine_78 rfl ?_
            refine Z.cSIp C 3 (m_place l D cI cJ cL 1 0 k) gX7_laysLine_X7_place rfl rfl rfl (by decide +kernel) ⟨Nat.le_of_ble_eq_true rfl, Nat.le_of_ble_eq_true rfl⟩ rfl rfl (Nat.le_of_ble_eq_true rfl) ⟨Nat.le_of_ble_eq_true rfl, Nat.le_of_ble_eq_true rfl⟩ dX7_laysLine_80 ?_
            rw [show 25 * 1 + 5 * 0 + (k : Int) = 25 + k by omega]
            refine Z.iald C 8 rfl (by omega) (by omega) (by decide) dX7_laysLine_83 ?_
            refine Z.istore_n C dX7_laysLine_84 (by decide) ?_
            refine Z.iload C dX7_laysLine_85 rfl ?_
            refine Z.istore C dX7_laysLine_87 (by decide) ?_
            refine Z.iinc C dX7_laysLine_89 rfl (by decide) ?_
            refine Z.goto C 9 dX7_laysLine_92 (by decide) ?_
            refine ih (k + 1, bh (25 + k), k, .int (iI a)) ⟨by dsimp only; omega, by dsimp only; omega, hbk.1, Or.inr ⟨k, by dsimp only; omega, rfl, z1, z2, rfl, fun j hj g1 g2 => ?_, fun j hj g1 g2 => ?_⟩⟩ (by dsimp only; omega)
            · dsimp only at hj ⊢
              by_cases e : j = k
              · rw [e]; exact Int.le_refl _
              · rcases hfs.2 with ⟨f1, f2, f3⟩ | ⟨b, f1, f2, f3, f4, f5, f6, f7⟩
                · exact absurd ⟨g1, g2⟩ (f3 j (by omega))
                · have := f6 j (by omega) g1 g2
                  omega
            · rcases hfs.2 with ⟨f1, f2, f3⟩ | ⟨b, f1, f2, f3, f4, f5, f6, f7⟩
              · exact absurd ⟨g1, g2⟩ (f3 j hj)
              · have := f6 j hj g1 g2
                dsimp only
                omega
        · omega
    · skip
      refine Z.aload_n C dX7_laysLine_16 rfl ?_
      refine Z.iload_n C dX7_laysLine_17 rfl ?_
      refine Z.iconst C dX7_laysLine_18 ?_
      refine Z.iload C dX7_laysLine_19 rfl ?_
      refine Z.iconst C dX7_laysLine_21 ?_
      refine Z.idiv C dX7_laysLine_22 (by omega) (by omega) (by omega) (by omega) ?_
      refine Z.iload_n C dX7_laysLine_23 rfl ?_
      refine Z.cVI C 0 4 ( m_may l D cI cJ cL ad hf at_ wg lf cf dy ti bh ln thr nw lg nt sl dd il M hM hR w 0 ((k : Int) / 5) x hw0 hw1 (by omega) (by omega) (by omega) (by omega) x0 x1) rfl rfl gX7_laysLine_X7_may rfl rfl rfl (by decide +kernel) ⟨Nat.le_of_ble_eq_true rfl, Nat.le_of_ble_eq_true rfl⟩ rfl rfl (Nat.le_of_ble_eq_true rfl) ⟨Nat.le_of_ble_eq_true rfl, Nat.le_of_ble_eq_true rfl⟩ dX7_laysLine_24 (fun r1 w1 hw1 => ?_)
      obtain ⟨hr1, rfl⟩ := hw1
      have hri : inr r1 := by rcases hr1 with ⟨z, -⟩ | ⟨z, -⟩ <;> exact ⟨by omega, by omega⟩
      refine Z.ifeq C 48 dX7_laysLine_27 (by decide) (hri) (fun h2 => ?_) (fun h2 => ?_)
      · rcases hr1 with ⟨z, -⟩ | ⟨-, z⟩
        · omega
        · refine Z.iconst C dX7_laysLine_48 ?_
          exact join 0 (Or.inr ⟨rfl, fun q => z q.1⟩)
      · rcases hr1 with ⟨-, z1⟩ | ⟨z, -⟩
        · skip
          refine Z.aload_n C dX7_laysLine_30 rfl ?_
          refine Z.iload_n C dX7_laysLine_31 rfl ?_
          refine Z.iconst C dX7_laysLine_32 ?_
          refine Z.iload C dX7_laysLine_33 rfl ?_
          refine Z.iconst C dX7_laysLine_35 ?_
          refine Z.irem C dX7_laysLine_36 (by omega) (by omega) (by omega) (by omega) ?_
          refine Z.iload_n C dX7_laysLine_37 rfl ?_
          refine Z.cVI C 0 4 ( m_may l D cI cJ cL ad hf at_ wg lf cf dy ti bh ln thr nw lg nt sl dd il M hM hR w 1 ((k : Int) % 5) x hw0 hw1 (by omega) (by omega) (by omega) (by omega) x0 x1) rfl rfl gX7_laysLine_X7_may rfl rfl rfl (by decide +kernel) ⟨Nat.le_of_ble_eq_true rfl, Nat.le_of_ble_eq_true rfl⟩ rfl rfl (Nat.le_of_ble_eq_true rfl) ⟨Nat.le_of_ble_eq_true rfl, Nat.le_of_ble_eq_true rfl⟩ dX7_laysLine_38 (fun r2 w2 hw2 => ?_)
          obtain ⟨hr2, rfl⟩ := hw2
          have hri2 : inr r2 := by rcases hr2 with ⟨z, -⟩ | ⟨z, -⟩ <;> exact ⟨by omega, by omega⟩
          refine Z.ifeq C 48 dX7_laysLine_41 (by decide) (hri2) (fun h3 => ?_) (fun h3 => ?_)
          · rcases hr2 with ⟨z, -⟩ | ⟨-, z⟩
            · omega
            · refine Z.iconst C dX7_laysLine_48 ?_
              exact join 0 (Or.inr ⟨rfl, fun q => z q.2⟩)
          · rcases hr2 with ⟨-, z2⟩ | ⟨z, -⟩
            · refine Z.iconst C dX7_laysLine_44 ?_
              refine Z.goto C 49 dX7_laysLine_45 (by decide) ?_
              exact join 1 (Or.inl ⟨rfl, z1, z2⟩)
            · omega
        · omega
def tcFair (w x il : Int) : Int := if ¬ (0 ≤ w ∧ w ≤ 5) then 1 else if ¬ (0 ≤ x ∧ x ≤ 2) then 2 else if il ≠ 0 then 3 else 0
def frZ (f : Int → Int) (x : Int) : Int → Int := fun s => fairZ f x s.toNat
set_option maxRecDepth 20000 in
theorem iw_X7_fair_7 : ∀ w ∈ u_ws RX7 TX7 16, w ∈ wsX7_fair := by decide +kernel
abbrev rmX7_fair : Room := { frames := 4, cells := 0, slots := 0, locals := 100 }
set_option maxHeartbeats 4000000 in
set_option maxRecDepth 100000 in
theorem m_fair (l : Launch) (D : va_G) (cI cJ cL : ClassId) (ad : Nat → Nat) (hf at_ wg lf cf dy ti bh ln : Int → Int) (thr nw lg nt sl dd il : Int) (M : Int → Int → Int) (hM : hOK M) (hR : RH M hf) (hil : il = 0 ∨ il = 1) (w x : Int) (hw : inr w) (hx : inr x) : CI l yX7_fair wsX7_fair rmX7_fair [.ref (ad 0), .int (iI w), .int (iI x)] D cI cJ cL (wM ad cI hf at_ wg lf cf dy ti bh ln thr nw lg nt sl dd il) (fun r w' => (tcFair w x il ≠ 0 ∧ w' = (wM ad cI hf at_ wg lf cf dy ti bh ln (tcFair w x il) nw lg nt sl dd il)) ∨ (tcFair w x il = 0 ∧ r = bendZ (M w) 7 - bendZ (frZ (M w) x) 7 ∧ ∃ hf' bh' ln' : Int → Int, RH (zrow M w (frZ (M w) x)) hf' ∧ w' = (wM ad cI hf' at_ wg lf cf dy ti bh' ln' 0 nw lg nt sl dd il))) := by
  refine CI.of (cc := cX7_fair) (maxL := 5) (ret := (some .int)) (own := RX7) _ 2 (by decide +kernel) rfl rfl rfl (Nat.le_of_ble_eq_true rfl) rfl (fun sz9 p9 e9 s9 m9 a9 b9 h9 c9 C hr => ?_)
  refine Z.cut (α := Int) 37 (fun _ => (wM ad cI hf at_ wg lf cf dy ti bh ln thr nw lg nt sl dd il)) (fun _ => [.ref (ad 0), .int (iI w), .int (iI x), .null, .null]) (fun k => [.int (iI k), .ref (ad 0)]) (fun k => k = tcFair w x il ∧ 0 ≤ k ∧ k ≤ 3) (fun k hk => ?_) (fun join => ?_)
  · obtain ⟨hk, k0, k3⟩ := hk
    refine Z.putf C 0 0 iw_X7_fair_7 rfl rfl (by decide) tyX7 tyX7_ok nmX7 (by decide +kernel) rfl (ty := .int) (by decide +kernel) rfl rfl (Nat.le_of_ble_eq_true rfl) dX7_fair_37 wM_s_thr ?_
    refine Z.aload_n C dX7_fair_40 rfl ?_
    refine Z.getf C 0 0 iw_X7_fair_7 rfl rfl (by decide) (by decide +kernel) rfl dX7_fair_41 ?_
    refine Z.ifle C 49 dX7_fair_44 (by decide) (⟨by omega, by omega⟩) (fun h1 => ?_) (fun h1 => ?_)
    · have e0 : k = 0 := by omega
      subst e0
      have hc : (0 ≤ w ∧ w ≤ 5) ∧ (0 ≤ x ∧ x ≤ 2) := by
        unfold tcFair at hk
        split at hk
        · omega
        · split at hk
          · omega
          · omega
      obtain ⟨⟨w0, w1⟩, x0, x1⟩ := hc
      refine Z.aload_n C dX7_fair_49 rfl ?_
      refine Z.iload_n C dX7_fair_50 rfl ?_
      refine Z.cVId C 0 1 (m_bendOf l D cI cJ cL ad hf at_ wg lf cf dy ti bh ln 0 nw lg nt sl dd il M hR w w0 w1) rfl rfl gX7_fair_X7_bendOf rfl rfl rfl (by decide +kernel) ⟨Nat.le_of_ble_eq_true rfl, Nat.le_of_ble_eq_true rfl⟩ rfl rfl (Nat.le_of_ble_eq_true rfl) ⟨Nat.le_of_ble_eq_true rfl, Nat.le_of_ble_eq_true rfl⟩ dX7_fair_51 ?_
      refine Z.istore_n C dX7_fair_54 (by decide) ?_
      refine Z.aload_n C dX7_fair_55 rfl ?_
      refine Z.iload_n C dX7_fair_56 rfl ?_
      refine Z.iload_n C dX7_fair_57 rfl ?_
      refine Z.cVV C 0 2 ( m_findsBehind l D cI cJ cL ad hf at_ wg lf cf dy ti bh ln 0 nw lg nt sl dd il M hM hR w x w0 w1 x0 x1) rfl rfl gX7_fair_X7_findsBehind rfl rfl rfl (by decide +kernel) ⟨Nat.le_of_ble_eq_true rfl, Nat.le_of_ble_eq_true rfl⟩ rfl rfl (Nat.le_of_ble_eq_true rfl) ⟨Nat.le_of_ble_eq_true rfl, Nat.le_of_ble_eq_true rfl⟩ dX7_fair_58 (fun w2 hw2 => ?_)
      obtain ⟨bh1, hbh, rfl⟩ := hw2
      refine Z.aload_n C dX7_fair_61 rfl ?_
      refine Z.iload_n C dX7_fair_62 rfl ?_
      refine Z.iload_n C dX7_fair_63 rfl ?_
      refine Z.cVV C 0 2 ( m_laysLine l D cI cJ cL ad hf at_ wg lf cf dy ti bh1 ln 0 nw lg nt sl dd il M hM hR w x w0 w1 x0 x1 hbh) rfl rfl gX7_fair_X7_laysLine rfl rfl rfl (by decide +kernel) ⟨Nat.le_of_ble_eq_true rfl, Nat.le_of_ble_eq_true rfl⟩ rfl rfl (Nat.le_of_ble_eq_true rfl) ⟨Nat.le_of_ble_eq_true rfl, Nat.le_of_ble_eq_true rfl⟩ dX7_fair_64 (fun w3 hw3 => ?_)
      obtain ⟨ln1, hln, rfl⟩ := hw3
      refine Z.iconst C dX7_fair_67 ?_
      refine Z.istore C dX7_fair_68 (by decide) ?_
      refine Z.loop (α := Nat × (Int → Int)) (fun y => (wM ad cI y.2 at_ wg lf cf dy ti bh1 ln1 0 nw lg nt sl dd il)) (fun y => [.ref (ad 0), .int (iI w), .int (iI x), .int (iI (bendZ (M w) 7)), .int (iI y.1)]) (fun y => y.1 ≤ 9 ∧ (∀ j : Int, j < 9 * w ∨ 9 * w + y.1 ≤ j → y.2 j = hf j) ∧ ∀ s : Nat, s < y.1 → y.2 (9 * w + s) = fairZ (M w) x s) (fun y => 9 - y.1) (0, hf) ⟨by dsimp only; omega, fun j _ => rfl, fun s h => absurd h (Nat.not_lt_zero _)⟩ rfl rfl (fun y hy ih => ?_)
      obtain ⟨k, hf1⟩ := y
      dsimp only at hy ih ⊢
      obtain ⟨hk9, ho, hn⟩ := hy
      refine Z.iload C dX7_fair_70 rfl ?_
      refine Z.bipush C dX7_fair_72 (by decide) ?_
      refine Z.icmpge C 107 dX7_fair_74 (by decide) (⟨by omega, by omega⟩) (⟨by omega, by omega⟩) (fun h2 => ?_) (fun h2 => ?_)
      · have hRH : RH (zrow M w (frZ (M w) x)) hf1 := by
          intro v s v0 v1 s0 s1
          by_cases e : v = w
          · subst e
            rw [zrow_eq]
            have := hn s.toNat (by omega)
            rw [Int.toNat_of_nonneg s0] at this
            rw [this]
            rfl
          · rw [zrow_ne _ _ e, ho _ (by omega)]
            exact hR v s v0 v1 s0 s1
        refine Z.iload_n C dX7_fair_107 rfl ?_
        refine Z.aload_n C dX7_fair_108 rfl ?_
        refine Z.iload_n C dX7_fair_109 rfl ?_
        refine Z.cVId C 0 1 (m_bendOf l D cI cJ cL ad hf1 at_ wg lf cf dy ti bh1 ln1 0 nw lg nt sl dd il (zrow M w (frZ (M w) x)) hRH w w0 w1) rfl rfl gX7_fair_X7_bendOf rfl rfl rfl (by decide +kernel) ⟨Nat.le_of_ble_eq_true rfl, Nat.le_of_ble_eq_true rfl⟩ rfl rfl (Nat.le_of_ble_eq_true rfl) ⟨Nat.le_of_ble_eq_true rfl, Nat.le_of_ble_eq_true rfl⟩ dX7_fair_110 ?_
        rw [zrow_eq]
        refine Z.isub C dX7_fair_113 ?_
        exact Z.iret C hr dX7_fair_114 ((Or.inr ⟨hk.symm, rfl, hf1, bh1, ln1, hRH, rfl⟩))
      · have e1 := ho (9 * w + k) (by omega)
        have e2 := hR w k w0 w1 (by omega) (by omega)
        have e3 := hln k (by omega)
        refine Z.aload_n C dX7_fair_77 rfl ?_
        refine Z.getf C 0 1 iw_X7_fair_7 rfl rfl (by decide) (by decide +kernel) rfl dX7_fair_78 ?_
        refine Z.bipush C dX7_fair_81 (by decide) ?_
        refine Z.iload_n C dX7_fair_83 rfl ?_
        refine Z.imul C dX7_fair_84 ?_
        refine Z.iload C dX7_fair_85 rfl ?_
        refine Z.iadd C dX7_fair_87 ?_
        refine Z.dup2 C dX7_fair_88 rfl rfl ?_
        refine Z.iald C 1 rfl (by omega) (by omega) (by decide) dX7_fair_89 ?_
        refine Z.aload_n C dX7_fair_90 rfl ?_
        refine Z.getf C 0 15 iw_X7_fair_7 rfl rfl (by decide) (by decide +kernel) rfl dX7_fair_91 ?_
        refine Z.iload C dX7_fair_94 rfl ?_
        refine Z.iald C 9 rfl (by omega) (by omega) (by decide) dX7_fair_96 ?_
        refine Z.iconst C dX7_fair_97 ?_
        refine Z.isub C dX7_fair_98 ?_
        refine Z.iadd C dX7_fair_99 ?_
        refine Z.iast C 1 rfl (by omega) (by omega) (by decide) dX7_fair_100 wM_a1 ?_
        refine Z.iinc C dX7_fair_101 rfl (by decide) ?_
        refine Z.goto C 70 dX7_fair_104 (by decide) ?_
        refine ih (k + 1, zset hf1 (9 * w + k) (hf1 (9 * w + k) + (ln1 k - 2))) ⟨by dsimp only; omega, fun j hj => ?_, fun s hs => ?_⟩ (by dsimp only; omega)
        · dsimp only at hj ⊢
          rw [zset_ne _ (by omega)]
          exact ho j (by omega)
        · dsimp only at hs ⊢
          by_cases e : s = k
          · subst e
            rw [zset_eq, e1, e2, e3]
            unfold fairZ dZ
            omega
          · rw [zset_ne _ (by omega)]
            exact hn s (by omega)
    · skip
      refine Z.iconst C dX7_fair_47 ?_
      exact Z.iret C hr dX7_fair_48 ((Or.inl ⟨by omega, by rw [hk]⟩))
  · skip
    refine Z.aload_n C dX7_fair_0 rfl ?_
    refine Z.iload_n C dX7_fair_1 rfl ?_
    refine Z.cSIp C 1 (m_isWaterline l D cI cJ cL w hw) gX7_fair_X7_isWaterline rfl rfl rfl (by decide +kernel) ⟨Nat.le_of_ble_eq_true rfl, Nat.le_of_ble_eq_true rfl⟩ rfl rfl (Nat.le_of_ble_eq_true rfl) ⟨Nat.le_of_ble_eq_true rfl, Nat.le_of_ble_eq_true rfl⟩ dX7_fair_2 ?_
    refine Z.ifne C 12 dX7_fair_5 (by decide) ((inZ_r _ _ _)) (fun h1 => ?_) (fun h1 => ?_)
    · have q1 := inZ_1 h1
      refine Z.iload_n C dX7_fair_12 rfl ?_
      refine Z.iconst C dX7_fair_13 ?_
      refine Z.iconst C dX7_fair_14 ?_
      refine Z.cSIp C 3 (m_in l D cI cJ cL x 0 2 hx ⟨by decide, by decide⟩ ⟨by decide, by decide⟩) gX7_fair_X7_in rfl rfl rfl (by decide +kernel) ⟨Nat.le_of_ble_eq_true rfl, Nat.le_of_ble_eq_true rfl⟩ rfl rfl (Nat.le_of_ble_eq_true rfl) ⟨Nat.le_of_ble_eq_true rfl, Nat.le_of_ble_eq_true rfl⟩ dX7_fair_15 ?_
      refine Z.ifne C 25 dX7_fair_18 (by decide) ((inZ_r _ _ _)) (fun h3 => ?_) (fun h3 => ?_)
      · have q3 := inZ_1 h3
        refine Z.aload_n C dX7_fair_25 rfl ?_
        refine Z.getf C 0 13 iw_X7_fair_7 rfl rfl (by decide) (by decide +kernel) rfl dX7_fair_26 ?_
        refine Z.ifeq C 36 dX7_fair_29 (by decide) (⟨by omega, by omega⟩) (fun h4 => ?_) (fun h4 => ?_)
        · refine Z.iconst C dX7_fair_36 ?_
          exact join 0 ⟨by unfold tcFair; rw [if_neg (by omega), if_neg (by omega), if_neg (by omega)], by omega, by omega⟩
        · refine Z.iconst C dX7_fair_32 ?_
          refine Z.goto C 37 dX7_fair_33 (by decide) ?_
          exact join 3 ⟨by unfold tcFair; rw [if_neg (by omega), if_neg (by omega), if_pos (by omega)], by omega, by omega⟩
      · have q3 := inZ_0 h3
        refine Z.iconst C dX7_fair_21 ?_
        refine Z.goto C 37 dX7_fair_22 (by decide) ?_
        exact join 2 ⟨by unfold tcFair; rw [if_neg (by omega), if_pos q3], by omega, by omega⟩
    · have q1 := inZ_0 h1
      refine Z.iconst C dX7_fair_8 ?_
      refine Z.goto C 37 dX7_fair_9 (by decide) ?_
      exact join 1 ⟨by unfold tcFair; rw [if_pos q1], by omega, by omega⟩
