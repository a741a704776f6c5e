/-! ===== the reference: making a line fair, the least bends behind ===== -/
def dZ (f : Int → Int) (x s : Int) : Int := loZ f x s - f s + 2
def mayP (f : Int → Int) (x s k : Int) : Prop := dZ f x s ≤ k ∧ k < dZ f x s + chZ f x s
theorem dZ_bd {f : Int → Int} (hf : ∀ j : Int, 0 ≤ f j ∧ f j ≤ 200) {x : Int} (x0 : 0 ≤ x) (x1 : x ≤ 2) (s : Int) : 0 ≤ dZ f x s ∧ dZ f x s ≤ 2 ∧ 3 ≤ dZ f x s + chZ f x s ∧ dZ f x s + chZ f x s ≤ 5 ∧ 1 ≤ chZ f x s := by
  have := hf s
  unfold dZ chZ loZ hiZ
  split <;> split <;> omega
theorem mayP_iff {f : Int → Int} (hf : ∀ j : Int, 0 ≤ f j ∧ f j ≤ 200) {x : Int} (x0 : 0 ≤ x) (x1 : x ≤ 2) (s k : Int) : mayP f x s k ↔ (absZ (k - 2) ≤ x ∧ (0 ≤ f s + k - 2 ∧ f s + k - 2 ≤ 200)) := by
  have := hf s
  unfold mayP dZ chZ loZ hiZ absZ
  split <;> split <;> split <;> omega
theorem mayP_2 {f : Int → Int} (hf : ∀ j : Int, 0 ≤ f j ∧ f j ≤ 200) {x : Int} (x0 : 0 ≤ x) (x1 : x ≤ 2) (s : Int) : mayP f x s 2 := by
  have := dZ_bd hf x0 x1 s
  unfold mayP
  omega
abbrev rmX7_may : Room := { frames := 1, cells := 0, slots := 0, locals := 22 }
set_option maxHeartbeats 4000000 in
set_option maxRecDepth 100000 in
theorem m_may (l : Launch) (D : va_G) (cI cJ cL : ClassId) (ad : Nat → Nat) (hf at_ wg lf cf dy ti bh ln : Int → Int) (thr nw lg nt sl dd il : Int) (M : Int → Int → Int) (hM : hOK M) (hR : RH M hf) (w s k x : Int) (hw0 : 0 ≤ w) (hw1 : w ≤ 5) (hs0 : 0 ≤ s) (hs1 : s ≤ 8) (hk0 : 0 ≤ k) (hk1 : k ≤ 4) (x0 : 0 ≤ x) (x1 : x ≤ 2) : CI l yX7_may wsX7_may rmX7_may [.ref (ad 0), .int (iI w), .int (iI s), .int (iI k), .int (iI x)] D cI cJ cL (wM ad cI hf at_ wg lf cf dy ti bh ln thr nw lg nt sl dd il) (fun r w' => ((r = 1 ∧ mayP (M w) x s k) ∨ (r = 0 ∧ ¬ mayP (M w) x s k)) ∧ w' = (wM ad cI hf at_ wg lf cf dy ti bh ln thr nw lg nt sl dd il)) := by
  have hb := hM w s
  have ha := absZ_bd (a := k - 2) (k := 4) (by omega) (by omega)
  have hi := mayP_iff (hM w) x0 x1 s k
  refine CI.of (cc := cX7_may) (maxL := 5) (ret := (some .boolean)) (own := RX7) _ 0 (by decide +kernel) rfl rfl rfl (Nat.le_of_ble_eq_true rfl) rfl (fun sz9 p9 e9 s9 m9 a9 b9 h9 c9 C hr => ?_)
  refine Z.iload_n C dX7_may_0 rfl ?_
  refine Z.iconst C dX7_may_1 ?_
  refine Z.isub C dX7_may_2 ?_
  refine Z.cSIp C 1 (m_size l D cI cJ cL (k - 2) ⟨by omega, by omega⟩) gX7_may_X7_size rfl rfl rfl (by decide +kernel) ⟨Nat.le_of_ble_eq_true rfl, Nat.le_of_ble_eq_true rfl⟩ rfl rfl (Nat.le_of_ble_eq_true rfl) ⟨Nat.le_of_ble_eq_true rfl, Nat.le_of_ble_eq_true rfl⟩ dX7_may_3 ?_
  refine Z.iload C dX7_may_6 rfl ?_
  refine Z.icmpgt C 35 dX7_may_8 (by decide) (⟨by omega, by omega⟩) (⟨by omega, by omega⟩) (fun h => ?_) (fun h => ?_)
  · refine Z.iconst C dX7_may_35 ?_
    exact Z.zret C hr (by omega) dX7_may_36 (⟨Or.inr ⟨rfl, fun q => by have := (hi.mp q).1; omega⟩, rfl⟩)
  · refine Z.aload_n C dX7_may_11 rfl ?_
    refine Z.iload_n C dX7_may_12 rfl ?_
    refine Z.iload_n C dX7_may_13 rfl ?_
    refine Z.cVId C 0 2 (m_halfAt l D cI cJ cL ad hf at_ wg lf cf dy ti bh ln thr nw lg nt sl dd il M hR s w hs0 hs1 hw0 hw1) rfl rfl gX7_may_X7_halfAt rfl rfl rfl (by decide +kernel) ⟨Nat.le_of_ble_eq_true rfl, Nat.le_of_ble_eq_true rfl⟩ rfl rfl (Nat.le_of_ble_eq_true rfl) ⟨Nat.le_of_ble_eq_true rfl, Nat.le_of_ble_eq_true rfl⟩ dX7_may_14 ?_
    refine Z.iload_n C dX7_may_17 rfl ?_
    refine Z.iadd C dX7_may_18 ?_
    refine Z.iconst C dX7_may_19 ?_
    refine Z.isub C dX7_may_20 ?_
    refine Z.iconst C dX7_may_21 ?_
    refine Z.sipush C dX7_may_22 (by decide) ?_
    refine Z.cSIp C 3 (m_in l D cI cJ cL (M w s + k - 2) 0 200 ⟨by omega, by omega⟩ ⟨by decide, by decide⟩ ⟨by decide, by decide⟩) gX7_may_X7_in rfl rfl rfl (by decide +kernel) ⟨Nat.le_of_ble_eq_true rfl, Nat.le_of_ble_eq_true rfl⟩ rfl rfl (Nat.le_of_ble_eq_true rfl) ⟨Nat.le_of_ble_eq_true rfl, Nat.le_of_ble_eq_true rfl⟩ dX7_may_25 ?_
    refine Z.ifeq C 35 dX7_may_28 (by decide) ((inZ_r _ _ _)) (fun h2 => ?_) (fun h2 => ?_)
    · have q2 := inZ_0 h2
      refine Z.iconst C dX7_may_35 ?_
      exact Z.zret C hr (by omega) dX7_may_36 (⟨Or.inr ⟨rfl, fun q => q2 (hi.mp q).2⟩, rfl⟩)
    · have q2 := inZ_1 h2
      refine Z.iconst C dX7_may_31 ?_
      refine Z.goto C 36 dX7_may_32 (by decide) ?_
      exact Z.zret C hr (by omega) dX7_may_36 (⟨Or.inl ⟨rfl, hi.mpr ⟨h, q2⟩⟩, rfl⟩)
def bbZ (f bh : Int → Int) (s a b c : Int) : Int := (f (s - 1) + a - 2 + f (s + 1) + c - 2 - 2 * (f s + b - 2)) * (f (s - 1) + a - 2 + f (s + 1) + c - 2 - 2 * (f s + b - 2)) + bh (25 * (s + 1) + 5 * b + c)
set_option maxRecDepth 20000 in
theorem iw_X7_bendBy_7 : ∀ w ∈ u_ws RX7 TX7 16, w ∈ wsX7_bendBy := by decide +kernel
abbrev rmX7_bendBy : Room := { frames := 1, cells := 0, slots := 0, locals := 22 }
set_option maxHeartbeats 4000000 in
set_option maxRecDepth 100000 in
theorem m_bendBy (l : Launch) (D : va_G) (cI cJ cL : ClassId) (ad : Nat → Nat) (hf at_ wg lf cf dy ti bh ln : Int → Int) (thr nw lg nt sl dd il : Int) (M : Int → Int → Int) (hR : RH M hf) (w s a b c : Int) (hw0 : 0 ≤ w) (hw1 : w ≤ 5) (hs0 : 1 ≤ s) (hs1 : s ≤ 7) (hb0 : 0 ≤ b) (hb1 : b ≤ 4) (hc0 : 0 ≤ c) (hc1 : c ≤ 4) : CI l yX7_bendBy wsX7_bendBy rmX7_bendBy [.ref (ad 0), .int (iI w), .int (iI s), .int (iI a), .int (iI b), .int (iI c)] D cI cJ cL (wM ad cI hf at_ wg lf cf dy ti bh ln thr nw lg nt sl dd il) (fun r w' => r = bbZ (M w) bh s a b c ∧ w' = (wM ad cI hf at_ wg lf cf dy ti bh ln thr nw lg nt sl dd il)) := by
  refine CI.of (cc := cX7_bendBy) (maxL := 7) (ret := (some .int)) (own := RX7) _ 1 (by decide +kernel) rfl rfl rfl (Nat.le_of_ble_eq_true rfl) rfl (fun sz9 p9 e9 s9 m9 a9 b9 h9 c9 C hr => ?_)
  refine Z.aload_n C dX7_bendBy_0 rfl ?_
  refine Z.iload_n C dX7_bendBy_1 rfl ?_
  refine Z.iconst C dX7_bendBy_2 ?_
  refine Z.isub C dX7_bendBy_3 ?_
  refine Z.iload_n C dX7_bendBy_4 rfl ?_
  refine Z.cVId C 0 2 (m_halfAt l D cI cJ cL ad hf at_ wg lf cf dy ti bh ln thr nw lg nt sl dd il M hR (s - 1) w (by omega) (by omega) hw0 hw1) rfl rfl gX7_bendBy_X7_halfAt rfl rfl rfl (by decide +kernel) ⟨Nat.le_of_ble_eq_true rfl, Nat.le_of_ble_eq_true rfl⟩ rfl rfl (Nat.le_of_ble_eq_true rfl) ⟨Nat.le_of_ble_eq_true rfl, Nat.le_of_ble_eq_true rfl⟩ dX7_bendBy_5 ?_
  refine Z.iload_n C dX7_bendBy_8 rfl ?_
  refine Z.iadd C dX7_bendBy_9 ?_
  refine Z.iconst C dX7_bendBy_10 ?_
  refine Z.isub C dX7_bendBy_11 ?_
  refine Z.aload_n C dX7_bendBy_12 rfl ?_
  refine Z.iload_n C dX7_bendBy_13 rfl ?_
  refine Z.iconst C dX7_bendBy_14 ?_
  refine Z.iadd C dX7_bendBy_15 ?_
  refine Z.iload_n C dX7_bendBy_16 rfl ?_
  refine Z.cVId C 0 2 (m_halfAt l D cI cJ cL ad hf at_ wg lf cf dy ti bh ln thr nw lg nt sl dd il M hR (s + 1) w (by omega) (by omega) hw0 hw1) rfl rfl gX7_bendBy_X7_halfAt rfl rfl rfl (by decide +kernel) ⟨Nat.le_of_ble_eq_true rfl, Nat.le_of_ble_eq_true rfl⟩ rfl rfl (Nat.le_of_ble_eq_true rfl) ⟨Nat.le_of_ble_eq_true rfl, Nat.le_of_ble_eq_true rfl⟩ dX7_bendBy_17 ?_
  refine Z.iadd C dX7_bendBy_20 ?_
  refine Z.iload C dX7_bendBy_21 rfl ?_
  refine Z.iadd C dX7_bendBy_23 ?_
  refine Z.iconst C dX7_bendBy_24 ?_
  refine Z.isub C dX7_bendBy_25 ?_
  refine Z.iconst C dX7_bendBy_26 ?_
  refine Z.aload_n C dX7_bendBy_27 rfl ?_
  refine Z.iload_n C dX7_bendBy_28 rfl ?_
  refine Z.iload_n C dX7_bendBy_29 rfl ?_
  refine Z.cVId C 0 2 (m_halfAt l D cI cJ cL ad hf at_ wg lf cf dy ti bh ln thr nw lg nt sl dd il M hR s w (by omega) (by omega) hw0 hw1) rfl rfl gX7_bendBy_X7_halfAt rfl rfl rfl (by decide +kernel) ⟨Nat.le_of_ble_eq_true rfl, Nat.le_of_ble_eq_true rfl⟩ rfl rfl (Nat.le_of_ble_eq_true rfl) ⟨Nat.le_of_ble_eq_true rfl, Nat.le_of_ble_eq_true rfl⟩ dX7_bendBy_30 ?_
  refine Z.iload C dX7_bendBy_33 rfl ?_
  refine Z.iadd C dX7_bendBy_35 ?_
  refine Z.iconst C dX7_bendBy_36 ?_
  refine Z.isub C dX7_bendBy_37 ?_
  refine Z.imul C dX7_bendBy_38 ?_
  refine Z.isub C dX7_bendBy_39 ?_
  refine Z.istore C dX7_bendBy_40 (by decide) ?_
  refine Z.iload C dX7_bendBy_42 rfl ?_
  refine Z.cSIp C 1 (m_square l D cI cJ cL (M w (s - 1) + a - 2 + M w (s + 1) + c - 2 - 2 * (M w s + b - 2))) gX7_bendBy_X7_square rfl rfl rfl (by decide +kernel) ⟨Nat.le_of_ble_eq_true rfl, Nat.le_of_ble_eq_true rfl⟩ rfl rfl (Nat.le_of_ble_eq_true rfl) ⟨Nat.le_of_ble_eq_true rfl, Nat.le_of_ble_eq_true rfl⟩ dX7_bendBy_44 ?_
  refine Z.aload_n C dX7_bendBy_47 rfl ?_
  refine Z.getf C 0 14 iw_X7_bendBy_7 rfl rfl (by decide) (by decide +kernel) rfl dX7_bendBy_48 ?_
  refine Z.iload_n C dX7_bendBy_51 rfl ?_
  refine Z.iconst C dX7_bendBy_52 ?_
  refine Z.iadd C dX7_bendBy_53 ?_
  refine Z.iload C dX7_bendBy_54 rfl ?_
  refine Z.iload C dX7_bendBy_56 rfl ?_
  refine Z.cSIp C 3 (m_place l D cI cJ cL (s + 1) b c) gX7_bendBy_X7_place rfl rfl rfl (by decide +kernel) ⟨Nat.le_of_ble_eq_true rfl, Nat.le_of_ble_eq_true rfl⟩ rfl rfl (Nat.le_of_ble_eq_true rfl) ⟨Nat.le_of_ble_eq_true rfl, Nat.le_of_ble_eq_true rfl⟩ dX7_bendBy_58 ?_
  refine Z.iald C 8 rfl (by omega) (by omega) (by decide) dX7_bendBy_61 ?_
  refine Z.iadd C dX7_bendBy_62 ?_
  exact Z.iret C hr dX7_bendBy_63 (⟨rfl, rfl⟩)
/-- what leastBy has found behind n numbers -/
def lbP (g : Int → Int) (m : Int → Prop) (n : Nat) (v : Int) : Prop := v ≤ FAR ∧ (∀ c : Nat, c < n → m c → v ≤ g c) ∧ (v = FAR ∨ ∃ c : Nat, c < n ∧ m c ∧ v = g c)
theorem sq_bd2 {x : Int} (h1 : -412 ≤ x) (h2 : x ≤ 412) : 0 ≤ x * x ∧ x * x ≤ 169744 := by
  have h3 : x * x = x.natAbs * x.natAbs := (Int.natAbs_mul_self (a := x)).symm
  have h4 : x.natAbs ≤ 412 := by omega
  have h5 : x.natAbs * x.natAbs ≤ 412 * 412 := Nat.mul_le_mul h4 h4
  rw [h3]
  exact ⟨by omega, by omega⟩
theorem bbZ_bd {f bh : Int → Int} (hf : ∀ j : Int, 0 ≤ f j ∧ f j ≤ 200) {s a b c B : Int} (a0 : 0 ≤ a) (a1 : a ≤ 4) (b0 : 0 ≤ b) (b1 : b ≤ 4) (c0 : 0 ≤ c) (c1 : c ≤ 4) (hB : 0 ≤ bh (25 * (s + 1) + 5 * b + c) ∧ bh (25 * (s + 1) + 5 * b + c) ≤ B) : 0 ≤ bbZ f bh s a b c ∧ bbZ f bh s a b c ≤ 169744 + B := by
  have h1 := hf (s - 1)
  have h2 := hf s
  have h3 := hf (s + 1)
  have := sq_bd2 (x := f (s - 1) + a - 2 + f (s + 1) + c - 2 - 2 * (f s + b - 2)) (by omega) (by omega)
  unfold bbZ
  omega
abbrev rmX7_leastBy : Room := { frames := 2, cells := 0, slots := 0, locals := 48 }
set_option maxHeartbeats 4000000 in
set_option maxRecDepth 100000 in
theorem m_leastBy (l : Launch) (D : va_G) (cI cJ cL : ClassId) (ad : Nat → Nat) (hf at_ wg lf cf dy ti bh ln : Int → Int) (thr nw lg nt sl dd il : Int) (M : Int → Int → Int) (hM : hOK M) (hR : RH M hf) (w s a b x : Int) (hw0 : 0 ≤ w) (hw1 : w ≤ 5) (hs0 : 1 ≤ s) (hs1 : s ≤ 7) (ha0 : 0 ≤ a) (ha1 : a ≤ 4) (hb0 : 0 ≤ b) (hb1 : b ≤ 4) (x0 : 0 ≤ x) (x1 : x ≤ 2) (hB : ∀ k : Int, 0 ≤ k → k < 25 → 0 ≤ bh (25 * (s + 1) + k) ∧ bh (25 * (s + 1) + k) ≤ 2000000) : CI l yX7_leastBy wsX7_leastBy rmX7_leastBy [.ref (ad 0), .int (iI w), .int (iI s), .int (iI a), .int (iI b), .int (iI x)] D cI cJ cL (wM ad cI hf at_ wg lf cf dy ti bh ln thr nw lg nt sl dd il) (fun r w' => lbP (bbZ (M w) bh s a b) (mayP (M w) x (s + 1)) 5 r ∧ w' = (wM ad cI hf at_ wg lf cf dy ti bh ln thr nw lg nt sl dd il)) := by
  have hF : FAR = 100000000 := rfl
  refine CI.of (cc := cX7_leastBy) (maxL := 9) (ret := (some .int)) (own := RX7) _ 3 (by decide +kernel) rfl rfl rfl (Nat.le_of_ble_eq_true rfl) rfl (fun sz9 p9 e9 s9 m9 a9 b9 h9 c9 C hr => ?_)
  refine Z.ldc C (v := iI 100000000) 100000000 (by decide +kernel) rfl dX7_leastBy_0 ?_
  refine Z.istore C dX7_leastBy_2 (by decide) ?_
  refine Z.iconst C dX7_leastBy_4 ?_
  refine Z.istore C dX7_leastBy_5 (by decide) ?_
  refine Z.loop (α := Nat × Int × Value) (fun y => (wM ad cI hf at_ wg lf cf dy ti bh ln thr nw lg nt sl dd il)) (fun y => [.ref (ad 0), .int (iI w), .int (iI s), .int (iI a), .int (iI b), .int (iI x), .int (iI y.2.1), .int (iI y.1), y.2.2]) (fun y => y.1 ≤ 5 ∧ 0 ≤ y.2.1 ∧ lbP (bbZ (M w) bh s a b) (mayP (M w) x (s + 1)) y.1 y.2.1) (fun y => 5 - y.1) (0, FAR, .null) ⟨by dsimp only; omega, by dsimp only; omega, by dsimp only; omega, fun c h => absurd h (Nat.not_lt_zero _), Or.inl rfl⟩ rfl rfl (fun y hy ih => ?_)
  obtain ⟨c, v, v8⟩ := y
  dsimp only at hy ih ⊢
  obtain ⟨hc, hv0, hv1, hv2, hv3⟩ := hy
  refine Z.iload C dX7_leastBy_7 rfl ?_
  refine Z.iconst C dX7_leastBy_9 ?_
  refine Z.icmpge C 68 dX7_leastBy_10 (by decide) (⟨by omega, by omega⟩) (⟨by omega, by omega⟩) (fun h => ?_) (fun h => ?_)
  · have e5 : c = 5 := by omega
    subst e5
    refine Z.iload C dX7_leastBy_68 rfl ?_
    exact Z.iret C hr dX7_leastBy_70 (⟨⟨hv1, hv2, hv3⟩, rfl⟩)
  · have hbb := bbZ_bd (f := M w) (bh := bh) (hM w) (s := s) (a := a) (b := b) (c := c) (B := 2000000) ha0 ha1 hb0 hb1 (by omega) (by omega) (by have := hB (5 * b + c) (by omega) (by omega); rw [show 25 * (s + 1) + 5 * b + (c : Int) = 25 * (s + 1) + (5 * b + c) by omega]; exact this)
    refine Z.cut (α := Int) 44 (fun _ => (wM ad cI hf at_ wg lf cf dy ti bh ln thr nw lg nt sl dd il)) (fun _ => [.ref (ad 0), .int (iI w), .int (iI s), .int (iI a), .int (iI b), .int (iI x), .int (iI v), .int (iI c), v8]) (fun k => [.int (iI k)]) (fun k => (k = bbZ (M w) bh s a b c ∧ mayP (M w) x (s + 1) c) ∨ (k = FAR ∧ ¬ mayP (M w) x (s + 1) c)) (fun k hk => ?_) (fun join => ?_)
    · have hkr : 0 ≤ k ∧ k ≤ FAR := by rcases hk with ⟨q, -⟩ | ⟨q, -⟩ <;> omega
      refine Z.istore C dX7_leastBy_44 (by decide) ?_
      refine Z.iload C dX7_leastBy_46 rfl ?_
      refine Z.iload C dX7_leastBy_48 rfl ?_
      refine Z.icmpge C 58 dX7_leastBy_50 (by decide) (⟨by omega, by omega⟩) (⟨by omega, by omega⟩) (fun h2 => ?_) (fun h2 => ?_)
      · skip
        refine Z.iload C dX7_leastBy_58 rfl ?_
        refine Z.istore C dX7_leastBy_60 (by decide) ?_
        refine Z.iinc C dX7_leastBy_62 rfl (by decide) ?_
        refine Z.goto C 7 dX7_leastBy_65 (by decide) ?_
        refine ih (c + 1, v, .int (iI k)) ⟨by dsimp only; omega, hv0, hv1, fun c' a1 a2 => ?_, ?_⟩ (by dsimp only; omega)
        · dsimp only at a1 ⊢
          by_cases e : c' = c
          · subst e
            rcases hk with ⟨q, -⟩ | ⟨-, q⟩
            · omega
            · exact absurd a2 q
          · exact hv2 c' (by omega) a2
        · rcases hv3 with q | ⟨c', q1, q2, q3⟩
          · exact Or.inl q
          · exact Or.inr ⟨c', by dsimp only; omega, q2, q3⟩
      · skip
        refine Z.iload C dX7_leastBy_53 rfl ?_
        refine Z.goto C 60 dX7_leastBy_55 (by decide) ?_
        refine Z.istore C dX7_leastBy_60 (by decide) ?_
        refine Z.iinc C dX7_leastBy_62 rfl (by decide) ?_
        refine Z.goto C 7 dX7_leastBy_65 (by decide) ?_
        refine ih (c + 1, k, .int (iI k)) ⟨by dsimp only; omega, hkr.1, hkr.2, fun c' a1 a2 => ?_, ?_⟩ (by dsimp only; omega)
        · dsimp only at a1 ⊢
          by_cases e : c' = c
          · subst e
            rcases hk with ⟨q, -⟩ | ⟨-, q⟩
            · omega
            · exact absurd a2 q
          · have := hv2 c' (by omega) a2
            omega
        · rcases hk with ⟨q, q1⟩ | ⟨q, -⟩
          · exact Or.inr ⟨c, by dsimp only; omega, q1, q⟩
          · exact Or.inl q
    · skip
      refine Z.aload_n C dX7_leastBy_13 rfl ?_
      refine Z.iload_n C dX7_leastBy_14 rfl ?_
      refine Z.iload_n C dX7_leastBy_15 rfl ?_
      refine Z.iconst C dX7_leastBy_16 ?_
      refine Z.iadd C dX7_leastBy_17 ?_
      refine Z.iload C dX7_leastBy_18 rfl ?_
      refine Z.iload C dX7_leastBy_20 rfl ?_
      refine Z.cVI C 0 4 ( m_may l D cI cJ cL ad hf at_ wg lf cf dy ti bh ln thr nw lg nt sl dd il M hM hR w (s + 1) c x hw0 hw1 (by omega) (by omega) (by omega) (by omega) x0 x1) rfl rfl gX7_leastBy_X7_may rfl rfl rfl (by decide +kernel) ⟨Nat.le_of_ble_eq_true rfl, Nat.le_of_ble_eq_true rfl⟩ rfl rfl (Nat.le_of_ble_eq_true rfl) ⟨Nat.le_of_ble_eq_true rfl, Nat.le_of_ble_eq_true rfl⟩ dX7_leastBy_22 (fun r1 w1 hw1 => ?_)
      obtain ⟨hr1, rfl⟩ := hw1
      have hri : inr r1 := by rcases hr1 with ⟨q, -⟩ | ⟨q, -⟩ <;> exact ⟨by omega, by omega⟩
      refine Z.ifeq C 42 dX7_leastBy_25 (by decide) (hri) (fun h3 => ?_) (fun h3 => ?_)
      · rcases hr1 with ⟨q, -⟩ | ⟨-, q⟩
        · omega
        · refine Z.ldc C (v := iI 100000000) 100000000 (by decide +kernel) rfl dX7_leastBy_42 ?_
          exact join 100000000 (Or.inr ⟨rfl, q⟩)
      · rcases hr1 with ⟨-, q⟩ | ⟨q, -⟩
        · skip
          refine Z.aload_n C dX7_leastBy_28 rfl ?_
          refine Z.iload_n C dX7_leastBy_29 rfl ?_
          refine Z.iload_n C dX7_leastBy_30 rfl ?_
          refine Z.iload_n C dX7_leastBy_31 rfl ?_
          refine Z.iload C dX7_leastBy_32 rfl ?_
          refine Z.iload C dX7_leastBy_34 rfl ?_
          refine Z.cVId C 0 5 (m_bendBy l D cI cJ cL ad hf at_ wg lf cf dy ti bh ln thr nw lg nt sl dd il M hR w s a b c hw0 hw1 hs0 hs1 hb0 hb1 (by omega) (by omega)) rfl rfl gX7_leastBy_X7_bendBy rfl rfl rfl (by decide +kernel) ⟨Nat.le_of_ble_eq_true rfl, Nat.le_of_ble_eq_true rfl⟩ rfl rfl (Nat.le_of_ble_eq_true rfl) ⟨Nat.le_of_ble_eq_true rfl, Nat.le_of_ble_eq_true rfl⟩ dX7_leastBy_36 ?_
          refine Z.goto C 44 dX7_leastBy_39 (by decide) ?_
          exact join _ (Or.inl ⟨rfl, q⟩)
        · omega
theorem lbP_mn {f bh : Int → Int} (hf : ∀ j : Int, 0 ≤ f j ∧ f j ≤ 200) {x : Int} (x0 : 0 ≤ x) (x1 : x ≤ 2) {g g' : Int → Int} {s v : Int} (h : lbP g (mayP f x s) 5 v) (hg : ∀ t : Nat, t < chZ f x s → g (dZ f x s + t) = g' t ∧ g' t < FAR) : v = mnF g' (chZ f x s).toNat := by
  have hd := dZ_bd hf x0 x1 s
  have key : ∀ n : Nat, 0 < n → n ≤ (chZ f x s).toNat → (∀ t : Nat, t < n → mnF g' n ≤ g' t) ∧ ∃ t : Nat, t < n ∧ mnF g' n = g' t := by
    intro n
    induction n with
    | zero => intro q; exact absurd q (Nat.lt_irrefl _)
    | succ n ih =>
      intro _ hn
      have hgn := (hg n (by omega)).2
      by_cases q : g' n < mnF g' n
      · rw [mnF_lt q]
        refine ⟨fun t ht => ?_, n, Nat.lt_succ_self n, rfl⟩
        by_cases e : t = n
        · rw [e]; exact Int.le_refl _
        · have := (ih (by omega) (by omega)).1 t (by omega)
          omega
      · rw [mnF_ge q]
        by_cases e : n = 0
        · subst e
          rw [mnF_zero] at q
          omega
        · obtain ⟨h1, t, h2, h3⟩ := ih (by omega) (by omega)
          refine ⟨fun t' ht' => ?_, t, by omega, h3⟩
          by_cases e2 : t' = n
          · rw [e2]; omega
          · exact h1 t' (by omega)
  obtain ⟨k1, t, k2, k3⟩ := key (chZ f x s).toNat (by omega) (Nat.le_refl _)
  obtain ⟨-, h2, h3⟩ := h
  have ht := hg t (by omega)
  have g1 := h2 (dZ f x s + t).toNat (by omega) (by unfold mayP; omega)
  rw [show (((dZ f x s + t).toNat : Nat) : Int) = dZ f x s + t by omega, ht.1] at g1
  rcases h3 with q | ⟨c, q1, q2, q3⟩
  · omega
  · unfold mayP at q2
    have hc := hg (c - dZ f x s).toNat (by omega)
    rw [show dZ f x s + (((c - dZ f x s).toNat : Nat) : Int) = c by omega] at hc
    have g2 := k1 (c - dZ f x s).toNat (by omega)
    omega
/-- what stands behind: at the stations from a on, bounds for all numbers, and the least bends for those that may be -/
def bhP (f bh : Int → Int) (x : Int) (a : Nat) : Prop := ∀ s : Nat, a ≤ s → s ≤ 8 → (∀ k : Int, 0 ≤ k → k < 25 → 0 ≤ bh (25 * s + k) ∧ bh (25 * s + k) ≤ 169744 * (8 - s)) ∧ ∀ h n : Nat, h < chZ f x ((s : Int) - 1) → n < chZ f x s → bh (25 * s + (5 * (dZ f x ((s : Int) - 1) + h) + (dZ f x s + n))) = RZ (loZ f x) (chZ f x) (8 - s) h n
theorem bb_g {f bh : Int → Int} {x : Int} {s : Nat} (hs : s ≤ 6) (h n : Nat) (t : Nat) (hb : bh (25 * ((s + 2 : Nat) : Int) + (5 * (dZ f x ((s : Int) + 1) + n) + (dZ f x ((s : Int) + 2) + t))) = RZ (loZ f x) (chZ f x) (6 - s) n t) : bbZ f bh ((s : Int) + 1) (dZ f x s + h) (dZ f x ((s : Int) + 1) + n) (dZ f x ((s : Int) + 2) + t) = gZ (loZ f x) (chZ f x) s h n t := by
  unfold bbZ gZ sqZ
  rw [show 25 * ((s : Int) + 1 + 1) + 5 * (dZ f x ((s : Int) + 1) + n) + (dZ f x ((s : Int) + 2) + t) = 25 * ((s + 2 : Nat) : Int) + (5 * (dZ f x ((s : Int) + 1) + n) + (dZ f x ((s : Int) + 2) + t)) by omega, hb]
  have e : f ((s : Int) + 1 - 1) + (dZ f x s + h) - 2 + f ((s : Int) + 1 + 1) + (dZ f x ((s : Int) + 2) + t) - 2 - 2 * (f ((s : Int) + 1) + (dZ f x ((s : Int) + 1) + n) - 2) = loZ f x s + h + (loZ f x ((s : Int) + 2) + t) - 2 * (loZ f x ((s : Int) + 1) + n) := by
    rw [show (s : Int) + 1 - 1 = s by omega, show (s : Int) + 1 + 1 = s + 2 by omega]
    unfold dZ
    omega
  rw [e]
theorem zset_at (f : Int → Int) {k j v : Int} (h : j = k) : zset f k v j = v := by rw [h, zset_eq]
set_option maxRecDepth 20000 in
theorem iw_X7_findsBehind_7 : ∀ w ∈ u_ws RX7 TX7 16, w ∈ wsX7_findsBehind := by decide +kernel
abbrev rmX7_findsBehind : Room := { frames := 3, cells := 0, slots := 0, locals := 76 }
set_option maxHeartbeats 4000000 in
set_option maxRecDepth 100000 in
theorem m_findsBehind (l : Launch) (D : va_G) (cI cJ cL : ClassId) (ad : Nat → Nat) (hf at_ wg lf cf dy ti bh ln : Int → Int) (thr nw lg nt sl dd il : Int) (M : Int → Int → Int) (hM : hOK M) (hR : RH M hf) (w x : Int) (hw0 : 0 ≤ w) (hw1 : w ≤ 5) (x0 : 0 ≤ x) (x1 : x ≤ 2) : CV l yX7_findsBehind wsX7_findsBehind rmX7_findsBehind [.ref (ad 0), .int (iI w), .int (iI x)] D cI cJ cL (wM ad cI hf at_ wg lf cf dy ti bh ln thr nw lg nt sl dd il) (fun w' => ∃ bh' : Int → Int, bhP (M w) bh' x 1 ∧ w' = (wM ad cI hf at_ wg lf cf dy ti bh' ln thr nw lg nt sl dd il)) := by
  have hF : FAR = 100000000 := rfl
  have hLC := LC_Z (f := M w) (hM w) x0 x1
  refine CV.of (cc := cX7_findsBehind) (maxL := 5) (ret := none) (own := RX7) _ 2 (by decide +kernel) rfl rfl rfl (Nat.le_of_ble_eq_true rfl) rfl (fun sz9 p9 e9 s9 m9 a9 b9 h9 c9 C hr => ?_)
  refine Z.iconst C dX7_findsBehind_0 ?_
  refine Z.istore_n C dX7_findsBehind_1 (by decide) ?_
  refine Z.loop (α := Nat × (Int → Int)) (fun y => (wM ad cI hf at_ wg lf cf dy ti y.2 ln thr nw lg nt sl dd il)) (fun y => [.ref (ad 0), .int (iI w), .int (iI x), .int (iI y.1), .null]) (fun y => y.1 ≤ 25 ∧ ∀ k : Int, 0 ≤ k → k < y.1 → y.2 (200 + k) = 0) (fun y => 25 - y.1) (0, bh) ⟨by dsimp only; omega, fun k a b => absurd b (by dsimp only; omega)⟩ rfl rfl (fun y hy ih => ?_)
  obtain ⟨k, bh1⟩ := y
  dsimp only at hy ih ⊢
  obtain ⟨hk, hz⟩ := hy
  refine Z.iload_n C dX7_findsBehind_2 rfl ?_
  refine Z.bipush C dX7_findsBehind_3 (by decide) ?_
  refine Z.icmpge C 27 dX7_findsBehind_5 (by decide) (⟨by omega, by omega⟩) (⟨by omega, by omega⟩) (fun h => ?_) (fun h => ?_)
  · refine Z.bipush C dX7_findsBehind_27 (by decide) ?_
    refine Z.istore_n C dX7_findsBehind_29 (by decide) ?_
    refine Z.loop (α := Nat × (Int → Int) × Value) (fun y => (wM ad cI hf at_ wg lf cf dy ti y.2.1 ln thr nw lg nt sl dd il)) (fun y => [.ref (ad 0), .int (iI w), .int (iI x), .int (iI y.1), y.2.2]) (fun y => y.1 ≤ 7 ∧ bhP (M w) y.2.1 x (y.1 + 1)) (fun y => y.1) (7, bh1, .null) ⟨by dsimp only; omega, fun s a b => ?_⟩ rfl rfl (fun y hy ih2 => ?_)
    · dsimp only at a ⊢
      have e8 : s = 8 := by omega
      subst e8
      refine ⟨fun j a1 a2 => ?_, fun h n a1 a2 => ?_⟩
      · have := hz j a1 (by omega)
        rw [show 25 * ((8 : Nat) : Int) + j = 200 + j by omega, this]
        omega
      · have d7 := dZ_bd (hM w) x0 x1 (((8 : Nat) : Int) - 1)
        have d8 := dZ_bd (hM w) x0 x1 ((8 : Nat) : Int)
        have := hz (5 * (dZ (M w) x (((8 : Nat) : Int) - 1) + h) + (dZ (M w) x ((8 : Nat) : Int) + n)) (by omega) (by omega)
        rw [show 25 * ((8 : Nat) : Int) + (5 * (dZ (M w) x (((8 : Nat) : Int) - 1) + h) + (dZ (M w) x ((8 : Nat) : Int) + n)) = 200 + (5 * (dZ (M w) x (((8 : Nat) : Int) - 1) + h) + (dZ (M w) x ((8 : Nat) : Int) + n)) by omega, this]
        rfl
    obtain ⟨s, bh2, v4⟩ := y
    dsimp only at hy ih2 ⊢
    obtain ⟨hs, hbp⟩ := hy
    refine Z.iload_n C dX7_findsBehind_30 rfl ?_
    refine Z.ifle C 83 dX7_findsBehind_31 (by decide) (⟨by omega, by omega⟩) (fun h2 => ?_) (fun h2 => ?_)
    · have e0 : s = 0 := by omega
      subst e0
      exact Z.vret C hr dX7_findsBehind_83 ⟨bh2, hbp, rfl⟩
    · obtain ⟨q, rfl⟩ : ∃ q : Nat, s = q + 1 := ⟨s - 1, by omega⟩
      have hup := hbp (q + 2) (by omega) (by omega)
      have hBq : ∀ j : Int, 0 ≤ j → j < 25 → 0 ≤ bh2 (25 * (((q + 1 : Nat) : Int) + 1) + j) ∧ bh2 (25 * (((q + 1 : Nat) : Int) + 1) + j) ≤ 2000000 := fun j a b => by
        have := hup.1 j a b
        rw [show ((q + 2 : Nat) : Int) = ((q + 1 : Nat) : Int) + 1 by omega] at this
        omega
      refine Z.iconst C dX7_findsBehind_34 ?_
      refine Z.istore C dX7_findsBehind_35 (by decide) ?_
      refine Z.loop (α := Nat × (Int → Int)) (fun y => (wM ad cI hf at_ wg lf cf dy ti y.2 ln thr nw lg nt sl dd il)) (fun y => [.ref (ad 0), .int (iI w), .int (iI x), .int (iI ((q + 1 : Nat) : Int)), .int (iI y.1)]) (fun y => y.1 ≤ 25 ∧ (∀ j : Int, 25 * (((q + 1 : Nat) : Int) + 1) ≤ j → y.2 j = bh2 j) ∧ (∀ j : Int, 0 ≤ j → j < y.1 → (0 ≤ y.2 (25 * ((q + 1 : Nat) : Int) + j) ∧ y.2 (25 * ((q + 1 : Nat) : Int) + j) ≤ 169744 * (8 - ((q + 1 : Nat) : Int))) ∧ lbP (bbZ (M w) bh2 ((q + 1 : Nat) : Int) (j / 5) (j % 5)) (mayP (M w) x (((q + 1 : Nat) : Int) + 1)) 5 (y.2 (25 * ((q + 1 : Nat) : Int) + j)))) (fun y => 25 - y.1) (0, bh2) ⟨by dsimp only; omega, fun j _ => rfl, fun j a b => absurd b (by dsimp only; omega)⟩ rfl rfl (fun y hy ih3 => ?_)
      obtain ⟨k3, bh3⟩ := y
      dsimp only at hy ih3 ⊢
      obtain ⟨hk3, hup3, hlo3⟩ := hy
      refine Z.iload C dX7_findsBehind_37 rfl ?_
      refine Z.bipush C dX7_findsBehind_39 (by decide) ?_
      refine Z.icmpge C 77 dX7_findsBehind_41 (by decide) (⟨by omega, by omega⟩) (⟨by omega, by omega⟩) (fun h3 => ?_) (fun h3 => ?_)
      · refine Z.iinc C dX7_findsBehind_77 rfl (by decide) ?_
        refine Z.goto C 30 dX7_findsBehind_80 (by decide) ?_
        rw [show ((q + 1 : Nat) : Int) + -1 = (q : Int) by omega]
        refine ih2 (q, bh3, .int (iI k3)) ⟨by dsimp only; omega, fun s' a b => ?_⟩ (by dsimp only; omega)
        dsimp only at a ⊢
        by_cases e : s' = q + 1
        · subst e
          refine ⟨fun j a1 a2 => (hlo3 j a1 (by omega)).1, fun h n a1 a2 => ?_⟩
          rw [show ((q + 1 : Nat) : Int) - 1 = q by omega] at a1 ⊢
          have d0 := dZ_bd (hM w) x0 x1 (q : Int)
          have d1 := dZ_bd (hM w) x0 x1 ((q + 1 : Nat) : Int)
          have d2 := dZ_bd (hM w) x0 x1 ((q : Int) + 2)
          have hj := (hlo3 (5 * (dZ (M w) x q + h) + (dZ (M w) x ((q + 1 : Nat) : Int) + n)) (by omega) (by omega)).2
          rw [show (5 * (dZ (M w) x q + h) + (dZ (M w) x ((q + 1 : Nat) : Int) + n)) / 5 = dZ (M w) x q + h by omega, show (5 * (dZ (M w) x q + h) + (dZ (M w) x ((q + 1 : Nat) : Int) + n)) % 5 = dZ (M w) x ((q + 1 : Nat) : Int) + n by omega, show ((q + 1 : Nat) : Int) + 1 = (q : Int) + 2 by omega] at hj
          rw [show 8 - (q + 1) = 7 - q by omega, RZ_s (loZ (M w) x) (chZ (M w) x) (s := q) (by omega)]
          refine lbP_mn (bh := bh2) (hM w) x0 x1 hj (fun t ht => ?_)
          have hgb := gZ_bd hLC (s := q) (by omega) (h := h) (n := n) (t := t) (by omega) a1 (by omega) (by rw [show (q : Int) + 1 = ((q + 1 : Nat) : Int) by omega]; exact a2) (by omega) ht
          refine ⟨?_, by omega⟩
          have hbb := hup.2 n t (by rw [show ((q + 2 : Nat) : Int) - 1 = ((q + 1 : Nat) : Int) by omega]; exact a2) (by rw [show ((q + 2 : Nat) : Int) = (q : Int) + 2 by omega]; exact ht)
          rw [show 8 - (q + 2) = 6 - q by omega] at hbb
          have := bb_g (f := M w) (bh := bh2) (x := x) (s := q) (by omega) h n t (by rw [show ((q + 2 : Nat) : Int) - 1 = (q : Int) + 1 by omega] at hbb; rw [show dZ (M w) x ((q : Int) + 2) = dZ (M w) x ((q + 2 : Nat) : Int) by rw [show ((q + 2 : Nat) : Int) = (q : Int) + 2 by omega]]; exact hbb)
          rw [show ((q + 1 : Nat) : Int) = (q : Int) + 1 by omega]
          exact this
        · have := hbp s' (by omega) b
          refine ⟨fun j a1 a2 => ?_, fun h n a1 a2 => ?_⟩
          · rw [hup3 _ (by omega)]; exact this.1 j a1 a2
          · have d0 := dZ_bd (hM w) x0 x1 ((s' : Int) - 1)
            have d1 := dZ_bd (hM w) x0 x1 (s' : Int)
            rw [hup3 _ (by omega)]; exact this.2 h n a1 a2
      · refine Z.aload_n C dX7_findsBehind_44 rfl ?_
        refine Z.getf C 0 14 iw_X7_findsBehind_7 rfl rfl (by decide) (by decide +kernel) rfl dX7_findsBehind_45 ?_
        refine Z.iload_n C dX7_findsBehind_48 rfl ?_
        refine Z.iconst C dX7_findsBehind_49 ?_
        refine Z.iload C dX7_findsBehind_50 rfl ?_
        refine Z.cSIp C 3 (m_place l D cI cJ cL ((q + 1 : Nat) : Int) 0 k3) gX7_findsBehind_X7_place rfl rfl rfl (by decide +kernel) ⟨Nat.le_of_ble_eq_true rfl, Nat.le_of_ble_eq_true rfl⟩ rfl rfl (Nat.le_of_ble_eq_true rfl) ⟨Nat.le_of_ble_eq_true rfl, Nat.le_of_ble_eq_true rfl⟩ dX7_findsBehind_52 ?_
        refine Z.aload_n C dX7_findsBehind_55 rfl ?_
        refine Z.iload_n C dX7_findsBehind_56 rfl ?_
        refine Z.iload_n C dX7_findsBehind_57 rfl ?_
        refine Z.iload C dX7_findsBehind_58 rfl ?_
        refine Z.iconst C dX7_findsBehind_60 ?_
        refine Z.idiv C dX7_findsBehind_61 (by omega) (by omega) (by omega) (by omega) ?_
        refine Z.iload C dX7_findsBehind_62 rfl ?_
        refine Z.iconst C dX7_findsBehind_64 ?_
        refine Z.irem C dX7_findsBehind_65 (by omega) (by omega) (by omega) (by omega) ?_
        refine Z.iload_n C dX7_findsBehind_66 rfl ?_
        refine Z.cVI C 0 5 ( m_leastBy l D cI cJ cL ad hf at_ wg lf cf dy ti bh3 ln thr nw lg nt sl dd il M hM hR w ((q + 1 : Nat) : Int) ((k3 : Int) / 5) ((k3 : Int) % 5) x hw0 hw1 (by omega) (by omega) (by omega) (by omega) (by omega) (by omega) x0 x1 (fun j a b => by rw [hup3 _ (by omega)]; exact hBq j a b)) rfl rfl gX7_findsBehind_X7_leastBy rfl rfl rfl (by decide +kernel) ⟨Nat.le_of_ble_eq_true rfl, Nat.le_of_ble_eq_true rfl⟩ rfl rfl (Nat.le_of_ble_eq_true rfl) ⟨Nat.le_of_ble_eq_true rfl, Nat.le_of_ble_eq_true rfl⟩ dX7_findsBehind_67 (fun r1 w1 hw1 => ?_)
        obtain ⟨hlb, rfl⟩ := hw1
        have hcg : ∀ c : Nat, c < 5 → bbZ (M w) bh3 ((q + 1 : Nat) : Int) ((k3 : Int) / 5) ((k3 : Int) % 5) c = bbZ (M w) bh2 ((q + 1 : Nat) : Int) ((k3 : Int) / 5) ((k3 : Int) % 5) c := fun c hc => by
          unfold bbZ
          rw [hup3 _ (by omega)]
        have hlb2 : lbP (bbZ (M w) bh2 ((q + 1 : Nat) : Int) ((k3 : Int) / 5) ((k3 : Int) % 5)) (mayP (M w) x (((q + 1 : Nat) : Int) + 1)) 5 r1 := ⟨hlb.1, fun c a b => by rw [← hcg c a]; exact hlb.2.1 c a b, by
          rcases hlb.2.2 with z | ⟨c, z1, z2, z3⟩
          · exact Or.inl z
          · exact Or.inr ⟨c, z1, z2, by rw [← hcg c z1]; exact z3⟩⟩
        have hub := hlb2.2.1 2 (by omega) (mayP_2 (hM w) x0 x1 _)
        have hb2 := bbZ_bd (f := M w) (bh := bh2) (hM w) (s := ((q + 1 : Nat) : Int)) (a := (k3 : Int) / 5) (b := (k3 : Int) % 5) (c := ((2 : Nat) : Int)) (B := 169744 * (8 - ((q + 2 : Nat) : Int))) (by omega) (by omega) (by omega) (by omega) (by omega) (by omega) (by have := hup.1 (5 * ((k3 : Int) % 5) + 2) (by omega) (by omega); rw [show 25 * ((q + 2 : Nat) : Int) + (5 * ((k3 : Int) % 5) + 2) = 25 * (((q + 1 : Nat) : Int) + 1) + 5 * ((k3 : Int) % 5) + ((2 : Nat) : Int) by omega] at this; exact this)
        have hr0 : 0 ≤ r1 := by
          rcases hlb2.2.2 with z | ⟨c, z1, z2, z3⟩
          · omega
          · have := bbZ_bd (f := M w) (bh := bh2) (hM w) (s := ((q + 1 : Nat) : Int)) (a := (k3 : Int) / 5) (b := (k3 : Int) % 5) (c := (c : Int)) (B := 2000000) (by omega) (by omega) (by omega) (by omega) (by omega) (by omega) (by have := hBq (5 * ((k3 : Int) % 5) + c) (by omega) (by omega); rw [show 25 * (((q + 1 : Nat) : Int) + 1) + 5 * ((k3 : Int) % 5) + (c : Int) = 25 * (((q + 1 : Nat) : Int) + 1) + (5 * ((k3 : Int) % 5) + c) by omega]; exact this)
            omega
        refine Z.iast C 8 rfl (by omega) (by omega) (by decide) dX7_findsBehind_70 wM_a8 ?_
        refine Z.iinc C dX7_findsBehind_71 rfl (by decide) ?_
        refine Z.goto C 37 dX7_findsBehind_74 (by decide) ?_
        refine ih3 (k3 + 1, zset bh3 (25 * ((q + 1 : Nat) : Int) + 5 * 0 + k3) r1) ⟨by dsimp only; omega, fun j a => ?_, fun j a b => ?_⟩ (by dsimp only; omega)
        · dsimp only
          rw [zset_ne _ (by omega)]
          exact hup3 j a
        · dsimp only at b ⊢
          by_cases e : j = k3
          · rw [zset_at _ (by omega), e]
            exact ⟨⟨hr0, by omega⟩, hlb2⟩
          · rw [zset_ne _ (by omega)]
            exact hlo3 j a (by omega)
  · refine Z.aload_n C dX7_findsBehind_8 rfl ?_
    refine Z.getf C 0 14 iw_X7_findsBehind_7 rfl rfl (by decide) (by decide +kernel) rfl dX7_findsBehind_9 ?_
    refine Z.bipush C dX7_findsBehind_12 (by decide) ?_
    refine Z.iconst C dX7_findsBehind_14 ?_
    refine Z.iload_n C dX7_findsBehind_15 rfl ?_
    refine Z.cSIp C 3 (m_place l D cI cJ cL 8 0 k) gX7_findsBehind_X7_place rfl rfl rfl (by decide +kernel) ⟨Nat.le_of_ble_eq_true rfl, Nat.le_of_ble_eq_true rfl⟩ rfl rfl (Nat.le_of_ble_eq_true rfl) ⟨Nat.le_of_ble_eq_true rfl, Nat.le_of_ble_eq_true rfl⟩ dX7_findsBehind_16 ?_
    refine Z.iconst C dX7_findsBehind_19 ?_
    refine Z.iast C 8 rfl (by omega) (by omega) (by decide) dX7_findsBehind_20 wM_a8 ?_
    refine Z.iinc C dX7_findsBehind_21 rfl (by decide) ?_
    refine Z.goto C 2 dX7_findsBehind_24 (by decide) ?_
    refine ih (k + 1, zset bh1 (25 * 8 + 5 * 0 + k) 0) ⟨by dsimp only; omega, fun j a b => ?_⟩ (by dsimp only; omega)
    dsimp only at b ⊢
    by_cases e : j = k
    · rw [zset_at _ (by omega)]
    · rw [zset_ne _ (by omega)]
      exact hz j a (by omega)
