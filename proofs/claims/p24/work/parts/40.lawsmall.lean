/-! ===== the law's own small methods ===== -/
abbrev rmL_low : Room := { frames := 0, cells := 0, slots := 0, locals := 0 }
set_option maxHeartbeats 4000000 in
set_option maxRecDepth 100000 in
theorem q_low (l : Launch) (D : va_G) (cI cJ cL : ClassId) (v n : Int) (hn : 0 < n) (hn2 : n ≤ 2147483647) : CI l yL_low wsL_low rmL_low [.int (iI v), .int (iI n)] D cI cJ cL [] (fun r w' => r = lowZ v n ∧ w' = []) := by
  have hv := hvZ_bd v
  refine CI.of (cc := cL_low) (maxL := 2) (ret := (some .int)) (own := RL) _ 0 (by decide +kernel) rfl rfl rfl (Nat.le_of_ble_eq_true rfl) rfl (fun sz9 p9 e9 s9 m9 a9 b9 h9 c9 C hr => ?_)
  refine Z.iload_n C dL_low_0 rfl ?_
  refine Z.iconst C dL_low_1 ?_
  refine Z.ushr1 C dL_low_2 ?_
  refine Z.iload_n C dL_low_3 rfl ?_
  refine Z.irem C dL_low_4 (by omega) (by omega) (by omega) (by omega) ?_
  exact Z.iret C hr dL_low_5 (⟨rfl, rfl⟩)
abbrev rmL_size : Room := { frames := 0, cells := 0, slots := 0, locals := 0 }
set_option maxHeartbeats 4000000 in
set_option maxRecDepth 100000 in
theorem q_size (l : Launch) (D : va_G) (cI cJ cL : ClassId) (a : Int) (ha : inr a) : CI l yL_size wsL_size rmL_size [.int (iI a)] D cI cJ cL [] (fun r w' => r = absZ a ∧ w' = []) := by
  refine CI.of (cc := cL_size) (maxL := 1) (ret := (some .int)) (own := RL) _ 0 (by decide +kernel) rfl rfl rfl (Nat.le_of_ble_eq_true rfl) rfl (fun sz9 p9 e9 s9 m9 a9 b9 h9 c9 C hr => ?_)
  refine Z.iload_n C dL_size_0 rfl ?_
  refine Z.ifge C 9 dL_size_1 (by decide) (ha) (fun h => ?_) (fun h => ?_)
  · refine Z.iload_n C dL_size_9 rfl ?_
    exact Z.iret C hr dL_size_10 (⟨by unfold absZ; rw [if_pos h], rfl⟩)
  · skip
    refine Z.iload_n C dL_size_4 rfl ?_
    refine Z.ineg C dL_size_5 ?_
    refine Z.goto C 10 dL_size_6 (by decide) ?_
    exact Z.iret C hr dL_size_10 (⟨by unfold absZ; rw [if_neg (by omega)], rfl⟩)
abbrev rmL_bendOf : Room := { frames := 0, cells := 0, slots := 0, locals := 0 }
set_option maxHeartbeats 4000000 in
set_option maxRecDepth 100000 in
theorem q_bendOf (l : Launch) (D : va_G) (cI cJ cL : ClassId) (aq : Nat → Nat) (hf at_ wg dy ti gg : Int → Int) (M : Int → Int → Int) (hR : RH M hf) (w : Int) (w0 : 0 ≤ w) (w1 : w ≤ 5) : CI l yL_bendOf wsL_bendOf rmL_bendOf [.int (iI w), .ref (aq 0)] D cI cJ cL (wA aq cI hf at_ wg dy ti gg) (fun r w' => r = bendZ (M w) 7 ∧ w' = (wA aq cI hf at_ wg dy ti gg)) := by
  refine CI.of (cc := cL_bendOf) (maxL := 5) (ret := (some .int)) (own := RL) _ 3 (by decide +kernel) rfl rfl rfl (Nat.le_of_ble_eq_true rfl) rfl (fun sz9 p9 e9 s9 m9 a9 b9 h9 c9 C hr => ?_)
  refine Z.iconst C dL_bendOf_0 ?_
  refine Z.istore_n C dL_bendOf_1 (by decide) ?_
  refine Z.bipush C dL_bendOf_2 (by decide) ?_
  refine Z.iload_n C dL_bendOf_4 rfl ?_
  refine Z.imul C dL_bendOf_5 ?_
  refine Z.iconst C dL_bendOf_6 ?_
  refine Z.iadd C dL_bendOf_7 ?_
  refine Z.istore_n C dL_bendOf_8 (by decide) ?_
  rw [show (9 * w + 1 : Int) = 9 * w + 1 + ((0 : Nat) : Int) by omega]
  refine Z.loop (α := Nat × Value) (fun y => (wA aq cI hf at_ wg dy ti gg)) (fun y => [.int (iI w), .ref (aq 0), .int (iI (bendZ (M w) y.1)), .int (iI (9 * w + 1 + (y.1 : Int))), y.2]) (fun y => y.1 ≤ 7) (fun y => 7 - y.1) (0, .null) (by decide) rfl rfl (fun y hk ih => ?_)
  obtain ⟨i, v4⟩ := y
  dsimp only at hk ih ⊢
  refine Z.iload_n C dL_bendOf_9 rfl ?_
  refine Z.bipush C dL_bendOf_10 (by decide) ?_
  refine Z.iload_n C dL_bendOf_12 rfl ?_
  refine Z.imul C dL_bendOf_13 ?_
  refine Z.bipush C dL_bendOf_14 (by decide) ?_
  refine Z.iadd C dL_bendOf_16 ?_
  refine Z.icmpge C 55 dL_bendOf_17 (by decide) (⟨by omega, by omega⟩) (⟨by omega, by omega⟩) (fun h => ?_) (fun h => ?_)
  · have e7 : i = 7 := by omega
    subst e7
    refine Z.iload_n C dL_bendOf_55 rfl ?_
    exact Z.iret C hr dL_bendOf_56 (⟨rfl, rfl⟩)
  · have e1 : hf (9 * w + 1 + (i : Int) + 1) = M w ((i : Int) + 1 + 1) := RH_at hR (by omega) w0 w1 (by omega) (by omega)
    have e2 : hf (9 * w + 1 + (i : Int)) = M w ((i : Int) + 1) := RH_at hR (by omega) w0 w1 (by omega) (by omega)
    have e3 : hf (9 * w + 1 + (i : Int) - 1) = M w (i : Int) := RH_at hR (by omega) w0 w1 (by omega) (by omega)
    refine Z.aload_n C dL_bendOf_20 rfl ?_
    refine Z.iload_n C dL_bendOf_21 rfl ?_
    refine Z.iconst C dL_bendOf_22 ?_
    refine Z.iadd C dL_bendOf_23 ?_
    refine Z.iald C 0 rfl (by omega) (by omega) (by decide) dL_bendOf_24 ?_
    refine Z.aload_n C dL_bendOf_25 rfl ?_
    refine Z.iload_n C dL_bendOf_26 rfl ?_
    refine Z.iald C 0 rfl (by omega) (by omega) (by decide) dL_bendOf_27 ?_
    refine Z.isub C dL_bendOf_28 ?_
    refine Z.aload_n C dL_bendOf_29 rfl ?_
    refine Z.iload_n C dL_bendOf_30 rfl ?_
    refine Z.iald C 0 rfl (by omega) (by omega) (by decide) dL_bendOf_31 ?_
    refine Z.aload_n C dL_bendOf_32 rfl ?_
    refine Z.iload_n C dL_bendOf_33 rfl ?_
    refine Z.iconst C dL_bendOf_34 ?_
    refine Z.isub C dL_bendOf_35 ?_
    refine Z.iald C 0 rfl (by omega) (by omega) (by decide) dL_bendOf_36 ?_
    refine Z.isub C dL_bendOf_37 ?_
    refine Z.isub C dL_bendOf_38 ?_
    rw [e1, e2, e3]
    refine Z.istore C dL_bendOf_39 (by decide) ?_
    refine Z.iload_n C dL_bendOf_41 rfl ?_
    refine Z.iload C dL_bendOf_42 rfl ?_
    refine Z.iload C dL_bendOf_44 rfl ?_
    refine Z.imul C dL_bendOf_46 ?_
    refine Z.iadd C dL_bendOf_47 ?_
    refine Z.istore_n C dL_bendOf_48 (by decide) ?_
    refine Z.iinc C dL_bendOf_49 rfl (by decide) ?_
    refine Z.goto C 9 dL_bendOf_52 (by decide) ?_
    have hb : bendZ (M w) (i + 1) = bendZ (M w) i + (M w ((i : Int) + 1 + 1) - M w ((i : Int) + 1) - (M w ((i : Int) + 1) - M w (i : Int))) * (M w ((i : Int) + 1 + 1) - M w ((i : Int) + 1) - (M w ((i : Int) + 1) - M w (i : Int))) := by
      show bendZ (M w) i + sqZ (M w (i : Int)) (M w ((i : Int) + 1)) (M w ((i : Int) + 1 + 1)) = _
      unfold sqZ
      rw [show M w (i : Int) + M w ((i : Int) + 1 + 1) - 2 * M w ((i : Int) + 1) = M w ((i : Int) + 1 + 1) - M w ((i : Int) + 1) - (M w ((i : Int) + 1) - M w (i : Int)) by omega]
    rw [← hb, show 9 * w + 1 + (i : Int) + 1 = 9 * w + 1 + ((i + 1 : Nat) : Int) by omega]
    exact ih (i + 1, _) (by dsimp only; omega) (by dsimp only; omega)
abbrev rmL_may : Room := { frames := 0, cells := 0, slots := 0, locals := 0 }
set_option maxHeartbeats 4000000 in
set_option maxRecDepth 100000 in
theorem q_may (l : Launch) (D : va_G) (cI cJ cL : ClassId) (aq : Nat → Nat) (hf at_ wg dy ti gg : Int → Int) (M : Int → Int → Int) (hM : hOK M) (hR : RH M hf) (w s k x : Int) (w0 : 0 ≤ w) (w1 : w ≤ 5) (s0 : 0 ≤ s) (s1 : s ≤ 8) (k0 : 0 ≤ k) (k1 : k ≤ 4) (x0 : 0 ≤ x) (x1 : x ≤ 2) : CI l yL_may wsL_may rmL_may [.int (iI w), .int (iI s), .int (iI k), .int (iI x), .ref (aq 0)] D cI cJ cL (wA aq cI hf at_ wg dy ti gg) (fun r w' => ((r = 1 ∧ mayP (M w) x s k) ∨ (r = 0 ∧ ¬ mayP (M w) x s k)) ∧ w' = (wA aq cI hf at_ wg dy ti gg)) := by
  have hb := hM w s
  have hi := mayP_iff2 (hM w) x0 x1 s k
  have e1 : hf (9 * w + s) = M w s := RH_at hR rfl w0 w1 s0 s1
  refine CI.of (cc := cL_may) (maxL := 6) (ret := (some .boolean)) (own := RL) _ 1 (by decide +kernel) rfl rfl rfl (Nat.le_of_ble_eq_true rfl) rfl (fun sz9 p9 e9 s9 m9 a9 b9 h9 c9 C hr => ?_)
  refine Z.aload C dL_may_0 rfl ?_
  refine Z.bipush C dL_may_2 (by decide) ?_
  refine Z.iload_n C dL_may_4 rfl ?_
  refine Z.imul C dL_may_5 ?_
  refine Z.iload_n C dL_may_6 rfl ?_
  refine Z.iadd C dL_may_7 ?_
  refine Z.iald C 0 rfl (by omega) (by omega) (by decide) dL_may_8 ?_
  rw [e1]
  refine Z.iload_n C dL_may_9 rfl ?_
  refine Z.iadd C dL_may_10 ?_
  refine Z.iconst C dL_may_11 ?_
  refine Z.isub C dL_may_12 ?_
  refine Z.istore C dL_may_13 (by decide) ?_
  refine Z.iload_n C dL_may_15 rfl ?_
  refine Z.iconst C dL_may_16 ?_
  refine Z.iload_n C dL_may_17 rfl ?_
  refine Z.isub C dL_may_18 ?_
  refine Z.icmplt C 46 dL_may_19 (by decide) (⟨by omega, by omega⟩) (⟨by omega, by omega⟩) (fun h1 => ?_) (fun h1 => ?_)
  · refine Z.iconst C dL_may_46 ?_
    exact Z.zret C hr (by omega) dL_may_47 (⟨Or.inr ⟨rfl, fun q => by have := hi.mp q; omega⟩, rfl⟩)
  · skip
    refine Z.iload_n C dL_may_22 rfl ?_
    refine Z.iconst C dL_may_23 ?_
    refine Z.iload_n C dL_may_24 rfl ?_
    refine Z.iadd C dL_may_25 ?_
    refine Z.icmpgt C 46 dL_may_26 (by decide) (⟨by omega, by omega⟩) (⟨by omega, by omega⟩) (fun h2 => ?_) (fun h2 => ?_)
    · refine Z.iconst C dL_may_46 ?_
      exact Z.zret C hr (by omega) dL_may_47 (⟨Or.inr ⟨rfl, fun q => by have := hi.mp q; omega⟩, rfl⟩)
    · skip
      refine Z.iload C dL_may_29 rfl ?_
      refine Z.iflt C 46 dL_may_31 (by decide) (⟨by omega, by omega⟩) (fun h3 => ?_) (fun h3 => ?_)
      · refine Z.iconst C dL_may_46 ?_
        exact Z.zret C hr (by omega) dL_may_47 (⟨Or.inr ⟨rfl, fun q => by have := hi.mp q; omega⟩, rfl⟩)
      · skip
        refine Z.iload C dL_may_34 rfl ?_
        refine Z.sipush C dL_may_36 (by decide) ?_
        refine Z.icmpgt C 46 dL_may_39 (by decide) (⟨by omega, by omega⟩) (⟨by omega, by omega⟩) (fun h4 => ?_) (fun h4 => ?_)
        · refine Z.iconst C dL_may_46 ?_
          exact Z.zret C hr (by omega) dL_may_47 (⟨Or.inr ⟨rfl, fun q => by have := hi.mp q; omega⟩, rfl⟩)
        · skip
          refine Z.iconst C dL_may_42 ?_
          refine Z.goto C 47 dL_may_43 (by decide) ?_
          exact Z.zret C hr (by omega) dL_may_47 (⟨Or.inl ⟨rfl, hi.mpr ⟨by omega, by omega, by omega, by omega⟩⟩, rfl⟩)
abbrev rmL_volumeOf : Room := { frames := 0, cells := 0, slots := 0, locals := 0 }
set_option maxHeartbeats 4000000 in
set_option maxRecDepth 100000 in
theorem q_volumeOf (l : Launch) (D : va_G) (cI cJ cL : ClassId) (aq : Nat → Nat) (hf at_ wg dy ti gg : Int → Int) (M : Int → Int → Int) (hR : RH M hf) (w : Nat) (hw : w ≤ 5) (b : Int) (hb : b = 0 ∨ b = 1) : CI l yL_volumeOf wsL_volumeOf rmL_volumeOf [.int (iI w), .ref (aq 0), .int (iI b)] D cI cJ cL (wA aq cI hf at_ wg dy ti gg) (fun r w' => r = vaZ M b w ∧ w' = (wA aq cI hf at_ wg dy ti gg)) := by
  have hbi : inr b := by rcases hb with rfl | rfl <;> exact ⟨by decide, by decide⟩
  refine CI.of (cc := cL_volumeOf) (maxL := 6) (ret := (some .int)) (own := RL) _ 3 (by decide +kernel) rfl rfl rfl (Nat.le_of_ble_eq_true rfl) rfl (fun sz9 p9 e9 s9 m9 a9 b9 h9 c9 C hr => ?_)
  refine Z.iconst C dL_volumeOf_0 ?_
  refine Z.istore_n C dL_volumeOf_1 (by decide) ?_
  refine Z.iconst C dL_volumeOf_2 ?_
  refine Z.istore C dL_volumeOf_3 (by decide) ?_
  refine Z.loop (α := Nat × Value) (fun y => (wA aq cI hf at_ wg dy ti gg)) (fun y => [.int (iI w), .ref (aq 0), .int (iI b), .int (iI (vaZ M b y.1)), .int (iI y.1), y.2]) (fun y => y.1 ≤ w) (fun y => w - y.1) (0, .null) (Nat.zero_le _) rfl rfl (fun y hk ih => ?_)
  obtain ⟨k, v5⟩ := y
  dsimp only at hk ih ⊢
  refine Z.iload C dL_volumeOf_5 rfl ?_
  refine Z.iload_n C dL_volumeOf_7 rfl ?_
  refine Z.icmpge C 102 dL_volumeOf_8 (by decide) (⟨by omega, by omega⟩) (⟨by omega, by omega⟩) (fun h => ?_) (fun h => ?_)
  · have e7 : k = w := by omega
    subst e7
    refine Z.iload_n C dL_volumeOf_102 rfl ?_
    exact Z.iret C hr dL_volumeOf_103 (⟨rfl, rfl⟩)
  · skip
    refine Z.iconst C dL_volumeOf_11 ?_
    refine Z.istore C dL_volumeOf_12 (by decide) ?_
    have q0 : vaZ M b k = vaZ M b k + vrZ M b k 0 := by
      show _ = _ + (0 : Int)
      omega
    rw [q0]
    refine Z.loop (α := Nat) (fun y => (wA aq cI hf at_ wg dy ti gg)) (fun y => [.int (iI w), .ref (aq 0), .int (iI b), .int (iI (vaZ M b k + vrZ M b k y)), .int (iI k), .int (iI y)]) (fun y => y ≤ 8) (fun y => 8 - y) 0 (by decide) rfl rfl (fun s hs ih2 => ?_)
    refine Z.iload C dL_volumeOf_14 rfl ?_
    refine Z.bipush C dL_volumeOf_16 (by decide) ?_
    refine Z.icmpge C 96 dL_volumeOf_18 (by decide) (⟨by omega, by omega⟩) (⟨by omega, by omega⟩) (fun h2 => ?_) (fun h2 => ?_)
    · have e8 : s = 8 := by omega
      subst e8
      refine Z.iinc C dL_volumeOf_96 rfl (by decide) ?_
      refine Z.goto C 5 dL_volumeOf_99 (by decide) ?_
      exact ih (k + 1, _) (by dsimp only; omega) (by dsimp only; omega)
    · have e1 : hf (9 * (k : Int) + s) = M k s := RH_at hR rfl (by omega) (by omega) (by omega) (by omega)
      have e2 : hf (9 * (k : Int) + s + 1) = M k ((s : Int) + 1) := RH_at hR (by omega) (by omega) (by omega) (by omega) (by omega)
      have e3 : hf (9 * (k : Int) + 9 + s) = M ((k : Int) + 1) s := RH_at hR (by omega) (by omega) (by omega) (by omega) (by omega)
      have e4 : hf (9 * (k : Int) + 10 + s) = M ((k : Int) + 1) ((s : Int) + 1) := RH_at hR (by omega) (by omega) (by omega) (by omega) (by omega)
      refine Z.iload_n C dL_volumeOf_21 rfl ?_
      refine Z.aload_n C dL_volumeOf_22 rfl ?_
      refine Z.bipush C dL_volumeOf_23 (by decide) ?_
      refine Z.iload C dL_volumeOf_25 rfl ?_
      refine Z.imul C dL_volumeOf_27 ?_
      refine Z.iload C dL_volumeOf_28 rfl ?_
      refine Z.iadd C dL_volumeOf_30 ?_
      refine Z.iald C 0 rfl (by omega) (by omega) (by decide) dL_volumeOf_31 ?_
      rw [e1]
      refine Z.aload_n C dL_volumeOf_32 rfl ?_
      refine Z.bipush C dL_volumeOf_33 (by decide) ?_
      refine Z.iload C dL_volumeOf_35 rfl ?_
      refine Z.imul C dL_volumeOf_37 ?_
      refine Z.iload C dL_volumeOf_38 rfl ?_
      refine Z.iadd C dL_volumeOf_40 ?_
      refine Z.iconst C dL_volumeOf_41 ?_
      refine Z.iadd C dL_volumeOf_42 ?_
      refine Z.iald C 0 rfl (by omega) (by omega) (by decide) dL_volumeOf_43 ?_
      rw [e2]
      refine Z.iadd C dL_volumeOf_44 ?_
      refine Z.aload_n C dL_volumeOf_45 rfl ?_
      refine Z.bipush C dL_volumeOf_46 (by decide) ?_
      refine Z.iload C dL_volumeOf_48 rfl ?_
      refine Z.imul C dL_volumeOf_50 ?_
      refine Z.bipush C dL_volumeOf_51 (by decide) ?_
      refine Z.iadd C dL_volumeOf_53 ?_
      refine Z.iload C dL_volumeOf_54 rfl ?_
      refine Z.iadd C dL_volumeOf_56 ?_
      refine Z.iald C 0 rfl (by omega) (by omega) (by decide) dL_volumeOf_57 ?_
      rw [e3]
      refine Z.iadd C dL_volumeOf_58 ?_
      refine Z.aload_n C dL_volumeOf_59 rfl ?_
      refine Z.bipush C dL_volumeOf_60 (by decide) ?_
      refine Z.iload C dL_volumeOf_62 rfl ?_
      refine Z.imul C dL_volumeOf_64 ?_
      refine Z.bipush C dL_volumeOf_65 (by decide) ?_
      refine Z.iadd C dL_volumeOf_67 ?_
      refine Z.iload C dL_volumeOf_68 rfl ?_
      refine Z.iadd C dL_volumeOf_70 ?_
      refine Z.iald C 0 rfl (by omega) (by omega) (by decide) dL_volumeOf_71 ?_
      rw [e4]
      refine Z.iadd C dL_volumeOf_72 ?_
      refine Z.cut (α := Int) 87 (fun _ => (wA aq cI hf at_ wg dy ti gg)) (fun _ => [.int (iI w), .ref (aq 0), .int (iI b), .int (iI (vaZ M b k + vrZ M b k s)), .int (iI k), .int (iI s)]) (fun f9 => [.int (iI f9), .int (iI (M k s + M k ((s : Int) + 1) + M ((k : Int) + 1) s + M ((k : Int) + 1) ((s : Int) + 1))), .int (iI (vaZ M b k + vrZ M b k s))]) (fun f9 => f9 = if b = 0 then (1 : Int) else 2 * (s : Int) + 1) (fun f9 hf9 => ?_) (fun join => ?_)
      · subst hf9
        refine Z.imul C dL_volumeOf_87 ?_
        refine Z.iadd C dL_volumeOf_88 ?_
        refine Z.istore_n C dL_volumeOf_89 (by decide) ?_
        refine Z.iinc C dL_volumeOf_90 rfl (by decide) ?_
        refine Z.goto C 14 dL_volumeOf_93 (by decide) ?_
        have hv : vrZ M b k (s + 1) = vrZ M b k s + (M k s + M k ((s : Int) + 1) + M ((k : Int) + 1) s + M ((k : Int) + 1) ((s : Int) + 1)) * (if b = 0 then (1 : Int) else 2 * (s : Int) + 1) := rfl
        rw [Int.add_assoc, ← hv]
        exact ih2 (s + 1) (by omega) (by omega)
      · skip
        refine Z.iload_n C dL_volumeOf_73 rfl ?_
        refine Z.ifeq C 86 dL_volumeOf_74 (by decide) (hbi) (fun h3 => ?_) (fun h3 => ?_)
        · skip
          refine Z.iconst C dL_volumeOf_86 ?_
          exact join 1 (by rw [if_pos h3])
        · skip
          refine Z.iconst C dL_volumeOf_77 ?_
          refine Z.iload C dL_volumeOf_78 rfl ?_
          refine Z.imul C dL_volumeOf_80 ?_
          refine Z.iconst C dL_volumeOf_81 ?_
          refine Z.iadd C dL_volumeOf_82 ?_
          refine Z.goto C 87 dL_volumeOf_83 (by decide) ?_
          exact join _ (by rw [if_neg h3])
abbrev rmL_strakeOf : Room := { frames := 1, cells := 0, slots := 0, locals := 20 }
set_option maxHeartbeats 4000000 in
set_option maxRecDepth 100000 in
theorem q_strakeOf (l : Launch) (D : va_G) (cI cJ cL : ClassId) (aq : Nat → Nat) (hf at_ wg dy ti gg : Int → Int) (M : Int → Int → Int) (hM : hOK M) (hR : RH M hf) (w : Int) (w0 : 0 ≤ w) (w1 : w ≤ 5) : CI l yL_strakeOf wsL_strakeOf rmL_strakeOf [.int (iI w), .ref (aq 0)] D cI cJ cL (wA aq cI hf at_ wg dy ti gg) (fun r w' => r = LsM M w ∧ w' = (wA aq cI hf at_ wg dy ti gg)) := by
  refine CI.of (cc := cL_strakeOf) (maxL := 4) (ret := (some .int)) (own := RL) _ 2 (by decide +kernel) rfl rfl rfl (Nat.le_of_ble_eq_true rfl) rfl (fun sz9 p9 e9 s9 m9 a9 b9 h9 c9 C hr => ?_)
  refine Z.bipush C dL_strakeOf_0 (by decide) ?_
  refine Z.istore_n C dL_strakeOf_2 (by decide) ?_
  refine Z.bipush C dL_strakeOf_3 (by decide) ?_
  refine Z.iload_n C dL_strakeOf_5 rfl ?_
  refine Z.imul C dL_strakeOf_6 ?_
  refine Z.istore_n C dL_strakeOf_7 (by decide) ?_
  rw [show (9 * w : Int) = 9 * w + ((0 : Nat) : Int) by omega]
  refine Z.loop (α := Nat) (fun y => (wA aq cI hf at_ wg dy ti gg)) (fun y => [.int (iI w), .ref (aq 0), .int (iI (80 + strZ (M w) y - 10 * (y : Int))), .int (iI (9 * w + (y : Int)))]) (fun y => y ≤ 8) (fun y => 8 - y) 0 (by decide) rfl rfl (fun i hk ih => ?_)
  refine Z.iload_n C dL_strakeOf_8 rfl ?_
  refine Z.bipush C dL_strakeOf_9 (by decide) ?_
  refine Z.iload_n C dL_strakeOf_11 rfl ?_
  refine Z.imul C dL_strakeOf_12 ?_
  refine Z.bipush C dL_strakeOf_13 (by decide) ?_
  refine Z.iadd C dL_strakeOf_15 ?_
  refine Z.icmpge C 40 dL_strakeOf_16 (by decide) (⟨by omega, by omega⟩) (⟨by omega, by omega⟩) (fun h => ?_) (fun h => ?_)
  · have e8 : i = 8 := by omega
    subst e8
    refine Z.iload_n C dL_strakeOf_40 rfl ?_
    exact Z.iret C hr dL_strakeOf_41 (⟨by unfold LsM; omega, rfl⟩)
  · have e1 : hf (9 * w + (i : Int)) = M w (i : Int) := RH_at hR (by omega) w0 w1 (by omega) (by omega)
    have e2 : hf (9 * w + (i : Int) + 1) = M w ((i : Int) + 1) := RH_at hR (by omega) w0 w1 (by omega) (by omega)
    have b1 := hM w i
    have b2 := hM w ((i : Int) + 1)
    refine Z.iload_n C dL_strakeOf_19 rfl ?_
    refine Z.aload_n C dL_strakeOf_20 rfl ?_
    refine Z.iload_n C dL_strakeOf_21 rfl ?_
    refine Z.iald C 0 rfl (by omega) (by omega) (by decide) dL_strakeOf_22 ?_
    refine Z.aload_n C dL_strakeOf_23 rfl ?_
    refine Z.iload_n C dL_strakeOf_24 rfl ?_
    refine Z.iconst C dL_strakeOf_25 ?_
    refine Z.iadd C dL_strakeOf_26 ?_
    refine Z.iald C 0 rfl (by omega) (by omega) (by decide) dL_strakeOf_27 ?_
    rw [e1, e2]
    refine Z.isub C dL_strakeOf_28 ?_
    refine Z.cSIp C 1 (q_size l D cI cJ cL (M w (i : Int) - M w ((i : Int) + 1)) ⟨by omega, by omega⟩) gL_strakeOf_L_size rfl rfl rfl (by decide +kernel) ⟨Nat.le_of_ble_eq_true rfl, Nat.le_of_ble_eq_true rfl⟩ rfl rfl (Nat.le_of_ble_eq_true rfl) ⟨Nat.le_of_ble_eq_true rfl, Nat.le_of_ble_eq_true rfl⟩ dL_strakeOf_29 ?_
    refine Z.iadd C dL_strakeOf_32 ?_
    refine Z.istore_n C dL_strakeOf_33 (by decide) ?_
    refine Z.iinc C dL_strakeOf_34 rfl (by decide) ?_
    refine Z.goto C 8 dL_strakeOf_37 (by decide) ?_
    have hs : strZ (M w) (i + 1) = strZ (M w) i + (10 + absZ (M w (i : Int) - M w ((i : Int) + 1))) := rfl
    rw [show 80 + strZ (M w) i - 10 * (i : Int) + absZ (M w (i : Int) - M w ((i : Int) + 1)) = 80 + strZ (M w) (i + 1) - 10 * ((i + 1 : Nat) : Int) by rw [hs]; push_cast; omega, show 9 * w + (i : Int) + 1 = 9 * w + ((i + 1 : Nat) : Int) by omega]
    exact ih (i + 1) (by omega) (by omega)
abbrev rmL_tideOn : Room := { frames := 0, cells := 0, slots := 0, locals := 0 }
set_option maxHeartbeats 4000000 in
set_option maxRecDepth 100000 in
theorem q_tideOn (l : Launch) (D : va_G) (cI cJ cL : ClassId) (aq : Nat → Nat) (hf at_ wg dy ti gg : Int → Int) (x : Int) (x0 : 0 ≤ x) (x1 : x ≤ 10000) (t0 : 0 ≤ gg 5) (t1 : gg 5 ≤ 40) (hu : uqZ dy (gg 5)) (hd : ∀ j : Int, 0 ≤ dy j ∧ dy j ≤ 9999) : CI l yL_tideOn wsL_tideOn rmL_tideOn [.int (iI x), .ref (aq 3), .ref (aq 4), .ref (aq 5)] D cI cJ cL (wA aq cI hf at_ wg dy ti gg) (fun r w' => r = tdZ dy ti x (gg 5).toNat ∧ w' = (wA aq cI hf at_ wg dy ti gg)) := by
  refine CI.of (cc := cL_tideOn) (maxL := 5) (ret := (some .int)) (own := RL) _ 1 (by decide +kernel) rfl rfl rfl (Nat.le_of_ble_eq_true rfl) rfl (fun sz9 p9 e9 s9 m9 a9 b9 h9 c9 C hr => ?_)
  refine Z.iconst C dL_tideOn_0 ?_
  refine Z.istore C dL_tideOn_1 (by decide) ?_
  refine Z.loop (α := Nat) (fun y => (wA aq cI hf at_ wg dy ti gg)) (fun y => [.int (iI x), .ref (aq 3), .ref (aq 4), .ref (aq 5), .int (iI y)]) (fun y => (y : Int) ≤ gg 5 ∧ ∀ j : Nat, j < y → dy j ≠ x) (fun y => 40 - y) 0 ⟨t0, fun j hj => absurd hj (Nat.not_lt_zero _)⟩ rfl rfl (fun k hk ih => ?_)
  obtain ⟨hk, hno⟩ := hk
  refine Z.iload C dL_tideOn_3 rfl ?_
  refine Z.aload_n C dL_tideOn_5 rfl ?_
  refine Z.iconst C dL_tideOn_6 ?_
  refine Z.iald C 5 rfl (by omega) (by omega) (by decide) dL_tideOn_7 ?_
  refine Z.icmpge C 30 dL_tideOn_8 (by decide) (⟨by omega, by omega⟩) (⟨by omega, by omega⟩) (fun h => ?_) (fun h => ?_)
  · have e9 : (gg 5).toNat = k := by omega
    rw [e9]
    have hz : tdZ dy ti x k = (7 * x + 3) % 19 := by
      clear ih h e9 hk
      induction k with
      | zero => rfl
      | succ k ih9 =>
        simp only [tdZ]
        rw [if_neg (hno k (Nat.lt_succ_self k))]
        exact ih9 (fun j hj => hno j (by omega))
    refine Z.bipush C dL_tideOn_30 (by decide) ?_
    refine Z.iload_n C dL_tideOn_32 rfl ?_
    refine Z.imul C dL_tideOn_33 ?_
    refine Z.iconst C dL_tideOn_34 ?_
    refine Z.iadd C dL_tideOn_35 ?_
    refine Z.bipush C dL_tideOn_36 (by decide) ?_
    refine Z.irem C dL_tideOn_38 (by omega) (by omega) (by omega) (by omega) ?_
    exact Z.iret C hr dL_tideOn_39 (⟨hz.symm, rfl⟩)
  · have bd := hd k
    refine Z.aload_n C dL_tideOn_11 rfl ?_
    refine Z.iload C dL_tideOn_12 rfl ?_
    refine Z.iald C 3 rfl (by omega) (by omega) (by decide) dL_tideOn_14 ?_
    refine Z.iload_n C dL_tideOn_15 rfl ?_
    refine Z.icmpne C 24 dL_tideOn_16 (by decide) (⟨by omega, by omega⟩) (⟨by omega, by omega⟩) (fun h2 => ?_) (fun h2 => ?_)
    · skip
      refine Z.iinc C dL_tideOn_24 rfl (by decide) ?_
      refine Z.goto C 3 dL_tideOn_27 (by decide) ?_
      exact ih (k + 1) ⟨by push_cast; omega, fun j hj => by
        by_cases e : j = k
        · rw [e]; exact h2
        · exact hno j (by omega)⟩ (by omega)
    · have hz : tdZ dy ti x (gg 5).toNat = ti k := by
        have key : ∀ n : Nat, k < n → (n : Int) ≤ gg 5 → tdZ dy ti x n = ti k := by
          intro n
          induction n with
          | zero => intro q; exact absurd q (Nat.not_lt_zero _)
          | succ n ih9 =>
            intro q1 q2
            simp only [tdZ]
            by_cases e : k = n
            · subst e
              rw [if_pos h2]
            · rw [if_neg (fun z => e (by
                have := hu k n (by omega) (by omega) (by omega) (by omega) (by rw [h2, z])
                omega))]
              exact ih9 (by omega) (by omega)
        exact key _ (by omega) (by omega)
      refine Z.aload_n C dL_tideOn_19 rfl ?_
      refine Z.iload C dL_tideOn_20 rfl ?_
      refine Z.iald C 4 rfl (by omega) (by omega) (by decide) dL_tideOn_22 ?_
      exact Z.iret C hr dL_tideOn_23 (⟨hz.symm, rfl⟩)
