/-! ===== the reference: lines, areas, volumes ===== -/
def RH (M : Int → Int → Int) (hf : Int → Int) : Prop := ∀ w s : Int, 0 ≤ w → w ≤ 5 → 0 ≤ s → s ≤ 8 → hf (9 * w + s) = M w s
def inZ (v a b : Int) : Int := if a ≤ v ∧ v ≤ b then 1 else 0
theorem inZ_r (v a b : Int) : inr (inZ v a b) := by unfold inZ; split <;> exact ⟨by decide, by decide⟩
theorem inZ_0 {v a b : Int} (h : inZ v a b = 0) : ¬ (a ≤ v ∧ v ≤ b) := by
  unfold inZ at h
  split at h
  · omega
  · assumption
theorem inZ_1 {v a b : Int} (h : inZ v a b ≠ 0) : a ≤ v ∧ v ≤ b := by
  unfold inZ at h
  split at h
  · assumption
  · omega
set_option maxRecDepth 20000 in
theorem iw_X7_thrown_7 : ∀ w ∈ u_ws RX7 TX7 16, w ∈ wsX7_thrown := by decide +kernel
abbrev rmX7_thrown : Room := { frames := 0, cells := 0, slots := 0, locals := 0 }
set_option maxHeartbeats 4000000 in
set_option maxRecDepth 100000 in
theorem m_thrown (l : Launch) (D : va_G) (cI cJ cL : ClassId) (ad : Nat → Nat) (hf at_ wg lf cf dy ti bh ln : Int → Int) (thr nw lg nt sl dd il : Int) : CI l yX7_thrown wsX7_thrown rmX7_thrown [.ref (ad 0)] D cI cJ cL (wM ad cI hf at_ wg lf cf dy ti bh ln thr nw lg nt sl dd il) (fun r w' => r = thr ∧ w' = (wM ad cI hf at_ wg lf cf dy ti bh ln thr nw lg nt sl dd il)) := by
  refine CI.of (cc := cX7_thrown) (maxL := 1) (ret := (some .int)) (own := RX7) _ 0 (by decide +kernel) rfl rfl rfl (Nat.le_of_ble_eq_true rfl) rfl (fun sz9 p9 e9 s9 m9 a9 b9 h9 c9 C hr => ?_)
  refine Z.aload_n C dX7_thrown_0 rfl ?_
  refine Z.getf C 0 0 iw_X7_thrown_7 rfl rfl (by decide) (by decide +kernel) rfl dX7_thrown_1 ?_
  exact Z.iret C hr dX7_thrown_4 (⟨rfl, rfl⟩)
abbrev rmX7_in : Room := { frames := 0, cells := 0, slots := 0, locals := 0 }
set_option maxHeartbeats 4000000 in
set_option maxRecDepth 100000 in
theorem m_in (l : Launch) (D : va_G) (cI cJ cL : ClassId) (v x y : Int) (hv : inr v) (hx : inr x) (hy : inr y) : CI l yX7_in wsX7_in rmX7_in [.int (iI v), .int (iI x), .int (iI y)] D cI cJ cL [] (fun r w' => r = inZ v x y ∧ w' = []) := by
  refine CI.of (cc := cX7_in) (maxL := 3) (ret := (some .boolean)) (own := RX7) _ 0 (by decide +kernel) rfl rfl rfl (Nat.le_of_ble_eq_true rfl) rfl (fun sz9 p9 e9 s9 m9 a9 b9 h9 c9 C hr => ?_)
  refine Z.iload_n C dX7_in_0 rfl ?_
  refine Z.iload_n C dX7_in_1 rfl ?_
  refine Z.icmplt C 14 dX7_in_2 (by decide) (hv) (hx) (fun h => ?_) (fun h => ?_)
  · refine Z.iconst C dX7_in_14 ?_
    exact Z.zret C hr (by omega) dX7_in_15 (⟨by unfold inZ; rw [if_neg (by omega)], rfl⟩)
  · refine Z.iload_n C dX7_in_5 rfl ?_
    refine Z.iload_n C dX7_in_6 rfl ?_
    refine Z.icmpgt C 14 dX7_in_7 (by decide) (hv) (hy) (fun h2 => ?_) (fun h2 => ?_)
    · refine Z.iconst C dX7_in_14 ?_
      exact Z.zret C hr (by omega) dX7_in_15 (⟨by unfold inZ; rw [if_neg (by omega)], rfl⟩)
    · refine Z.iconst C dX7_in_10 ?_
      refine Z.goto C 15 dX7_in_11 (by decide) ?_
      exact Z.zret C hr (by omega) dX7_in_15 (⟨by unfold inZ; rw [if_pos (by omega)], rfl⟩)
abbrev rmX7_isStation : Room := { frames := 1, cells := 0, slots := 0, locals := 22 }
set_option maxHeartbeats 4000000 in
set_option maxRecDepth 100000 in
theorem m_isStation (l : Launch) (D : va_G) (cI cJ cL : ClassId) (v : Int) (hv : inr v) : CI l yX7_isStation wsX7_isStation rmX7_isStation [.int (iI v)] D cI cJ cL [] (fun r w' => r = inZ v 0 8 ∧ w' = []) := by
  refine CI.of (cc := cX7_isStation) (maxL := 1) (ret := (some .boolean)) (own := RX7) _ 0 (by decide +kernel) rfl rfl rfl (Nat.le_of_ble_eq_true rfl) rfl (fun sz9 p9 e9 s9 m9 a9 b9 h9 c9 C hr => ?_)
  refine Z.iload_n C dX7_isStation_0 rfl ?_
  refine Z.iconst C dX7_isStation_1 ?_
  refine Z.bipush C dX7_isStation_2 (by decide) ?_
  refine Z.cSIp C 3 (m_in l D cI cJ cL v 0 8 hv ⟨by decide, by decide⟩ ⟨by decide, by decide⟩) gX7_isStation_X7_in rfl rfl rfl (by decide +kernel) ⟨Nat.le_of_ble_eq_true rfl, Nat.le_of_ble_eq_true rfl⟩ rfl rfl (Nat.le_of_ble_eq_true rfl) ⟨Nat.le_of_ble_eq_true rfl, Nat.le_of_ble_eq_true rfl⟩ dX7_isStation_4 ?_
  refine Z.zret C hr ?_ dX7_isStation_7 ⟨rfl, rfl⟩
  unfold inZ; split <;> omega
abbrev rmX7_isWaterline : Room := { frames := 1, cells := 0, slots := 0, locals := 22 }
set_option maxHeartbeats 4000000 in
set_option maxRecDepth 100000 in
theorem m_isWaterline (l : Launch) (D : va_G) (cI cJ cL : ClassId) (v : Int) (hv : inr v) : CI l yX7_isWaterline wsX7_isWaterline rmX7_isWaterline [.int (iI v)] D cI cJ cL [] (fun r w' => r = inZ v 0 5 ∧ w' = []) := by
  refine CI.of (cc := cX7_isWaterline) (maxL := 1) (ret := (some .boolean)) (own := RX7) _ 0 (by decide +kernel) rfl rfl rfl (Nat.le_of_ble_eq_true rfl) rfl (fun sz9 p9 e9 s9 m9 a9 b9 h9 c9 C hr => ?_)
  refine Z.iload_n C dX7_isWaterline_0 rfl ?_
  refine Z.iconst C dX7_isWaterline_1 ?_
  refine Z.iconst C dX7_isWaterline_2 ?_
  refine Z.cSIp C 3 (m_in l D cI cJ cL v 0 5 hv ⟨by decide, by decide⟩ ⟨by decide, by decide⟩) gX7_isWaterline_X7_in rfl rfl rfl (by decide +kernel) ⟨Nat.le_of_ble_eq_true rfl, Nat.le_of_ble_eq_true rfl⟩ rfl rfl (Nat.le_of_ble_eq_true rfl) ⟨Nat.le_of_ble_eq_true rfl, Nat.le_of_ble_eq_true rfl⟩ dX7_isWaterline_3 ?_
  refine Z.zret C hr ?_ dX7_isWaterline_6 ⟨rfl, rfl⟩
  unfold inZ; split <;> omega
abbrev rmX7_size : Room := { frames := 0, cells := 0, slots := 0, locals := 0 }
set_option maxHeartbeats 4000000 in
set_option maxRecDepth 100000 in
theorem m_size (l : Launch) (D : va_G) (cI cJ cL : ClassId) (v : Int) (hv : inr v) : CI l yX7_size wsX7_size rmX7_size [.int (iI v)] D cI cJ cL [] (fun r w' => r = absZ v ∧ w' = []) := by
  refine CI.of (cc := cX7_size) (maxL := 1) (ret := (some .int)) (own := RX7) _ 0 (by decide +kernel) rfl rfl rfl (Nat.le_of_ble_eq_true rfl) rfl (fun sz9 p9 e9 s9 m9 a9 b9 h9 c9 C hr => ?_)
  refine Z.iload_n C dX7_size_0 rfl ?_
  refine Z.ifge C 9 dX7_size_1 (by decide) (hv) (fun h => ?_) (fun h => ?_)
  · refine Z.iload_n C dX7_size_9 rfl ?_
    exact Z.iret C hr dX7_size_10 (⟨by unfold absZ; rw [if_pos h], rfl⟩)
  · refine Z.iload_n C dX7_size_4 rfl ?_
    refine Z.ineg C dX7_size_5 ?_
    refine Z.goto C 10 dX7_size_6 (by decide) ?_
    exact Z.iret C hr dX7_size_10 (⟨by unfold absZ; rw [if_neg (by omega)], rfl⟩)
abbrev rmX7_square : Room := { frames := 0, cells := 0, slots := 0, locals := 0 }
set_option maxHeartbeats 4000000 in
set_option maxRecDepth 100000 in
theorem m_square (l : Launch) (D : va_G) (cI cJ cL : ClassId) (v : Int) : CI l yX7_square wsX7_square rmX7_square [.int (iI v)] D cI cJ cL [] (fun r w' => r = v * v ∧ w' = []) := by
  refine CI.of (cc := cX7_square) (maxL := 1) (ret := (some .int)) (own := RX7) _ 0 (by decide +kernel) rfl rfl rfl (Nat.le_of_ble_eq_true rfl) rfl (fun sz9 p9 e9 s9 m9 a9 b9 h9 c9 C hr => ?_)
  refine Z.iload_n C dX7_square_0 rfl ?_
  refine Z.iload_n C dX7_square_1 rfl ?_
  refine Z.imul C dX7_square_2 ?_
  exact Z.iret C hr dX7_square_3 (⟨rfl, rfl⟩)
abbrev rmX7_place : Room := { frames := 0, cells := 0, slots := 0, locals := 0 }
set_option maxHeartbeats 4000000 in
set_option maxRecDepth 100000 in
theorem m_place (l : Launch) (D : va_G) (cI cJ cL : ClassId) (x y z : Int) : CI l yX7_place wsX7_place rmX7_place [.int (iI x), .int (iI y), .int (iI z)] D cI cJ cL [] (fun r w' => r = 25 * x + 5 * y + z ∧ w' = []) := by
  refine CI.of (cc := cX7_place) (maxL := 3) (ret := (some .int)) (own := RX7) _ 0 (by decide +kernel) rfl rfl rfl (Nat.le_of_ble_eq_true rfl) rfl (fun sz9 p9 e9 s9 m9 a9 b9 h9 c9 C hr => ?_)
  refine Z.bipush C dX7_place_0 (by decide) ?_
  refine Z.iload_n C dX7_place_2 rfl ?_
  refine Z.imul C dX7_place_3 ?_
  refine Z.iconst C dX7_place_4 ?_
  refine Z.iload_n C dX7_place_5 rfl ?_
  refine Z.imul C dX7_place_6 ?_
  refine Z.iadd C dX7_place_7 ?_
  refine Z.iload_n C dX7_place_8 rfl ?_
  refine Z.iadd C dX7_place_9 ?_
  exact Z.iret C hr dX7_place_10 (⟨rfl, rfl⟩)
set_option maxRecDepth 20000 in
theorem iw_X7_halfAt_7 : ∀ w ∈ u_ws RX7 TX7 16, w ∈ wsX7_halfAt := by decide +kernel
abbrev rmX7_halfAt : Room := { frames := 0, cells := 0, slots := 0, locals := 0 }
set_option maxHeartbeats 4000000 in
set_option maxRecDepth 100000 in
theorem m_halfAt (l : Launch) (D : va_G) (cI cJ cL : ClassId) (ad : Nat → Nat) (hf at_ wg lf cf dy ti bh ln : Int → Int) (thr nw lg nt sl dd il : Int) (M : Int → Int → Int) (hR : RH M hf) (x w : Int) (hx0 : 0 ≤ x) (hx1 : x ≤ 8) (hw0 : 0 ≤ w) (hw1 : w ≤ 5) : CI l yX7_halfAt wsX7_halfAt rmX7_halfAt [.ref (ad 0), .int (iI x), .int (iI w)] D cI cJ cL (wM ad cI hf at_ wg lf cf dy ti bh ln thr nw lg nt sl dd il) (fun r w' => r = M w x ∧ w' = (wM ad cI hf at_ wg lf cf dy ti bh ln thr nw lg nt sl dd il)) := by
  refine CI.of (cc := cX7_halfAt) (maxL := 3) (ret := (some .int)) (own := RX7) _ 0 (by decide +kernel) rfl rfl rfl (Nat.le_of_ble_eq_true rfl) rfl (fun sz9 p9 e9 s9 m9 a9 b9 h9 c9 C hr => ?_)
  refine Z.aload_n C dX7_halfAt_0 rfl ?_
  refine Z.getf C 0 1 iw_X7_halfAt_7 rfl rfl (by decide) (by decide +kernel) rfl dX7_halfAt_1 ?_
  refine Z.bipush C dX7_halfAt_4 (by decide) ?_
  refine Z.iload_n C dX7_halfAt_6 rfl ?_
  refine Z.imul C dX7_halfAt_7 ?_
  refine Z.iload_n C dX7_halfAt_8 rfl ?_
  refine Z.iadd C dX7_halfAt_9 ?_
  refine Z.iald C 1 rfl (by omega) (by omega) (by decide) dX7_halfAt_10 ?_
  rw [hR w x hw0 hw1 hx0 hx1]
  exact Z.iret C hr dX7_halfAt_11 (⟨rfl, rfl⟩)
abbrev rmX7_bendOf : Room := { frames := 1, cells := 0, slots := 0, locals := 22 }
set_option maxHeartbeats 4000000 in
set_option maxRecDepth 100000 in
theorem m_bendOf (l : Launch) (D : va_G) (cI cJ cL : ClassId) (ad : Nat → Nat) (hf at_ wg lf cf dy ti bh ln : Int → Int) (thr nw lg nt sl dd il : Int) (M : Int → Int → Int) (hR : RH M hf) (w : Int) (hw0 : 0 ≤ w) (hw1 : w ≤ 5) : CI l yX7_bendOf wsX7_bendOf rmX7_bendOf [.ref (ad 0), .int (iI w)] D cI cJ cL (wM ad cI hf at_ wg lf cf dy ti bh ln thr nw lg nt sl dd il) (fun r w' => r = bendZ (M w) 7 ∧ w' = (wM ad cI hf at_ wg lf cf dy ti bh ln thr nw lg nt sl dd il)) := by
  refine CI.of (cc := cX7_bendOf) (maxL := 4) (ret := (some .int)) (own := RX7) _ 2 (by decide +kernel) rfl rfl rfl (Nat.le_of_ble_eq_true rfl) rfl (fun sz9 p9 e9 s9 m9 a9 b9 h9 c9 C hr => ?_)
  refine Z.iconst C dX7_bendOf_0 ?_
  refine Z.istore_n C dX7_bendOf_1 (by decide) ?_
  refine Z.iconst C dX7_bendOf_2 ?_
  refine Z.istore_n C dX7_bendOf_3 (by decide) ?_
  refine Z.loop (α := Nat) (fun _ => (wM ad cI hf at_ wg lf cf dy ti bh ln thr nw lg nt sl dd il)) (fun k => [.ref (ad 0), .int (iI w), .int (iI (bendZ (M w) k)), .int (iI (k + 1))]) (fun k => k ≤ 7) (fun k => 7 - k) 0 (by omega) rfl rfl (fun k hk ih => ?_)
  refine Z.iload_n C dX7_bendOf_4 rfl ?_
  refine Z.iconst C dX7_bendOf_5 ?_
  refine Z.iadd C dX7_bendOf_6 ?_
  refine Z.bipush C dX7_bendOf_7 (by decide) ?_
  refine Z.icmpge C 50 dX7_bendOf_9 (by decide) (⟨by omega, by omega⟩) (⟨by omega, by omega⟩) (fun h => ?_) (fun h => ?_)
  · refine Z.iload_n C dX7_bendOf_50 rfl ?_
    exact Z.iret C hr dX7_bendOf_51 (⟨by rw [show k = 7 by omega], rfl⟩)
  · refine Z.iload_n C dX7_bendOf_12 rfl ?_
    refine Z.aload_n C dX7_bendOf_13 rfl ?_
    refine Z.iload_n C dX7_bendOf_14 rfl ?_
    refine Z.iconst C dX7_bendOf_15 ?_
    refine Z.isub C dX7_bendOf_16 ?_
    rw [show (k : Int) + 1 - 1 = k by omega]
    refine Z.iload_n C dX7_bendOf_17 rfl ?_
    refine Z.cVId C 0 2 (m_halfAt l D cI cJ cL ad hf at_ wg lf cf dy ti bh ln thr nw lg nt sl dd il M hR k w (by omega) (by omega) hw0 hw1) rfl rfl gX7_bendOf_X7_halfAt rfl rfl rfl (by decide +kernel) ⟨Nat.le_of_ble_eq_true rfl, Nat.le_of_ble_eq_true rfl⟩ rfl rfl (Nat.le_of_ble_eq_true rfl) ⟨Nat.le_of_ble_eq_true rfl, Nat.le_of_ble_eq_true rfl⟩ dX7_bendOf_18 ?_
    refine Z.aload_n C dX7_bendOf_21 rfl ?_
    refine Z.iload_n C dX7_bendOf_22 rfl ?_
    refine Z.iconst C dX7_bendOf_23 ?_
    refine Z.iadd C dX7_bendOf_24 ?_
    refine Z.iload_n C dX7_bendOf_25 rfl ?_
    refine Z.cVId C 0 2 (m_halfAt l D cI cJ cL ad hf at_ wg lf cf dy ti bh ln thr nw lg nt sl dd il M hR (k + 1 + 1) w (by omega) (by omega) hw0 hw1) rfl rfl gX7_bendOf_X7_halfAt rfl rfl rfl (by decide +kernel) ⟨Nat.le_of_ble_eq_true rfl, Nat.le_of_ble_eq_true rfl⟩ rfl rfl (Nat.le_of_ble_eq_true rfl) ⟨Nat.le_of_ble_eq_true rfl, Nat.le_of_ble_eq_true rfl⟩ dX7_bendOf_26 ?_
    refine Z.iadd C dX7_bendOf_29 ?_
    refine Z.iconst C dX7_bendOf_30 ?_
    refine Z.aload_n C dX7_bendOf_31 rfl ?_
    refine Z.iload_n C dX7_bendOf_32 rfl ?_
    refine Z.iload_n C dX7_bendOf_33 rfl ?_
    refine Z.cVId C 0 2 (m_halfAt l D cI cJ cL ad hf at_ wg lf cf dy ti bh ln thr nw lg nt sl dd il M hR (k + 1) w (by omega) (by omega) hw0 hw1) rfl rfl gX7_bendOf_X7_halfAt rfl rfl rfl (by decide +kernel) ⟨Nat.le_of_ble_eq_true rfl, Nat.le_of_ble_eq_true rfl⟩ rfl rfl (Nat.le_of_ble_eq_true rfl) ⟨Nat.le_of_ble_eq_true rfl, Nat.le_of_ble_eq_true rfl⟩ dX7_bendOf_34 ?_
    refine Z.imul C dX7_bendOf_37 ?_
    refine Z.isub C dX7_bendOf_38 ?_
    refine Z.cSIp C 1 (m_square l D cI cJ cL (M w k + M w (k + 1 + 1) - 2 * M w (k + 1))) gX7_bendOf_X7_square rfl rfl rfl (by decide +kernel) ⟨Nat.le_of_ble_eq_true rfl, Nat.le_of_ble_eq_true rfl⟩ rfl rfl (Nat.le_of_ble_eq_true rfl) ⟨Nat.le_of_ble_eq_true rfl, Nat.le_of_ble_eq_true rfl⟩ dX7_bendOf_39 ?_
    refine Z.iadd C dX7_bendOf_42 ?_
    refine Z.istore_n C dX7_bendOf_43 (by decide) ?_
    refine Z.iinc C dX7_bendOf_44 rfl (by decide) ?_
    refine Z.goto C 4 dX7_bendOf_47 (by decide) ?_
    exact ih (k + 1) (by omega) (by omega)
abbrev rmX7_areaOf : Room := { frames := 1, cells := 0, slots := 0, locals := 22 }
set_option maxHeartbeats 4000000 in
set_option maxRecDepth 100000 in
theorem m_areaOf (l : Launch) (D : va_G) (cI cJ cL : ClassId) (ad : Nat → Nat) (hf at_ wg lf cf dy ti bh ln : Int → Int) (thr nw lg nt sl dd il : Int) (M : Int → Int → Int) (hR : RH M hf) (x : Int) (w : Nat) (hx0 : 0 ≤ x) (hx1 : x ≤ 8) (hw : w ≤ 5) : CI l yX7_areaOf wsX7_areaOf rmX7_areaOf [.ref (ad 0), .int (iI x), .int (iI w)] D cI cJ cL (wM ad cI hf at_ wg lf cf dy ti bh ln thr nw lg nt sl dd il) (fun r w' => r = areaZ M x w ∧ w' = (wM ad cI hf at_ wg lf cf dy ti bh ln thr nw lg nt sl dd il)) := by
  refine CI.of (cc := cX7_areaOf) (maxL := 5) (ret := (some .int)) (own := RX7) _ 2 (by decide +kernel) rfl rfl rfl (Nat.le_of_ble_eq_true rfl) rfl (fun sz9 p9 e9 s9 m9 a9 b9 h9 c9 C hr => ?_)
  refine Z.iconst C dX7_areaOf_0 ?_
  refine Z.istore_n C dX7_areaOf_1 (by decide) ?_
  refine Z.iconst C dX7_areaOf_2 ?_
  refine Z.istore C dX7_areaOf_3 (by decide) ?_
  refine Z.loop (α := Nat) (fun _ => (wM ad cI hf at_ wg lf cf dy ti bh ln thr nw lg nt sl dd il)) (fun k => [.ref (ad 0), .int (iI x), .int (iI w), .int (iI (areaZ M x k)), .int (iI k)]) (fun k => k ≤ w) (fun k => w - k) 0 (by omega) rfl rfl (fun k hk ih => ?_)
  refine Z.iload C dX7_areaOf_5 rfl ?_
  refine Z.iload_n C dX7_areaOf_7 rfl ?_
  refine Z.icmpge C 37 dX7_areaOf_8 (by decide) (⟨by omega, by omega⟩) (⟨by omega, by omega⟩) (fun h => ?_) (fun h => ?_)
  · refine Z.iload_n C dX7_areaOf_37 rfl ?_
    exact Z.iret C hr dX7_areaOf_38 (⟨by rw [show k = w by omega], rfl⟩)
  · refine Z.iload_n C dX7_areaOf_11 rfl ?_
    refine Z.aload_n C dX7_areaOf_12 rfl ?_
    refine Z.iload_n C dX7_areaOf_13 rfl ?_
    refine Z.iload C dX7_areaOf_14 rfl ?_
    refine Z.cVId C 0 2 (m_halfAt l D cI cJ cL ad hf at_ wg lf cf dy ti bh ln thr nw lg nt sl dd il M hR x k hx0 hx1 (by omega) (by omega)) rfl rfl gX7_areaOf_X7_halfAt rfl rfl rfl (by decide +kernel) ⟨Nat.le_of_ble_eq_true rfl, Nat.le_of_ble_eq_true rfl⟩ rfl rfl (Nat.le_of_ble_eq_true rfl) ⟨Nat.le_of_ble_eq_true rfl, Nat.le_of_ble_eq_true rfl⟩ dX7_areaOf_16 ?_
    refine Z.aload_n C dX7_areaOf_19 rfl ?_
    refine Z.iload_n C dX7_areaOf_20 rfl ?_
    refine Z.iload C dX7_areaOf_21 rfl ?_
    refine Z.iconst C dX7_areaOf_23 ?_
    refine Z.iadd C dX7_areaOf_24 ?_
    refine Z.cVId C 0 2 (m_halfAt l D cI cJ cL ad hf at_ wg lf cf dy ti bh ln thr nw lg nt sl dd il M hR x (k + 1) hx0 hx1 (by omega) (by omega)) rfl rfl gX7_areaOf_X7_halfAt rfl rfl rfl (by decide +kernel) ⟨Nat.le_of_ble_eq_true rfl, Nat.le_of_ble_eq_true rfl⟩ rfl rfl (Nat.le_of_ble_eq_true rfl) ⟨Nat.le_of_ble_eq_true rfl, Nat.le_of_ble_eq_true rfl⟩ dX7_areaOf_25 ?_
    refine Z.iadd C dX7_areaOf_28 ?_
    refine Z.iadd C dX7_areaOf_29 ?_
    refine Z.istore_n C dX7_areaOf_30 (by decide) ?_
    refine Z.iinc C dX7_areaOf_31 rfl (by decide) ?_
    refine Z.goto C 5 dX7_areaOf_34 (by decide) ?_
    exact ih (k + 1) (by omega) (by omega)
abbrev rmX7_volumeOf : Room := { frames := 2, cells := 0, slots := 0, locals := 46 }
set_option maxHeartbeats 4000000 in
set_option maxRecDepth 100000 in
theorem m_volumeOf (l : Launch) (D : va_G) (cI cJ cL : ClassId) (ad : Nat → Nat) (hf at_ wg lf cf dy ti bh ln : Int → Int) (thr nw lg nt sl dd il : Int) (M : Int → Int → Int) (hR : RH M hf) (w : Nat) (hw : w ≤ 5) : CI l yX7_volumeOf wsX7_volumeOf rmX7_volumeOf [.ref (ad 0), .int (iI w)] D cI cJ cL (wM ad cI hf at_ wg lf cf dy ti bh ln thr nw lg nt sl dd il) (fun r w' => r = volZ M w 8 ∧ w' = (wM ad cI hf at_ wg lf cf dy ti bh ln thr nw lg nt sl dd il)) := by
  refine CI.of (cc := cX7_volumeOf) (maxL := 4) (ret := (some .int)) (own := RX7) _ 2 (by decide +kernel) rfl rfl rfl (Nat.le_of_ble_eq_true rfl) rfl (fun sz9 p9 e9 s9 m9 a9 b9 h9 c9 C hr => ?_)
  refine Z.iconst C dX7_volumeOf_0 ?_
  refine Z.istore_n C dX7_volumeOf_1 (by decide) ?_
  refine Z.iconst C dX7_volumeOf_2 ?_
  refine Z.istore_n C dX7_volumeOf_3 (by decide) ?_
  refine Z.loop (α := Nat) (fun _ => (wM ad cI hf at_ wg lf cf dy ti bh ln thr nw lg nt sl dd il)) (fun k => [.ref (ad 0), .int (iI w), .int (iI (volZ M w k)), .int (iI k)]) (fun k => k ≤ 8) (fun k => 8 - k) 0 (by omega) rfl rfl (fun k hk ih => ?_)
  refine Z.iload_n C dX7_volumeOf_4 rfl ?_
  refine Z.iconst C dX7_volumeOf_5 ?_
  refine Z.iadd C dX7_volumeOf_6 ?_
  refine Z.bipush C dX7_volumeOf_7 (by decide) ?_
  refine Z.icmpge C 36 dX7_volumeOf_9 (by decide) (⟨by omega, by omega⟩) (⟨by omega, by omega⟩) (fun h => ?_) (fun h => ?_)
  · refine Z.iload_n C dX7_volumeOf_36 rfl ?_
    exact Z.iret C hr dX7_volumeOf_37 (⟨by rw [show k = 8 by omega], rfl⟩)
  · refine Z.iload_n C dX7_volumeOf_12 rfl ?_
    refine Z.aload_n C dX7_volumeOf_13 rfl ?_
    refine Z.iload_n C dX7_volumeOf_14 rfl ?_
    refine Z.iload_n C dX7_volumeOf_15 rfl ?_
    refine Z.cVId C 0 2 (m_areaOf l D cI cJ cL ad hf at_ wg lf cf dy ti bh ln thr nw lg nt sl dd il M hR k w (by omega) (by omega) hw) rfl rfl gX7_volumeOf_X7_areaOf rfl rfl rfl (by decide +kernel) ⟨Nat.le_of_ble_eq_true rfl, Nat.le_of_ble_eq_true rfl⟩ rfl rfl (Nat.le_of_ble_eq_true rfl) ⟨Nat.le_of_ble_eq_true rfl, Nat.le_of_ble_eq_true rfl⟩ dX7_volumeOf_16 ?_
    refine Z.aload_n C dX7_volumeOf_19 rfl ?_
    refine Z.iload_n C dX7_volumeOf_20 rfl ?_
    refine Z.iconst C dX7_volumeOf_21 ?_
    refine Z.iadd C dX7_volumeOf_22 ?_
    refine Z.iload_n C dX7_volumeOf_23 rfl ?_
    refine Z.cVId C 0 2 (m_areaOf l D cI cJ cL ad hf at_ wg lf cf dy ti bh ln thr nw lg nt sl dd il M hR (k + 1) w (by omega) (by omega) hw) rfl rfl gX7_volumeOf_X7_areaOf rfl rfl rfl (by decide +kernel) ⟨Nat.le_of_ble_eq_true rfl, Nat.le_of_ble_eq_true rfl⟩ rfl rfl (Nat.le_of_ble_eq_true rfl) ⟨Nat.le_of_ble_eq_true rfl, Nat.le_of_ble_eq_true rfl⟩ dX7_volumeOf_24 ?_
    refine Z.iadd C dX7_volumeOf_27 ?_
    refine Z.iadd C dX7_volumeOf_28 ?_
    refine Z.istore_n C dX7_volumeOf_29 (by decide) ?_
    refine Z.iinc C dX7_volumeOf_30 rfl (by decide) ?_
    refine Z.goto C 4 dX7_volumeOf_33 (by decide) ?_
    exact ih (k + 1) (by omega) (by omega)
abbrev rmX7_momentOf : Room := { frames := 2, cells := 0, slots := 0, locals := 46 }
set_option maxHeartbeats 4000000 in
set_option maxRecDepth 100000 in
theorem m_momentOf (l : Launch) (D : va_G) (cI cJ cL : ClassId) (ad : Nat → Nat) (hf at_ wg lf cf dy ti bh ln : Int → Int) (thr nw lg nt sl dd il : Int) (M : Int → Int → Int) (hR : RH M hf) (w : Nat) (hw : w ≤ 5) : CI l yX7_momentOf wsX7_momentOf rmX7_momentOf [.ref (ad 0), .int (iI w)] D cI cJ cL (wM ad cI hf at_ wg lf cf dy ti bh ln thr nw lg nt sl dd il) (fun r w' => r = momZ M w 8 ∧ w' = (wM ad cI hf at_ wg lf cf dy ti bh ln thr nw lg nt sl dd il)) := by
  refine CI.of (cc := cX7_momentOf) (maxL := 4) (ret := (some .int)) (own := RX7) _ 2 (by decide +kernel) rfl rfl rfl (Nat.le_of_ble_eq_true rfl) rfl (fun sz9 p9 e9 s9 m9 a9 b9 h9 c9 C hr => ?_)
  refine Z.iconst C dX7_momentOf_0 ?_
  refine Z.istore_n C dX7_momentOf_1 (by decide) ?_
  refine Z.iconst C dX7_momentOf_2 ?_
  refine Z.istore_n C dX7_momentOf_3 (by decide) ?_
  refine Z.loop (α := Nat) (fun _ => (wM ad cI hf at_ wg lf cf dy ti bh ln thr nw lg nt sl dd il)) (fun k => [.ref (ad 0), .int (iI w), .int (iI (momZ M w k)), .int (iI k)]) (fun k => k ≤ 8) (fun k => 8 - k) 0 (by omega) rfl rfl (fun k hk ih => ?_)
  refine Z.iload_n C dX7_momentOf_4 rfl ?_
  refine Z.iconst C dX7_momentOf_5 ?_
  refine Z.iadd C dX7_momentOf_6 ?_
  refine Z.bipush C dX7_momentOf_7 (by decide) ?_
  refine Z.icmpge C 42 dX7_momentOf_9 (by decide) (⟨by omega, by omega⟩) (⟨by omega, by omega⟩) (fun h => ?_) (fun h => ?_)
  · refine Z.iload_n C dX7_momentOf_42 rfl ?_
    exact Z.iret C hr dX7_momentOf_43 (⟨by rw [show k = 8 by omega], rfl⟩)
  · refine Z.iload_n C dX7_momentOf_12 rfl ?_
    refine Z.iconst C dX7_momentOf_13 ?_
    refine Z.iload_n C dX7_momentOf_14 rfl ?_
    refine Z.imul C dX7_momentOf_15 ?_
    refine Z.iconst C dX7_momentOf_16 ?_
    refine Z.iadd C dX7_momentOf_17 ?_
    refine Z.aload_n C dX7_momentOf_18 rfl ?_
    refine Z.iload_n C dX7_momentOf_19 rfl ?_
    refine Z.iload_n C dX7_momentOf_20 rfl ?_
    refine Z.cVId C 0 2 (m_areaOf l D cI cJ cL ad hf at_ wg lf cf dy ti bh ln thr nw lg nt sl dd il M hR k w (by omega) (by omega) hw) rfl rfl gX7_momentOf_X7_areaOf rfl rfl rfl (by decide +kernel) ⟨Nat.le_of_ble_eq_true rfl, Nat.le_of_ble_eq_true rfl⟩ rfl rfl (Nat.le_of_ble_eq_true rfl) ⟨Nat.le_of_ble_eq_true rfl, Nat.le_of_ble_eq_true rfl⟩ dX7_momentOf_21 ?_
    refine Z.aload_n C dX7_momentOf_24 rfl ?_
    refine Z.iload_n C dX7_momentOf_25 rfl ?_
    refine Z.iconst C dX7_momentOf_26 ?_
    refine Z.iadd C dX7_momentOf_27 ?_
    refine Z.iload_n C dX7_momentOf_28 rfl ?_
    refine Z.cVId C 0 2 (m_areaOf l D cI cJ cL ad hf at_ wg lf cf dy ti bh ln thr nw lg nt sl dd il M hR (k + 1) w (by omega) (by omega) hw) rfl rfl gX7_momentOf_X7_areaOf rfl rfl rfl (by decide +kernel) ⟨Nat.le_of_ble_eq_true rfl, Nat.le_of_ble_eq_true rfl⟩ rfl rfl (Nat.le_of_ble_eq_true rfl) ⟨Nat.le_of_ble_eq_true rfl, Nat.le_of_ble_eq_true rfl⟩ dX7_momentOf_29 ?_
    refine Z.iadd C dX7_momentOf_32 ?_
    refine Z.imul C dX7_momentOf_33 ?_
    refine Z.iadd C dX7_momentOf_34 ?_
    refine Z.istore_n C dX7_momentOf_35 (by decide) ?_
    refine Z.iinc C dX7_momentOf_36 rfl (by decide) ?_
    refine Z.goto C 4 dX7_momentOf_39 (by decide) ?_
    exact ih (k + 1) (by omega) (by omega)
set_option maxRecDepth 20000 in
theorem iw_X7_offset_7 : ∀ w ∈ u_ws RX7 TX7 16, w ∈ wsX7_offset := by decide +kernel
abbrev rmX7_offset : Room := { frames := 2, cells := 0, slots := 0, locals := 42 }
def tcOffset (x w h il : Int) : Int := if ¬ (0 ≤ x ∧ x ≤ 8) ∨ ¬ (0 ≤ w ∧ w ≤ 5) then 1 else if ¬ (0 ≤ h ∧ h ≤ 200) then 2 else if il ≠ 0 then 3 else 0
set_option maxHeartbeats 4000000 in
set_option maxRecDepth 100000 in
theorem m_offset (l : Launch) (D : va_G) (cI cJ cL : ClassId) (ad : Nat → Nat) (hf at_ wg lf cf dy ti bh ln : Int → Int) (thr nw lg nt sl dd il : Int) (M : Int → Int → Int) (hR : RH M hf) (hil : il = 0 ∨ il = 1) (x w h : Int) (hx : inr x) (hw : inr w) (hh : inr h) : CI l yX7_offset wsX7_offset rmX7_offset [.ref (ad 0), .int (iI x), .int (iI w), .int (iI h)] D cI cJ cL (wM ad cI hf at_ wg lf cf dy ti bh ln thr nw lg nt sl dd il) (fun r w' => (tcOffset x w h il ≠ 0 ∧ w' = (wM ad cI hf at_ wg lf cf dy ti bh ln (tcOffset x w h il) nw lg nt sl dd il)) ∨ (tcOffset x w h il = 0 ∧ r = M w x ∧ w' = (wM ad cI (zset hf (9 * w + x) h) at_ wg lf cf dy ti bh ln 0 nw lg nt sl dd il))) := by
  refine CI.of (cc := cX7_offset) (maxL := 5) (ret := (some .int)) (own := RX7) _ 1 (by decide +kernel) rfl rfl rfl (Nat.le_of_ble_eq_true rfl) rfl (fun sz9 p9 e9 s9 m9 a9 b9 h9 c9 C hr => ?_)
  refine Z.cut (α := Int) 46 (fun _ => (wM ad cI hf at_ wg lf cf dy ti bh ln thr nw lg nt sl dd il)) (fun _ => [.ref (ad 0), .int (iI x), .int (iI w), .int (iI h), .null]) (fun k => [.int (iI k), .ref (ad 0)]) (fun k => k = tcOffset x w h il ∧ 0 ≤ k ∧ k ≤ 3) (fun k hk => ?_) (fun join => ?_)
  · obtain ⟨hk, k0, k3⟩ := hk
    refine Z.putf C 0 0 iw_X7_offset_7 rfl rfl (by decide) tyX7 tyX7_ok nmX7 (by decide +kernel) rfl (ty := .int) (by decide +kernel) rfl rfl (Nat.le_of_ble_eq_true rfl) dX7_offset_46 wM_s_thr ?_
    refine Z.aload_n C dX7_offset_49 rfl ?_
    refine Z.getf C 0 0 iw_X7_offset_7 rfl rfl (by decide) (by decide +kernel) rfl dX7_offset_50 ?_
    refine Z.ifle C 58 dX7_offset_53 (by decide) (⟨by omega, by omega⟩) (fun h1 => ?_) (fun h1 => ?_)
    · have e0 : k = 0 := by omega
      subst e0
      have hc : (0 ≤ x ∧ x ≤ 8) ∧ (0 ≤ w ∧ w ≤ 5) := by
        unfold tcOffset at hk
        split at hk
        · omega
        · omega
      refine Z.aload_n C dX7_offset_58 rfl ?_
      refine Z.iload_n C dX7_offset_59 rfl ?_
      refine Z.iload_n C dX7_offset_60 rfl ?_
      refine Z.cVId C 0 2 (m_halfAt l D cI cJ cL ad hf at_ wg lf cf dy ti bh ln 0 nw lg nt sl dd il M hR x w hc.1.1 hc.1.2 hc.2.1 hc.2.2) rfl rfl gX7_offset_X7_halfAt rfl rfl rfl (by decide +kernel) ⟨Nat.le_of_ble_eq_true rfl, Nat.le_of_ble_eq_true rfl⟩ rfl rfl (Nat.le_of_ble_eq_true rfl) ⟨Nat.le_of_ble_eq_true rfl, Nat.le_of_ble_eq_true rfl⟩ dX7_offset_61 ?_
      refine Z.istore C dX7_offset_64 (by decide) ?_
      refine Z.aload_n C dX7_offset_66 rfl ?_
      refine Z.getf C 0 1 iw_X7_offset_7 rfl rfl (by decide) (by decide +kernel) rfl dX7_offset_67 ?_
      refine Z.bipush C dX7_offset_70 (by decide) ?_
      refine Z.iload_n C dX7_offset_72 rfl ?_
      refine Z.imul C dX7_offset_73 ?_
      refine Z.iload_n C dX7_offset_74 rfl ?_
      refine Z.iadd C dX7_offset_75 ?_
      refine Z.iload_n C dX7_offset_76 rfl ?_
      refine Z.iast C 1 rfl (by omega) (by omega) (by decide) dX7_offset_77 wM_a1 ?_
      refine Z.iload C dX7_offset_78 rfl ?_
      exact Z.iret C hr dX7_offset_80 ((Or.inr ⟨hk.symm, rfl, rfl⟩))
    · refine Z.iconst C dX7_offset_56 ?_
      exact Z.iret C hr dX7_offset_57 ((Or.inl ⟨by omega, by rw [hk]⟩))
  · refine Z.aload_n C dX7_offset_0 rfl ?_
    refine Z.iload_n C dX7_offset_1 rfl ?_
    refine Z.cSIp C 1 (m_isStation l D cI cJ cL x hx) gX7_offset_X7_isStation rfl rfl rfl (by decide +kernel) ⟨Nat.le_of_ble_eq_true rfl, Nat.le_of_ble_eq_true rfl⟩ rfl rfl (Nat.le_of_ble_eq_true rfl) ⟨Nat.le_of_ble_eq_true rfl, Nat.le_of_ble_eq_true rfl⟩ dX7_offset_2 ?_
    refine Z.ifeq C 15 dX7_offset_5 (by decide) ((inZ_r _ _ _)) (fun h1 => ?_) (fun h1 => ?_)
    · have q1 := inZ_0 h1
      refine Z.iconst C dX7_offset_15 ?_
      refine Z.goto C 46 dX7_offset_16 (by decide) ?_
      exact join 1 ⟨by unfold tcOffset; rw [if_pos (Or.inl q1)], by omega, by omega⟩
    · have q1 := inZ_1 h1
      refine Z.iload_n C dX7_offset_8 rfl ?_
      refine Z.cSIp C 1 (m_isWaterline l D cI cJ cL w hw) gX7_offset_X7_isWaterline rfl rfl rfl (by decide +kernel) ⟨Nat.le_of_ble_eq_true rfl, Nat.le_of_ble_eq_true rfl⟩ rfl rfl (Nat.le_of_ble_eq_true rfl) ⟨Nat.le_of_ble_eq_true rfl, Nat.le_of_ble_eq_true rfl⟩ dX7_offset_9 ?_
      refine Z.ifne C 19 dX7_offset_12 (by decide) ((inZ_r _ _ _)) (fun h2 => ?_) (fun h2 => ?_)
      · have q2 := inZ_1 h2
        refine Z.iload_n C dX7_offset_19 rfl ?_
        refine Z.iconst C dX7_offset_20 ?_
        refine Z.sipush C dX7_offset_21 (by decide) ?_
        refine Z.cSIp C 3 (m_in l D cI cJ cL h 0 200 hh ⟨by decide, by decide⟩ ⟨by decide, by decide⟩) gX7_offset_X7_in rfl rfl rfl (by decide +kernel) ⟨Nat.le_of_ble_eq_true rfl, Nat.le_of_ble_eq_true rfl⟩ rfl rfl (Nat.le_of_ble_eq_true rfl) ⟨Nat.le_of_ble_eq_true rfl, Nat.le_of_ble_eq_true rfl⟩ dX7_offset_24 ?_
        refine Z.ifne C 34 dX7_offset_27 (by decide) ((inZ_r _ _ _)) (fun h3 => ?_) (fun h3 => ?_)
        · have q3 := inZ_1 h3
          refine Z.aload_n C dX7_offset_34 rfl ?_
          refine Z.getf C 0 13 iw_X7_offset_7 rfl rfl (by decide) (by decide +kernel) rfl dX7_offset_35 ?_
          refine Z.ifeq C 45 dX7_offset_38 (by decide) (⟨by omega, by omega⟩) (fun h4 => ?_) (fun h4 => ?_)
          · refine Z.iconst C dX7_offset_45 ?_
            exact join 0 ⟨by unfold tcOffset; rw [if_neg (by omega), if_neg (by omega), if_neg (by omega)], by omega, by omega⟩
          · refine Z.iconst C dX7_offset_41 ?_
            refine Z.goto C 46 dX7_offset_42 (by decide) ?_
            exact join 3 ⟨by unfold tcOffset; rw [if_neg (by omega), if_neg (by omega), if_pos (by omega)], by omega, by omega⟩
        · have q3 := inZ_0 h3
          refine Z.iconst C dX7_offset_30 ?_
          refine Z.goto C 46 dX7_offset_31 (by decide) ?_
          exact join 2 ⟨by unfold tcOffset; rw [if_neg (by omega), if_pos q3], by omega, by omega⟩
      · have q2 := inZ_0 h2
        refine Z.iconst C dX7_offset_15 ?_
        refine Z.goto C 46 dX7_offset_16 (by decide) ?_
        exact join 1 ⟨by unfold tcOffset; rw [if_pos (Or.inr q2)], by omega, by omega⟩
