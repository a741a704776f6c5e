/-! ===== Hull ===== -/
set_option maxRecDepth 20000 in
theorem iw_X4_areaUpTo_4 : ∀ w ∈ u_ws RX4 TX4 1, w ∈ wsX4_areaUpTo := by decide +kernel
abbrev rmX4_areaUpTo : Room := { frames := 0, cells := 0, slots := 0, locals := 0 }
set_option maxHeartbeats 4000000 in
set_option maxRecDepth 100000 in
theorem c_areaUpTo (l : Launch) (D : va_G) (cI cJ cL : ClassId) (ad : Nat → Nat) (M B : Int → Int → Int) (lo ch wt sn vo mo le ln od fe se td th : Int → Int) (cnt bw bs pl tk tc sill day lau : Int) (s : Int) (w : Nat) (hs0 : 0 ≤ s) (hs1 : s ≤ 8) (hw : w ≤ 5) : CI l yX4_areaUpTo wsX4_areaUpTo rmX4_areaUpTo [.ref (ad 1), .int (iI s), .int (iI w)] D cI cJ cL (wX ad cI cJ M B lo ch wt sn vo mo le ln od fe se td th cnt bw bs pl tk tc sill day lau) (fun r w' => r = areaZ M s w ∧ w' = (wX ad cI cJ M B lo ch wt sn vo mo le ln od fe se td th cnt bw bs pl tk tc sill day lau)) := by
  refine CI.of (cc := cX4_areaUpTo) (maxL := 5) (ret := (some .int)) (own := RX4) _ 2 (by decide +kernel) rfl rfl rfl (Nat.le_of_ble_eq_true rfl) rfl (fun sz9 p9 e9 s9 m9 a9 b9 h9 c9 C hr => ?_)
  refine Z.iconst C dX4_areaUpTo_0 ?_
  refine Z.istore_n C dX4_areaUpTo_1 (by decide) ?_
  refine Z.iconst C dX4_areaUpTo_2 ?_
  refine Z.istore C dX4_areaUpTo_3 (by decide) ?_
  refine Z.loop (α := Nat) (fun _ => (wX ad cI cJ M B lo ch wt sn vo mo le ln od fe se td th cnt bw bs pl tk tc sill day lau)) (fun k => [.ref (ad 1), .int (iI s), .int (iI w), .int (iI (areaZ M s k)), .int (iI k)]) (fun k => k ≤ w) (fun k => w - k) 0 (by omega) rfl rfl (fun k hk ih => ?_)
  try dsimp only at hk ih ⊢
  refine Z.iload C dX4_areaUpTo_5 rfl ?_
  refine Z.iload_n C dX4_areaUpTo_7 rfl ?_
  refine Z.icmpge C 41 dX4_areaUpTo_8 (by decide) (⟨by omega, by omega⟩) (⟨by omega, by omega⟩) (fun h => ?_) (fun h => ?_)
  · refine Z.iload_n C dX4_areaUpTo_41 rfl ?_
    exact Z.iret C hr dX4_areaUpTo_42 (⟨by rw [show k = w by omega], rfl⟩)
  · refine Z.iload_n C dX4_areaUpTo_11 rfl ?_
    refine Z.aload_n C dX4_areaUpTo_12 rfl ?_
    refine Z.getf C 1 0 iw_X4_areaUpTo_4 rfl rfl (by decide) (by decide +kernel) rfl dX4_areaUpTo_13 ?_
    refine Z.iload C dX4_areaUpTo_16 rfl ?_
    refine Z.aald C 2 rfl (by omega) (by omega) (by decide) dX4_areaUpTo_18 ?_
    refine Z.iload_n C dX4_areaUpTo_19 rfl ?_
    refine Z.iald C _ (wX_row (by omega) (by omega)) (by omega) (by omega) (by decide) dX4_areaUpTo_20 ?_
    refine Z.aload_n C dX4_areaUpTo_21 rfl ?_
    refine Z.getf C 1 0 iw_X4_areaUpTo_4 rfl rfl (by decide) (by decide +kernel) rfl dX4_areaUpTo_22 ?_
    refine Z.iload C dX4_areaUpTo_25 rfl ?_
    refine Z.iconst C dX4_areaUpTo_27 ?_
    refine Z.iadd C dX4_areaUpTo_28 ?_
    refine Z.aald C 2 rfl (by omega) (by omega) (by decide) dX4_areaUpTo_29 ?_
    refine Z.iload_n C dX4_areaUpTo_30 rfl ?_
    refine Z.iald C _ (wX_row (by omega) (by omega)) (by omega) (by omega) (by decide) dX4_areaUpTo_31 ?_
    refine Z.iadd C dX4_areaUpTo_32 ?_
    refine Z.iadd C dX4_areaUpTo_33 ?_
    refine Z.istore_n C dX4_areaUpTo_34 (by decide) ?_
    refine Z.iinc C dX4_areaUpTo_35 rfl (by decide) ?_
    refine Z.goto C 5 dX4_areaUpTo_38 (by decide) ?_
    exact ih (k + 1) (by omega) (by omega)
abbrev rmX4_volumeUpTo : Room := { frames := 1, cells := 0, slots := 0, locals := 24 }
set_option maxHeartbeats 4000000 in
set_option maxRecDepth 100000 in
theorem c_volumeUpTo (l : Launch) (D : va_G) (cI cJ cL : ClassId) (ad : Nat → Nat) (M B : Int → Int → Int) (lo ch wt sn vo mo le ln od fe se td th : Int → Int) (cnt bw bs pl tk tc sill day lau : Int) (w : Nat) (hw : w ≤ 5) : CI l yX4_volumeUpTo wsX4_volumeUpTo rmX4_volumeUpTo [.ref (ad 1), .int (iI w)] D cI cJ cL (wX ad cI cJ M B lo ch wt sn vo mo le ln od fe se td th cnt bw bs pl tk tc sill day lau) (fun r w' => r = volZ M w 8 ∧ w' = (wX ad cI cJ M B lo ch wt sn vo mo le ln od fe se td th cnt bw bs pl tk tc sill day lau)) := by
  refine CI.of (cc := cX4_volumeUpTo) (maxL := 4) (ret := (some .int)) (own := RX4) _ 2 (by decide +kernel) rfl rfl rfl (Nat.le_of_ble_eq_true rfl) rfl (fun sz9 p9 e9 s9 m9 a9 b9 h9 c9 C hr => ?_)
  refine Z.iconst C dX4_volumeUpTo_0 ?_
  refine Z.istore_n C dX4_volumeUpTo_1 (by decide) ?_
  refine Z.iconst C dX4_volumeUpTo_2 ?_
  refine Z.istore_n C dX4_volumeUpTo_3 (by decide) ?_
  refine Z.loop (α := Nat) (fun _ => (wX ad cI cJ M B lo ch wt sn vo mo le ln od fe se td th cnt bw bs pl tk tc sill day lau)) (fun k => [.ref (ad 1), .int (iI w), .int (iI (volZ M w k)), .int (iI k)]) (fun k => k ≤ 8) (fun k => 8 - k) 0 (by omega) rfl rfl (fun k hk ih => ?_)
  try dsimp only at hk ih ⊢
  refine Z.iload_n C dX4_volumeUpTo_4 rfl ?_
  refine Z.bipush C dX4_volumeUpTo_5 (by decide) ?_
  refine Z.icmpge C 34 dX4_volumeUpTo_7 (by decide) (⟨by omega, by omega⟩) (⟨by omega, by omega⟩) (fun h => ?_) (fun h => ?_)
  · refine Z.iload_n C dX4_volumeUpTo_34 rfl ?_
    exact Z.iret C hr dX4_volumeUpTo_35 (⟨by rw [show k = 8 by omega], rfl⟩)
  · refine Z.iload_n C dX4_volumeUpTo_10 rfl ?_
    refine Z.aload_n C dX4_volumeUpTo_11 rfl ?_
    refine Z.iload_n C dX4_volumeUpTo_12 rfl ?_
    refine Z.iload_n C dX4_volumeUpTo_13 rfl ?_
    refine Z.cVId C 1 2 (c_areaUpTo l D cI cJ cL ad M B lo ch wt sn vo mo le ln od fe se td th cnt bw bs pl tk tc sill day lau k w (by omega) (by omega) hw) rfl rfl gX4_volumeUpTo_X4_areaUpTo rfl rfl rfl (by decide +kernel) ⟨Nat.le_of_ble_eq_true rfl, Nat.le_of_ble_eq_true rfl⟩ rfl rfl (Nat.le_of_ble_eq_true rfl) ⟨Nat.le_of_ble_eq_true rfl, Nat.le_of_ble_eq_true rfl⟩ dX4_volumeUpTo_14 ?_
    refine Z.aload_n C dX4_volumeUpTo_17 rfl ?_
    refine Z.iload_n C dX4_volumeUpTo_18 rfl ?_
    refine Z.iconst C dX4_volumeUpTo_19 ?_
    refine Z.iadd C dX4_volumeUpTo_20 ?_
    refine Z.iload_n C dX4_volumeUpTo_21 rfl ?_
    refine Z.cVId C 1 2 (c_areaUpTo l D cI cJ cL ad M B lo ch wt sn vo mo le ln od fe se td th cnt bw bs pl tk tc sill day lau (k + 1) w (by omega) (by omega) hw) rfl rfl gX4_volumeUpTo_X4_areaUpTo rfl rfl rfl (by decide +kernel) ⟨Nat.le_of_ble_eq_true rfl, Nat.le_of_ble_eq_true rfl⟩ rfl rfl (Nat.le_of_ble_eq_true rfl) ⟨Nat.le_of_ble_eq_true rfl, Nat.le_of_ble_eq_true rfl⟩ dX4_volumeUpTo_22 ?_
    refine Z.iadd C dX4_volumeUpTo_25 ?_
    refine Z.iadd C dX4_volumeUpTo_26 ?_
    refine Z.istore_n C dX4_volumeUpTo_27 (by decide) ?_
    refine Z.iinc C dX4_volumeUpTo_28 rfl (by decide) ?_
    refine Z.goto C 4 dX4_volumeUpTo_31 (by decide) ?_
    exact ih (k + 1) (by omega) (by omega)
abbrev rmX4_momentUpTo : Room := { frames := 1, cells := 0, slots := 0, locals := 24 }
set_option maxHeartbeats 4000000 in
set_option maxRecDepth 100000 in
theorem c_momentUpTo (l : Launch) (D : va_G) (cI cJ cL : ClassId) (ad : Nat → Nat) (M B : Int → Int → Int) (lo ch wt sn vo mo le ln od fe se td th : Int → Int) (cnt bw bs pl tk tc sill day lau : Int) (w : Nat) (hw : w ≤ 5) : CI l yX4_momentUpTo wsX4_momentUpTo rmX4_momentUpTo [.ref (ad 1), .int (iI w)] D cI cJ cL (wX ad cI cJ M B lo ch wt sn vo mo le ln od fe se td th cnt bw bs pl tk tc sill day lau) (fun r w' => r = momZ M w 8 ∧ w' = (wX ad cI cJ M B lo ch wt sn vo mo le ln od fe se td th cnt bw bs pl tk tc sill day lau)) := by
  refine CI.of (cc := cX4_momentUpTo) (maxL := 5) (ret := (some .int)) (own := RX4) _ 3 (by decide +kernel) rfl rfl rfl (Nat.le_of_ble_eq_true rfl) rfl (fun sz9 p9 e9 s9 m9 a9 b9 h9 c9 C hr => ?_)
  refine Z.iconst C dX4_momentUpTo_0 ?_
  refine Z.istore_n C dX4_momentUpTo_1 (by decide) ?_
  refine Z.iconst C dX4_momentUpTo_2 ?_
  refine Z.istore_n C dX4_momentUpTo_3 (by decide) ?_
  refine Z.loop (α := Nat × Value) (fun _ => (wX ad cI cJ M B lo ch wt sn vo mo le ln od fe se td th cnt bw bs pl tk tc sill day lau)) (fun k => [.ref (ad 1), .int (iI w), .int (iI (momZ M w k.1)), .int (iI k.1), k.2]) (fun k => k.1 ≤ 8) (fun k => 8 - k.1) (0, .null) (by dsimp only; omega) rfl rfl (fun k hk ih => ?_)
  obtain ⟨k, v⟩ := k
  try dsimp only at hk ih ⊢
  refine Z.iload_n C dX4_momentUpTo_4 rfl ?_
  refine Z.bipush C dX4_momentUpTo_5 (by decide) ?_
  refine Z.icmpge C 44 dX4_momentUpTo_7 (by decide) (⟨by omega, by omega⟩) (⟨by omega, by omega⟩) (fun h => ?_) (fun h => ?_)
  · refine Z.iload_n C dX4_momentUpTo_44 rfl ?_
    exact Z.iret C hr dX4_momentUpTo_45 (⟨by rw [show k = 8 by omega], rfl⟩)
  · refine Z.aload_n C dX4_momentUpTo_10 rfl ?_
    refine Z.iload_n C dX4_momentUpTo_11 rfl ?_
    refine Z.iload_n C dX4_momentUpTo_12 rfl ?_
    refine Z.cVId C 1 2 (c_areaUpTo l D cI cJ cL ad M B lo ch wt sn vo mo le ln od fe se td th cnt bw bs pl tk tc sill day lau k w (by omega) (by omega) hw) rfl rfl gX4_momentUpTo_X4_areaUpTo rfl rfl rfl (by decide +kernel) ⟨Nat.le_of_ble_eq_true rfl, Nat.le_of_ble_eq_true rfl⟩ rfl rfl (Nat.le_of_ble_eq_true rfl) ⟨Nat.le_of_ble_eq_true rfl, Nat.le_of_ble_eq_true rfl⟩ dX4_momentUpTo_13 ?_
    refine Z.aload_n C dX4_momentUpTo_16 rfl ?_
    refine Z.iload_n C dX4_momentUpTo_17 rfl ?_
    refine Z.iconst C dX4_momentUpTo_18 ?_
    refine Z.iadd C dX4_momentUpTo_19 ?_
    refine Z.iload_n C dX4_momentUpTo_20 rfl ?_
    refine Z.cVId C 1 2 (c_areaUpTo l D cI cJ cL ad M B lo ch wt sn vo mo le ln od fe se td th cnt bw bs pl tk tc sill day lau (k + 1) w (by omega) (by omega) hw) rfl rfl gX4_momentUpTo_X4_areaUpTo rfl rfl rfl (by decide +kernel) ⟨Nat.le_of_ble_eq_true rfl, Nat.le_of_ble_eq_true rfl⟩ rfl rfl (Nat.le_of_ble_eq_true rfl) ⟨Nat.le_of_ble_eq_true rfl, Nat.le_of_ble_eq_true rfl⟩ dX4_momentUpTo_21 ?_
    refine Z.iadd C dX4_momentUpTo_24 ?_
    refine Z.istore C dX4_momentUpTo_25 (by decide) ?_
    refine Z.iload_n C dX4_momentUpTo_27 rfl ?_
    refine Z.iconst C dX4_momentUpTo_28 ?_
    refine Z.iload_n C dX4_momentUpTo_29 rfl ?_
    refine Z.imul C dX4_momentUpTo_30 ?_
    refine Z.iconst C dX4_momentUpTo_31 ?_
    refine Z.iadd C dX4_momentUpTo_32 ?_
    refine Z.iload C dX4_momentUpTo_33 rfl ?_
    refine Z.imul C dX4_momentUpTo_35 ?_
    refine Z.iadd C dX4_momentUpTo_36 ?_
    refine Z.istore_n C dX4_momentUpTo_37 (by decide) ?_
    refine Z.iinc C dX4_momentUpTo_38 rfl (by decide) ?_
    refine Z.goto C 4 dX4_momentUpTo_41 (by decide) ?_
    exact ih (k + 1, _) (by dsimp only; omega) (by dsimp only; omega)
set_option maxRecDepth 20000 in
theorem iw_X4_waterlineArea_4 : ∀ w ∈ u_ws RX4 TX4 1, w ∈ wsX4_waterlineArea := by decide +kernel
abbrev rmX4_waterlineArea : Room := { frames := 0, cells := 0, slots := 0, locals := 0 }
set_option maxHeartbeats 4000000 in
set_option maxRecDepth 100000 in
theorem c_waterlineArea (l : Launch) (D : va_G) (cI cJ cL : ClassId) (ad : Nat → Nat) (M B : Int → Int → Int) (lo ch wt sn vo mo le ln od fe se td th : Int → Int) (cnt bw bs pl tk tc sill day lau : Int) (i : Int) (hi0 : 0 ≤ i) (hi1 : i ≤ 5) : CI l yX4_waterlineArea wsX4_waterlineArea rmX4_waterlineArea [.ref (ad 1), .int (iI i)] D cI cJ cL (wX ad cI cJ M B lo ch wt sn vo mo le ln od fe se td th cnt bw bs pl tk tc sill day lau) (fun r w' => r = wlaZ (M i) 8 ∧ w' = (wX ad cI cJ M B lo ch wt sn vo mo le ln od fe se td th cnt bw bs pl tk tc sill day lau)) := by
  refine CI.of (cc := cX4_waterlineArea) (maxL := 5) (ret := (some .int)) (own := RX4) _ 3 (by decide +kernel) rfl rfl rfl (Nat.le_of_ble_eq_true rfl) rfl (fun sz9 p9 e9 s9 m9 a9 b9 h9 c9 C hr => ?_)
  refine Z.aload_n C dX4_waterlineArea_0 rfl ?_
  refine Z.getf C 1 0 iw_X4_waterlineArea_4 rfl rfl (by decide) (by decide +kernel) rfl dX4_waterlineArea_1 ?_
  refine Z.iload_n C dX4_waterlineArea_4 rfl ?_
  refine Z.aald C 2 rfl (by omega) (by omega) (by decide) dX4_waterlineArea_5 ?_
  refine Z.astore_n C dX4_waterlineArea_6 (by decide) ?_
  refine Z.iconst C dX4_waterlineArea_7 ?_
  refine Z.istore_n C dX4_waterlineArea_8 (by decide) ?_
  refine Z.iconst C dX4_waterlineArea_9 ?_
  refine Z.istore C dX4_waterlineArea_10 (by decide) ?_
  refine Z.loop (α := Nat) (fun _ => (wX ad cI cJ M B lo ch wt sn vo mo le ln od fe se td th cnt bw bs pl tk tc sill day lau)) (fun k => [.ref (ad 1), .int (iI i), .ref (ad (9 + i.toNat)), .int (iI (wlaZ (M i) k)), .int (iI k)]) (fun k => k ≤ 8) (fun k => 8 - k) 0 (by omega) rfl rfl (fun k hk ih => ?_)
  try dsimp only at hk ih ⊢
  refine Z.iload C dX4_waterlineArea_12 rfl ?_
  refine Z.bipush C dX4_waterlineArea_14 (by decide) ?_
  refine Z.icmpge C 39 dX4_waterlineArea_16 (by decide) (⟨by omega, by omega⟩) (⟨by omega, by omega⟩) (fun h => ?_) (fun h => ?_)
  · refine Z.iload_n C dX4_waterlineArea_39 rfl ?_
    exact Z.iret C hr dX4_waterlineArea_40 (⟨by rw [show k = 8 by omega], rfl⟩)
  · refine Z.iload_n C dX4_waterlineArea_19 rfl ?_
    refine Z.aload_n C dX4_waterlineArea_20 rfl ?_
    refine Z.iload C dX4_waterlineArea_21 rfl ?_
    refine Z.iald C _ (wX_row (by omega) (by omega)) (by omega) (by omega) (by decide) dX4_waterlineArea_23 ?_
    refine Z.aload_n C dX4_waterlineArea_24 rfl ?_
    refine Z.iload C dX4_waterlineArea_25 rfl ?_
    refine Z.iconst C dX4_waterlineArea_27 ?_
    refine Z.iadd C dX4_waterlineArea_28 ?_
    refine Z.iald C _ (wX_row (by omega) (by omega)) (by omega) (by omega) (by decide) dX4_waterlineArea_29 ?_
    refine Z.iadd C dX4_waterlineArea_30 ?_
    refine Z.iadd C dX4_waterlineArea_31 ?_
    refine Z.istore_n C dX4_waterlineArea_32 (by decide) ?_
    refine Z.iinc C dX4_waterlineArea_33 rfl (by decide) ?_
    refine Z.goto C 12 dX4_waterlineArea_36 (by decide) ?_
    exact ih (k + 1) (by omega) (by omega)
abbrev rmX4_volumeBySlices : Room := { frames := 1, cells := 0, slots := 0, locals := 24 }
set_option maxHeartbeats 4000000 in
set_option maxRecDepth 100000 in
theorem c_volumeBySlices (l : Launch) (D : va_G) (cI cJ cL : ClassId) (ad : Nat → Nat) (M B : Int → Int → Int) (lo ch wt sn vo mo le ln od fe se td th : Int → Int) (cnt bw bs pl tk tc sill day lau : Int) (w : Nat) (hw : w ≤ 5) : CI l yX4_volumeBySlices wsX4_volumeBySlices rmX4_volumeBySlices [.ref (ad 1), .int (iI w)] D cI cJ cL (wX ad cI cJ M B lo ch wt sn vo mo le ln od fe se td th cnt bw bs pl tk tc sill day lau) (fun r w' => r = slcZ M w ∧ w' = (wX ad cI cJ M B lo ch wt sn vo mo le ln od fe se td th cnt bw bs pl tk tc sill day lau)) := by
  refine CI.of (cc := cX4_volumeBySlices) (maxL := 4) (ret := (some .int)) (own := RX4) _ 2 (by decide +kernel) rfl rfl rfl (Nat.le_of_ble_eq_true rfl) rfl (fun sz9 p9 e9 s9 m9 a9 b9 h9 c9 C hr => ?_)
  refine Z.iconst C dX4_volumeBySlices_0 ?_
  refine Z.istore_n C dX4_volumeBySlices_1 (by decide) ?_
  refine Z.iconst C dX4_volumeBySlices_2 ?_
  refine Z.istore_n C dX4_volumeBySlices_3 (by decide) ?_
  refine Z.loop (α := Nat) (fun _ => (wX ad cI cJ M B lo ch wt sn vo mo le ln od fe se td th cnt bw bs pl tk tc sill day lau)) (fun k => [.ref (ad 1), .int (iI w), .int (iI (slcZ M k)), .int (iI k)]) (fun k => k ≤ w) (fun k => w - k) 0 (by omega) rfl rfl (fun k hk ih => ?_)
  try dsimp only at hk ih ⊢
  refine Z.iload_n C dX4_volumeBySlices_4 rfl ?_
  refine Z.iload_n C dX4_volumeBySlices_5 rfl ?_
  refine Z.icmpge C 31 dX4_volumeBySlices_6 (by decide) (⟨by omega, by omega⟩) (⟨by omega, by omega⟩) (fun h => ?_) (fun h => ?_)
  · refine Z.iload_n C dX4_volumeBySlices_31 rfl ?_
    exact Z.iret C hr dX4_volumeBySlices_32 (⟨by rw [show k = w by omega], rfl⟩)
  · refine Z.iload_n C dX4_volumeBySlices_9 rfl ?_
    refine Z.aload_n C dX4_volumeBySlices_10 rfl ?_
    refine Z.iload_n C dX4_volumeBySlices_11 rfl ?_
    refine Z.cVId C 1 1 (c_waterlineArea l D cI cJ cL ad M B lo ch wt sn vo mo le ln od fe se td th cnt bw bs pl tk tc sill day lau k (by omega) (by omega)) rfl rfl gX4_volumeBySlices_X4_waterlineArea rfl rfl rfl (by decide +kernel) ⟨Nat.le_of_ble_eq_true rfl, Nat.le_of_ble_eq_true rfl⟩ rfl rfl (Nat.le_of_ble_eq_true rfl) ⟨Nat.le_of_ble_eq_true rfl, Nat.le_of_ble_eq_true rfl⟩ dX4_volumeBySlices_12 ?_
    refine Z.aload_n C dX4_volumeBySlices_15 rfl ?_
    refine Z.iload_n C dX4_volumeBySlices_16 rfl ?_
    refine Z.iconst C dX4_volumeBySlices_17 ?_
    refine Z.iadd C dX4_volumeBySlices_18 ?_
    refine Z.cVId C 1 1 (c_waterlineArea l D cI cJ cL ad M B lo ch wt sn vo mo le ln od fe se td th cnt bw bs pl tk tc sill day lau (k + 1) (by omega) (by omega)) rfl rfl gX4_volumeBySlices_X4_waterlineArea rfl rfl rfl (by decide +kernel) ⟨Nat.le_of_ble_eq_true rfl, Nat.le_of_ble_eq_true rfl⟩ rfl rfl (Nat.le_of_ble_eq_true rfl) ⟨Nat.le_of_ble_eq_true rfl, Nat.le_of_ble_eq_true rfl⟩ dX4_volumeBySlices_19 ?_
    refine Z.iadd C dX4_volumeBySlices_22 ?_
    refine Z.iadd C dX4_volumeBySlices_23 ?_
    refine Z.istore_n C dX4_volumeBySlices_24 (by decide) ?_
    refine Z.iinc C dX4_volumeBySlices_25 rfl (by decide) ?_
    refine Z.goto C 4 dX4_volumeBySlices_28 (by decide) ?_
    exact ih (k + 1) (by omega) (by omega)
set_option maxRecDepth 20000 in
theorem iw_X4_strakeLength_4 : ∀ w ∈ u_ws RX4 TX4 1, w ∈ wsX4_strakeLength := by decide +kernel
abbrev rmX4_strakeLength : Room := { frames := 1, cells := 0, slots := 0, locals := 21 }
set_option maxHeartbeats 4000000 in
set_option maxRecDepth 100000 in
theorem c_strakeLength (l : Launch) (D : va_G) (cI cJ cL : ClassId) (ad : Nat → Nat) (M B : Int → Int → Int) (lo ch wt sn vo mo le ln od fe se td th : Int → Int) (cnt bw bs pl tk tc sill day lau : Int) (hM : hOK M) (i : Int) (hi0 : 0 ≤ i) (hi1 : i ≤ 5) : CI l yX4_strakeLength wsX4_strakeLength rmX4_strakeLength [.ref (ad 1), .int (iI i)] D cI cJ cL (wX ad cI cJ M B lo ch wt sn vo mo le ln od fe se td th cnt bw bs pl tk tc sill day lau) (fun r w' => r = strZ (M i) 8 ∧ w' = (wX ad cI cJ M B lo ch wt sn vo mo le ln od fe se td th cnt bw bs pl tk tc sill day lau)) := by
  refine CI.of (cc := cX4_strakeLength) (maxL := 5) (ret := (some .int)) (own := RX4) _ 3 (by decide +kernel) rfl rfl rfl (Nat.le_of_ble_eq_true rfl) rfl (fun sz9 p9 e9 s9 m9 a9 b9 h9 c9 C hr => ?_)
  refine Z.aload_n C dX4_strakeLength_0 rfl ?_
  refine Z.getf C 1 0 iw_X4_strakeLength_4 rfl rfl (by decide) (by decide +kernel) rfl dX4_strakeLength_1 ?_
  refine Z.iload_n C dX4_strakeLength_4 rfl ?_
  refine Z.aald C 2 rfl (by omega) (by omega) (by decide) dX4_strakeLength_5 ?_
  refine Z.astore_n C dX4_strakeLength_6 (by decide) ?_
  refine Z.iconst C dX4_strakeLength_7 ?_
  refine Z.istore_n C dX4_strakeLength_8 (by decide) ?_
  refine Z.iconst C dX4_strakeLength_9 ?_
  refine Z.istore C dX4_strakeLength_10 (by decide) ?_
  refine Z.loop (α := Nat) (fun _ => (wX ad cI cJ M B lo ch wt sn vo mo le ln od fe se td th cnt bw bs pl tk tc sill day lau)) (fun k => [.ref (ad 1), .int (iI i), .ref (ad (9 + i.toNat)), .int (iI (strZ (M i) k)), .int (iI k)]) (fun k => k ≤ 8) (fun k => 8 - k) 0 (by omega) rfl rfl (fun k hk ih => ?_)
  try dsimp only at hk ih ⊢
  refine Z.iload C dX4_strakeLength_12 rfl ?_
  refine Z.bipush C dX4_strakeLength_14 (by decide) ?_
  refine Z.icmpge C 45 dX4_strakeLength_16 (by decide) (⟨by omega, by omega⟩) (⟨by omega, by omega⟩) (fun h => ?_) (fun h => ?_)
  · refine Z.iload_n C dX4_strakeLength_45 rfl ?_
    exact Z.iret C hr dX4_strakeLength_46 (⟨by rw [show k = 8 by omega], rfl⟩)
  · have b1 := hM i k
    have b2 := hM i (k + 1)
    refine Z.iload_n C dX4_strakeLength_19 rfl ?_
    refine Z.bipush C dX4_strakeLength_20 (by decide) ?_
    refine Z.aload_n C dX4_strakeLength_22 rfl ?_
    refine Z.iload C dX4_strakeLength_23 rfl ?_
    refine Z.iald C _ (wX_row (by omega) (by omega)) (by omega) (by omega) (by decide) dX4_strakeLength_25 ?_
    refine Z.aload_n C dX4_strakeLength_26 rfl ?_
    refine Z.iload C dX4_strakeLength_27 rfl ?_
    refine Z.iconst C dX4_strakeLength_29 ?_
    refine Z.iadd C dX4_strakeLength_30 ?_
    refine Z.iald C _ (wX_row (by omega) (by omega)) (by omega) (by omega) (by decide) dX4_strakeLength_31 ?_
    refine Z.isub C dX4_strakeLength_32 ?_
    refine Z.mabs C (by decide +kernel) (by decide +kernel) (by decide +kernel) (by decide +kernel) (Nat.le_of_ble_eq_true rfl) (Nat.le_of_ble_eq_true rfl) ⟨Nat.le_of_ble_eq_true rfl, Nat.le_of_ble_eq_true rfl⟩ (⟨by omega, by omega⟩) dX4_strakeLength_33 ?_
    refine Z.iadd C dX4_strakeLength_36 ?_
    refine Z.iadd C dX4_strakeLength_37 ?_
    refine Z.istore_n C dX4_strakeLength_38 (by decide) ?_
    refine Z.iinc C dX4_strakeLength_39 rfl (by decide) ?_
    refine Z.goto C 12 dX4_strakeLength_42 (by decide) ?_
    exact ih (k + 1) (by omega) (by omega)
abbrev rmX6_squareOfBend : Room := { frames := 0, cells := 0, slots := 0, locals := 0 }
set_option maxHeartbeats 4000000 in
set_option maxRecDepth 100000 in
theorem c_squareOfBend (l : Launch) (D : va_G) (cI cJ cL : ClassId) (b a c : Int) : CI l yX6_squareOfBend wsX6_squareOfBend rmX6_squareOfBend [.int (iI b), .int (iI a), .int (iI c)] D cI cJ cL [] (fun r w' => r = sqZ b a c ∧ w' = []) := by
  refine CI.of (cc := cX6_squareOfBend) (maxL := 4) (ret := (some .int)) (own := RX6) _ 1 (by decide +kernel) rfl rfl rfl (Nat.le_of_ble_eq_true rfl) rfl (fun sz9 p9 e9 s9 m9 a9 b9 h9 c9 C hr => ?_)
  refine Z.iload_n C dX6_squareOfBend_0 rfl ?_
  refine Z.iload_n C dX6_squareOfBend_1 rfl ?_
  refine Z.iadd C dX6_squareOfBend_2 ?_
  refine Z.iconst C dX6_squareOfBend_3 ?_
  refine Z.iload_n C dX6_squareOfBend_4 rfl ?_
  refine Z.imul C dX6_squareOfBend_5 ?_
  refine Z.isub C dX6_squareOfBend_6 ?_
  refine Z.istore_n C dX6_squareOfBend_7 (by decide) ?_
  refine Z.iload_n C dX6_squareOfBend_8 rfl ?_
  refine Z.iload_n C dX6_squareOfBend_9 rfl ?_
  refine Z.imul C dX6_squareOfBend_10 ?_
  exact Z.iret C hr dX6_squareOfBend_11 (⟨rfl, rfl⟩)
abbrev rmX6_bendOfLine : Room := { frames := 1, cells := 0, slots := 0, locals := 23 }
set_option maxHeartbeats 4000000 in
set_option maxRecDepth 100000 in
theorem c_bendOfLine (l : Launch) (D : va_G) (cI cJ cL : ClassId) (ad : Nat → Nat) (M B : Int → Int → Int) (lo ch wt sn vo mo le ln od fe se td th : Int → Int) (cnt bw bs pl tk tc sill day lau : Int) (i : Int) (hi0 : 0 ≤ i) (hi1 : i ≤ 5) : CI l yX6_bendOfLine wsX6_bendOfLine rmX6_bendOfLine [.ref (ad (9 + i.toNat))] D cI cJ cL (wX ad cI cJ M B lo ch wt sn vo mo le ln od fe se td th cnt bw bs pl tk tc sill day lau) (fun r w' => r = bendZ (M i) 7 ∧ w' = (wX ad cI cJ M B lo ch wt sn vo mo le ln od fe se td th cnt bw bs pl tk tc sill day lau)) := by
  refine CI.of (cc := cX6_bendOfLine) (maxL := 3) (ret := (some .int)) (own := RX6) _ 2 (by decide +kernel) rfl rfl rfl (Nat.le_of_ble_eq_true rfl) rfl (fun sz9 p9 e9 s9 m9 a9 b9 h9 c9 C hr => ?_)
  refine Z.iconst C dX6_bendOfLine_0 ?_
  refine Z.istore_n C dX6_bendOfLine_1 (by decide) ?_
  refine Z.iconst C dX6_bendOfLine_2 ?_
  refine Z.istore_n C dX6_bendOfLine_3 (by decide) ?_
  refine Z.loop (α := Nat) (fun _ => (wX ad cI cJ M B lo ch wt sn vo mo le ln od fe se td th cnt bw bs pl tk tc sill day lau)) (fun k => [.ref (ad (9 + i.toNat)), .int (iI (bendZ (M i) k)), .int (iI (k + 1))]) (fun k => k ≤ 7) (fun k => 7 - k) 0 (by omega) rfl rfl (fun k hk ih => ?_)
  try dsimp only at hk ih ⊢
  refine Z.iload_n C dX6_bendOfLine_4 rfl ?_
  refine Z.bipush C dX6_bendOfLine_5 (by decide) ?_
  refine Z.icmpge C 35 dX6_bendOfLine_7 (by decide) (⟨by omega, by omega⟩) (⟨by omega, by omega⟩) (fun h => ?_) (fun h => ?_)
  · refine Z.iload_n C dX6_bendOfLine_35 rfl ?_
    exact Z.iret C hr dX6_bendOfLine_36 (⟨by rw [show k = 7 by omega], rfl⟩)
  · refine Z.iload_n C dX6_bendOfLine_10 rfl ?_
    refine Z.aload_n C dX6_bendOfLine_11 rfl ?_
    refine Z.iload_n C dX6_bendOfLine_12 rfl ?_
    refine Z.iconst C dX6_bendOfLine_13 ?_
    refine Z.isub C dX6_bendOfLine_14 ?_
    rw [show (k : Int) + 1 - 1 = k by omega]
    refine Z.iald C _ (wX_row (by omega) (by omega)) (by omega) (by omega) (by decide) dX6_bendOfLine_15 ?_
    refine Z.aload_n C dX6_bendOfLine_16 rfl ?_
    refine Z.iload_n C dX6_bendOfLine_17 rfl ?_
    refine Z.iald C _ (wX_row (by omega) (by omega)) (by omega) (by omega) (by decide) dX6_bendOfLine_18 ?_
    refine Z.aload_n C dX6_bendOfLine_19 rfl ?_
    refine Z.iload_n C dX6_bendOfLine_20 rfl ?_
    refine Z.iconst C dX6_bendOfLine_21 ?_
    refine Z.iadd C dX6_bendOfLine_22 ?_
    refine Z.iald C _ (wX_row (by omega) (by omega)) (by omega) (by omega) (by decide) dX6_bendOfLine_23 ?_
    refine Z.cSIp C 3 (c_squareOfBend l D cI cJ cL (M i k) (M i (k + 1)) (M i (k + 1 + 1))) gX6_bendOfLine_X6_squareOfBend rfl rfl rfl (by decide +kernel) ⟨Nat.le_of_ble_eq_true rfl, Nat.le_of_ble_eq_true rfl⟩ rfl rfl (Nat.le_of_ble_eq_true rfl) ⟨Nat.le_of_ble_eq_true rfl, Nat.le_of_ble_eq_true rfl⟩ dX6_bendOfLine_24 ?_
    refine Z.iadd C dX6_bendOfLine_27 ?_
    refine Z.istore_n C dX6_bendOfLine_28 (by decide) ?_
    refine Z.iinc C dX6_bendOfLine_29 rfl (by decide) ?_
    refine Z.goto C 4 dX6_bendOfLine_32 (by decide) ?_
    exact ih (k + 1) (by omega) (by omega)
