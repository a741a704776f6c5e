/-! ===== Cargo ===== -/
def sumZ (f : Int → Int) : Nat → Int
  | 0 => 0
  | k + 1 => sumZ f k + f k
def msZ (f g : Int → Int) : Nat → Int
  | 0 => 0
  | k + 1 => msZ f g k + f k * 20 * g k
def wOK (wt sn : Int → Int) : Prop := ∀ j : Int, 0 ≤ wt j ∧ wt j ≤ 999 ∧ 0 ≤ sn j ∧ sn j ≤ 8
theorem sumZ_bd {wt sn : Int → Int} (h : wOK wt sn) : ∀ k : Nat, 0 ≤ sumZ wt k ∧ sumZ wt k ≤ 999 * k
  | 0 => by simp [sumZ]
  | k + 1 => by
    have ih := sumZ_bd h k
    have h1 := h k
    simp only [sumZ]
    push_cast
    omega
theorem mul_bd {a b : Int} (ha : 0 ≤ a) (hb : 0 ≤ b) (hb8 : b ≤ 8) : 0 ≤ a * 20 * b ∧ a * 20 * b ≤ a * 160 := by
  rcases (show b = 0 ∨ b = 1 ∨ b = 2 ∨ b = 3 ∨ b = 4 ∨ b = 5 ∨ b = 6 ∨ b = 7 ∨ b = 8 by omega) with rfl | rfl | rfl | rfl | rfl | rfl | rfl | rfl | rfl <;> omega
theorem msZ_bd {wt sn : Int → Int} (h : wOK wt sn) : ∀ k : Nat, 0 ≤ msZ wt sn k ∧ msZ wt sn k ≤ 160 * sumZ wt k
  | 0 => by simp [msZ, sumZ]
  | k + 1 => by
    have ih := msZ_bd h k
    have h1 := h k
    have h2 := mul_bd h1.1 h1.2.2.1 h1.2.2.2
    simp only [msZ, sumZ]
    omega
set_option maxRecDepth 20000 in
theorem iw_X3_isFull_3 : ∀ w ∈ u_ws RX3 TX3 5, w ∈ wsX3_isFull := by decide +kernel
abbrev rmX3_isFull : Room := { frames := 0, cells := 0, slots := 0, locals := 0 }
set_option maxHeartbeats 4000000 in
set_option maxRecDepth 100000 in
theorem c_isFull (l : Launch) (D : va_G) (cI cJ cL : ClassId) (ad : Nat → Nat) (M B : Int → Int → Int) (lo ch wt sn vo mo le ln od fe se td th : Int → Int) (cnt bw bs pl tk tc sill day lau : Int) (hc0 : 0 ≤ cnt) (hc1 : cnt ≤ 16) : CI l yX3_isFull wsX3_isFull rmX3_isFull [.ref (ad 5)] D cI cJ cL (wX ad cI cJ M B lo ch wt sn vo mo le ln od fe se td th cnt bw bs pl tk tc sill day lau) (fun r w' => r = (if cnt < 16 then 0 else 1) ∧ w' = (wX ad cI cJ M B lo ch wt sn vo mo le ln od fe se td th cnt bw bs pl tk tc sill day lau)) := by
  refine CI.of (cc := cX3_isFull) (maxL := 1) (ret := (some .boolean)) (own := RX3) _ 0 (by decide +kernel) rfl rfl rfl (Nat.le_of_ble_eq_true rfl) rfl (fun sz9 p9 e9 s9 m9 a9 b9 h9 c9 C hr => ?_)
  refine Z.aload_n C dX3_isFull_0 rfl ?_
  refine Z.getf C 5 2 iw_X3_isFull_3 rfl rfl (by decide) (by decide +kernel) rfl dX3_isFull_1 ?_
  refine Z.bipush C dX3_isFull_4 (by decide) ?_
  refine Z.icmplt C 13 dX3_isFull_6 (by decide) (⟨by omega, by omega⟩) (⟨by omega, by omega⟩) (fun h => ?_) (fun h => ?_)
  · refine Z.iconst C dX3_isFull_13 ?_
    exact Z.zret C hr (by omega) dX3_isFull_14 (⟨(if_pos h).symm, rfl⟩)
  · refine Z.iconst C dX3_isFull_9 ?_
    refine Z.goto C 14 dX3_isFull_10 (by decide) ?_
    exact Z.zret C hr (by omega) dX3_isFull_14 (⟨(if_neg (by omega)).symm, rfl⟩)
set_option maxRecDepth 20000 in
theorem iw_X3_add_3 : ∀ w ∈ u_ws RX3 TX3 5, w ∈ wsX3_add := by decide +kernel
abbrev rmX3_add : Room := { frames := 0, cells := 0, slots := 0, locals := 0 }
set_option maxHeartbeats 4000000 in
set_option maxRecDepth 100000 in
theorem c_add (l : Launch) (D : va_G) (cI cJ cL : ClassId) (ad : Nat → Nat) (M B : Int → Int → Int) (lo ch wt sn vo mo le ln od fe se td th : Int → Int) (cnt bw bs pl tk tc sill day lau : Int) (x w : Int) (hc0 : 0 ≤ cnt) (hc1 : cnt < 16) : CI l yX3_add wsX3_add rmX3_add [.ref (ad 5), .int (iI x), .int (iI w)] D cI cJ cL (wX ad cI cJ M B lo ch wt sn vo mo le ln od fe se td th cnt bw bs pl tk tc sill day lau) (fun r w' => r = cnt ∧ w' = (wX ad cI cJ M B lo ch (zset wt cnt w) (zset sn cnt x) vo mo le ln od fe se td th (cnt + 1) bw bs pl tk tc sill day lau)) := by
  refine CI.of (cc := cX3_add) (maxL := 3) (ret := (some .int)) (own := RX3) _ 0 (by decide +kernel) rfl rfl rfl (Nat.le_of_ble_eq_true rfl) rfl (fun sz9 p9 e9 s9 m9 a9 b9 h9 c9 C hr => ?_)
  refine Z.aload_n C dX3_add_0 rfl ?_
  refine Z.getf C 5 0 iw_X3_add_3 rfl rfl (by decide) (by decide +kernel) rfl dX3_add_1 ?_
  refine Z.aload_n C dX3_add_4 rfl ?_
  refine Z.getf C 5 2 iw_X3_add_3 rfl rfl (by decide) (by decide +kernel) rfl dX3_add_5 ?_
  refine Z.iload_n C dX3_add_8 rfl ?_
  refine Z.iast C 25 rfl (by omega) (by omega) (by decide) dX3_add_9 wX_a25 ?_
  refine Z.aload_n C dX3_add_10 rfl ?_
  refine Z.getf C 5 1 iw_X3_add_3 rfl rfl (by decide) (by decide +kernel) rfl dX3_add_11 ?_
  refine Z.aload_n C dX3_add_14 rfl ?_
  refine Z.getf C 5 2 iw_X3_add_3 rfl rfl (by decide) (by decide +kernel) rfl dX3_add_15 ?_
  refine Z.iload_n C dX3_add_18 rfl ?_
  refine Z.iast C 26 rfl (by omega) (by omega) (by decide) dX3_add_19 wX_a26 ?_
  refine Z.aload_n C dX3_add_20 rfl ?_
  refine Z.dup C dX3_add_21 rfl ?_
  refine Z.getf C 5 2 iw_X3_add_3 rfl rfl (by decide) (by decide +kernel) rfl dX3_add_22 ?_
  refine Z.iconst C dX3_add_25 ?_
  refine Z.iadd C dX3_add_26 ?_
  refine Z.putf C 5 2 iw_X3_add_3 rfl rfl (by decide) tyX3 tyX3_ok nmX3 (by decide +kernel) rfl (ty := .int) (by decide +kernel) rfl rfl (Nat.le_of_ble_eq_true rfl) dX3_add_27 wX_s_cnt ?_
  refine Z.aload_n C dX3_add_30 rfl ?_
  refine Z.getf C 5 2 iw_X3_add_3 rfl rfl (by decide) (by decide +kernel) rfl dX3_add_31 ?_
  refine Z.iconst C dX3_add_34 ?_
  refine Z.isub C dX3_add_35 ?_
  rw [show cnt + 1 - 1 = cnt by omega]
  exact Z.iret C hr dX3_add_36 (⟨rfl, rfl⟩)
set_option maxRecDepth 20000 in
theorem iw_X3_replace_3 : ∀ w ∈ u_ws RX3 TX3 5, w ∈ wsX3_replace := by decide +kernel
abbrev rmX3_replace : Room := { frames := 0, cells := 0, slots := 0, locals := 0 }
set_option maxHeartbeats 4000000 in
set_option maxRecDepth 100000 in
theorem c_replace (l : Launch) (D : va_G) (cI cJ cL : ClassId) (ad : Nat → Nat) (M B : Int → Int → Int) (lo ch wt sn vo mo le ln od fe se td th : Int → Int) (cnt bw bs pl tk tc sill day lau : Int) (q x w : Int) (hq0 : 0 ≤ q) (hq1 : q < 16) : CI l yX3_replace wsX3_replace rmX3_replace [.ref (ad 5), .int (iI q), .int (iI x), .int (iI w)] D cI cJ cL (wX ad cI cJ M B lo ch wt sn vo mo le ln od fe se td th cnt bw bs pl tk tc sill day lau) (fun r w' => r = 10 * wt q + sn q ∧ w' = (wX ad cI cJ M B lo ch (zset wt q w) (zset sn q x) vo mo le ln od fe se td th cnt bw bs pl tk tc sill day lau)) := by
  refine CI.of (cc := cX3_replace) (maxL := 5) (ret := (some .int)) (own := RX3) _ 1 (by decide +kernel) rfl rfl rfl (Nat.le_of_ble_eq_true rfl) rfl (fun sz9 p9 e9 s9 m9 a9 b9 h9 c9 C hr => ?_)
  refine Z.bipush C dX3_replace_0 (by decide) ?_
  refine Z.aload_n C dX3_replace_2 rfl ?_
  refine Z.getf C 5 0 iw_X3_replace_3 rfl rfl (by decide) (by decide +kernel) rfl dX3_replace_3 ?_
  refine Z.iload_n C dX3_replace_6 rfl ?_
  refine Z.iald C 25 rfl (by omega) (by omega) (by decide) dX3_replace_7 ?_
  refine Z.imul C dX3_replace_8 ?_
  refine Z.aload_n C dX3_replace_9 rfl ?_
  refine Z.getf C 5 1 iw_X3_replace_3 rfl rfl (by decide) (by decide +kernel) rfl dX3_replace_10 ?_
  refine Z.iload_n C dX3_replace_13 rfl ?_
  refine Z.iald C 26 rfl (by omega) (by omega) (by decide) dX3_replace_14 ?_
  refine Z.iadd C dX3_replace_15 ?_
  refine Z.istore C dX3_replace_16 (by decide) ?_
  refine Z.aload_n C dX3_replace_18 rfl ?_
  refine Z.getf C 5 0 iw_X3_replace_3 rfl rfl (by decide) (by decide +kernel) rfl dX3_replace_19 ?_
  refine Z.iload_n C dX3_replace_22 rfl ?_
  refine Z.iload_n C dX3_replace_23 rfl ?_
  refine Z.iast C 25 rfl (by omega) (by omega) (by decide) dX3_replace_24 wX_a25 ?_
  refine Z.aload_n C dX3_replace_25 rfl ?_
  refine Z.getf C 5 1 iw_X3_replace_3 rfl rfl (by decide) (by decide +kernel) rfl dX3_replace_26 ?_
  refine Z.iload_n C dX3_replace_29 rfl ?_
  refine Z.iload_n C dX3_replace_30 rfl ?_
  refine Z.iast C 26 rfl (by omega) (by omega) (by decide) dX3_replace_31 wX_a26 ?_
  refine Z.iload C dX3_replace_32 rfl ?_
  exact Z.iret C hr dX3_replace_34 (⟨rfl, rfl⟩)
set_option maxRecDepth 20000 in
theorem iw_X3_loadWithoutBallast_3 : ∀ w ∈ u_ws RX3 TX3 5, w ∈ wsX3_loadWithoutBallast := by decide +kernel
abbrev rmX3_loadWithoutBallast : Room := { frames := 0, cells := 0, slots := 0, locals := 0 }
set_option maxHeartbeats 4000000 in
set_option maxRecDepth 100000 in
theorem c_loadWithoutBallast (l : Launch) (D : va_G) (cI cJ cL : ClassId) (ad : Nat → Nat) (M B : Int → Int → Int) (lo ch wt sn vo mo le ln od fe se td th : Int → Int) (cnt bw bs pl tk tc sill day lau : Int) (hc0 : 0 ≤ cnt) (hc1 : cnt ≤ 16) : CI l yX3_loadWithoutBallast wsX3_loadWithoutBallast rmX3_loadWithoutBallast [.ref (ad 5)] D cI cJ cL (wX ad cI cJ M B lo ch wt sn vo mo le ln od fe se td th cnt bw bs pl tk tc sill day lau) (fun r w' => r = 10 * sumZ wt cnt.toNat ∧ w' = (wX ad cI cJ M B lo ch wt sn vo mo le ln od fe se td th cnt bw bs pl tk tc sill day lau)) := by
  refine CI.of (cc := cX3_loadWithoutBallast) (maxL := 3) (ret := (some .int)) (own := RX3) _ 2 (by decide +kernel) rfl rfl rfl (Nat.le_of_ble_eq_true rfl) rfl (fun sz9 p9 e9 s9 m9 a9 b9 h9 c9 C hr => ?_)
  refine Z.iconst C dX3_loadWithoutBallast_0 ?_
  refine Z.istore_n C dX3_loadWithoutBallast_1 (by decide) ?_
  refine Z.iconst C dX3_loadWithoutBallast_2 ?_
  refine Z.istore_n C dX3_loadWithoutBallast_3 (by decide) ?_
  refine Z.loop (α := Nat) (fun _ => (wX ad cI cJ M B lo ch wt sn vo mo le ln od fe se td th cnt bw bs pl tk tc sill day lau)) (fun k => [.ref (ad 5), .int (iI (sumZ wt k)), .int (iI k)]) (fun k => k ≤ cnt.toNat) (fun k => cnt.toNat - k) 0 (by omega) rfl rfl (fun k hk ih => ?_)
  refine Z.iload_n C dX3_loadWithoutBallast_4 rfl ?_
  refine Z.aload_n C dX3_loadWithoutBallast_5 rfl ?_
  refine Z.getf C 5 2 iw_X3_loadWithoutBallast_3 rfl rfl (by decide) (by decide +kernel) rfl dX3_loadWithoutBallast_6 ?_
  refine Z.icmpge C 27 dX3_loadWithoutBallast_9 (by decide) (⟨by omega, by omega⟩) (⟨by omega, by omega⟩) (fun h => ?_) (fun h => ?_)
  · refine Z.bipush C dX3_loadWithoutBallast_27 (by decide) ?_
    refine Z.iload_n C dX3_loadWithoutBallast_29 rfl ?_
    refine Z.imul C dX3_loadWithoutBallast_30 ?_
    exact Z.iret C hr dX3_loadWithoutBallast_31 (⟨by rw [show k = cnt.toNat by omega], rfl⟩)
  · refine Z.iload_n C dX3_loadWithoutBallast_12 rfl ?_
    refine Z.aload_n C dX3_loadWithoutBallast_13 rfl ?_
    refine Z.getf C 5 0 iw_X3_loadWithoutBallast_3 rfl rfl (by decide) (by decide +kernel) rfl dX3_loadWithoutBallast_14 ?_
    refine Z.iload_n C dX3_loadWithoutBallast_17 rfl ?_
    refine Z.iald C 25 rfl (by omega) (by omega) (by decide) dX3_loadWithoutBallast_18 ?_
    refine Z.iadd C dX3_loadWithoutBallast_19 ?_
    refine Z.istore_n C dX3_loadWithoutBallast_20 (by decide) ?_
    refine Z.iinc C dX3_loadWithoutBallast_21 rfl (by decide) ?_
    refine Z.goto C 4 dX3_loadWithoutBallast_24 (by decide) ?_
    exact ih (k + 1) (by omega) (by omega)
set_option maxRecDepth 20000 in
theorem iw_X3_momentWithoutBallast_3 : ∀ w ∈ u_ws RX3 TX3 5, w ∈ wsX3_momentWithoutBallast := by decide +kernel
abbrev rmX3_momentWithoutBallast : Room := { frames := 0, cells := 0, slots := 0, locals := 0 }
set_option maxHeartbeats 4000000 in
set_option maxRecDepth 100000 in
theorem c_momentWithoutBallast (l : Launch) (D : va_G) (cI cJ cL : ClassId) (ad : Nat → Nat) (M B : Int → Int → Int) (lo ch wt sn vo mo le ln od fe se td th : Int → Int) (cnt bw bs pl tk tc sill day lau : Int) (hc0 : 0 ≤ cnt) (hc1 : cnt ≤ 16) : CI l yX3_momentWithoutBallast wsX3_momentWithoutBallast rmX3_momentWithoutBallast [.ref (ad 5)] D cI cJ cL (wX ad cI cJ M B lo ch wt sn vo mo le ln od fe se td th cnt bw bs pl tk tc sill day lau) (fun r w' => r = msZ wt sn cnt.toNat ∧ w' = (wX ad cI cJ M B lo ch wt sn vo mo le ln od fe se td th cnt bw bs pl tk tc sill day lau)) := by
  refine CI.of (cc := cX3_momentWithoutBallast) (maxL := 3) (ret := (some .int)) (own := RX3) _ 2 (by decide +kernel) rfl rfl rfl (Nat.le_of_ble_eq_true rfl) rfl (fun sz9 p9 e9 s9 m9 a9 b9 h9 c9 C hr => ?_)
  refine Z.iconst C dX3_momentWithoutBallast_0 ?_
  refine Z.istore_n C dX3_momentWithoutBallast_1 (by decide) ?_
  refine Z.iconst C dX3_momentWithoutBallast_2 ?_
  refine Z.istore_n C dX3_momentWithoutBallast_3 (by decide) ?_
  refine Z.loop (α := Nat) (fun _ => (wX ad cI cJ M B lo ch wt sn vo mo le ln od fe se td th cnt bw bs pl tk tc sill day lau)) (fun k => [.ref (ad 5), .int (iI (msZ wt sn k)), .int (iI k)]) (fun k => k ≤ cnt.toNat) (fun k => cnt.toNat - k) 0 (by omega) rfl rfl (fun k hk ih => ?_)
  refine Z.iload_n C dX3_momentWithoutBallast_4 rfl ?_
  refine Z.aload_n C dX3_momentWithoutBallast_5 rfl ?_
  refine Z.getf C 5 2 iw_X3_momentWithoutBallast_3 rfl rfl (by decide) (by decide +kernel) rfl dX3_momentWithoutBallast_6 ?_
  refine Z.icmpge C 37 dX3_momentWithoutBallast_9 (by decide) (⟨by omega, by omega⟩) (⟨by omega, by omega⟩) (fun h => ?_) (fun h => ?_)
  · refine Z.iload_n C dX3_momentWithoutBallast_37 rfl ?_
    exact Z.iret C hr dX3_momentWithoutBallast_38 (⟨by rw [show k = cnt.toNat by omega], rfl⟩)
  · refine Z.iload_n C dX3_momentWithoutBallast_12 rfl ?_
    refine Z.aload_n C dX3_momentWithoutBallast_13 rfl ?_
    refine Z.getf C 5 0 iw_X3_momentWithoutBallast_3 rfl rfl (by decide) (by decide +kernel) rfl dX3_momentWithoutBallast_14 ?_
    refine Z.iload_n C dX3_momentWithoutBallast_17 rfl ?_
    refine Z.iald C 25 rfl (by omega) (by omega) (by decide) dX3_momentWithoutBallast_18 ?_
    refine Z.bipush C dX3_momentWithoutBallast_19 (by decide) ?_
    refine Z.imul C dX3_momentWithoutBallast_21 ?_
    refine Z.aload_n C dX3_momentWithoutBallast_22 rfl ?_
    refine Z.getf C 5 1 iw_X3_momentWithoutBallast_3 rfl rfl (by decide) (by decide +kernel) rfl dX3_momentWithoutBallast_23 ?_
    refine Z.iload_n C dX3_momentWithoutBallast_26 rfl ?_
    refine Z.iald C 26 rfl (by omega) (by omega) (by decide) dX3_momentWithoutBallast_27 ?_
    refine Z.imul C dX3_momentWithoutBallast_28 ?_
    refine Z.iadd C dX3_momentWithoutBallast_29 ?_
    refine Z.istore_n C dX3_momentWithoutBallast_30 (by decide) ?_
    refine Z.iinc C dX3_momentWithoutBallast_31 rfl (by decide) ?_
    refine Z.goto C 4 dX3_momentWithoutBallast_34 (by decide) ?_
    exact ih (k + 1) (by omega) (by omega)
set_option maxRecDepth 20000 in
theorem iw_X3_wholeLoad_3 : ∀ w ∈ u_ws RX3 TX3 5, w ∈ wsX3_wholeLoad := by decide +kernel
abbrev rmX3_wholeLoad : Room := { frames := 1, cells := 0, slots := 0, locals := 22 }
set_option maxHeartbeats 4000000 in
set_option maxRecDepth 100000 in
theorem c_wholeLoad (l : Launch) (D : va_G) (cI cJ cL : ClassId) (ad : Nat → Nat) (M B : Int → Int → Int) (lo ch wt sn vo mo le ln od fe se td th : Int → Int) (cnt bw bs pl tk tc sill day lau : Int) (hc0 : 0 ≤ cnt) (hc1 : cnt ≤ 16) : CI l yX3_wholeLoad wsX3_wholeLoad rmX3_wholeLoad [.ref (ad 5)] D cI cJ cL (wX ad cI cJ M B lo ch wt sn vo mo le ln od fe se td th cnt bw bs pl tk tc sill day lau) (fun r w' => r = 10 * sumZ wt cnt.toNat + 10 * bw ∧ w' = (wX ad cI cJ M B lo ch wt sn vo mo le ln od fe se td th cnt bw bs pl tk tc sill day lau)) := by
  refine CI.of (cc := cX3_wholeLoad) (maxL := 1) (ret := (some .int)) (own := RX3) _ 0 (by decide +kernel) rfl rfl rfl (Nat.le_of_ble_eq_true rfl) rfl (fun sz9 p9 e9 s9 m9 a9 b9 h9 c9 C hr => ?_)
  refine Z.aload_n C dX3_wholeLoad_0 rfl ?_
  refine Z.cVId C 5 0 (c_loadWithoutBallast l D cI cJ cL ad M B lo ch wt sn vo mo le ln od fe se td th cnt bw bs pl tk tc sill day lau hc0 hc1) rfl rfl gX3_wholeLoad_X3_loadWithoutBallast rfl rfl rfl (by decide +kernel) ⟨Nat.le_of_ble_eq_true rfl, Nat.le_of_ble_eq_true rfl⟩ rfl rfl (Nat.le_of_ble_eq_true rfl) ⟨Nat.le_of_ble_eq_true rfl, Nat.le_of_ble_eq_true rfl⟩ dX3_wholeLoad_1 ?_
  refine Z.bipush C dX3_wholeLoad_4 (by decide) ?_
  refine Z.aload_n C dX3_wholeLoad_6 rfl ?_
  refine Z.getf C 5 3 iw_X3_wholeLoad_3 rfl rfl (by decide) (by decide +kernel) rfl dX3_wholeLoad_7 ?_
  refine Z.imul C dX3_wholeLoad_10 ?_
  refine Z.iadd C dX3_wholeLoad_11 ?_
  exact Z.iret C hr dX3_wholeLoad_12 (⟨rfl, rfl⟩)
set_option maxRecDepth 20000 in
theorem iw_X3_wholeMoment_3 : ∀ w ∈ u_ws RX3 TX3 5, w ∈ wsX3_wholeMoment := by decide +kernel
abbrev rmX3_wholeMoment : Room := { frames := 1, cells := 0, slots := 0, locals := 22 }
set_option maxHeartbeats 4000000 in
set_option maxRecDepth 100000 in
theorem c_wholeMoment (l : Launch) (D : va_G) (cI cJ cL : ClassId) (ad : Nat → Nat) (M B : Int → Int → Int) (lo ch wt sn vo mo le ln od fe se td th : Int → Int) (cnt bw bs pl tk tc sill day lau : Int) (hc0 : 0 ≤ cnt) (hc1 : cnt ≤ 16) : CI l yX3_wholeMoment wsX3_wholeMoment rmX3_wholeMoment [.ref (ad 5)] D cI cJ cL (wX ad cI cJ M B lo ch wt sn vo mo le ln od fe se td th cnt bw bs pl tk tc sill day lau) (fun r w' => r = msZ wt sn cnt.toNat + bw * 20 * bs ∧ w' = (wX ad cI cJ M B lo ch wt sn vo mo le ln od fe se td th cnt bw bs pl tk tc sill day lau)) := by
  refine CI.of (cc := cX3_wholeMoment) (maxL := 1) (ret := (some .int)) (own := RX3) _ 0 (by decide +kernel) rfl rfl rfl (Nat.le_of_ble_eq_true rfl) rfl (fun sz9 p9 e9 s9 m9 a9 b9 h9 c9 C hr => ?_)
  refine Z.aload_n C dX3_wholeMoment_0 rfl ?_
  refine Z.cVId C 5 0 (c_momentWithoutBallast l D cI cJ cL ad M B lo ch wt sn vo mo le ln od fe se td th cnt bw bs pl tk tc sill day lau hc0 hc1) rfl rfl gX3_wholeMoment_X3_momentWithoutBallast rfl rfl rfl (by decide +kernel) ⟨Nat.le_of_ble_eq_true rfl, Nat.le_of_ble_eq_true rfl⟩ rfl rfl (Nat.le_of_ble_eq_true rfl) ⟨Nat.le_of_ble_eq_true rfl, Nat.le_of_ble_eq_true rfl⟩ dX3_wholeMoment_1 ?_
  refine Z.aload_n C dX3_wholeMoment_4 rfl ?_
  refine Z.getf C 5 3 iw_X3_wholeMoment_3 rfl rfl (by decide) (by decide +kernel) rfl dX3_wholeMoment_5 ?_
  refine Z.bipush C dX3_wholeMoment_8 (by decide) ?_
  refine Z.imul C dX3_wholeMoment_10 ?_
  refine Z.aload_n C dX3_wholeMoment_11 rfl ?_
  refine Z.getf C 5 4 iw_X3_wholeMoment_3 rfl rfl (by decide) (by decide +kernel) rfl dX3_wholeMoment_12 ?_
  refine Z.imul C dX3_wholeMoment_15 ?_
  refine Z.iadd C dX3_wholeMoment_16 ?_
  exact Z.iret C hr dX3_wholeMoment_17 (⟨rfl, rfl⟩)
