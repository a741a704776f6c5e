/-! ===== Buoyancy ===== -/
def FAR : Int := 100000000
def drZ (V : Int → Int) (load : Int) : Int := if load ≤ V 0 then 0 else if load ≤ V 1 then 1 else if load ≤ V 2 then 2 else if load ≤ V 3 then 3 else if load ≤ V 4 then 4 else if load ≤ V 5 then 5 else -1
theorem drZ_first {V : Int → Int} {load : Int} {k : Nat} (hk : k ≤ 5) (h : ∀ j : Nat, j < k → V j < load) (hl : load ≤ V k) : drZ V load = k := by
  have g0 := h 0
  have g1 := h 1
  have g2 := h 2
  have g3 := h 3
  have g4 := h 4
  unfold drZ
  rcases (show k = 0 ∨ k = 1 ∨ k = 2 ∨ k = 3 ∨ k = 4 ∨ k = 5 by omega) with rfl | rfl | rfl | rfl | rfl | rfl <;> simp at g0 g1 g2 g3 g4 hl ⊢ <;> (repeat' split) <;> omega
theorem drZ_none {V : Int → Int} {load : Int} (h : ∀ j : Nat, j < 6 → V j < load) : drZ V load = -1 := by
  have g0 := h 0 (by omega)
  have g1 := h 1 (by omega)
  have g2 := h 2 (by omega)
  have g3 := h 3 (by omega)
  have g4 := h 4 (by omega)
  have g5 := h 5 (by omega)
  unfold drZ
  simp at g0 g1 g2 g3 g4 g5
  (repeat' split) <;> omega
theorem drZ_bd (V : Int → Int) (load : Int) : -1 ≤ drZ V load ∧ drZ V load ≤ 5 := by
  unfold drZ
  (repeat' split) <;> omega
theorem drZ_mono {V : Int → Int} {a b : Int} (hab : a ≤ b) (h : drZ V a = -1) : drZ V b = -1 := by
  unfold drZ at h ⊢
  (repeat' split at h) <;> (repeat' split) <;> omega
theorem drZ_cong {V V' : Int → Int} {a : Int} (h : ∀ j : Nat, j ≤ 5 → V j = V' j) : drZ V a = drZ V' a := by
  have g0 := h 0 (by omega)
  have g1 := h 1 (by omega)
  have g2 := h 2 (by omega)
  have g3 := h 3 (by omega)
  have g4 := h 4 (by omega)
  have g5 := h 5 (by omega)
  simp at g0 g1 g2 g3 g4 g5
  unfold drZ
  rw [g0, g1, g2, g3, g4, g5]
def VM (M : Int → Int → Int) : Int → Int := fun w => volZ M w.toNat 8
def MM (M : Int → Int → Int) : Int → Int := fun w => momZ M w.toNat 8
def hfZ (mo by_ : Int) : Int := if by_ = 0 then 0 else 100 * mo / by_
def tmZ (M : Int → Int → Int) (load mo : Int) : Int := if drZ (VM M) load = -1 then 0 else hfZ mo load - hfZ (MM M (drZ (VM M) load)) (VM M (drZ (VM M) load))
def itsZ (M : Int → Int → Int) (load mo : Int) : Int := if drZ (VM M) load = -1 then FAR else absZ (tmZ M load mo)
theorem momZ_bd {M : Int → Int → Int} (hM : hOK M) {w : Nat} (hw : w ≤ 5) : ∀ k : Nat, k ≤ 8 → 0 ≤ momZ M w k ∧ momZ M w k ≤ 15 * volZ M w k
  | 0, _ => by simp [momZ, volZ]
  | k + 1, hk => by
    have ih := momZ_bd hM hw k (by omega)
    have h1 := areaZ_bd hM k w
    have h2 := areaZ_bd hM (k + 1) w
    simp only [momZ, volZ]
    rcases (show k = 0 ∨ k = 1 ∨ k = 2 ∨ k = 3 ∨ k = 4 ∨ k = 5 ∨ k = 6 ∨ k = 7 by omega) with rfl | rfl | rfl | rfl | rfl | rfl | rfl | rfl <;> simp at ih h1 h2 ⊢ <;> omega
theorem VM_bd {M : Int → Int → Int} (hM : hOK M) {w : Int} (h0 : 0 ≤ w) (h1 : w ≤ 5) : 0 ≤ VM M w ∧ VM M w ≤ 32000 := by
  have := volZ_bd hM (w := w.toNat) (by omega) 8
  unfold VM
  omega
theorem MM_bd {M : Int → Int → Int} (hM : hOK M) {w : Int} (h0 : 0 ≤ w) (h1 : w ≤ 5) : 0 ≤ MM M w ∧ MM M w ≤ 15 * VM M w := momZ_bd hM (by omega) 8 (by omega)
theorem hfZ_bd {mo by_ k : Int} (h0 : 0 ≤ mo) (hb : 0 ≤ by_) (hk : 0 ≤ k) (h : mo ≤ k * by_) : 0 ≤ hfZ mo by_ ∧ hfZ mo by_ ≤ 100 * k := by
  unfold hfZ
  split
  · omega
  · refine ⟨Int.ediv_nonneg (by omega) hb, ?_⟩
    have : 100 * mo ≤ 100 * k * by_ := by rw [Int.mul_assoc]; omega
    have hb' : 0 < by_ := by omega
    exact Int.le_of_lt_add_one ((Int.ediv_lt_iff_lt_mul hb').mpr (by rw [Int.add_mul]; omega))
theorem tmZ_bd {M : Int → Int → Int} (hM : hOK M) {load mo : Int} (h0 : 0 ≤ mo) (hl : 0 ≤ load) (h : mo ≤ 16 * load) : -1500 ≤ tmZ M load mo ∧ tmZ M load mo ≤ 1600 := by
  unfold tmZ
  have hd := drZ_bd (VM M) load
  split
  · omega
  · have h1 := hfZ_bd h0 hl (k := 16) (by omega) h
    have hv := VM_bd hM (w := drZ (VM M) load) (by omega) (by omega)
    have hm := MM_bd hM (w := drZ (VM M) load) (by omega) (by omega)
    have h2 := hfZ_bd hm.1 hv.1 (k := 15) (by omega) hm.2
    omega
def mP (M : Int → Int → Int) (vo mo : Int → Int) (k : Nat) : Prop := ∀ j : Nat, j < k → vo j = VM M j ∧ mo j = MM M j
theorem mP.V {M : Int → Int → Int} {vo mo : Int → Int} (h : mP M vo mo 6) {x : Int} (h0 : 0 ≤ x) (h1 : x ≤ 5) : vo x = VM M x ∧ mo x = MM M x := by
  have := h x.toNat (by omega)
  rw [Int.toNat_of_nonneg h0] at this
  exact this
set_option maxRecDepth 20000 in
theorem iw_X2_measure_2 : ∀ w ∈ u_ws RX2 TX2 2, w ∈ wsX2_measure := by decide +kernel
abbrev rmX2_measure : Room := { frames := 2, cells := 0, slots := 0, locals := 48 }
set_option maxHeartbeats 4000000 in
set_option maxRecDepth 100000 in
theorem c_measure (l : Launch) (D : va_G) (cI cJ cL : ClassId) (ad : Nat → Nat) (M B : Int → Int → Int) (lo ch wt sn vo mo le ln od fe se td th : Int → Int) (cnt bw bs pl tk tc sill day lau : Int) (hM : hOK M) : CV l yX2_measure wsX2_measure rmX2_measure [.ref (ad 6), .ref (ad 1)] D cI cJ cL (wX ad cI cJ M B lo ch wt sn vo mo le ln od fe se td th cnt bw bs pl tk tc sill day lau) (fun w' => ∃ vo' mo' : Int → Int, mP M vo' mo' 6 ∧ w' = (wX ad cI cJ M B lo ch wt sn vo' mo' le ln od fe se td th cnt bw bs pl tk tc sill day lau)) := by
  refine CV.of (cc := cX2_measure) (maxL := 3) (ret := none) (own := RX2) _ 1 (by decide +kernel) rfl rfl rfl (Nat.le_of_ble_eq_true rfl) rfl (fun sz9 p9 e9 s9 m9 a9 b9 h9 c9 C hr => ?_)
  refine Z.iconst C dX2_measure_0 ?_
  refine Z.istore_n C dX2_measure_1 (by decide) ?_
  refine Z.loop (α := Nat × (Int → Int) × (Int → Int)) (fun x => (wX ad cI cJ M B lo ch wt sn x.2.1 x.2.2 le ln od fe se td th cnt bw bs pl tk tc sill day lau)) (fun x => [.ref (ad 6), .ref (ad 1), .int (iI x.1)]) (fun x => x.1 ≤ 6 ∧ mP M x.2.1 x.2.2 x.1) (fun x => 6 - x.1) (0, vo, mo) ⟨Nat.zero_le _, fun j h => absurd h (Nat.not_lt_zero _)⟩ rfl rfl (fun x hk ih => ?_)
  obtain ⟨k, vo1, mo1⟩ := x
  obtain ⟨hk, hm⟩ := hk
  dsimp only at hk hm ih ⊢
  refine Z.iload_n C dX2_measure_2 rfl ?_
  refine Z.bipush C dX2_measure_3 (by decide) ?_
  refine Z.icmpge C 36 dX2_measure_5 (by decide) (⟨by omega, by omega⟩) (⟨by omega, by omega⟩) (fun h => ?_) (fun h => ?_)
  · exact Z.vret C hr dX2_measure_36 ⟨vo1, mo1, by rw [show k = 6 by omega] at hm; exact hm, rfl⟩
  · refine Z.aload_n C dX2_measure_8 rfl ?_
    refine Z.getf C 6 0 iw_X2_measure_2 rfl rfl (by decide) (by decide +kernel) rfl dX2_measure_9 ?_
    refine Z.iload_n C dX2_measure_12 rfl ?_
    refine Z.aload_n C dX2_measure_13 rfl ?_
    refine Z.iload_n C dX2_measure_14 rfl ?_
    refine Z.cVNId C 1 (host := RX6) 1 (c_volumeUpTo l D cI cJ cL ad M B lo ch wt sn vo1 mo1 le ln od fe se td th cnt bw bs pl tk tc sill day lau k (by omega)) rfl rfl gX2_measure_X4_volumeUpTo_n18 (by decide +kernel) (by decide +kernel) (by decide +kernel) (by decide +kernel) rfl rfl rfl (by decide +kernel) ⟨Nat.le_of_ble_eq_true rfl, Nat.le_of_ble_eq_true rfl⟩ rfl rfl (Nat.le_of_ble_eq_true rfl) ⟨Nat.le_of_ble_eq_true rfl, Nat.le_of_ble_eq_true rfl⟩ dX2_measure_15 ?_
    refine Z.iast C 27 rfl (by omega) (by omega) (by decide) dX2_measure_18 wX_a27 ?_
    refine Z.aload_n C dX2_measure_19 rfl ?_
    refine Z.getf C 6 1 iw_X2_measure_2 rfl rfl (by decide) (by decide +kernel) rfl dX2_measure_20 ?_
    refine Z.iload_n C dX2_measure_23 rfl ?_
    refine Z.aload_n C dX2_measure_24 rfl ?_
    refine Z.iload_n C dX2_measure_25 rfl ?_
    refine Z.cVNId C 1 (host := RX6) 1 (c_momentUpTo l D cI cJ cL ad M B lo ch wt sn _ mo1 le ln od fe se td th cnt bw bs pl tk tc sill day lau k (by omega)) rfl rfl gX2_measure_X4_momentUpTo_n24 (by decide +kernel) (by decide +kernel) (by decide +kernel) (by decide +kernel) rfl rfl rfl (by decide +kernel) ⟨Nat.le_of_ble_eq_true rfl, Nat.le_of_ble_eq_true rfl⟩ rfl rfl (Nat.le_of_ble_eq_true rfl) ⟨Nat.le_of_ble_eq_true rfl, Nat.le_of_ble_eq_true rfl⟩ dX2_measure_26 ?_
    refine Z.iast C 28 rfl (by omega) (by omega) (by decide) dX2_measure_29 wX_a28 ?_
    refine Z.iinc C dX2_measure_30 rfl (by decide) ?_
    refine Z.goto C 2 dX2_measure_33 (by decide) ?_
    refine ih (k + 1, zset vo1 k (volZ M k 8), zset mo1 k (momZ M k 8)) ⟨by dsimp only; omega, fun j hj => ?_⟩ (by dsimp only; omega)
    dsimp only at hj ⊢
    by_cases e : j = k
    · subst e
      rw [zset_eq, zset_eq]
      unfold VM MM
      exact ⟨by rw [Int.toNat_natCast], by rw [Int.toNat_natCast]⟩
    · rw [zset_ne _ (by omega), zset_ne _ (by omega)]
      exact hm j (by omega)
set_option maxRecDepth 20000 in
theorem iw_X2_draughtUnder_2 : ∀ w ∈ u_ws RX2 TX2 2, w ∈ wsX2_draughtUnder := by decide +kernel
abbrev rmX2_draughtUnder : Room := { frames := 0, cells := 0, slots := 0, locals := 0 }
set_option maxHeartbeats 4000000 in
set_option maxRecDepth 100000 in
theorem c_draughtUnder (l : Launch) (D : va_G) (cI cJ cL : ClassId) (ad : Nat → Nat) (M B : Int → Int → Int) (lo ch wt sn vo mo le ln od fe se td th : Int → Int) (cnt bw bs pl tk tc sill day lau : Int) (hM : hOK M) (hm : mP M vo mo 6) (x : Int) (hx0 : 0 ≤ x) (hx1 : x ≤ 2000000) : CI l yX2_draughtUnder wsX2_draughtUnder rmX2_draughtUnder [.ref (ad 6), .int (iI x)] D cI cJ cL (wX ad cI cJ M B lo ch wt sn vo mo le ln od fe se td th cnt bw bs pl tk tc sill day lau) (fun r w' => r = drZ (VM M) x ∧ w' = (wX ad cI cJ M B lo ch wt sn vo mo le ln od fe se td th cnt bw bs pl tk tc sill day lau)) := by
  refine CI.of (cc := cX2_draughtUnder) (maxL := 3) (ret := (some .int)) (own := RX2) _ 1 (by decide +kernel) rfl rfl rfl (Nat.le_of_ble_eq_true rfl) rfl (fun sz9 p9 e9 s9 m9 a9 b9 h9 c9 C hr => ?_)
  refine Z.iconst C dX2_draughtUnder_0 ?_
  refine Z.istore_n C dX2_draughtUnder_1 (by decide) ?_
  refine Z.loop (α := Nat) (fun _ => (wX ad cI cJ M B lo ch wt sn vo mo le ln od fe se td th cnt bw bs pl tk tc sill day lau)) (fun k => [.ref (ad 6), .int (iI x), .int (iI k)]) (fun k => k ≤ 6 ∧ ∀ j : Nat, j < k → VM M j < x) (fun k => 6 - k) 0 ⟨Nat.zero_le _, fun j h => absurd h (Nat.not_lt_zero _)⟩ rfl rfl (fun k hk ih => ?_)
  obtain ⟨hk, hj⟩ := hk
  refine Z.iload_n C dX2_draughtUnder_2 rfl ?_
  refine Z.bipush C dX2_draughtUnder_3 (by decide) ?_
  refine Z.icmpge C 26 dX2_draughtUnder_5 (by decide) (⟨by omega, by omega⟩) (⟨by omega, by omega⟩) (fun h => ?_) (fun h => ?_)
  · refine Z.iconst C dX2_draughtUnder_26 ?_
    exact Z.iret C hr dX2_draughtUnder_27 (⟨by rw [drZ_none (fun j q => hj j (by omega))], rfl⟩)
  · have b1 := VM_bd hM (w := k) (by omega) (by omega)
    have b2 := (hm k (by omega)).1
    refine Z.aload_n C dX2_draughtUnder_8 rfl ?_
    refine Z.getf C 6 0 iw_X2_draughtUnder_2 rfl rfl (by decide) (by decide +kernel) rfl dX2_draughtUnder_9 ?_
    refine Z.iload_n C dX2_draughtUnder_12 rfl ?_
    refine Z.iald C 27 rfl (by omega) (by omega) (by decide) dX2_draughtUnder_13 ?_
    refine Z.iload_n C dX2_draughtUnder_14 rfl ?_
    refine Z.icmplt C 20 dX2_draughtUnder_15 (by decide) (⟨by omega, by omega⟩) (⟨by omega, by omega⟩) (fun q => ?_) (fun q => ?_)
    · refine Z.iinc C dX2_draughtUnder_20 rfl (by decide) ?_
      refine Z.goto C 2 dX2_draughtUnder_23 (by decide) ?_
      refine ih (k + 1) ⟨by omega, fun j z => ?_⟩ (by omega)
      by_cases e : j = k
      · rw [e]; omega
      · exact hj j (by omega)
    · refine Z.iload_n C dX2_draughtUnder_18 rfl ?_
      exact Z.iret C hr dX2_draughtUnder_19 (⟨by rw [drZ_first (k := k) (by omega) hj (by omega)], rfl⟩)
abbrev rmX2_hundredfold : Room := { frames := 1, cells := 0, slots := 0, locals := 22 }
set_option maxHeartbeats 4000000 in
set_option maxRecDepth 100000 in
theorem c_hundredfold (l : Launch) (D : va_G) (cI cJ cL : ClassId) (a b : Int) (ha : 0 ≤ a) (ha2 : a ≤ 20000000) (hb : 0 ≤ b) (hb2 : b ≤ 2147483647) : CI l yX2_hundredfold wsX2_hundredfold rmX2_hundredfold [.int (iI a), .int (iI b)] D cI cJ cL [] (fun r w' => r = hfZ a b ∧ w' = []) := by
  refine CI.of (cc := cX2_hundredfold) (maxL := 2) (ret := (some .int)) (own := RX2) _ 0 (by decide +kernel) rfl rfl rfl (Nat.le_of_ble_eq_true rfl) rfl (fun sz9 p9 e9 s9 m9 a9 b9 h9 c9 C hr => ?_)
  refine Z.iload_n C dX2_hundredfold_0 rfl ?_
  refine Z.ifne C 8 dX2_hundredfold_1 (by decide) (⟨by omega, by omega⟩) (fun h => ?_) (fun h => ?_)
  · refine Z.bipush C dX2_hundredfold_8 (by decide) ?_
    refine Z.iload_n C dX2_hundredfold_10 rfl ?_
    refine Z.imul C dX2_hundredfold_11 ?_
    refine Z.iload_n C dX2_hundredfold_12 rfl ?_
    refine Z.cSIp C 2 (c_floorDiv l D cI cJ cL (100 * a) b (by omega) (by omega) (by omega) (by omega)) gX2_hundredfold_J9_floorDiv_7cf53 rfl rfl rfl (by decide +kernel) ⟨Nat.le_of_ble_eq_true rfl, Nat.le_of_ble_eq_true rfl⟩ rfl rfl (Nat.le_of_ble_eq_true rfl) ⟨Nat.le_of_ble_eq_true rfl, Nat.le_of_ble_eq_true rfl⟩ dX2_hundredfold_13 ?_
    exact Z.iret C hr dX2_hundredfold_16 (⟨by unfold hfZ; rw [if_neg h], rfl⟩)
  · refine Z.iconst C dX2_hundredfold_4 ?_
    refine Z.goto C 16 dX2_hundredfold_5 (by decide) ?_
    exact Z.iret C hr dX2_hundredfold_16 (⟨by unfold hfZ; rw [if_pos h], rfl⟩)
set_option maxRecDepth 20000 in
theorem iw_X2_trimUnder_2 : ∀ w ∈ u_ws RX2 TX2 2, w ∈ wsX2_trimUnder := by decide +kernel
abbrev rmX2_trimUnder : Room := { frames := 2, cells := 0, slots := 0, locals := 43 }
set_option maxHeartbeats 4000000 in
set_option maxRecDepth 100000 in
theorem c_trimUnder (l : Launch) (D : va_G) (cI cJ cL : ClassId) (ad : Nat → Nat) (M B : Int → Int → Int) (lo ch wt sn vo mo le ln od fe se td th : Int → Int) (cnt bw bs pl tk tc sill day lau : Int) (hM : hOK M) (hm : mP M vo mo 6) (x y : Int) (hx0 : 0 ≤ x) (hx1 : x ≤ 1000000) (hy0 : 0 ≤ y) (hy1 : y ≤ 16 * x) : CI l yX2_trimUnder wsX2_trimUnder rmX2_trimUnder [.ref (ad 6), .int (iI x), .int (iI y)] D cI cJ cL (wX ad cI cJ M B lo ch wt sn vo mo le ln od fe se td th cnt bw bs pl tk tc sill day lau) (fun r w' => r = tmZ M x y ∧ w' = (wX ad cI cJ M B lo ch wt sn vo mo le ln od fe se td th cnt bw bs pl tk tc sill day lau)) := by
  refine CI.of (cc := cX2_trimUnder) (maxL := 4) (ret := (some .int)) (own := RX2) _ 1 (by decide +kernel) rfl rfl rfl (Nat.le_of_ble_eq_true rfl) rfl (fun sz9 p9 e9 s9 m9 a9 b9 h9 c9 C hr => ?_)
  refine Z.aload_n C dX2_trimUnder_0 rfl ?_
  refine Z.iload_n C dX2_trimUnder_1 rfl ?_
  refine Z.cVId C 6 1 (c_draughtUnder l D cI cJ cL ad M B lo ch wt sn vo mo le ln od fe se td th cnt bw bs pl tk tc sill day lau hM hm x hx0 (by omega)) rfl rfl gX2_trimUnder_X2_draughtUnder rfl rfl rfl (by decide +kernel) ⟨Nat.le_of_ble_eq_true rfl, Nat.le_of_ble_eq_true rfl⟩ rfl rfl (Nat.le_of_ble_eq_true rfl) ⟨Nat.le_of_ble_eq_true rfl, Nat.le_of_ble_eq_true rfl⟩ dX2_trimUnder_2 ?_
  have b0 := drZ_bd (VM M) x
  refine Z.istore_n C dX2_trimUnder_5 (by decide) ?_
  refine Z.iload_n C dX2_trimUnder_6 rfl ?_
  refine Z.iconst C dX2_trimUnder_7 ?_
  refine Z.icmpne C 13 dX2_trimUnder_8 (by decide) (⟨by omega, by omega⟩) (⟨by omega, by omega⟩) (fun h => ?_) (fun h => ?_)
  · have b1 := VM_bd hM (w := drZ (VM M) x) (by omega) (by omega)
    have b2 := MM_bd hM (w := drZ (VM M) x) (by omega) (by omega)
    obtain ⟨b3, b4⟩ := hm.V (x := drZ (VM M) x) (by omega) (by omega)
    refine Z.iload_n C dX2_trimUnder_13 rfl ?_
    refine Z.iload_n C dX2_trimUnder_14 rfl ?_
    refine Z.cSIp C 2 (c_hundredfold l D cI cJ cL y x (by omega) (by omega) (by omega) (by omega)) gX2_trimUnder_X2_hundredfold rfl rfl rfl (by decide +kernel) ⟨Nat.le_of_ble_eq_true rfl, Nat.le_of_ble_eq_true rfl⟩ rfl rfl (Nat.le_of_ble_eq_true rfl) ⟨Nat.le_of_ble_eq_true rfl, Nat.le_of_ble_eq_true rfl⟩ dX2_trimUnder_15 ?_
    refine Z.aload_n C dX2_trimUnder_18 rfl ?_
    refine Z.getf C 6 1 iw_X2_trimUnder_2 rfl rfl (by decide) (by decide +kernel) rfl dX2_trimUnder_19 ?_
    refine Z.iload_n C dX2_trimUnder_22 rfl ?_
    refine Z.iald C 28 rfl (by omega) (by omega) (by decide) dX2_trimUnder_23 ?_
    refine Z.aload_n C dX2_trimUnder_24 rfl ?_
    refine Z.getf C 6 0 iw_X2_trimUnder_2 rfl rfl (by decide) (by decide +kernel) rfl dX2_trimUnder_25 ?_
    refine Z.iload_n C dX2_trimUnder_28 rfl ?_
    refine Z.iald C 27 rfl (by omega) (by omega) (by decide) dX2_trimUnder_29 ?_
    refine Z.cSIp C 2 (c_hundredfold l D cI cJ cL (mo (drZ (VM M) x)) (vo (drZ (VM M) x)) (by omega) (by omega) (by omega) (by omega)) gX2_trimUnder_X2_hundredfold rfl rfl rfl (by decide +kernel) ⟨Nat.le_of_ble_eq_true rfl, Nat.le_of_ble_eq_true rfl⟩ rfl rfl (Nat.le_of_ble_eq_true rfl) ⟨Nat.le_of_ble_eq_true rfl, Nat.le_of_ble_eq_true rfl⟩ dX2_trimUnder_30 ?_
    refine Z.isub C dX2_trimUnder_33 ?_
    exact Z.iret C hr dX2_trimUnder_34 (⟨by unfold tmZ; rw [if_neg h, b3, b4], rfl⟩)
  · refine Z.iconst C dX2_trimUnder_11 ?_
    exact Z.iret C hr dX2_trimUnder_12 (⟨by unfold tmZ; rw [if_pos h], rfl⟩)
