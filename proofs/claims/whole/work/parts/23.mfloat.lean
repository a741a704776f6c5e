/-! ===== the reference: floating ===== -/
def ldZ (f : Int → Int) : Nat → Int
  | 0 => 0
  | k + 1 => ldZ f k + 10 * f k
def drD (V : Int → Int) (load : Int) : Nat → Int
  | 0 => -1
  | k + 1 => if load ≤ V ((5 - k : Nat) : Int) then ((5 - k : Nat) : Int) else drD V load k
theorem drD_6 (V : Int → Int) (load : Int) : drD V load 6 = drZ V load := rfl
theorem drD_step {V : Int → Int} {load : Int} {s : Nat} (hs : s ≤ 5) : drD V load (6 - s) = if load ≤ V s then (s : Int) else drD V load (5 - s) := by
  obtain ⟨j, hj⟩ : ∃ j, 6 - s = j + 1 := ⟨5 - s, by omega⟩
  have e : 5 - s = j := by omega
  have e2 : 5 - j = s := by omega
  rw [hj, e]
  simp only [drD]
  rw [e2]
theorem drD_bd (V : Int → Int) (load : Int) : ∀ k : Nat, -1 ≤ drD V load k ∧ drD V load k ≤ 5
  | 0 => by simp [drD]
  | k + 1 => by
    have := drD_bd V load k
    simp only [drD]
    split <;> omega
theorem zset_zset (f : Int → Int) (k v v' : Int) : zset (zset f k v) k v' = zset f k v' := by
  funext j
  by_cases e : j = k
  · rw [e, zset_eq, zset_eq]
  · rw [zset_ne _ e, zset_ne _ e, zset_ne _ e]
theorem zset_self (f : Int → Int) (k : Int) : zset f k (f k) = f := by
  funext j
  by_cases e : j = k
  · rw [e, zset_eq]
  · rw [zset_ne _ e]
set_option maxRecDepth 20000 in
theorem iw_X7_loadNow_7 : ∀ w ∈ u_ws RX7 TX7 16, w ∈ wsX7_loadNow := by decide +kernel
abbrev rmX7_loadNow : Room := { frames := 0, cells := 0, slots := 0, locals := 0 }
set_option maxHeartbeats 4000000 in
set_option maxRecDepth 100000 in
theorem m_loadNow (l : Launch) (D : va_G) (cI cJ cL : ClassId) (ad : Nat → Nat) (hf at_ wg lf cf dy ti bh ln : Int → Int) (thr nw lg nt sl dd il : Int) : CI l yX7_loadNow wsX7_loadNow rmX7_loadNow [.ref (ad 0)] D cI cJ cL (wM ad cI hf at_ wg lf cf dy ti bh ln thr nw lg nt sl dd il) (fun r w' => r = ldZ wg 17 ∧ w' = (wM ad cI hf at_ wg lf cf dy ti bh ln thr nw lg nt sl dd il)) := by
  refine CI.of (cc := cX7_loadNow) (maxL := 3) (ret := (some .int)) (own := RX7) _ 2 (by decide +kernel) rfl rfl rfl (Nat.le_of_ble_eq_true rfl) rfl (fun sz9 p9 e9 s9 m9 a9 b9 h9 c9 C hr => ?_)
  refine Z.iconst C dX7_loadNow_0 ?_
  refine Z.istore_n C dX7_loadNow_1 (by decide) ?_
  refine Z.iconst C dX7_loadNow_2 ?_
  refine Z.istore_n C dX7_loadNow_3 (by decide) ?_
  refine Z.loop (α := Nat) (fun _ => (wM ad cI hf at_ wg lf cf dy ti bh ln thr nw lg nt sl dd il)) (fun k => [.ref (ad 0), .int (iI (ldZ wg k)), .int (iI k)]) (fun k => k ≤ 17) (fun k => 17 - k) 0 (by omega) rfl rfl (fun k hk ih => ?_)
  refine Z.iload_n C dX7_loadNow_4 rfl ?_
  refine Z.bipush C dX7_loadNow_5 (by decide) ?_
  refine Z.icmpgt C 28 dX7_loadNow_7 (by decide) (⟨by omega, by omega⟩) (⟨by omega, by omega⟩) (fun h => ?_) (fun h => ?_)
  · refine Z.iload_n C dX7_loadNow_28 rfl ?_
    exact Z.iret C hr dX7_loadNow_29 (⟨by rw [show k = 17 by omega], rfl⟩)
  · refine Z.iload_n C dX7_loadNow_10 rfl ?_
    refine Z.bipush C dX7_loadNow_11 (by decide) ?_
    refine Z.aload_n C dX7_loadNow_13 rfl ?_
    refine Z.getf C 0 4 iw_X7_loadNow_7 rfl rfl (by decide) (by decide +kernel) rfl dX7_loadNow_14 ?_
    refine Z.iload_n C dX7_loadNow_17 rfl ?_
    refine Z.iald C 3 rfl (by omega) (by omega) (by decide) dX7_loadNow_18 ?_
    refine Z.imul C dX7_loadNow_19 ?_
    refine Z.iadd C dX7_loadNow_20 ?_
    refine Z.istore_n C dX7_loadNow_21 (by decide) ?_
    refine Z.iinc C dX7_loadNow_22 rfl (by decide) ?_
    refine Z.goto C 4 dX7_loadNow_25 (by decide) ?_
    exact ih (k + 1) (by omega) (by omega)
set_option maxRecDepth 20000 in
theorem iw_X7_loadMoment_7 : ∀ w ∈ u_ws RX7 TX7 16, w ∈ wsX7_loadMoment := by decide +kernel
abbrev rmX7_loadMoment : Room := { frames := 0, cells := 0, slots := 0, locals := 0 }
set_option maxHeartbeats 4000000 in
set_option maxRecDepth 100000 in
theorem m_loadMoment (l : Launch) (D : va_G) (cI cJ cL : ClassId) (ad : Nat → Nat) (hf at_ wg lf cf dy ti bh ln : Int → Int) (thr nw lg nt sl dd il : Int) : CI l yX7_loadMoment wsX7_loadMoment rmX7_loadMoment [.ref (ad 0)] D cI cJ cL (wM ad cI hf at_ wg lf cf dy ti bh ln thr nw lg nt sl dd il) (fun r w' => r = msZ wg at_ 17 ∧ w' = (wM ad cI hf at_ wg lf cf dy ti bh ln thr nw lg nt sl dd il)) := by
  refine CI.of (cc := cX7_loadMoment) (maxL := 3) (ret := (some .int)) (own := RX7) _ 2 (by decide +kernel) rfl rfl rfl (Nat.le_of_ble_eq_true rfl) rfl (fun sz9 p9 e9 s9 m9 a9 b9 h9 c9 C hr => ?_)
  refine Z.iconst C dX7_loadMoment_0 ?_
  refine Z.istore_n C dX7_loadMoment_1 (by decide) ?_
  refine Z.iconst C dX7_loadMoment_2 ?_
  refine Z.istore_n C dX7_loadMoment_3 (by decide) ?_
  refine Z.loop (α := Nat) (fun _ => (wM ad cI hf at_ wg lf cf dy ti bh ln thr nw lg nt sl dd il)) (fun k => [.ref (ad 0), .int (iI (msZ wg at_ k)), .int (iI k)]) (fun k => k ≤ 17) (fun k => 17 - k) 0 (by omega) rfl rfl (fun k hk ih => ?_)
  refine Z.iload_n C dX7_loadMoment_4 rfl ?_
  refine Z.bipush C dX7_loadMoment_5 (by decide) ?_
  refine Z.icmpgt C 35 dX7_loadMoment_7 (by decide) (⟨by omega, by omega⟩) (⟨by omega, by omega⟩) (fun h => ?_) (fun h => ?_)
  · refine Z.iload_n C dX7_loadMoment_35 rfl ?_
    exact Z.iret C hr dX7_loadMoment_36 (⟨by rw [show k = 17 by omega], rfl⟩)
  · refine Z.iload_n C dX7_loadMoment_10 rfl ?_
    refine Z.aload_n C dX7_loadMoment_11 rfl ?_
    refine Z.getf C 0 4 iw_X7_loadMoment_7 rfl rfl (by decide) (by decide +kernel) rfl dX7_loadMoment_12 ?_
    refine Z.iload_n C dX7_loadMoment_15 rfl ?_
    refine Z.iald C 3 rfl (by omega) (by omega) (by decide) dX7_loadMoment_16 ?_
    refine Z.bipush C dX7_loadMoment_17 (by decide) ?_
    refine Z.imul C dX7_loadMoment_19 ?_
    refine Z.aload_n C dX7_loadMoment_20 rfl ?_
    refine Z.getf C 0 3 iw_X7_loadMoment_7 rfl rfl (by decide) (by decide +kernel) rfl dX7_loadMoment_21 ?_
    refine Z.iload_n C dX7_loadMoment_24 rfl ?_
    refine Z.iald C 2 rfl (by omega) (by omega) (by decide) dX7_loadMoment_25 ?_
    refine Z.imul C dX7_loadMoment_26 ?_
    refine Z.iadd C dX7_loadMoment_27 ?_
    refine Z.istore_n C dX7_loadMoment_28 (by decide) ?_
    refine Z.iinc C dX7_loadMoment_29 rfl (by decide) ?_
    refine Z.goto C 4 dX7_loadMoment_32 (by decide) ?_
    exact ih (k + 1) (by omega) (by omega)
abbrev rmX7_draughtNow : Room := { frames := 3, cells := 0, slots := 0, locals := 69 }
set_option maxHeartbeats 4000000 in
set_option maxRecDepth 100000 in
theorem m_draughtNow (l : Launch) (D : va_G) (cI cJ cL : ClassId) (ad : Nat → Nat) (hf at_ wg lf cf dy ti bh ln : Int → Int) (thr nw lg nt sl dd il : Int) (M : Int → Int → Int) (hM : hOK M) (hR : RH M hf) (x : Int) (hld : ldZ wg 17 = x) (hx0 : 0 ≤ x) (hx1 : x ≤ 2000000) : CI l yX7_draughtNow wsX7_draughtNow rmX7_draughtNow [.ref (ad 0)] D cI cJ cL (wM ad cI hf at_ wg lf cf dy ti bh ln thr nw lg nt sl dd il) (fun r w' => r = drZ (VM M) x ∧ w' = (wM ad cI hf at_ wg lf cf dy ti bh ln thr nw lg nt sl dd il)) := by
  refine CI.of (cc := cX7_draughtNow) (maxL := 4) (ret := (some .int)) (own := RX7) _ 3 (by decide +kernel) rfl rfl rfl (Nat.le_of_ble_eq_true rfl) rfl (fun sz9 p9 e9 s9 m9 a9 b9 h9 c9 C hr => ?_)
  refine Z.iconst C dX7_draughtNow_0 ?_
  refine Z.istore_n C dX7_draughtNow_1 (by decide) ?_
  refine Z.aload_n C dX7_draughtNow_2 rfl ?_
  refine Z.cVId C 0 0 (m_loadNow l D cI cJ cL ad hf at_ wg lf cf dy ti bh ln thr nw lg nt sl dd il) rfl rfl gX7_draughtNow_X7_loadNow rfl rfl rfl (by decide +kernel) ⟨Nat.le_of_ble_eq_true rfl, Nat.le_of_ble_eq_true rfl⟩ rfl rfl (Nat.le_of_ble_eq_true rfl) ⟨Nat.le_of_ble_eq_true rfl, Nat.le_of_ble_eq_true rfl⟩ dX7_draughtNow_3 ?_
  rw [hld]
  refine Z.istore_n C dX7_draughtNow_6 (by decide) ?_
  refine Z.iconst C dX7_draughtNow_7 ?_
  refine Z.istore_n C dX7_draughtNow_8 (by decide) ?_
  refine Z.loop (α := Nat) (fun _ => (wM ad cI hf at_ wg lf cf dy ti bh ln thr nw lg nt sl dd il)) (fun k => [.ref (ad 0), .int (iI (drD (VM M) x (6 - k))), .int (iI x), .int (iI ((k : Int) - 1))]) (fun k => k ≤ 6) (fun k => k) 6 (by omega) rfl rfl (fun k hk ih => ?_)
  refine Z.iload_n C dX7_draughtNow_9 rfl ?_
  refine Z.iflt C 34 dX7_draughtNow_10 (by decide) (⟨by omega, by omega⟩) (fun h => ?_) (fun h => ?_)
  · refine Z.iload_n C dX7_draughtNow_34 rfl ?_
    exact Z.iret C hr dX7_draughtNow_35 (⟨by rw [show k = 0 by omega]; exact drD_6 _ _, rfl⟩)
  · obtain ⟨s, rfl⟩ : ∃ s : Nat, k = s + 1 := ⟨k - 1, by omega⟩
    have b1 := VM_bd hM (w := s) (by omega) (by omega)
    have hst := drD_step (V := VM M) (load := x) (s := s) (by omega)
    have hv : VM M s = volZ M s 8 := by unfold VM; rw [Int.toNat_natCast]
    rw [show ((s + 1 : Nat) : Int) - 1 = s by omega, show 6 - (s + 1) = 5 - s by omega]
    refine Z.aload_n C dX7_draughtNow_13 rfl ?_
    refine Z.iload_n C dX7_draughtNow_14 rfl ?_
    refine Z.cVId C 0 1 (m_volumeOf l D cI cJ cL ad hf at_ wg lf cf dy ti bh ln thr nw lg nt sl dd il M hR s (by omega)) rfl rfl gX7_draughtNow_X7_volumeOf rfl rfl rfl (by decide +kernel) ⟨Nat.le_of_ble_eq_true rfl, Nat.le_of_ble_eq_true rfl⟩ rfl rfl (Nat.le_of_ble_eq_true rfl) ⟨Nat.le_of_ble_eq_true rfl, Nat.le_of_ble_eq_true rfl⟩ dX7_draughtNow_15 ?_
    rw [← hv]
    refine Z.iload_n C dX7_draughtNow_18 rfl ?_
    refine Z.icmplt C 26 dX7_draughtNow_19 (by decide) (⟨by omega, by omega⟩) (⟨by omega, by omega⟩) (fun q => ?_) (fun q => ?_)
    · rw [if_neg (by omega)] at hst
      refine Z.iload_n C dX7_draughtNow_26 rfl ?_
      refine Z.istore_n C dX7_draughtNow_27 (by decide) ?_
      refine Z.iinc C dX7_draughtNow_28 rfl (by decide) ?_
      refine Z.goto C 9 dX7_draughtNow_31 (by decide) ?_
      rw [show (s : Int) + -1 = s - 1 by omega, ← hst]
      exact ih s (by omega) (by omega)
    · rw [if_pos (by omega)] at hst
      refine Z.iload_n C dX7_draughtNow_22 rfl ?_
      refine Z.goto C 27 dX7_draughtNow_23 (by decide) ?_
      refine Z.istore_n C dX7_draughtNow_27 (by decide) ?_
      refine Z.iinc C dX7_draughtNow_28 rfl (by decide) ?_
      refine Z.goto C 9 dX7_draughtNow_31 (by decide) ?_
      have z := ih s (by omega) (by omega)
      rw [hst] at z
      rw [show (s : Int) + -1 = s - 1 by omega]
      exact z
abbrev rmX7_mean : Room := { frames := 0, cells := 0, slots := 0, locals := 0 }
set_option maxHeartbeats 4000000 in
set_option maxRecDepth 100000 in
theorem m_mean (l : Launch) (D : va_G) (cI cJ cL : ClassId) (a b : Int) (ha : 0 ≤ a) (ha2 : a ≤ 20000000) (hb : 0 ≤ b) (hb2 : b ≤ 2147483647) : CI l yX7_mean wsX7_mean rmX7_mean [.int (iI a), .int (iI b)] D cI cJ cL [] (fun r w' => r = hfZ a b ∧ w' = []) := by
  refine CI.of (cc := cX7_mean) (maxL := 2) (ret := (some .int)) (own := RX7) _ 0 (by decide +kernel) rfl rfl rfl (Nat.le_of_ble_eq_true rfl) rfl (fun sz9 p9 e9 s9 m9 a9 b9 h9 c9 C hr => ?_)
  refine Z.iload_n C dX7_mean_0 rfl ?_
  refine Z.ifne C 8 dX7_mean_1 (by decide) (⟨by omega, by omega⟩) (fun h => ?_) (fun h => ?_)
  · refine Z.bipush C dX7_mean_8 (by decide) ?_
    refine Z.iload_n C dX7_mean_10 rfl ?_
    refine Z.imul C dX7_mean_11 ?_
    refine Z.iload_n C dX7_mean_12 rfl ?_
    refine Z.idiv C dX7_mean_13 (by omega) (by omega) (by omega) (by omega) ?_
    exact Z.iret C hr dX7_mean_14 (⟨by unfold hfZ; rw [if_neg h], rfl⟩)
  · refine Z.iconst C dX7_mean_4 ?_
    refine Z.goto C 14 dX7_mean_5 (by decide) ?_
    exact Z.iret C hr dX7_mean_14 (⟨by unfold hfZ; rw [if_pos h], rfl⟩)
abbrev rmX7_trimNow : Room := { frames := 4, cells := 0, slots := 0, locals := 92 }
set_option maxHeartbeats 4000000 in
set_option maxRecDepth 100000 in
theorem m_trimNow (l : Launch) (D : va_G) (cI cJ cL : ClassId) (ad : Nat → Nat) (hf at_ wg lf cf dy ti bh ln : Int → Int) (thr nw lg nt sl dd il : Int) (M : Int → Int → Int) (hM : hOK M) (hR : RH M hf) (x y : Int) (hld : ldZ wg 17 = x) (hmo : msZ wg at_ 17 = y) (hx0 : 0 ≤ x) (hx1 : x ≤ 1000000) (hy0 : 0 ≤ y) (hy1 : y ≤ 16 * x) : CI l yX7_trimNow wsX7_trimNow rmX7_trimNow [.ref (ad 0)] D cI cJ cL (wM ad cI hf at_ wg lf cf dy ti bh ln thr nw lg nt sl dd il) (fun r w' => r = tmZ M x y ∧ w' = (wM ad cI hf at_ wg lf cf dy ti bh ln thr nw lg nt sl dd il)) := by
  refine CI.of (cc := cX7_trimNow) (maxL := 2) (ret := (some .int)) (own := RX7) _ 1 (by decide +kernel) rfl rfl rfl (Nat.le_of_ble_eq_true rfl) rfl (fun sz9 p9 e9 s9 m9 a9 b9 h9 c9 C hr => ?_)
  refine Z.aload_n C dX7_trimNow_0 rfl ?_
  refine Z.cVId C 0 0 (m_draughtNow l D cI cJ cL ad hf at_ wg lf cf dy ti bh ln thr nw lg nt sl dd il M hM hR x hld hx0 (by omega)) rfl rfl gX7_trimNow_X7_draughtNow rfl rfl rfl (by decide +kernel) ⟨Nat.le_of_ble_eq_true rfl, Nat.le_of_ble_eq_true rfl⟩ rfl rfl (Nat.le_of_ble_eq_true rfl) ⟨Nat.le_of_ble_eq_true rfl, Nat.le_of_ble_eq_true rfl⟩ dX7_trimNow_1 ?_
  have b0 := drZ_bd (VM M) x
  refine Z.istore_n C dX7_trimNow_4 (by decide) ?_
  refine Z.iload_n C dX7_trimNow_5 rfl ?_
  refine Z.iconst C dX7_trimNow_6 ?_
  refine Z.icmpne C 14 dX7_trimNow_7 (by decide) (⟨by omega, by omega⟩) (⟨by omega, by omega⟩) (fun h => ?_) (fun h => ?_)
  · have b1 := VM_bd hM (w := drZ (VM M) x) (by omega) (by omega)
    have b2 := MM_bd hM (w := drZ (VM M) x) (by omega) (by omega)
    have hfin : hfZ y x - hfZ (MM M (drZ (VM M) x)) (VM M (drZ (VM M) x)) = tmZ M x y := by unfold tmZ; rw [if_neg h]
    obtain ⟨d, hd⟩ : ∃ d : Nat, drZ (VM M) x = d := ⟨(drZ (VM M) x).toNat, by omega⟩
    rw [hd] at b0 b1 b2 hfin ⊢
    have hv : VM M d = volZ M d 8 := by unfold VM; rw [Int.toNat_natCast]
    have hm : MM M d = momZ M d 8 := by unfold MM; rw [Int.toNat_natCast]
    refine Z.aload_n C dX7_trimNow_14 rfl ?_
    refine Z.cVId C 0 0 (m_loadMoment l D cI cJ cL ad hf at_ wg lf cf dy ti bh ln thr nw lg nt sl dd il) rfl rfl gX7_trimNow_X7_loadMoment rfl rfl rfl (by decide +kernel) ⟨Nat.le_of_ble_eq_true rfl, Nat.le_of_ble_eq_true rfl⟩ rfl rfl (Nat.le_of_ble_eq_true rfl) ⟨Nat.le_of_ble_eq_true rfl, Nat.le_of_ble_eq_true rfl⟩ dX7_trimNow_15 ?_
    rw [hmo]
    refine Z.aload_n C dX7_trimNow_18 rfl ?_
    refine Z.cVId C 0 0 (m_loadNow l D cI cJ cL ad hf at_ wg lf cf dy ti bh ln thr nw lg nt sl dd il) rfl rfl gX7_trimNow_X7_loadNow rfl rfl rfl (by decide +kernel) ⟨Nat.le_of_ble_eq_true rfl, Nat.le_of_ble_eq_true rfl⟩ rfl rfl (Nat.le_of_ble_eq_true rfl) ⟨Nat.le_of_ble_eq_true rfl, Nat.le_of_ble_eq_true rfl⟩ dX7_trimNow_19 ?_
    rw [hld]
    refine Z.cSIp C 2 (m_mean l D cI cJ cL y x (by omega) (by omega) (by omega) (by omega)) gX7_trimNow_X7_mean rfl rfl rfl (by decide +kernel) ⟨Nat.le_of_ble_eq_true rfl, Nat.le_of_ble_eq_true rfl⟩ rfl rfl (Nat.le_of_ble_eq_true rfl) ⟨Nat.le_of_ble_eq_true rfl, Nat.le_of_ble_eq_true rfl⟩ dX7_trimNow_22 ?_
    refine Z.aload_n C dX7_trimNow_25 rfl ?_
    refine Z.iload_n C dX7_trimNow_26 rfl ?_
    refine Z.cVId C 0 1 (m_momentOf l D cI cJ cL ad hf at_ wg lf cf dy ti bh ln thr nw lg nt sl dd il M hR d (by omega)) rfl rfl gX7_trimNow_X7_momentOf rfl rfl rfl (by decide +kernel) ⟨Nat.le_of_ble_eq_true rfl, Nat.le_of_ble_eq_true rfl⟩ rfl rfl (Nat.le_of_ble_eq_true rfl) ⟨Nat.le_of_ble_eq_true rfl, Nat.le_of_ble_eq_true rfl⟩ dX7_trimNow_27 ?_
    rw [← hm]
    refine Z.aload_n C dX7_trimNow_30 rfl ?_
    refine Z.iload_n C dX7_trimNow_31 rfl ?_
    refine Z.cVId C 0 1 (m_volumeOf l D cI cJ cL ad hf at_ wg lf cf dy ti bh ln thr nw lg nt sl dd il M hR d (by omega)) rfl rfl gX7_trimNow_X7_volumeOf rfl rfl rfl (by decide +kernel) ⟨Nat.le_of_ble_eq_true rfl, Nat.le_of_ble_eq_true rfl⟩ rfl rfl (Nat.le_of_ble_eq_true rfl) ⟨Nat.le_of_ble_eq_true rfl, Nat.le_of_ble_eq_true rfl⟩ dX7_trimNow_32 ?_
    rw [← hv]
    refine Z.cSIp C 2 (m_mean l D cI cJ cL (MM M d) (VM M d) (by omega) (by omega) (by omega) (by omega)) gX7_trimNow_X7_mean rfl rfl rfl (by decide +kernel) ⟨Nat.le_of_ble_eq_true rfl, Nat.le_of_ble_eq_true rfl⟩ rfl rfl (Nat.le_of_ble_eq_true rfl) ⟨Nat.le_of_ble_eq_true rfl, Nat.le_of_ble_eq_true rfl⟩ dX7_trimNow_35 ?_
    refine Z.isub C dX7_trimNow_38 ?_
    exact Z.iret C hr dX7_trimNow_39 (⟨hfin, rfl⟩)
  · refine Z.iconst C dX7_trimNow_10 ?_
    refine Z.goto C 39 dX7_trimNow_11 (by decide) ?_
    exact Z.iret C hr dX7_trimNow_39 (⟨by unfold tmZ; rw [if_pos h], rfl⟩)
set_option maxRecDepth 20000 in
theorem iw_X7_draught_7 : ∀ w ∈ u_ws RX7 TX7 16, w ∈ wsX7_draught := by decide +kernel
abbrev rmX7_draught : Room := { frames := 4, cells := 0, slots := 0, locals := 92 }
set_option maxHeartbeats 4000000 in
set_option maxRecDepth 100000 in
theorem m_draught (l : Launch) (D : va_G) (cI cJ cL : ClassId) (ad : Nat → Nat) (hf at_ wg lf cf dy ti bh ln : Int → Int) (thr nw lg nt sl dd il : Int) (M : Int → Int → Int) (hM : hOK M) (hR : RH M hf) (x : Int) (hld : ldZ wg 17 = x) (hx0 : 0 ≤ x) (hx1 : x ≤ 2000000) : CI l yX7_draught wsX7_draught rmX7_draught [.ref (ad 0)] D cI cJ cL (wM ad cI hf at_ wg lf cf dy ti bh ln thr nw lg nt sl dd il) (fun r w' => r = drZ (VM M) x ∧ w' = (wM ad cI hf at_ wg lf cf dy ti bh ln 0 nw lg nt sl dd il)) := by
  refine CI.of (cc := cX7_draught) (maxL := 1) (ret := (some .int)) (own := RX7) _ 0 (by decide +kernel) rfl rfl rfl (Nat.le_of_ble_eq_true rfl) rfl (fun sz9 p9 e9 s9 m9 a9 b9 h9 c9 C hr => ?_)
  refine Z.aload_n C dX7_draught_0 rfl ?_
  refine Z.iconst C dX7_draught_1 ?_
  refine Z.putf C 0 0 iw_X7_draught_7 rfl rfl (by decide) tyX7 tyX7_ok nmX7 (by decide +kernel) rfl (ty := .int) (by decide +kernel) rfl rfl (Nat.le_of_ble_eq_true rfl) dX7_draught_2 wM_s_thr ?_
  refine Z.aload_n C dX7_draught_5 rfl ?_
  refine Z.cVId C 0 0 (m_draughtNow l D cI cJ cL ad hf at_ wg lf cf dy ti bh ln 0 nw lg nt sl dd il M hM hR x hld hx0 hx1) rfl rfl gX7_draught_X7_draughtNow rfl rfl rfl (by decide +kernel) ⟨Nat.le_of_ble_eq_true rfl, Nat.le_of_ble_eq_true rfl⟩ rfl rfl (Nat.le_of_ble_eq_true rfl) ⟨Nat.le_of_ble_eq_true rfl, Nat.le_of_ble_eq_true rfl⟩ dX7_draught_6 ?_
  exact Z.iret C hr dX7_draught_9 (⟨rfl, rfl⟩)
set_option maxRecDepth 20000 in
theorem iw_X7_trim_7 : ∀ w ∈ u_ws RX7 TX7 16, w ∈ wsX7_trim := by decide +kernel
abbrev rmX7_trim : Room := { frames := 5, cells := 0, slots := 0, locals := 113 }
set_option maxHeartbeats 4000000 in
set_option maxRecDepth 100000 in
theorem m_trim (l : Launch) (D : va_G) (cI cJ cL : ClassId) (ad : Nat → Nat) (hf at_ wg lf cf dy ti bh ln : Int → Int) (thr nw lg nt sl dd il : Int) (M : Int → Int → Int) (hM : hOK M) (hR : RH M hf) (x y : Int) (hld : ldZ wg 17 = x) (hmo : msZ wg at_ 17 = y) (hx0 : 0 ≤ x) (hx1 : x ≤ 1000000) (hy0 : 0 ≤ y) (hy1 : y ≤ 16 * x) : CI l yX7_trim wsX7_trim rmX7_trim [.ref (ad 0)] D cI cJ cL (wM ad cI hf at_ wg lf cf dy ti bh ln thr nw lg nt sl dd il) (fun r w' => r = tmZ M x y ∧ w' = (wM ad cI hf at_ wg lf cf dy ti bh ln 0 nw lg nt sl dd il)) := by
  refine CI.of (cc := cX7_trim) (maxL := 1) (ret := (some .int)) (own := RX7) _ 0 (by decide +kernel) rfl rfl rfl (Nat.le_of_ble_eq_true rfl) rfl (fun sz9 p9 e9 s9 m9 a9 b9 h9 c9 C hr => ?_)
  refine Z.aload_n C dX7_trim_0 rfl ?_
  refine Z.iconst C dX7_trim_1 ?_
  refine Z.putf C 0 0 iw_X7_trim_7 rfl rfl (by decide) tyX7 tyX7_ok nmX7 (by decide +kernel) rfl (ty := .int) (by decide +kernel) rfl rfl (Nat.le_of_ble_eq_true rfl) dX7_trim_2 wM_s_thr ?_
  refine Z.aload_n C dX7_trim_5 rfl ?_
  refine Z.cVId C 0 0 (m_trimNow l D cI cJ cL ad hf at_ wg lf cf dy ti bh ln 0 nw lg nt sl dd il M hM hR x y hld hmo hx0 hx1 hy0 hy1) rfl rfl gX7_trim_X7_trimNow rfl rfl rfl (by decide +kernel) ⟨Nat.le_of_ble_eq_true rfl, Nat.le_of_ble_eq_true rfl⟩ rfl rfl (Nat.le_of_ble_eq_true rfl) ⟨Nat.le_of_ble_eq_true rfl, Nat.le_of_ble_eq_true rfl⟩ dX7_trim_6 ?_
  exact Z.iret C hr dX7_trim_9 (⟨rfl, rfl⟩)
theorem ldZ_set (f : Int → Int) (v : Int) : ldZ (zset f 16 v) 17 = ldZ f 16 + 10 * v := rfl
theorem msZ_set (f g : Int → Int) (v w : Int) : msZ (zset f 16 v) (zset g 16 w) 17 = msZ f g 16 + v * 20 * w := rfl
set_option maxRecDepth 20000 in
theorem iw_X7_ballast_7 : ∀ w ∈ u_ws RX7 TX7 16, w ∈ wsX7_ballast := by decide +kernel
abbrev rmX7_ballast : Room := { frames := 5, cells := 0, slots := 0, locals := 113 }
set_option maxHeartbeats 4000000 in
set_option maxRecDepth 100000 in
theorem m_ballast (l : Launch) (D : va_G) (cI cJ cL : ClassId) (ad : Nat → Nat) (hf at_ wg lf cf dy ti bh ln : Int → Int) (thr nw lg nt sl dd il : Int) (M : Int → Int → Int) (hM : hOK M) (hR : RH M hf) (L Mo : Int) (hL : ldZ wg 16 = L) (hMo : msZ wg at_ 16 = Mo) (hL0 : 0 ≤ L) (hL1 : L ≤ 160000) (hM0 : 0 ≤ Mo) (hM1 : Mo ≤ 16 * L) (x : Int) (hx : inr x) : CI l yX7_ballast wsX7_ballast rmX7_ballast [.ref (ad 0), .int (iI x)] D cI cJ cL (wM ad cI hf at_ wg lf cf dy ti bh ln thr nw lg nt sl dd il) (fun r w' => (¬ (0 ≤ x ∧ x ≤ 99) ∧ w' = (wM ad cI hf at_ wg lf cf dy ti bh ln 1 nw lg nt sl dd il)) ∨ ((0 ≤ x ∧ x ≤ 99) ∧ r = 10 * (balOut M L Mo (FAR, wg 16, at_ 16) (x.toNat + 1)).2.1 + (balOut M L Mo (FAR, wg 16, at_ 16) (x.toNat + 1)).2.2 ∧ w' = (wM ad cI hf (zset at_ 16 (balOut M L Mo (FAR, wg 16, at_ 16) (x.toNat + 1)).2.2) (zset wg 16 (balOut M L Mo (FAR, wg 16, at_ 16) (x.toNat + 1)).2.1) lf cf dy ti bh ln 0 nw lg nt sl dd il))) := by
  have hF : FAR = 100000000 := rfl
  refine CI.of (cc := cX7_ballast) (maxL := 8) (ret := (some .int)) (own := RX7) _ 6 (by decide +kernel) rfl rfl rfl (Nat.le_of_ble_eq_true rfl) rfl (fun sz9 p9 e9 s9 m9 a9 b9 h9 c9 C hr => ?_)
  refine Z.aload_n C dX7_ballast_0 rfl ?_
  refine Z.iload_n C dX7_ballast_1 rfl ?_
  refine Z.iconst C dX7_ballast_2 ?_
  refine Z.bipush C dX7_ballast_3 (by decide) ?_
  refine Z.cSIp C 3 (m_in l D cI cJ cL x 0 99 hx ⟨by decide, by decide⟩ ⟨by decide, by decide⟩) gX7_ballast_X7_in rfl rfl rfl (by decide +kernel) ⟨Nat.le_of_ble_eq_true rfl, Nat.le_of_ble_eq_true rfl⟩ rfl rfl (Nat.le_of_ble_eq_true rfl) ⟨Nat.le_of_ble_eq_true rfl, Nat.le_of_ble_eq_true rfl⟩ dX7_ballast_5 ?_
  refine Z.ifeq C 15 dX7_ballast_8 (by decide) ((inZ_r _ _ _)) (fun h1 => ?_) (fun h1 => ?_)
  · have q1 := inZ_0 h1
    refine Z.iconst C dX7_ballast_15 ?_
    refine Z.putf C 0 0 iw_X7_ballast_7 rfl rfl (by decide) tyX7 tyX7_ok nmX7 (by decide +kernel) rfl (ty := .int) (by decide +kernel) rfl rfl (Nat.le_of_ble_eq_true rfl) dX7_ballast_16 wM_s_thr ?_
    refine Z.aload_n C dX7_ballast_19 rfl ?_
    refine Z.getf C 0 0 iw_X7_ballast_7 rfl rfl (by decide) (by decide +kernel) rfl dX7_ballast_20 ?_
    refine Z.ifle C 28 dX7_ballast_23 (by decide) (⟨by omega, by omega⟩) (fun h2 => ?_) (fun h2 => ?_)
    · omega
    · refine Z.iconst C dX7_ballast_26 ?_
      exact Z.iret C hr dX7_ballast_27 ((Or.inl ⟨q1, rfl⟩))
  · have q1 := inZ_1 h1
    refine Z.iconst C dX7_ballast_11 ?_
    refine Z.goto C 16 dX7_ballast_12 (by decide) ?_
    refine Z.putf C 0 0 iw_X7_ballast_7 rfl rfl (by decide) tyX7 tyX7_ok nmX7 (by decide +kernel) rfl (ty := .int) (by decide +kernel) rfl rfl (Nat.le_of_ble_eq_true rfl) dX7_ballast_16 wM_s_thr ?_
    refine Z.aload_n C dX7_ballast_19 rfl ?_
    refine Z.getf C 0 0 iw_X7_ballast_7 rfl rfl (by decide) (by decide +kernel) rfl dX7_ballast_20 ?_
    refine Z.ifle C 28 dX7_ballast_23 (by decide) (⟨by omega, by omega⟩) (fun h2 => ?_) (fun h2 => ?_)
    · obtain ⟨n, rfl⟩ : ∃ n : Nat, x = n := ⟨x.toNat, by omega⟩
      refine Z.aload_n C dX7_ballast_28 rfl ?_
      refine Z.getf C 0 3 iw_X7_ballast_7 rfl rfl (by decide) (by decide +kernel) rfl dX7_ballast_29 ?_
      refine Z.bipush C dX7_ballast_32 (by decide) ?_
      refine Z.iald C 2 rfl (by omega) (by omega) (by decide) dX7_ballast_34 ?_
      refine Z.istore_n C dX7_ballast_35 (by decide) ?_
      refine Z.aload_n C dX7_ballast_36 rfl ?_
      refine Z.getf C 0 4 iw_X7_ballast_7 rfl rfl (by decide) (by decide +kernel) rfl dX7_ballast_37 ?_
      refine Z.bipush C dX7_ballast_40 (by decide) ?_
      refine Z.iald C 3 rfl (by omega) (by omega) (by decide) dX7_ballast_42 ?_
      refine Z.istore_n C dX7_ballast_43 (by decide) ?_
      refine Z.ldc C (v := iI 100000000) 100000000 (by decide +kernel) rfl dX7_ballast_44 ?_
      refine Z.istore C dX7_ballast_46 (by decide) ?_
      refine Z.iconst C dX7_ballast_48 ?_
      refine Z.istore C dX7_ballast_49 (by decide) ?_
      refine Z.loop (α := Nat × (Int × Int × Int) × (Int × Int) × Value × Value) (fun y => (wM ad cI hf (zset at_ 16 y.2.2.1.2) (zset wg 16 y.2.2.1.1) lf cf dy ti bh ln 0 nw lg nt sl dd il)) (fun y => [.ref (ad 0), .int (iI n), .int (iI y.2.1.2.2), .int (iI y.2.1.2.1), .int (iI y.2.1.1), .int (iI y.1), y.2.2.2.1, y.2.2.2.2]) (fun y => y.1 ≤ n + 1 ∧ y.2.1 = balOut M L Mo (FAR, wg 16, at_ 16) y.1 ∧ 0 ≤ y.2.1.1 ∧ y.2.1.1 ≤ FAR) (fun y => n + 1 - y.1) (0, (FAR, wg 16, at_ 16), (wg 16, at_ 16), .null, .null) ⟨Nat.zero_le _, rfl, by dsimp only; omega, by dsimp only; omega⟩ (by dsimp only; rw [zset_self, zset_self]) rfl (fun y hy ih => ?_)
      obtain ⟨k, q, ⟨z1, z2⟩, v6, v7⟩ := y
      dsimp only at hy ih ⊢
      obtain ⟨hk, hq, hq0, hq1⟩ := hy
      refine Z.iload C dX7_ballast_51 rfl ?_
      refine Z.iload_n C dX7_ballast_53 rfl ?_
      refine Z.icmpgt C 136 dX7_ballast_54 (by decide) (⟨by omega, by omega⟩) (⟨by omega, by omega⟩) (fun h3 => ?_) (fun h3 => ?_)
      · have ek : k = n + 1 := by omega
        subst ek
        refine Z.aload_n C dX7_ballast_136 rfl ?_
        refine Z.getf C 0 3 iw_X7_ballast_7 rfl rfl (by decide) (by decide +kernel) rfl dX7_ballast_137 ?_
        refine Z.bipush C dX7_ballast_140 (by decide) ?_
        refine Z.iload_n C dX7_ballast_142 rfl ?_
        refine Z.iast C 2 rfl (by omega) (by omega) (by decide) dX7_ballast_143 wM_a2 ?_
        refine Z.aload_n C dX7_ballast_144 rfl ?_
        refine Z.getf C 0 4 iw_X7_ballast_7 rfl rfl (by decide) (by decide +kernel) rfl dX7_ballast_145 ?_
        refine Z.bipush C dX7_ballast_148 (by decide) ?_
        refine Z.iload_n C dX7_ballast_150 rfl ?_
        refine Z.iast C 3 rfl (by omega) (by omega) (by decide) dX7_ballast_151 wM_a3 ?_
        refine Z.bipush C dX7_ballast_152 (by decide) ?_
        refine Z.iload_n C dX7_ballast_154 rfl ?_
        refine Z.imul C dX7_ballast_155 ?_
        refine Z.iload_n C dX7_ballast_156 rfl ?_
        refine Z.iadd C dX7_ballast_157 ?_
        rw [zset_zset, zset_zset]
        refine Z.iret C hr dX7_ballast_158 (Or.inr ⟨by omega, ?_, ?_⟩)
        · rw [Int.toNat_natCast, hq]
        · rw [Int.toNat_natCast, hq]
      · refine Z.iconst C dX7_ballast_57 ?_
        refine Z.istore C dX7_ballast_58 (by decide) ?_
        refine Z.loop (α := Nat × (Int × Int × Int) × (Int × Int) × Value) (fun y => (wM ad cI hf (zset at_ 16 y.2.2.1.2) (zset wg 16 y.2.2.1.1) lf cf dy ti bh ln 0 nw lg nt sl dd il)) (fun y => [.ref (ad 0), .int (iI n), .int (iI y.2.1.2.2), .int (iI y.2.1.2.1), .int (iI y.2.1.1), .int (iI k), .int (iI y.1), y.2.2.2]) (fun y => y.1 ≤ 9 ∧ y.2.1 = balIn M L Mo k q y.1 ∧ 0 ≤ y.2.1.1 ∧ y.2.1.1 ≤ FAR) (fun y => 9 - y.1) (0, q, (z1, z2), v7) ⟨Nat.zero_le _, rfl, hq0, hq1⟩ rfl rfl (fun y hy ih2 => ?_)
        obtain ⟨j, r1, ⟨z3, z4⟩, v8⟩ := y
        dsimp only at hy ih2 ⊢
        obtain ⟨hj, hr1, hr2, hr3⟩ := hy
        refine Z.iload C dX7_ballast_60 rfl ?_
        refine Z.bipush C dX7_ballast_62 (by decide) ?_
        refine Z.icmpge C 130 dX7_ballast_64 (by decide) (⟨by omega, by omega⟩) (⟨by omega, by omega⟩) (fun h4 => ?_) (fun h4 => ?_)
        · refine Z.iinc C dX7_ballast_130 rfl (by decide) ?_
          refine Z.goto C 51 dX7_ballast_133 (by decide) ?_
          refine ih (k + 1, r1, (z3, z4), .int (iI j), v8) ⟨by dsimp only; omega, ?_, hr2, hr3⟩ (by dsimp only; omega)
          dsimp only [balOut]
          rw [← hq, hr1, show j = 9 by omega]
        · have hmul := mul_bd (a := (k : Int)) (b := (j : Int)) (by omega) (by omega) (by omega)
          have hld : ldZ (zset wg 16 (k : Int)) 17 = L + 10 * k := by rw [ldZ_set, hL]
          have hms : msZ (zset wg 16 (k : Int)) (zset at_ 16 (j : Int)) 17 = Mo + k * 20 * j := by rw [msZ_set, hMo]
          have ht := tmZ_bd hM (load := L + 10 * k) (mo := Mo + k * 20 * j) (by omega) (by omega) (by omega)
          have hab := absZ_bd (a := tmZ M (L + 10 * k) (Mo + k * 20 * j)) (k := 1600) (by omega) (by omega)
          have bd := drZ_bd (VM M) (L + 10 * k)
          refine Z.cut (α := Int) 105 (fun _ => (wM ad cI hf (zset at_ 16 j) (zset wg 16 k) lf cf dy ti bh ln 0 nw lg nt sl dd il)) (fun _ => [.ref (ad 0), .int (iI n), .int (iI r1.2.2), .int (iI r1.2.1), .int (iI r1.1), .int (iI k), .int (iI j), v8]) (fun a => [.int (iI a)]) (fun a => a = itsZ M (L + 10 * k) (Mo + k * 20 * j) ∧ 0 ≤ a ∧ a ≤ FAR) (fun a ha => ?_) (fun join => ?_)
          · obtain ⟨ha, ha0, ha1⟩ := ha
            have hlt : a < r1.1 → balStep M L Mo k j r1 = (a, (k : Int), (j : Int)) := fun z => by unfold balStep; rw [← ha, if_pos z]
            have hge : ¬ a < r1.1 → balStep M L Mo k j r1 = r1 := fun z => by unfold balStep; rw [← ha, if_neg z]
            refine Z.istore C dX7_ballast_105 (by decide) ?_
            refine Z.iload C dX7_ballast_107 rfl ?_
            refine Z.iload C dX7_ballast_109 rfl ?_
            refine Z.icmpge C 124 dX7_ballast_111 (by decide) (⟨by omega, by omega⟩) (⟨by omega, by omega⟩) (fun h5 => ?_) (fun h5 => ?_)
            · refine Z.iinc C dX7_ballast_124 rfl (by decide) ?_
              refine Z.goto C 60 dX7_ballast_127 (by decide) ?_
              refine ih2 (j + 1, r1, ((k : Int), (j : Int)), .int (iI a)) ⟨by dsimp only; omega, ?_, hr2, hr3⟩ (by dsimp only; omega)
              dsimp only [balIn]
              rw [← hr1, hge (by omega)]
            · refine Z.iload C dX7_ballast_114 rfl ?_
              refine Z.istore C dX7_ballast_116 (by decide) ?_
              refine Z.iload C dX7_ballast_118 rfl ?_
              refine Z.istore_n C dX7_ballast_120 (by decide) ?_
              refine Z.iload C dX7_ballast_121 rfl ?_
              refine Z.istore_n C dX7_ballast_123 (by decide) ?_
              refine Z.iinc C dX7_ballast_124 rfl (by decide) ?_
              refine Z.goto C 60 dX7_ballast_127 (by decide) ?_
              refine ih2 (j + 1, (a, (k : Int), (j : Int)), ((k : Int), (j : Int)), .int (iI a)) ⟨by dsimp only; omega, ?_, ha0, ha1⟩ (by dsimp only; omega)
              dsimp only [balIn]
              rw [← hr1, hlt h5]
          · skip
            refine Z.aload_n C dX7_ballast_67 rfl ?_
            refine Z.getf C 0 3 iw_X7_ballast_7 rfl rfl (by decide) (by decide +kernel) rfl dX7_ballast_68 ?_
            refine Z.bipush C dX7_ballast_71 (by decide) ?_
            refine Z.iload C dX7_ballast_73 rfl ?_
            refine Z.iast C 2 rfl (by omega) (by omega) (by decide) dX7_ballast_75 wM_a2 ?_
            rw [zset_zset]
            refine Z.aload_n C dX7_ballast_76 rfl ?_
            refine Z.getf C 0 4 iw_X7_ballast_7 rfl rfl (by decide) (by decide +kernel) rfl dX7_ballast_77 ?_
            refine Z.bipush C dX7_ballast_80 (by decide) ?_
            refine Z.iload C dX7_ballast_82 rfl ?_
            refine Z.iast C 3 rfl (by omega) (by omega) (by decide) dX7_ballast_84 wM_a3 ?_
            rw [zset_zset]
            refine Z.aload_n C dX7_ballast_85 rfl ?_
            refine Z.cVId C 0 0 (m_draughtNow l D cI cJ cL ad hf (zset at_ 16 j) (zset wg 16 k) lf cf dy ti bh ln 0 nw lg nt sl dd il M hM hR (L + 10 * k) hld (by omega) (by omega)) rfl rfl gX7_ballast_X7_draughtNow rfl rfl rfl (by decide +kernel) ⟨Nat.le_of_ble_eq_true rfl, Nat.le_of_ble_eq_true rfl⟩ rfl rfl (Nat.le_of_ble_eq_true rfl) ⟨Nat.le_of_ble_eq_true rfl, Nat.le_of_ble_eq_true rfl⟩ dX7_ballast_86 ?_
            refine Z.iconst C dX7_ballast_89 ?_
            refine Z.icmpne C 98 dX7_ballast_90 (by decide) (⟨by omega, by omega⟩) (⟨by omega, by omega⟩) (fun h5 => ?_) (fun h5 => ?_)
            · refine Z.aload_n C dX7_ballast_98 rfl ?_
              refine Z.cVId C 0 0 (m_trimNow l D cI cJ cL ad hf (zset at_ 16 j) (zset wg 16 k) lf cf dy ti bh ln 0 nw lg nt sl dd il M hM hR (L + 10 * k) (Mo + k * 20 * j) hld hms (by omega) (by omega) (by omega) (by omega)) rfl rfl gX7_ballast_X7_trimNow rfl rfl rfl (by decide +kernel) ⟨Nat.le_of_ble_eq_true rfl, Nat.le_of_ble_eq_true rfl⟩ rfl rfl (Nat.le_of_ble_eq_true rfl) ⟨Nat.le_of_ble_eq_true rfl, Nat.le_of_ble_eq_true rfl⟩ dX7_ballast_99 ?_
              refine Z.cSIp C 1 (m_size l D cI cJ cL (tmZ M (L + 10 * k) (Mo + k * 20 * j)) ⟨by omega, by omega⟩) gX7_ballast_X7_size rfl rfl rfl (by decide +kernel) ⟨Nat.le_of_ble_eq_true rfl, Nat.le_of_ble_eq_true rfl⟩ rfl rfl (Nat.le_of_ble_eq_true rfl) ⟨Nat.le_of_ble_eq_true rfl, Nat.le_of_ble_eq_true rfl⟩ dX7_ballast_102 ?_
              exact join _ ⟨by unfold itsZ; rw [if_neg h5], hab.1, by omega⟩
            · refine Z.ldc C (v := iI 100000000) 100000000 (by decide +kernel) rfl dX7_ballast_93 ?_
              refine Z.goto C 105 dX7_ballast_95 (by decide) ?_
              exact join 100000000 ⟨by unfold itsZ; rw [if_pos h5]; rfl, by omega, by omega⟩
    · omega
