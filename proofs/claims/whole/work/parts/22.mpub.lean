/-! ===== the reference: half, bend, area, volume, volumeAnew ===== -/
def tcSW (x w : Int) : Int := if ¬ (0 ≤ x ∧ x ≤ 8) ∨ ¬ (0 ≤ w ∧ w ≤ 5) then 1 else 0
def tcW (w : Int) : Int := if ¬ (0 ≤ w ∧ w ≤ 5) then 1 else 0
set_option maxRecDepth 20000 in
theorem iw_X7_half_7 : ∀ w ∈ u_ws RX7 TX7 16, w ∈ wsX7_half := by decide +kernel
abbrev rmX7_half : Room := { frames := 2, cells := 0, slots := 0, locals := 42 }
set_option maxHeartbeats 4000000 in
set_option maxRecDepth 100000 in
theorem m_half (l : Launch) (D : va_G) (cI cJ cL : ClassId) (ad : Nat → Nat) (hf at_ wg lf cf dy ti bh ln : Int → Int) (thr nw lg nt sl dd il : Int) (M : Int → Int → Int) (hR : RH M hf) (x w : Int) (hx : inr x) (hw : inr w) : CI l yX7_half wsX7_half rmX7_half [.ref (ad 0), .int (iI x), .int (iI w)] D cI cJ cL (wM ad cI hf at_ wg lf cf dy ti bh ln thr nw lg nt sl dd il) (fun r w' => w' = (wM ad cI hf at_ wg lf cf dy ti bh ln (tcSW x w) nw lg nt sl dd il) ∧ (tcSW x w = 0 → r = M w x)) := by
  refine CI.of (cc := cX7_half) (maxL := 3) (ret := (some .int)) (own := RX7) _ 0 (by decide +kernel) rfl rfl rfl (Nat.le_of_ble_eq_true rfl) rfl (fun sz9 p9 e9 s9 m9 a9 b9 h9 c9 C hr => ?_)
  refine Z.cut (α := Int) 20 (fun _ => (wM ad cI hf at_ wg lf cf dy ti bh ln thr nw lg nt sl dd il)) (fun _ => [.ref (ad 0), .int (iI x), .int (iI w)]) (fun k => [.int (iI k), .ref (ad 0)]) (fun k => k = tcSW x w ∧ 0 ≤ k ∧ k ≤ 1) (fun k hk => ?_) (fun join => ?_)
  · obtain ⟨hk, k0, k3⟩ := hk
    refine Z.putf C 0 0 iw_X7_half_7 rfl rfl (by decide) tyX7 tyX7_ok nmX7 (by decide +kernel) rfl (ty := .int) (by decide +kernel) rfl rfl (Nat.le_of_ble_eq_true rfl) dX7_half_20 wM_s_thr ?_
    refine Z.aload_n C dX7_half_23 rfl ?_
    refine Z.getf C 0 0 iw_X7_half_7 rfl rfl (by decide) (by decide +kernel) rfl dX7_half_24 ?_
    refine Z.ifle C 34 dX7_half_27 (by decide) (⟨by omega, by omega⟩) (fun h1 => ?_) (fun h1 => ?_)
    · have e0 : k = 0 := by omega
      subst e0
      have hc : (0 ≤ x ∧ x ≤ 8) ∧ (0 ≤ w ∧ w ≤ 5) := by
        unfold tcSW at hk
        split at hk <;> omega
      refine Z.aload_n C dX7_half_34 rfl ?_
      refine Z.iload_n C dX7_half_35 rfl ?_
      refine Z.iload_n C dX7_half_36 rfl ?_
      refine Z.cVId C 0 2 (m_halfAt l D cI cJ cL ad hf at_ wg lf cf dy ti bh ln 0 nw lg nt sl dd il M hR x w hc.1.1 hc.1.2 hc.2.1 hc.2.2) rfl rfl gX7_half_X7_halfAt rfl rfl rfl (by decide +kernel) ⟨Nat.le_of_ble_eq_true rfl, Nat.le_of_ble_eq_true rfl⟩ rfl rfl (Nat.le_of_ble_eq_true rfl) ⟨Nat.le_of_ble_eq_true rfl, Nat.le_of_ble_eq_true rfl⟩ dX7_half_37 ?_
      exact Z.iret C hr dX7_half_40 (⟨by rw [← hk], fun _ => rfl⟩)
    · refine Z.iconst C dX7_half_30 ?_
      refine Z.goto C 40 dX7_half_31 (by decide) ?_
      exact Z.iret C hr dX7_half_40 (⟨by rw [hk], fun q => by omega⟩)
  · refine Z.aload_n C dX7_half_0 rfl ?_
    refine Z.iload_n C dX7_half_1 rfl ?_
    refine Z.cSIp C 1 (m_isStation l D cI cJ cL x hx) gX7_half_X7_isStation rfl rfl rfl (by decide +kernel) ⟨Nat.le_of_ble_eq_true rfl, Nat.le_of_ble_eq_true rfl⟩ rfl rfl (Nat.le_of_ble_eq_true rfl) ⟨Nat.le_of_ble_eq_true rfl, Nat.le_of_ble_eq_true rfl⟩ dX7_half_2 ?_
    refine Z.ifeq C 19 dX7_half_5 (by decide) ((inZ_r _ _ _)) (fun h1 => ?_) (fun h1 => ?_)
    · have q1 := inZ_0 h1
      refine Z.iconst C dX7_half_19 ?_
      exact join 1 ⟨by unfold tcSW; rw [if_pos (Or.inl q1)], by omega, by omega⟩
    · have q1 := inZ_1 h1
      refine Z.iload_n C dX7_half_8 rfl ?_
      refine Z.cSIp C 1 (m_isWaterline l D cI cJ cL w hw) gX7_half_X7_isWaterline rfl rfl rfl (by decide +kernel) ⟨Nat.le_of_ble_eq_true rfl, Nat.le_of_ble_eq_true rfl⟩ rfl rfl (Nat.le_of_ble_eq_true rfl) ⟨Nat.le_of_ble_eq_true rfl, Nat.le_of_ble_eq_true rfl⟩ dX7_half_9 ?_
      refine Z.ifeq C 19 dX7_half_12 (by decide) ((inZ_r _ _ _)) (fun h2 => ?_) (fun h2 => ?_)
      · have q2 := inZ_0 h2
        refine Z.iconst C dX7_half_19 ?_
        exact join 1 ⟨by unfold tcSW; rw [if_pos (Or.inr q2)], by omega, by omega⟩
      · have q2 := inZ_1 h2
        refine Z.iconst C dX7_half_15 ?_
        refine Z.goto C 20 dX7_half_16 (by decide) ?_
        exact join 0 ⟨by unfold tcSW; rw [if_neg (by omega)], by omega, by omega⟩
set_option maxRecDepth 20000 in
theorem iw_X7_area_7 : ∀ w ∈ u_ws RX7 TX7 16, w ∈ wsX7_area := by decide +kernel
abbrev rmX7_area : Room := { frames := 2, cells := 0, slots := 0, locals := 46 }
set_option maxHeartbeats 4000000 in
set_option maxRecDepth 100000 in
theorem m_area (l : Launch) (D : va_G) (cI cJ cL : ClassId) (ad : Nat → Nat) (hf at_ wg lf cf dy ti bh ln : Int → Int) (thr nw lg nt sl dd il : Int) (M : Int → Int → Int) (hR : RH M hf) (x w : Int) (hx : inr x) (hw : inr w) : CI l yX7_area wsX7_area rmX7_area [.ref (ad 0), .int (iI x), .int (iI w)] D cI cJ cL (wM ad cI hf at_ wg lf cf dy ti bh ln thr nw lg nt sl dd il) (fun r w' => w' = (wM ad cI hf at_ wg lf cf dy ti bh ln (tcSW x w) nw lg nt sl dd il) ∧ (tcSW x w = 0 → r = areaZ M x w.toNat)) := by
  refine CI.of (cc := cX7_area) (maxL := 3) (ret := (some .int)) (own := RX7) _ 0 (by decide +kernel) rfl rfl rfl (Nat.le_of_ble_eq_true rfl) rfl (fun sz9 p9 e9 s9 m9 a9 b9 h9 c9 C hr => ?_)
  refine Z.cut (α := Int) 20 (fun _ => (wM ad cI hf at_ wg lf cf dy ti bh ln thr nw lg nt sl dd il)) (fun _ => [.ref (ad 0), .int (iI x), .int (iI w)]) (fun k => [.int (iI k), .ref (ad 0)]) (fun k => k = tcSW x w ∧ 0 ≤ k ∧ k ≤ 1) (fun k hk => ?_) (fun join => ?_)
  · obtain ⟨hk, k0, k3⟩ := hk
    refine Z.putf C 0 0 iw_X7_area_7 rfl rfl (by decide) tyX7 tyX7_ok nmX7 (by decide +kernel) rfl (ty := .int) (by decide +kernel) rfl rfl (Nat.le_of_ble_eq_true rfl) dX7_area_20 wM_s_thr ?_
    refine Z.aload_n C dX7_area_23 rfl ?_
    refine Z.getf C 0 0 iw_X7_area_7 rfl rfl (by decide) (by decide +kernel) rfl dX7_area_24 ?_
    refine Z.ifle C 34 dX7_area_27 (by decide) (⟨by omega, by omega⟩) (fun h1 => ?_) (fun h1 => ?_)
    · have e0 : k = 0 := by omega
      subst e0
      have hc : (0 ≤ x ∧ x ≤ 8) ∧ (0 ≤ w ∧ w ≤ 5) := by
        unfold tcSW at hk
        split at hk <;> omega
      obtain ⟨n, rfl⟩ : ∃ n : Nat, w = n := ⟨w.toNat, by omega⟩
      refine Z.aload_n C dX7_area_34 rfl ?_
      refine Z.iload_n C dX7_area_35 rfl ?_
      refine Z.iload_n C dX7_area_36 rfl ?_
      refine Z.cVId C 0 2 (m_areaOf l D cI cJ cL ad hf at_ wg lf cf dy ti bh ln 0 nw lg nt sl dd il M hR x n hc.1.1 hc.1.2 (by omega)) rfl rfl gX7_area_X7_areaOf rfl rfl rfl (by decide +kernel) ⟨Nat.le_of_ble_eq_true rfl, Nat.le_of_ble_eq_true rfl⟩ rfl rfl (Nat.le_of_ble_eq_true rfl) ⟨Nat.le_of_ble_eq_true rfl, Nat.le_of_ble_eq_true rfl⟩ dX7_area_37 ?_
      exact Z.iret C hr dX7_area_40 (⟨by rw [← hk], fun _ => rfl⟩)
    · refine Z.iconst C dX7_area_30 ?_
      refine Z.goto C 40 dX7_area_31 (by decide) ?_
      exact Z.iret C hr dX7_area_40 (⟨by rw [hk], fun q => by omega⟩)
  · refine Z.aload_n C dX7_area_0 rfl ?_
    refine Z.iload_n C dX7_area_1 rfl ?_
    refine Z.cSIp C 1 (m_isStation l D cI cJ cL x hx) gX7_area_X7_isStation rfl rfl rfl (by decide +kernel) ⟨Nat.le_of_ble_eq_true rfl, Nat.le_of_ble_eq_true rfl⟩ rfl rfl (Nat.le_of_ble_eq_true rfl) ⟨Nat.le_of_ble_eq_true rfl, Nat.le_of_ble_eq_true rfl⟩ dX7_area_2 ?_
    refine Z.ifeq C 19 dX7_area_5 (by decide) ((inZ_r _ _ _)) (fun h1 => ?_) (fun h1 => ?_)
    · have q1 := inZ_0 h1
      refine Z.iconst C dX7_area_19 ?_
      exact join 1 ⟨by unfold tcSW; rw [if_pos (Or.inl q1)], by omega, by omega⟩
    · have q1 := inZ_1 h1
      refine Z.iload_n C dX7_area_8 rfl ?_
      refine Z.cSIp C 1 (m_isWaterline l D cI cJ cL w hw) gX7_area_X7_isWaterline rfl rfl rfl (by decide +kernel) ⟨Nat.le_of_ble_eq_true rfl, Nat.le_of_ble_eq_true rfl⟩ rfl rfl (Nat.le_of_ble_eq_true rfl) ⟨Nat.le_of_ble_eq_true rfl, Nat.le_of_ble_eq_true rfl⟩ dX7_area_9 ?_
      refine Z.ifeq C 19 dX7_area_12 (by decide) ((inZ_r _ _ _)) (fun h2 => ?_) (fun h2 => ?_)
      · have q2 := inZ_0 h2
        refine Z.iconst C dX7_area_19 ?_
        exact join 1 ⟨by unfold tcSW; rw [if_pos (Or.inr q2)], by omega, by omega⟩
      · have q2 := inZ_1 h2
        refine Z.iconst C dX7_area_15 ?_
        refine Z.goto C 20 dX7_area_16 (by decide) ?_
        exact join 0 ⟨by unfold tcSW; rw [if_neg (by omega)], by omega, by omega⟩
set_option maxRecDepth 20000 in
theorem iw_X7_bend_7 : ∀ w ∈ u_ws RX7 TX7 16, w ∈ wsX7_bend := by decide +kernel
abbrev rmX7_bend : Room := { frames := 2, cells := 0, slots := 0, locals := 45 }
set_option maxHeartbeats 4000000 in
set_option maxRecDepth 100000 in
theorem m_bend (l : Launch) (D : va_G) (cI cJ cL : ClassId) (ad : Nat → Nat) (hf at_ wg lf cf dy ti bh ln : Int → Int) (thr nw lg nt sl dd il : Int) (M : Int → Int → Int) (hR : RH M hf) (w : Int) (hw : inr w) : CI l yX7_bend wsX7_bend rmX7_bend [.ref (ad 0), .int (iI w)] D cI cJ cL (wM ad cI hf at_ wg lf cf dy ti bh ln thr nw lg nt sl dd il) (fun r w' => w' = (wM ad cI hf at_ wg lf cf dy ti bh ln (tcW w) nw lg nt sl dd il) ∧ (tcW w = 0 → r = bendZ (M w) 7)) := by
  refine CI.of (cc := cX7_bend) (maxL := 2) (ret := (some .int)) (own := RX7) _ 0 (by decide +kernel) rfl rfl rfl (Nat.le_of_ble_eq_true rfl) rfl (fun sz9 p9 e9 s9 m9 a9 b9 h9 c9 C hr => ?_)
  refine Z.cut (α := Int) 13 (fun _ => (wM ad cI hf at_ wg lf cf dy ti bh ln thr nw lg nt sl dd il)) (fun _ => [.ref (ad 0), .int (iI w)]) (fun k => [.int (iI k), .ref (ad 0)]) (fun k => k = tcW w ∧ 0 ≤ k ∧ k ≤ 1) (fun k hk => ?_) (fun join => ?_)
  · obtain ⟨hk, k0, k3⟩ := hk
    refine Z.putf C 0 0 iw_X7_bend_7 rfl rfl (by decide) tyX7 tyX7_ok nmX7 (by decide +kernel) rfl (ty := .int) (by decide +kernel) rfl rfl (Nat.le_of_ble_eq_true rfl) dX7_bend_13 wM_s_thr ?_
    refine Z.aload_n C dX7_bend_16 rfl ?_
    refine Z.getf C 0 0 iw_X7_bend_7 rfl rfl (by decide) (by decide +kernel) rfl dX7_bend_17 ?_
    refine Z.ifle C 27 dX7_bend_20 (by decide) (⟨by omega, by omega⟩) (fun h1 => ?_) (fun h1 => ?_)
    · have e0 : k = 0 := by omega
      subst e0
      have hc : 0 ≤ w ∧ w ≤ 5 := by
        unfold tcW at hk
        split at hk <;> omega
      refine Z.aload_n C dX7_bend_27 rfl ?_
      refine Z.iload_n C dX7_bend_28 rfl ?_
      refine Z.cVId C 0 1 (m_bendOf l D cI cJ cL ad hf at_ wg lf cf dy ti bh ln 0 nw lg nt sl dd il M hR w hc.1 hc.2) rfl rfl gX7_bend_X7_bendOf rfl rfl rfl (by decide +kernel) ⟨Nat.le_of_ble_eq_true rfl, Nat.le_of_ble_eq_true rfl⟩ rfl rfl (Nat.le_of_ble_eq_true rfl) ⟨Nat.le_of_ble_eq_true rfl, Nat.le_of_ble_eq_true rfl⟩ dX7_bend_29 ?_
      exact Z.iret C hr dX7_bend_32 (⟨by rw [← hk], fun _ => rfl⟩)
    · refine Z.iconst C dX7_bend_23 ?_
      refine Z.goto C 32 dX7_bend_24 (by decide) ?_
      exact Z.iret C hr dX7_bend_32 (⟨by rw [hk], fun q => by omega⟩)
  · refine Z.aload_n C dX7_bend_0 rfl ?_
    refine Z.iload_n C dX7_bend_1 rfl ?_
    refine Z.cSIp C 1 (m_isWaterline l D cI cJ cL w hw) gX7_bend_X7_isWaterline rfl rfl rfl (by decide +kernel) ⟨Nat.le_of_ble_eq_true rfl, Nat.le_of_ble_eq_true rfl⟩ rfl rfl (Nat.le_of_ble_eq_true rfl) ⟨Nat.le_of_ble_eq_true rfl, Nat.le_of_ble_eq_true rfl⟩ dX7_bend_2 ?_
    refine Z.ifeq C 12 dX7_bend_5 (by decide) ((inZ_r _ _ _)) (fun h2 => ?_) (fun h2 => ?_)
    · have q2 := inZ_0 h2
      refine Z.iconst C dX7_bend_12 ?_
      exact join 1 ⟨by unfold tcW; rw [if_pos q2], by omega, by omega⟩
    · have q2 := inZ_1 h2
      refine Z.iconst C dX7_bend_8 ?_
      refine Z.goto C 13 dX7_bend_9 (by decide) ?_
      exact join 0 ⟨by unfold tcW; rw [if_neg (by omega)], by omega, by omega⟩
set_option maxRecDepth 20000 in
theorem iw_X7_volume_7 : ∀ w ∈ u_ws RX7 TX7 16, w ∈ wsX7_volume := by decide +kernel
abbrev rmX7_volume : Room := { frames := 3, cells := 0, slots := 0, locals := 69 }
set_option maxHeartbeats 4000000 in
set_option maxRecDepth 100000 in
theorem m_volume (l : Launch) (D : va_G) (cI cJ cL : ClassId) (ad : Nat → Nat) (hf at_ wg lf cf dy ti bh ln : Int → Int) (thr nw lg nt sl dd il : Int) (M : Int → Int → Int) (hR : RH M hf) (w : Int) (hw : inr w) : CI l yX7_volume wsX7_volume rmX7_volume [.ref (ad 0), .int (iI w)] D cI cJ cL (wM ad cI hf at_ wg lf cf dy ti bh ln thr nw lg nt sl dd il) (fun r w' => w' = (wM ad cI hf at_ wg lf cf dy ti bh ln (tcW w) nw lg nt sl dd il) ∧ (tcW w = 0 → r = volZ M w.toNat 8)) := by
  refine CI.of (cc := cX7_volume) (maxL := 2) (ret := (some .int)) (own := RX7) _ 0 (by decide +kernel) rfl rfl rfl (Nat.le_of_ble_eq_true rfl) rfl (fun sz9 p9 e9 s9 m9 a9 b9 h9 c9 C hr => ?_)
  refine Z.cut (α := Int) 13 (fun _ => (wM ad cI hf at_ wg lf cf dy ti bh ln thr nw lg nt sl dd il)) (fun _ => [.ref (ad 0), .int (iI w)]) (fun k => [.int (iI k), .ref (ad 0)]) (fun k => k = tcW w ∧ 0 ≤ k ∧ k ≤ 1) (fun k hk => ?_) (fun join => ?_)
  · obtain ⟨hk, k0, k3⟩ := hk
    refine Z.putf C 0 0 iw_X7_volume_7 rfl rfl (by decide) tyX7 tyX7_ok nmX7 (by decide +kernel) rfl (ty := .int) (by decide +kernel) rfl rfl (Nat.le_of_ble_eq_true rfl) dX7_volume_13 wM_s_thr ?_
    refine Z.aload_n C dX7_volume_16 rfl ?_
    refine Z.getf C 0 0 iw_X7_volume_7 rfl rfl (by decide) (by decide +kernel) rfl dX7_volume_17 ?_
    refine Z.ifle C 27 dX7_volume_20 (by decide) (⟨by omega, by omega⟩) (fun h1 => ?_) (fun h1 => ?_)
    · have e0 : k = 0 := by omega
      subst e0
      have hc : 0 ≤ w ∧ w ≤ 5 := by
        unfold tcW at hk
        split at hk <;> omega
      obtain ⟨n, rfl⟩ : ∃ n : Nat, w = n := ⟨w.toNat, by omega⟩
      refine Z.aload_n C dX7_volume_27 rfl ?_
      refine Z.iload_n C dX7_volume_28 rfl ?_
      refine Z.cVId C 0 1 (m_volumeOf l D cI cJ cL ad hf at_ wg lf cf dy ti bh ln 0 nw lg nt sl dd il M hR n (by omega)) rfl rfl gX7_volume_X7_volumeOf rfl rfl rfl (by decide +kernel) ⟨Nat.le_of_ble_eq_true rfl, Nat.le_of_ble_eq_true rfl⟩ rfl rfl (Nat.le_of_ble_eq_true rfl) ⟨Nat.le_of_ble_eq_true rfl, Nat.le_of_ble_eq_true rfl⟩ dX7_volume_29 ?_
      exact Z.iret C hr dX7_volume_32 (⟨by rw [← hk], fun _ => rfl⟩)
    · refine Z.iconst C dX7_volume_23 ?_
      refine Z.goto C 32 dX7_volume_24 (by decide) ?_
      exact Z.iret C hr dX7_volume_32 (⟨by rw [hk], fun q => by omega⟩)
  · refine Z.aload_n C dX7_volume_0 rfl ?_
    refine Z.iload_n C dX7_volume_1 rfl ?_
    refine Z.cSIp C 1 (m_isWaterline l D cI cJ cL w hw) gX7_volume_X7_isWaterline rfl rfl rfl (by decide +kernel) ⟨Nat.le_of_ble_eq_true rfl, Nat.le_of_ble_eq_true rfl⟩ rfl rfl (Nat.le_of_ble_eq_true rfl) ⟨Nat.le_of_ble_eq_true rfl, Nat.le_of_ble_eq_true rfl⟩ dX7_volume_2 ?_
    refine Z.ifeq C 12 dX7_volume_5 (by decide) ((inZ_r _ _ _)) (fun h2 => ?_) (fun h2 => ?_)
    · have q2 := inZ_0 h2
      refine Z.iconst C dX7_volume_12 ?_
      exact join 1 ⟨by unfold tcW; rw [if_pos q2], by omega, by omega⟩
    · have q2 := inZ_1 h2
      refine Z.iconst C dX7_volume_8 ?_
      refine Z.goto C 13 dX7_volume_9 (by decide) ?_
      exact join 0 ⟨by unfold tcW; rw [if_neg (by omega)], by omega, by omega⟩
abbrev rmX7_volumeAnew : Room := { frames := 4, cells := 0, slots := 0, locals := 90 }
set_option maxHeartbeats 4000000 in
set_option maxRecDepth 100000 in
theorem m_volumeAnew (l : Launch) (D : va_G) (cI cJ cL : ClassId) (ad : Nat → Nat) (hf at_ wg lf cf dy ti bh ln : Int → Int) (thr nw lg nt sl dd il : Int) (M : Int → Int → Int) (hR : RH M hf) (w : Int) (hw : inr w) : CI l yX7_volumeAnew wsX7_volumeAnew rmX7_volumeAnew [.ref (ad 0), .int (iI w)] D cI cJ cL (wM ad cI hf at_ wg lf cf dy ti bh ln thr nw lg nt sl dd il) (fun r w' => w' = (wM ad cI hf at_ wg lf cf dy ti bh ln (tcW w) nw lg nt sl dd il) ∧ (tcW w = 0 → r = volZ M w.toNat 8)) := by
  refine CI.of (cc := cX7_volumeAnew) (maxL := 2) (ret := (some .int)) (own := RX7) _ 0 (by decide +kernel) rfl rfl rfl (Nat.le_of_ble_eq_true rfl) rfl (fun sz9 p9 e9 s9 m9 a9 b9 h9 c9 C hr => ?_)
  refine Z.aload_n C dX7_volumeAnew_0 rfl ?_
  refine Z.iload_n C dX7_volumeAnew_1 rfl ?_
  refine Z.cVI C 0 1 ( m_volume l D cI cJ cL ad hf at_ wg lf cf dy ti bh ln thr nw lg nt sl dd il M hR w hw) rfl rfl gX7_volumeAnew_X7_volume rfl rfl rfl (by decide +kernel) ⟨Nat.le_of_ble_eq_true rfl, Nat.le_of_ble_eq_true rfl⟩ rfl rfl (Nat.le_of_ble_eq_true rfl) ⟨Nat.le_of_ble_eq_true rfl, Nat.le_of_ble_eq_true rfl⟩ dX7_volumeAnew_2 (fun r1 w1 hw1 => ?_)
  exact Z.iret C hr dX7_volumeAnew_5 (hw1)
