/-! ===== FairBatten: its public methods, 1 ===== -/
def exO (E : String) (t : Int) : Prop := (E = eIX ∧ t = 1) ∨ (E = eIA ∧ t = 2) ∨ (E = eIS ∧ t = 3)
def exA (E : String) (t : Int) : Prop := (E = eIA ∧ t = 1) ∨ (E = eIS ∧ t = 2)
set_option maxRecDepth 20000 in
theorem iw_X6_offset_4 : ∀ w ∈ u_ws RX4 TX4 1, w ∈ wsX6_offset := by decide +kernel
set_option maxRecDepth 20000 in
theorem iw_X6_offset_6 : ∀ w ∈ u_ws RX6 TX6 9, w ∈ wsX6_offset := by decide +kernel
abbrev rmX6_offset : Room := { frames := 7, cells := 4, slots := 24, locals := 112 }
set_option maxHeartbeats 4000000 in
set_option maxRecDepth 100000 in
theorem c_offset (l : Launch) (D : va_G) (cI cJ cL : ClassId) (ad : Nat → Nat) (M B : Int → Int → Int) (lo ch wt sn vo mo le ln od fe se td th : Int → Int) (cnt bw bs pl tk tc sill day lau : Int) (hl0 : l.stackTraces = false) (ha : lau = 0 ∨ lau = 1) (x w y : Int) (hx : inr x) (hw : inr w) (hy : inr y) : XI l yX6_offset wsX6_offset rmX6_offset [.ref (ad 0), .int (iI x), .int (iI w), .int (iI y)] D cI cJ cL (wX ad cI cJ M B lo ch wt sn vo mo le ln od fe se td th cnt bw bs pl tk tc sill day lau) 4 24 (fun r w' => tcOffset x w y lau = 0 ∧ r = M w x ∧ w' = (wX ad cI cJ (zrow M w (zset (M w) x y)) B lo ch wt sn vo mo le ln od fe se td th cnt bw bs pl tk tc sill day lau)) (fun E w' => w' = (wX ad cI cJ M B lo ch wt sn vo mo le ln od fe se td th cnt bw bs pl tk tc sill day lau) ∧ exO E (tcOffset x w y lau)) := by
  refine XI.of (cc := cX6_offset) (maxL := 5) (ret := (some .int)) (own := RX6) _ 1 (by decide +kernel) rfl rfl rfl (Nat.le_of_ble_eq_true rfl) rfl (fun sz9 p9 e9 s9 m9 a9 b9 h9 c9 C hr hnx => ?_)
  refine Z.iload_n C dX6_offset_0 rfl ?_
  refine Z.xSVp C 1 (c_refuseNoStation l D cI cJ cL hl0 x hx) gX6_offset_X6_refuseNoStation rfl rfl rfl (by decide +kernel) ⟨Nat.le_of_ble_eq_true rfl, Nat.le_of_ble_eq_true rfl⟩ rfl rfl (Nat.le_of_ble_eq_true rfl) ⟨Nat.le_of_ble_eq_true rfl, Nat.le_of_ble_eq_true rfl⟩ dX6_offset_1 (fun h => ?_) (fun E hE => ?_)
  · skip
    refine Z.iload_n C dX6_offset_4 rfl ?_
    refine Z.xSVp C 1 (c_refuseNoWaterline l D cI cJ cL hl0 w hw) gX6_offset_X6_refuseNoWaterline rfl rfl rfl (by decide +kernel) ⟨Nat.le_of_ble_eq_true rfl, Nat.le_of_ble_eq_true rfl⟩ rfl rfl (Nat.le_of_ble_eq_true rfl) ⟨Nat.le_of_ble_eq_true rfl, Nat.le_of_ble_eq_true rfl⟩ dX6_offset_5 (fun h => ?_) (fun E hE => ?_)
    · skip
      refine Z.iload_n C dX6_offset_8 rfl ?_
      refine Z.iconst C dX6_offset_9 ?_
      refine Z.sipush C dX6_offset_10 (by decide) ?_
      refine Z.xSVp C 3 (c_refuseOutside l D cI cJ cL hl0 y 0 200 hy ⟨by decide, by decide⟩ ⟨by decide, by decide⟩) gX6_offset_X6_refuseOutside rfl rfl rfl (by decide +kernel) ⟨Nat.le_of_ble_eq_true rfl, Nat.le_of_ble_eq_true rfl⟩ rfl rfl (Nat.le_of_ble_eq_true rfl) ⟨Nat.le_of_ble_eq_true rfl, Nat.le_of_ble_eq_true rfl⟩ dX6_offset_13 (fun h => ?_) (fun E hE => ?_)
      · skip
        refine Z.aload_n C dX6_offset_16 rfl ?_
        refine Z.xVV C 0 0 (c_refuseLaunched l D cI cJ cL ad M B lo ch wt sn vo mo le ln od fe se td th cnt bw bs pl tk tc sill day lau hl0 ha) rfl rfl gX6_offset_X6_refuseLaunched rfl rfl rfl (by decide +kernel) ⟨Nat.le_of_ble_eq_true rfl, Nat.le_of_ble_eq_true rfl⟩ rfl rfl (Nat.le_of_ble_eq_true rfl) ⟨Nat.le_of_ble_eq_true rfl, Nat.le_of_ble_eq_true rfl⟩ dX6_offset_17 (fun w1 h => ?_) (fun E w1 hE => ?_)
        · skip
          obtain ⟨rfl, h⟩ := h
          refine Z.aload_n C dX6_offset_20 rfl ?_
          refine Z.getf C 0 0 iw_X6_offset_6 rfl rfl (by decide) (by decide +kernel) rfl dX6_offset_21 ?_
          refine Z.getfN C 1 0 iw_X6_offset_4 rfl rfl (by decide) (host := RX6) (by decide +kernel) rfl dX6_offset_24 ?_
          refine Z.iload_n C dX6_offset_27 rfl ?_
          refine Z.aald C 2 rfl (by omega) (by omega) (by decide) dX6_offset_28 ?_
          refine Z.iload_n C dX6_offset_29 rfl ?_
          refine Z.iald C _ (wX_row (by omega) (by omega)) (by omega) (by omega) (by decide) dX6_offset_30 ?_
          refine Z.istore C dX6_offset_31 (by decide) ?_
          refine Z.aload_n C dX6_offset_33 rfl ?_
          refine Z.getf C 0 0 iw_X6_offset_6 rfl rfl (by decide) (by decide +kernel) rfl dX6_offset_34 ?_
          refine Z.getfN C 1 0 iw_X6_offset_4 rfl rfl (by decide) (host := RX6) (by decide +kernel) rfl dX6_offset_37 ?_
          refine Z.iload_n C dX6_offset_40 rfl ?_
          refine Z.aald C 2 rfl (by omega) (by omega) (by decide) dX6_offset_41 ?_
          refine Z.iload_n C dX6_offset_42 rfl ?_
          refine Z.iload_n C dX6_offset_43 rfl ?_
          refine Z.iast C _ (wX_row (by omega) (by omega)) (by omega) (by omega) (by decide) dX6_offset_44 (wX_setrow (by omega) (by omega)) ?_
          refine Z.iload C dX6_offset_45 rfl ?_
          exact Z.iretX C hr (Nat.le_of_ble_eq_true rfl) (Nat.le_of_ble_eq_true rfl) dX6_offset_47 (⟨(by unfold tcOffset; (repeat' split) <;> omega), rfl, rfl⟩)
        · skip
          obtain ⟨rfl, hE⟩ := hE
          exact ZX.outI C hnx (Nat.le_of_ble_eq_true rfl) (Nat.le_of_ble_eq_true rfl) (⟨rfl, Or.inr (Or.inr ⟨hE.1, (by unfold tcOffset; (repeat' split) <;> omega)⟩)⟩)
      · skip
        exact ZX.outI C hnx (Nat.le_of_ble_eq_true rfl) (Nat.le_of_ble_eq_true rfl) (⟨rfl, Or.inr (Or.inl ⟨hE.1, (by unfold tcOffset; (repeat' split) <;> omega)⟩)⟩)
    · skip
      exact ZX.outI C hnx (Nat.le_of_ble_eq_true rfl) (Nat.le_of_ble_eq_true rfl) (⟨rfl, (Or.inl ⟨hE.1, (by unfold tcOffset; (repeat' split) <;> omega)⟩)⟩)
  · skip
    exact ZX.outI C hnx (Nat.le_of_ble_eq_true rfl) (Nat.le_of_ble_eq_true rfl) (⟨rfl, (Or.inl ⟨hE.1, (by unfold tcOffset; (repeat' split) <;> omega)⟩)⟩)
set_option maxRecDepth 20000 in
theorem iw_X6_half_4 : ∀ w ∈ u_ws RX4 TX4 1, w ∈ wsX6_half := by decide +kernel
set_option maxRecDepth 20000 in
theorem iw_X6_half_6 : ∀ w ∈ u_ws RX6 TX6 9, w ∈ wsX6_half := by decide +kernel
abbrev rmX6_half : Room := { frames := 7, cells := 2, slots := 12, locals := 110 }
set_option maxHeartbeats 4000000 in
set_option maxRecDepth 100000 in
theorem c_half (l : Launch) (D : va_G) (cI cJ cL : ClassId) (ad : Nat → Nat) (M B : Int → Int → Int) (lo ch wt sn vo mo le ln od fe se td th : Int → Int) (cnt bw bs pl tk tc sill day lau : Int) (hl0 : l.stackTraces = false) (x w : Int) (hx : inr x) (hw : inr w) : XI l yX6_half wsX6_half rmX6_half [.ref (ad 0), .int (iI x), .int (iI w)] D cI cJ cL (wX ad cI cJ M B lo ch wt sn vo mo le ln od fe se td th cnt bw bs pl tk tc sill day lau) 2 12 (fun r w' => tcSW x w = 0 ∧ r = M w x ∧ w' = (wX ad cI cJ M B lo ch wt sn vo mo le ln od fe se td th cnt bw bs pl tk tc sill day lau)) (fun E w' => w' = (wX ad cI cJ M B lo ch wt sn vo mo le ln od fe se td th cnt bw bs pl tk tc sill day lau) ∧ (E = eIX ∧ tcSW x w = 1)) := by
  refine XI.of (cc := cX6_half) (maxL := 3) (ret := (some .int)) (own := RX6) _ 0 (by decide +kernel) rfl rfl rfl (Nat.le_of_ble_eq_true rfl) rfl (fun sz9 p9 e9 s9 m9 a9 b9 h9 c9 C hr hnx => ?_)
  refine Z.iload_n C dX6_half_0 rfl ?_
  refine Z.xSVp C 1 (c_refuseNoStation l D cI cJ cL hl0 x hx) gX6_half_X6_refuseNoStation rfl rfl rfl (by decide +kernel) ⟨Nat.le_of_ble_eq_true rfl, Nat.le_of_ble_eq_true rfl⟩ rfl rfl (Nat.le_of_ble_eq_true rfl) ⟨Nat.le_of_ble_eq_true rfl, Nat.le_of_ble_eq_true rfl⟩ dX6_half_1 (fun h => ?_) (fun E hE => ?_)
  · skip
    refine Z.iload_n C dX6_half_4 rfl ?_
    refine Z.xSVp C 1 (c_refuseNoWaterline l D cI cJ cL hl0 w hw) gX6_half_X6_refuseNoWaterline rfl rfl rfl (by decide +kernel) ⟨Nat.le_of_ble_eq_true rfl, Nat.le_of_ble_eq_true rfl⟩ rfl rfl (Nat.le_of_ble_eq_true rfl) ⟨Nat.le_of_ble_eq_true rfl, Nat.le_of_ble_eq_true rfl⟩ dX6_half_5 (fun h => ?_) (fun E hE => ?_)
    · skip
      refine Z.aload_n C dX6_half_8 rfl ?_
      refine Z.getf C 0 0 iw_X6_half_6 rfl rfl (by decide) (by decide +kernel) rfl dX6_half_9 ?_
      refine Z.getfN C 1 0 iw_X6_half_4 rfl rfl (by decide) (host := RX6) (by decide +kernel) rfl dX6_half_12 ?_
      refine Z.iload_n C dX6_half_15 rfl ?_
      refine Z.aald C 2 rfl (by omega) (by omega) (by decide) dX6_half_16 ?_
      refine Z.iload_n C dX6_half_17 rfl ?_
      refine Z.iald C _ (wX_row (by omega) (by omega)) (by omega) (by omega) (by decide) dX6_half_18 ?_
      exact Z.iretX C hr (Nat.le_of_ble_eq_true rfl) (Nat.le_of_ble_eq_true rfl) dX6_half_19 (⟨(by unfold tcSW; (repeat' split) <;> omega), rfl, rfl⟩)
    · skip
      exact ZX.outI C hnx (Nat.le_of_ble_eq_true rfl) (Nat.le_of_ble_eq_true rfl) (⟨rfl, ⟨hE.1, (by unfold tcSW; (repeat' split) <;> omega)⟩⟩)
  · skip
    exact ZX.outI C hnx (Nat.le_of_ble_eq_true rfl) (Nat.le_of_ble_eq_true rfl) (⟨rfl, ⟨hE.1, (by unfold tcSW; (repeat' split) <;> omega)⟩⟩)
set_option maxRecDepth 20000 in
theorem iw_X6_bend_4 : ∀ w ∈ u_ws RX4 TX4 1, w ∈ wsX6_bend := by decide +kernel
set_option maxRecDepth 20000 in
theorem iw_X6_bend_6 : ∀ w ∈ u_ws RX6 TX6 9, w ∈ wsX6_bend := by decide +kernel
abbrev rmX6_bend : Room := { frames := 7, cells := 1, slots := 6, locals := 110 }
set_option maxHeartbeats 4000000 in
set_option maxRecDepth 100000 in
theorem c_bend (l : Launch) (D : va_G) (cI cJ cL : ClassId) (ad : Nat → Nat) (M B : Int → Int → Int) (lo ch wt sn vo mo le ln od fe se td th : Int → Int) (cnt bw bs pl tk tc sill day lau : Int) (hl0 : l.stackTraces = false) (w : Int) (hw : inr w) : XI l yX6_bend wsX6_bend rmX6_bend [.ref (ad 0), .int (iI w)] D cI cJ cL (wX ad cI cJ M B lo ch wt sn vo mo le ln od fe se td th cnt bw bs pl tk tc sill day lau) 1 6 (fun r w' => tcW w = 0 ∧ r = bendZ (M w) 7 ∧ w' = (wX ad cI cJ M B lo ch wt sn vo mo le ln od fe se td th cnt bw bs pl tk tc sill day lau)) (fun E w' => w' = (wX ad cI cJ M B lo ch wt sn vo mo le ln od fe se td th cnt bw bs pl tk tc sill day lau) ∧ (E = eIX ∧ tcW w = 1)) := by
  refine XI.of (cc := cX6_bend) (maxL := 2) (ret := (some .int)) (own := RX6) _ 0 (by decide +kernel) rfl rfl rfl (Nat.le_of_ble_eq_true rfl) rfl (fun sz9 p9 e9 s9 m9 a9 b9 h9 c9 C hr hnx => ?_)
  refine Z.iload_n C dX6_bend_0 rfl ?_
  refine Z.xSVp C 1 (c_refuseNoWaterline l D cI cJ cL hl0 w hw) gX6_bend_X6_refuseNoWaterline rfl rfl rfl (by decide +kernel) ⟨Nat.le_of_ble_eq_true rfl, Nat.le_of_ble_eq_true rfl⟩ rfl rfl (Nat.le_of_ble_eq_true rfl) ⟨Nat.le_of_ble_eq_true rfl, Nat.le_of_ble_eq_true rfl⟩ dX6_bend_1 (fun h => ?_) (fun E hE => ?_)
  · skip
    refine Z.aload_n C dX6_bend_4 rfl ?_
    refine Z.getf C 0 0 iw_X6_bend_6 rfl rfl (by decide) (by decide +kernel) rfl dX6_bend_5 ?_
    refine Z.getfN C 1 0 iw_X6_bend_4 rfl rfl (by decide) (host := RX6) (by decide +kernel) rfl dX6_bend_8 ?_
    refine Z.iload_n C dX6_bend_11 rfl ?_
    refine Z.aald C 2 rfl (by omega) (by omega) (by decide) dX6_bend_12 ?_
    refine Z.cSId C 1 (c_bendOfLine l D cI cJ cL ad M B lo ch wt sn vo mo le ln od fe se td th cnt bw bs pl tk tc sill day lau w (by omega) (by omega)) gX6_bend_X6_bendOfLine rfl rfl rfl (by decide +kernel) ⟨Nat.le_of_ble_eq_true rfl, Nat.le_of_ble_eq_true rfl⟩ rfl rfl (Nat.le_of_ble_eq_true rfl) ⟨Nat.le_of_ble_eq_true rfl, Nat.le_of_ble_eq_true rfl⟩ dX6_bend_13 ?_
    exact Z.iretX C hr (Nat.le_of_ble_eq_true rfl) (Nat.le_of_ble_eq_true rfl) dX6_bend_16 (⟨(by unfold tcW; (repeat' split) <;> omega), rfl, rfl⟩)
  · skip
    exact ZX.outI C hnx (Nat.le_of_ble_eq_true rfl) (Nat.le_of_ble_eq_true rfl) (⟨rfl, ⟨hE.1, (by unfold tcW; (repeat' split) <;> omega)⟩⟩)
theorem bendZ_cong {f g : Int → Int} : ∀ k : Nat, (∀ s : Nat, s ≤ k + 1 → f s = g s) → bendZ f k = bendZ g k
  | 0, _ => rfl
  | k + 1, h => by
    have h0 := h k (by omega)
    have h1 := h (k + 1) (by omega)
    have h2 := h (k + 2) (by omega)
    push_cast at h1 h2
    simp only [bendZ]
    rw [bendZ_cong k (fun s hs => h s (by omega)), h0, h1, h2]
set_option maxRecDepth 20000 in
theorem iw_X6_fair_4 : ∀ w ∈ u_ws RX4 TX4 1, w ∈ wsX6_fair := by decide +kernel
set_option maxRecDepth 20000 in
theorem iw_X6_fair_6 : ∀ w ∈ u_ws RX6 TX6 9, w ∈ wsX6_fair := by decide +kernel
abbrev rmX6_fair : Room := { frames := 7, cells := 3, slots := 18, locals := 124 }
set_option maxHeartbeats 4000000 in
set_option maxRecDepth 100000 in
theorem c_fair (l : Launch) (D : va_G) (cI cJ cL : ClassId) (ad : Nat → Nat) (M B : Int → Int → Int) (lo ch wt sn vo mo le ln od fe se td th : Int → Int) (cnt bw bs pl tk tc sill day lau : Int) (hl0 : l.stackTraces = false) (hM : hOK M) (hB : ∀ j : Int, B 7 j = 0) (ha : lau = 0 ∨ lau = 1) (w x : Int) (hw : inr w) (hx : inr x) : XI l yX6_fair wsX6_fair rmX6_fair [.ref (ad 0), .int (iI w), .int (iI x)] D cI cJ cL (wX ad cI cJ M B lo ch wt sn vo mo le ln od fe se td th cnt bw bs pl tk tc sill day lau) 3 18 (fun r w' => tcFair w x lau = 0 ∧ r = bendZ (M w) 7 - bendZ (frZ (M w) x) 7 ∧ ∃ (B' : Int → Int → Int) (lo' ch' f' : Int → Int), (∀ j : Int, B' 7 j = 0) ∧ (∀ j : Int, 0 ≤ f' j ∧ f' j ≤ 200) ∧ (∀ s : Nat, s ≤ 8 → f' s = frZ (M w) x s) ∧ w' = (wX ad cI cJ (zrow M w f') B' lo' ch' wt sn vo mo le ln od fe se td th cnt bw bs pl tk tc sill day lau)) (fun E w' => w' = (wX ad cI cJ M B lo ch wt sn vo mo le ln od fe se td th cnt bw bs pl tk tc sill day lau) ∧ exO E (tcFair w x lau)) := by
  refine XI.of (cc := cX6_fair) (maxL := 5) (ret := (some .int)) (own := RX6) _ 2 (by decide +kernel) rfl rfl rfl (Nat.le_of_ble_eq_true rfl) rfl (fun sz9 p9 e9 s9 m9 a9 b9 h9 c9 C hr hnx => ?_)
  refine Z.iload_n C dX6_fair_0 rfl ?_
  refine Z.xSVp C 1 (c_refuseNoWaterline l D cI cJ cL hl0 w hw) gX6_fair_X6_refuseNoWaterline rfl rfl rfl (by decide +kernel) ⟨Nat.le_of_ble_eq_true rfl, Nat.le_of_ble_eq_true rfl⟩ rfl rfl (Nat.le_of_ble_eq_true rfl) ⟨Nat.le_of_ble_eq_true rfl, Nat.le_of_ble_eq_true rfl⟩ dX6_fair_1 (fun h => ?_) (fun E hE => ?_)
  · skip
    refine Z.iload_n C dX6_fair_4 rfl ?_
    refine Z.iconst C dX6_fair_5 ?_
    refine Z.iconst C dX6_fair_6 ?_
    refine Z.xSVp C 3 (c_refuseOutside l D cI cJ cL hl0 x 0 2 hx ⟨by decide, by decide⟩ ⟨by decide, by decide⟩) gX6_fair_X6_refuseOutside rfl rfl rfl (by decide +kernel) ⟨Nat.le_of_ble_eq_true rfl, Nat.le_of_ble_eq_true rfl⟩ rfl rfl (Nat.le_of_ble_eq_true rfl) ⟨Nat.le_of_ble_eq_true rfl, Nat.le_of_ble_eq_true rfl⟩ dX6_fair_7 (fun h => ?_) (fun E hE => ?_)
    · skip
      refine Z.aload_n C dX6_fair_10 rfl ?_
      refine Z.xVV C 0 0 (c_refuseLaunched l D cI cJ cL ad M B lo ch wt sn vo mo le ln od fe se td th cnt bw bs pl tk tc sill day lau hl0 ha) rfl rfl gX6_fair_X6_refuseLaunched rfl rfl rfl (by decide +kernel) ⟨Nat.le_of_ble_eq_true rfl, Nat.le_of_ble_eq_true rfl⟩ rfl rfl (Nat.le_of_ble_eq_true rfl) ⟨Nat.le_of_ble_eq_true rfl, Nat.le_of_ble_eq_true rfl⟩ dX6_fair_11 (fun w1 h => ?_) (fun E w1 hE => ?_)
      · skip
        obtain ⟨rfl, h⟩ := h
        refine Z.aload_n C dX6_fair_14 rfl ?_
        refine Z.getf C 0 0 iw_X6_fair_6 rfl rfl (by decide) (by decide +kernel) rfl dX6_fair_15 ?_
        refine Z.getfN C 1 0 iw_X6_fair_4 rfl rfl (by decide) (host := RX6) (by decide +kernel) rfl dX6_fair_18 ?_
        refine Z.iload_n C dX6_fair_21 rfl ?_
        refine Z.aald C 2 rfl (by omega) (by omega) (by decide) dX6_fair_22 ?_
        refine Z.astore_n C dX6_fair_23 (by decide) ?_
        refine Z.aload_n C dX6_fair_24 rfl ?_
        refine Z.cSId C 1 (c_bendOfLine l D cI cJ cL ad M B lo ch wt sn vo mo le ln od fe se td th cnt bw bs pl tk tc sill day lau w (by omega) (by omega)) gX6_fair_X6_bendOfLine rfl rfl rfl (by decide +kernel) ⟨Nat.le_of_ble_eq_true rfl, Nat.le_of_ble_eq_true rfl⟩ rfl rfl (Nat.le_of_ble_eq_true rfl) ⟨Nat.le_of_ble_eq_true rfl, Nat.le_of_ble_eq_true rfl⟩ dX6_fair_25 ?_
        refine Z.istore C dX6_fair_28 (by decide) ?_
        refine Z.aload_n C dX6_fair_30 rfl ?_
        refine Z.getf C 0 1 iw_X6_fair_6 rfl rfl (by decide) (by decide +kernel) rfl dX6_fair_31 ?_
        refine Z.aload_n C dX6_fair_34 rfl ?_
        refine Z.iload_n C dX6_fair_35 rfl ?_
        refine Z.cVNV C 3 (host := RX6) 2 ( c_straighten l D cI cJ cL ad M B lo ch wt sn vo mo le ln od fe se td th cnt bw bs pl tk tc sill day lau hM w (by omega) (by omega) x (by omega) (by omega) hB) rfl rfl gX6_fair_X1_straighten_n84 (by decide +kernel) (by decide +kernel) (by decide +kernel) (by decide +kernel) rfl rfl rfl (by decide +kernel) ⟨Nat.le_of_ble_eq_true rfl, Nat.le_of_ble_eq_true rfl⟩ rfl rfl (Nat.le_of_ble_eq_true rfl) ⟨Nat.le_of_ble_eq_true rfl, Nat.le_of_ble_eq_true rfl⟩ dX6_fair_36 (fun w2 hw2 => ?_)
        obtain ⟨B1, lo1, ch1, f1, k1, k2, k3, rfl⟩ := hw2
        have hcg : bendZ f1 7 = bendZ (frZ (M w) x) 7 := bendZ_cong 7 (fun s hs => k3 s (by omega))
        refine Z.iload C dX6_fair_39 rfl ?_
        refine Z.aload_n C dX6_fair_41 rfl ?_
        refine Z.cSId C 1 (c_bendOfLine l D cI cJ cL ad (zrow M w f1) B1 lo1 ch1 wt sn vo mo le ln od fe se td th cnt bw bs pl tk tc sill day lau w (by omega) (by omega)) gX6_fair_X6_bendOfLine rfl rfl rfl (by decide +kernel) ⟨Nat.le_of_ble_eq_true rfl, Nat.le_of_ble_eq_true rfl⟩ rfl rfl (Nat.le_of_ble_eq_true rfl) ⟨Nat.le_of_ble_eq_true rfl, Nat.le_of_ble_eq_true rfl⟩ dX6_fair_42 ?_
        rw [zrow_eq, hcg]
        refine Z.isub C dX6_fair_45 ?_
        exact Z.iretX C hr (Nat.le_of_ble_eq_true rfl) (Nat.le_of_ble_eq_true rfl) dX6_fair_46 (⟨(by unfold tcFair; (repeat' split) <;> omega), rfl, B1, lo1, ch1, f1, k1, k2, k3, rfl⟩)
      · skip
        obtain ⟨rfl, hE⟩ := hE
        exact ZX.outI C hnx (Nat.le_of_ble_eq_true rfl) (Nat.le_of_ble_eq_true rfl) (⟨rfl, Or.inr (Or.inr ⟨hE.1, (by unfold tcFair; (repeat' split) <;> omega)⟩)⟩)
    · skip
      exact ZX.outI C hnx (Nat.le_of_ble_eq_true rfl) (Nat.le_of_ble_eq_true rfl) (⟨rfl, Or.inr (Or.inl ⟨hE.1, (by unfold tcFair; (repeat' split) <;> omega)⟩)⟩)
  · skip
    exact ZX.outI C hnx (Nat.le_of_ble_eq_true rfl) (Nat.le_of_ble_eq_true rfl) (⟨rfl, (Or.inl ⟨hE.1, (by unfold tcFair; (repeat' split) <;> omega)⟩)⟩)
set_option maxRecDepth 20000 in
theorem iw_X6_area_6 : ∀ w ∈ u_ws RX6 TX6 9, w ∈ wsX6_area := by decide +kernel
abbrev rmX6_area : Room := { frames := 7, cells := 2, slots := 12, locals := 110 }
set_option maxHeartbeats 4000000 in
set_option maxRecDepth 100000 in
theorem c_area (l : Launch) (D : va_G) (cI cJ cL : ClassId) (ad : Nat → Nat) (M B : Int → Int → Int) (lo ch wt sn vo mo le ln od fe se td th : Int → Int) (cnt bw bs pl tk tc sill day lau : Int) (hl0 : l.stackTraces = false) (x w : Int) (hx : inr x) (hw : inr w) : XI l yX6_area wsX6_area rmX6_area [.ref (ad 0), .int (iI x), .int (iI w)] D cI cJ cL (wX ad cI cJ M B lo ch wt sn vo mo le ln od fe se td th cnt bw bs pl tk tc sill day lau) 2 12 (fun r w' => tcSW x w = 0 ∧ r = areaZ M x w.toNat ∧ w' = (wX ad cI cJ M B lo ch wt sn vo mo le ln od fe se td th cnt bw bs pl tk tc sill day lau)) (fun E w' => w' = (wX ad cI cJ M B lo ch wt sn vo mo le ln od fe se td th cnt bw bs pl tk tc sill day lau) ∧ (E = eIX ∧ tcSW x w = 1)) := by
  refine XI.of (cc := cX6_area) (maxL := 3) (ret := (some .int)) (own := RX6) _ 0 (by decide +kernel) rfl rfl rfl (Nat.le_of_ble_eq_true rfl) rfl (fun sz9 p9 e9 s9 m9 a9 b9 h9 c9 C hr hnx => ?_)
  refine Z.iload_n C dX6_area_0 rfl ?_
  refine Z.xSVp C 1 (c_refuseNoStation l D cI cJ cL hl0 x hx) gX6_area_X6_refuseNoStation rfl rfl rfl (by decide +kernel) ⟨Nat.le_of_ble_eq_true rfl, Nat.le_of_ble_eq_true rfl⟩ rfl rfl (Nat.le_of_ble_eq_true rfl) ⟨Nat.le_of_ble_eq_true rfl, Nat.le_of_ble_eq_true rfl⟩ dX6_area_1 (fun h => ?_) (fun E hE => ?_)
  · skip
    refine Z.iload_n C dX6_area_4 rfl ?_
    refine Z.xSVp C 1 (c_refuseNoWaterline l D cI cJ cL hl0 w hw) gX6_area_X6_refuseNoWaterline rfl rfl rfl (by decide +kernel) ⟨Nat.le_of_ble_eq_true rfl, Nat.le_of_ble_eq_true rfl⟩ rfl rfl (Nat.le_of_ble_eq_true rfl) ⟨Nat.le_of_ble_eq_true rfl, Nat.le_of_ble_eq_true rfl⟩ dX6_area_5 (fun h => ?_) (fun E hE => ?_)
    · skip
      have hz : tcSW x w = 0 := by unfold tcSW; (repeat' split) <;> omega
      obtain ⟨n, rfl⟩ : ∃ n : Nat, w = n := ⟨w.toNat, by omega⟩
      refine Z.aload_n C dX6_area_8 rfl ?_
      refine Z.getf C 0 0 iw_X6_area_6 rfl rfl (by decide) (by decide +kernel) rfl dX6_area_9 ?_
      refine Z.iload_n C dX6_area_12 rfl ?_
      refine Z.iload_n C dX6_area_13 rfl ?_
      refine Z.cVNId C 1 (host := RX6) 2 (c_areaUpTo l D cI cJ cL ad M B lo ch wt sn vo mo le ln od fe se td th cnt bw bs pl tk tc sill day lau x n (by omega) (by omega) (by omega)) rfl rfl gX6_area_X4_areaUpTo_n88 (by decide +kernel) (by decide +kernel) (by decide +kernel) (by decide +kernel) rfl rfl rfl (by decide +kernel) ⟨Nat.le_of_ble_eq_true rfl, Nat.le_of_ble_eq_true rfl⟩ rfl rfl (Nat.le_of_ble_eq_true rfl) ⟨Nat.le_of_ble_eq_true rfl, Nat.le_of_ble_eq_true rfl⟩ dX6_area_14 ?_
      exact Z.iretX C hr (Nat.le_of_ble_eq_true rfl) (Nat.le_of_ble_eq_true rfl) dX6_area_17 (⟨hz, rfl, rfl⟩)
    · skip
      exact ZX.outI C hnx (Nat.le_of_ble_eq_true rfl) (Nat.le_of_ble_eq_true rfl) (⟨rfl, ⟨hE.1, (by unfold tcSW; (repeat' split) <;> omega)⟩⟩)
  · skip
    exact ZX.outI C hnx (Nat.le_of_ble_eq_true rfl) (Nat.le_of_ble_eq_true rfl) (⟨rfl, ⟨hE.1, (by unfold tcSW; (repeat' split) <;> omega)⟩⟩)
set_option maxRecDepth 20000 in
theorem iw_X6_volume_6 : ∀ w ∈ u_ws RX6 TX6 9, w ∈ wsX6_volume := by decide +kernel
abbrev rmX6_volume : Room := { frames := 7, cells := 1, slots := 6, locals := 110 }
set_option maxHeartbeats 4000000 in
set_option maxRecDepth 100000 in
theorem c_volume (l : Launch) (D : va_G) (cI cJ cL : ClassId) (ad : Nat → Nat) (M B : Int → Int → Int) (lo ch wt sn vo mo le ln od fe se td th : Int → Int) (cnt bw bs pl tk tc sill day lau : Int) (hl0 : l.stackTraces = false) (w : Int) (hw : inr w) : XI l yX6_volume wsX6_volume rmX6_volume [.ref (ad 0), .int (iI w)] D cI cJ cL (wX ad cI cJ M B lo ch wt sn vo mo le ln od fe se td th cnt bw bs pl tk tc sill day lau) 1 6 (fun r w' => tcW w = 0 ∧ r = volZ M w.toNat 8 ∧ w' = (wX ad cI cJ M B lo ch wt sn vo mo le ln od fe se td th cnt bw bs pl tk tc sill day lau)) (fun E w' => w' = (wX ad cI cJ M B lo ch wt sn vo mo le ln od fe se td th cnt bw bs pl tk tc sill day lau) ∧ (E = eIX ∧ tcW w = 1)) := by
  refine XI.of (cc := cX6_volume) (maxL := 2) (ret := (some .int)) (own := RX6) _ 0 (by decide +kernel) rfl rfl rfl (Nat.le_of_ble_eq_true rfl) rfl (fun sz9 p9 e9 s9 m9 a9 b9 h9 c9 C hr hnx => ?_)
  refine Z.iload_n C dX6_volume_0 rfl ?_
  refine Z.xSVp C 1 (c_refuseNoWaterline l D cI cJ cL hl0 w hw) gX6_volume_X6_refuseNoWaterline rfl rfl rfl (by decide +kernel) ⟨Nat.le_of_ble_eq_true rfl, Nat.le_of_ble_eq_true rfl⟩ rfl rfl (Nat.le_of_ble_eq_true rfl) ⟨Nat.le_of_ble_eq_true rfl, Nat.le_of_ble_eq_true rfl⟩ dX6_volume_1 (fun h => ?_) (fun E hE => ?_)
  · skip
    have hz : tcW w = 0 := by unfold tcW; (repeat' split) <;> omega
    obtain ⟨n, rfl⟩ : ∃ n : Nat, w = n := ⟨w.toNat, by omega⟩
    refine Z.aload_n C dX6_volume_4 rfl ?_
    refine Z.getf C 0 0 iw_X6_volume_6 rfl rfl (by decide) (by decide +kernel) rfl dX6_volume_5 ?_
    refine Z.iload_n C dX6_volume_8 rfl ?_
    refine Z.cVNId C 1 (host := RX6) 1 (c_volumeUpTo l D cI cJ cL ad M B lo ch wt sn vo mo le ln od fe se td th cnt bw bs pl tk tc sill day lau n (by omega)) rfl rfl gX6_volume_X4_volumeUpTo_n92 (by decide +kernel) (by decide +kernel) (by decide +kernel) (by decide +kernel) rfl rfl rfl (by decide +kernel) ⟨Nat.le_of_ble_eq_true rfl, Nat.le_of_ble_eq_true rfl⟩ rfl rfl (Nat.le_of_ble_eq_true rfl) ⟨Nat.le_of_ble_eq_true rfl, Nat.le_of_ble_eq_true rfl⟩ dX6_volume_9 ?_
    exact Z.iretX C hr (Nat.le_of_ble_eq_true rfl) (Nat.le_of_ble_eq_true rfl) dX6_volume_12 (⟨hz, rfl, rfl⟩)
  · skip
    exact ZX.outI C hnx (Nat.le_of_ble_eq_true rfl) (Nat.le_of_ble_eq_true rfl) (⟨rfl, ⟨hE.1, (by unfold tcW; (repeat' split) <;> omega)⟩⟩)
set_option maxRecDepth 20000 in
theorem iw_X6_volumeAnew_6 : ∀ w ∈ u_ws RX6 TX6 9, w ∈ wsX6_volumeAnew := by decide +kernel
abbrev rmX6_volumeAnew : Room := { frames := 7, cells := 1, slots := 6, locals := 110 }
set_option maxHeartbeats 4000000 in
set_option maxRecDepth 100000 in
theorem c_volumeAnew (l : Launch) (D : va_G) (cI cJ cL : ClassId) (ad : Nat → Nat) (M B : Int → Int → Int) (lo ch wt sn vo mo le ln od fe se td th : Int → Int) (cnt bw bs pl tk tc sill day lau : Int) (hl0 : l.stackTraces = false) (w : Int) (hw : inr w) : XI l yX6_volumeAnew wsX6_volumeAnew rmX6_volumeAnew [.ref (ad 0), .int (iI w)] D cI cJ cL (wX ad cI cJ M B lo ch wt sn vo mo le ln od fe se td th cnt bw bs pl tk tc sill day lau) 1 6 (fun r w' => tcW w = 0 ∧ r = slcZ M w.toNat ∧ w' = (wX ad cI cJ M B lo ch wt sn vo mo le ln od fe se td th cnt bw bs pl tk tc sill day lau)) (fun E w' => w' = (wX ad cI cJ M B lo ch wt sn vo mo le ln od fe se td th cnt bw bs pl tk tc sill day lau) ∧ (E = eIX ∧ tcW w = 1)) := by
  refine XI.of (cc := cX6_volumeAnew) (maxL := 2) (ret := (some .int)) (own := RX6) _ 0 (by decide +kernel) rfl rfl rfl (Nat.le_of_ble_eq_true rfl) rfl (fun sz9 p9 e9 s9 m9 a9 b9 h9 c9 C hr hnx => ?_)
  refine Z.iload_n C dX6_volumeAnew_0 rfl ?_
  refine Z.xSVp C 1 (c_refuseNoWaterline l D cI cJ cL hl0 w hw) gX6_volumeAnew_X6_refuseNoWaterline rfl rfl rfl (by decide +kernel) ⟨Nat.le_of_ble_eq_true rfl, Nat.le_of_ble_eq_true rfl⟩ rfl rfl (Nat.le_of_ble_eq_true rfl) ⟨Nat.le_of_ble_eq_true rfl, Nat.le_of_ble_eq_true rfl⟩ dX6_volumeAnew_1 (fun h => ?_) (fun E hE => ?_)
  · skip
    have hz : tcW w = 0 := by unfold tcW; (repeat' split) <;> omega
    obtain ⟨n, rfl⟩ : ∃ n : Nat, w = n := ⟨w.toNat, by omega⟩
    refine Z.aload_n C dX6_volumeAnew_4 rfl ?_
    refine Z.getf C 0 0 iw_X6_volumeAnew_6 rfl rfl (by decide) (by decide +kernel) rfl dX6_volumeAnew_5 ?_
    refine Z.iload_n C dX6_volumeAnew_8 rfl ?_
    refine Z.cVNId C 1 (host := RX6) 1 (c_volumeBySlices l D cI cJ cL ad M B lo ch wt sn vo mo le ln od fe se td th cnt bw bs pl tk tc sill day lau n (by omega)) rfl rfl gX6_volumeAnew_X4_volumeBySlices_n96 (by decide +kernel) (by decide +kernel) (by decide +kernel) (by decide +kernel) rfl rfl rfl (by decide +kernel) ⟨Nat.le_of_ble_eq_true rfl, Nat.le_of_ble_eq_true rfl⟩ rfl rfl (Nat.le_of_ble_eq_true rfl) ⟨Nat.le_of_ble_eq_true rfl, Nat.le_of_ble_eq_true rfl⟩ dX6_volumeAnew_9 ?_
    exact Z.iretX C hr (Nat.le_of_ble_eq_true rfl) (Nat.le_of_ble_eq_true rfl) dX6_volumeAnew_12 (⟨hz, rfl, rfl⟩)
  · skip
    exact ZX.outI C hnx (Nat.le_of_ble_eq_true rfl) (Nat.le_of_ble_eq_true rfl) (⟨rfl, ⟨hE.1, (by unfold tcW; (repeat' split) <;> omega)⟩⟩)
set_option maxRecDepth 20000 in
theorem iw_X6_weigh_6 : ∀ w ∈ u_ws RX6 TX6 9, w ∈ wsX6_weigh := by decide +kernel
abbrev rmX6_weigh : Room := { frames := 7, cells := 3, slots := 18, locals := 112 }
set_option maxHeartbeats 4000000 in
set_option maxRecDepth 100000 in
theorem c_weigh (l : Launch) (D : va_G) (cI cJ cL : ClassId) (ad : Nat → Nat) (M B : Int → Int → Int) (lo ch wt sn vo mo le ln od fe se td th : Int → Int) (cnt bw bs pl tk tc sill day lau : Int) (hl0 : l.stackTraces = false) (hc0 : 0 ≤ cnt) (hc1 : cnt ≤ 16) (x w : Int) (hx : inr x) (hw : inr w) : XI l yX6_weigh wsX6_weigh rmX6_weigh [.ref (ad 0), .int (iI x), .int (iI w)] D cI cJ cL (wX ad cI cJ M B lo ch wt sn vo mo le ln od fe se td th cnt bw bs pl tk tc sill day lau) 3 18 (fun r w' => tcWeigh x w cnt = 0 ∧ r = cnt ∧ w' = (wX ad cI cJ M B lo ch (zset wt cnt w) (zset sn cnt x) vo mo le ln od fe se td th (cnt + 1) bw bs pl tk tc sill day lau)) (fun E w' => w' = (wX ad cI cJ M B lo ch wt sn vo mo le ln od fe se td th cnt bw bs pl tk tc sill day lau) ∧ exO E (tcWeigh x w cnt)) := by
  refine XI.of (cc := cX6_weigh) (maxL := 3) (ret := (some .int)) (own := RX6) _ 0 (by decide +kernel) rfl rfl rfl (Nat.le_of_ble_eq_true rfl) rfl (fun sz9 p9 e9 s9 m9 a9 b9 h9 c9 C hr hnx => ?_)
  refine Z.iload_n C dX6_weigh_0 rfl ?_
  refine Z.xSVp C 1 (c_refuseNoStation l D cI cJ cL hl0 x hx) gX6_weigh_X6_refuseNoStation rfl rfl rfl (by decide +kernel) ⟨Nat.le_of_ble_eq_true rfl, Nat.le_of_ble_eq_true rfl⟩ rfl rfl (Nat.le_of_ble_eq_true rfl) ⟨Nat.le_of_ble_eq_true rfl, Nat.le_of_ble_eq_true rfl⟩ dX6_weigh_1 (fun h => ?_) (fun E hE => ?_)
  · skip
    refine Z.iload_n C dX6_weigh_4 rfl ?_
    refine Z.iconst C dX6_weigh_5 ?_
    refine Z.sipush C dX6_weigh_6 (by decide) ?_
    refine Z.xSVp C 3 (c_refuseOutside l D cI cJ cL hl0 w 0 999 hw ⟨by decide, by decide⟩ ⟨by decide, by decide⟩) gX6_weigh_X6_refuseOutside rfl rfl rfl (by decide +kernel) ⟨Nat.le_of_ble_eq_true rfl, Nat.le_of_ble_eq_true rfl⟩ rfl rfl (Nat.le_of_ble_eq_true rfl) ⟨Nat.le_of_ble_eq_true rfl, Nat.le_of_ble_eq_true rfl⟩ dX6_weigh_9 (fun h => ?_) (fun E hE => ?_)
    · skip
      refine Z.aload_n C dX6_weigh_12 rfl ?_
      refine Z.getf C 0 2 iw_X6_weigh_6 rfl rfl (by decide) (by decide +kernel) rfl dX6_weigh_13 ?_
      refine Z.cVNId C 5 (host := RX6) 0 (c_isFull l D cI cJ cL ad M B lo ch wt sn vo mo le ln od fe se td th cnt bw bs pl tk tc sill day lau hc0 hc1) rfl rfl gX6_weigh_X3_isFull_n99 (by decide +kernel) (by decide +kernel) (by decide +kernel) (by decide +kernel) rfl rfl rfl (by decide +kernel) ⟨Nat.le_of_ble_eq_true rfl, Nat.le_of_ble_eq_true rfl⟩ rfl rfl (Nat.le_of_ble_eq_true rfl) ⟨Nat.le_of_ble_eq_true rfl, Nat.le_of_ble_eq_true rfl⟩ dX6_weigh_16 ?_
      refine Z.ifeq C 32 dX6_weigh_19 (by decide) (⟨by split <;> omega, by split <;> omega⟩) (fun hq => ?_) (fun hq => ?_)
      · have hc : cnt < 16 := by split at hq <;> omega
        refine Z.aload_n C dX6_weigh_32 rfl ?_
        refine Z.getf C 0 2 iw_X6_weigh_6 rfl rfl (by decide) (by decide +kernel) rfl dX6_weigh_33 ?_
        refine Z.iload_n C dX6_weigh_36 rfl ?_
        refine Z.iload_n C dX6_weigh_37 rfl ?_
        refine Z.cVNId C 5 (host := RX6) 2 (c_add l D cI cJ cL ad M B lo ch wt sn vo mo le ln od fe se td th cnt bw bs pl tk tc sill day lau x w hc0 hc) rfl rfl gX6_weigh_X3_add_n110 (by decide +kernel) (by decide +kernel) (by decide +kernel) (by decide +kernel) rfl rfl rfl (by decide +kernel) ⟨Nat.le_of_ble_eq_true rfl, Nat.le_of_ble_eq_true rfl⟩ rfl rfl (Nat.le_of_ble_eq_true rfl) ⟨Nat.le_of_ble_eq_true rfl, Nat.le_of_ble_eq_true rfl⟩ dX6_weigh_38 ?_
        exact Z.iretX C hr (Nat.le_of_ble_eq_true rfl) (Nat.le_of_ble_eq_true rfl) dX6_weigh_41 (⟨(by unfold tcWeigh; (repeat' split) <;> omega), rfl, rfl⟩)
      · have hc : cnt = 16 := by split at hq <;> omega
        exact Z.throwSI C hnx hl0 (cls := "java/lang/IllegalStateException") (text := "there are 16 weights") (ik := 103) (is := 105) (ic := 107) (by decide +kernel) (by decide +kernel) (by decide +kernel) (by decide +kernel) (by decide +kernel) tha107 thg107 thf107 dX6_weigh_22 dX6_weigh_25 dX6_weigh_26 dX6_weigh_28 dX6_weigh_31 (Nat.le_of_ble_eq_true rfl) (Nat.le_of_ble_eq_true rfl) (Nat.le_of_ble_eq_true rfl) (Nat.le_of_ble_eq_true rfl) (Nat.le_of_ble_eq_true rfl) (Nat.le_of_ble_eq_true rfl) (⟨rfl, Or.inr (Or.inr ⟨rfl, (by unfold tcWeigh; (repeat' split) <;> omega)⟩)⟩)
    · skip
      exact ZX.outI C hnx (Nat.le_of_ble_eq_true rfl) (Nat.le_of_ble_eq_true rfl) (⟨rfl, Or.inr (Or.inl ⟨hE.1, (by unfold tcWeigh; (repeat' split) <;> omega)⟩)⟩)
  · skip
    exact ZX.outI C hnx (Nat.le_of_ble_eq_true rfl) (Nat.le_of_ble_eq_true rfl) (⟨rfl, (Or.inl ⟨hE.1, (by unfold tcWeigh; (repeat' split) <;> omega)⟩)⟩)
set_option maxRecDepth 20000 in
theorem iw_X6_change_6 : ∀ w ∈ u_ws RX6 TX6 9, w ∈ wsX6_change := by decide +kernel
abbrev rmX6_change : Room := { frames := 7, cells := 3, slots := 18, locals := 112 }
set_option maxHeartbeats 4000000 in
set_option maxRecDepth 100000 in
theorem c_change (l : Launch) (D : va_G) (cI cJ cL : ClassId) (ad : Nat → Nat) (M B : Int → Int → Int) (lo ch wt sn vo mo le ln od fe se td th : Int → Int) (cnt bw bs pl tk tc sill day lau : Int) (hl0 : l.stackTraces = false) (hc0 : 0 ≤ cnt) (hc1 : cnt ≤ 16) (q x w : Int) (hq : inr q) (hx : inr x) (hw : inr w) : XI l yX6_change wsX6_change rmX6_change [.ref (ad 0), .int (iI q), .int (iI x), .int (iI w)] D cI cJ cL (wX ad cI cJ M B lo ch wt sn vo mo le ln od fe se td th cnt bw bs pl tk tc sill day lau) 3 18 (fun r w' => tcChange q x w cnt = 0 ∧ r = 10 * wt q + sn q ∧ w' = (wX ad cI cJ M B lo ch (zset wt q w) (zset sn q x) vo mo le ln od fe se td th cnt bw bs pl tk tc sill day lau)) (fun E w' => w' = (wX ad cI cJ M B lo ch wt sn vo mo le ln od fe se td th cnt bw bs pl tk tc sill day lau) ∧ exO E (tcChange q x w cnt)) := by
  refine XI.of (cc := cX6_change) (maxL := 4) (ret := (some .int)) (own := RX6) _ 0 (by decide +kernel) rfl rfl rfl (Nat.le_of_ble_eq_true rfl) rfl (fun sz9 p9 e9 s9 m9 a9 b9 h9 c9 C hr hnx => ?_)
  refine Z.aload_n C dX6_change_0 rfl ?_
  refine Z.iload_n C dX6_change_1 rfl ?_
  refine Z.xVV C 0 1 (c_refuseNoWeight l D cI cJ cL ad M B lo ch wt sn vo mo le ln od fe se td th cnt bw bs pl tk tc sill day lau hl0 hc0 hc1 q hq) rfl rfl gX6_change_X6_refuseNoWeight rfl rfl rfl (by decide +kernel) ⟨Nat.le_of_ble_eq_true rfl, Nat.le_of_ble_eq_true rfl⟩ rfl rfl (Nat.le_of_ble_eq_true rfl) ⟨Nat.le_of_ble_eq_true rfl, Nat.le_of_ble_eq_true rfl⟩ dX6_change_2 (fun w1 h => ?_) (fun E w1 hE => ?_)
  · skip
    obtain ⟨rfl, h⟩ := h
    refine Z.iload_n C dX6_change_5 rfl ?_
    refine Z.xSVp C 1 (c_refuseNoStation l D cI cJ cL hl0 x hx) gX6_change_X6_refuseNoStation rfl rfl rfl (by decide +kernel) ⟨Nat.le_of_ble_eq_true rfl, Nat.le_of_ble_eq_true rfl⟩ rfl rfl (Nat.le_of_ble_eq_true rfl) ⟨Nat.le_of_ble_eq_true rfl, Nat.le_of_ble_eq_true rfl⟩ dX6_change_6 (fun h => ?_) (fun E hE => ?_)
    · skip
      refine Z.iload_n C dX6_change_9 rfl ?_
      refine Z.iconst C dX6_change_10 ?_
      refine Z.sipush C dX6_change_11 (by decide) ?_
      refine Z.xSVp C 3 (c_refuseOutside l D cI cJ cL hl0 w 0 999 hw ⟨by decide, by decide⟩ ⟨by decide, by decide⟩) gX6_change_X6_refuseOutside rfl rfl rfl (by decide +kernel) ⟨Nat.le_of_ble_eq_true rfl, Nat.le_of_ble_eq_true rfl⟩ rfl rfl (Nat.le_of_ble_eq_true rfl) ⟨Nat.le_of_ble_eq_true rfl, Nat.le_of_ble_eq_true rfl⟩ dX6_change_14 (fun h => ?_) (fun E hE => ?_)
      · skip
        refine Z.aload_n C dX6_change_17 rfl ?_
        refine Z.getf C 0 2 iw_X6_change_6 rfl rfl (by decide) (by decide +kernel) rfl dX6_change_18 ?_
        refine Z.iload_n C dX6_change_21 rfl ?_
        refine Z.iload_n C dX6_change_22 rfl ?_
        refine Z.iload_n C dX6_change_23 rfl ?_
        refine Z.cVNId C 5 (host := RX6) 3 (c_replace l D cI cJ cL ad M B lo ch wt sn vo mo le ln od fe se td th cnt bw bs pl tk tc sill day lau q x w (by omega) (by omega)) rfl rfl gX6_change_X3_replace_n116 (by decide +kernel) (by decide +kernel) (by decide +kernel) (by decide +kernel) rfl rfl rfl (by decide +kernel) ⟨Nat.le_of_ble_eq_true rfl, Nat.le_of_ble_eq_true rfl⟩ rfl rfl (Nat.le_of_ble_eq_true rfl) ⟨Nat.le_of_ble_eq_true rfl, Nat.le_of_ble_eq_true rfl⟩ dX6_change_24 ?_
        exact Z.iretX C hr (Nat.le_of_ble_eq_true rfl) (Nat.le_of_ble_eq_true rfl) dX6_change_27 (⟨(by unfold tcChange; (repeat' split) <;> omega), rfl, rfl⟩)
      · skip
        exact ZX.outI C hnx (Nat.le_of_ble_eq_true rfl) (Nat.le_of_ble_eq_true rfl) (⟨rfl, Or.inr (Or.inl ⟨hE.1, (by unfold tcChange; (repeat' split) <;> omega)⟩)⟩)
    · skip
      exact ZX.outI C hnx (Nat.le_of_ble_eq_true rfl) (Nat.le_of_ble_eq_true rfl) (⟨rfl, (Or.inl ⟨hE.1, (by unfold tcChange; (repeat' split) <;> omega)⟩)⟩)
  · skip
    obtain ⟨rfl, hE⟩ := hE
    exact ZX.outI C hnx (Nat.le_of_ble_eq_true rfl) (Nat.le_of_ble_eq_true rfl) (⟨rfl, (Or.inl ⟨hE.1, (by unfold tcChange; (repeat' split) <;> omega)⟩)⟩)
set_option maxRecDepth 20000 in
theorem iw_X6_ballast_3 : ∀ w ∈ u_ws RX3 TX3 5, w ∈ wsX6_ballast := by decide +kernel
set_option maxRecDepth 20000 in
theorem iw_X6_ballast_6 : ∀ w ∈ u_ws RX6 TX6 9, w ∈ wsX6_ballast := by decide +kernel
abbrev rmX6_ballast : Room := { frames := 7, cells := 1, slots := 6, locals := 112 }
set_option maxHeartbeats 4000000 in
set_option maxRecDepth 100000 in
theorem c_ballast (l : Launch) (D : va_G) (cI cJ cL : ClassId) (ad : Nat → Nat) (M B : Int → Int → Int) (lo ch wt sn vo mo le ln od fe se td th : Int → Int) (cnt bw bs pl tk tc sill day lau : Int) (hl0 : l.stackTraces = false) (hM : hOK M) (hw : wOK wt sn) (hc0 : 0 ≤ cnt) (hc1 : cnt ≤ 16) (x : Int) (hx : inr x) : XI l yX6_ballast wsX6_ballast rmX6_ballast [.ref (ad 0), .int (iI x)] D cI cJ cL (wX ad cI cJ M B lo ch wt sn vo mo le ln od fe se td th cnt bw bs pl tk tc sill day lau) 1 6 (fun r w' => (0 ≤ x ∧ x ≤ 99) ∧ ∃ b c : Int, (balOut M (10 * sumZ wt cnt.toNat) (msZ wt sn cnt.toNat) (FAR, bw, bs) (x.toNat + 1)).2 = (b, c) ∧ r = 10 * b + c ∧ ∃ vo' mo' : Int → Int, w' = (wX ad cI cJ M B lo ch wt sn vo' mo' le ln od fe se td th cnt b c pl tk tc sill day lau)) (fun E w' => w' = (wX ad cI cJ M B lo ch wt sn vo mo le ln od fe se td th cnt bw bs pl tk tc sill day lau) ∧ (E = eIA ∧ ¬ (0 ≤ x ∧ x ≤ 99))) := by
  refine XI.of (cc := cX6_ballast) (maxL := 2) (ret := (some .int)) (own := RX6) _ 0 (by decide +kernel) rfl rfl rfl (Nat.le_of_ble_eq_true rfl) rfl (fun sz9 p9 e9 s9 m9 a9 b9 h9 c9 C hr hnx => ?_)
  refine Z.iload_n C dX6_ballast_0 rfl ?_
  refine Z.iconst C dX6_ballast_1 ?_
  refine Z.bipush C dX6_ballast_2 (by decide) ?_
  refine Z.xSVp C 3 (c_refuseOutside l D cI cJ cL hl0 x 0 99 hx ⟨by decide, by decide⟩ ⟨by decide, by decide⟩) gX6_ballast_X6_refuseOutside rfl rfl rfl (by decide +kernel) ⟨Nat.le_of_ble_eq_true rfl, Nat.le_of_ble_eq_true rfl⟩ rfl rfl (Nat.le_of_ble_eq_true rfl) ⟨Nat.le_of_ble_eq_true rfl, Nat.le_of_ble_eq_true rfl⟩ dX6_ballast_4 (fun h => ?_) (fun E hE => ?_)
  · obtain ⟨n, rfl⟩ : ∃ n : Nat, x = n := ⟨x.toNat, by omega⟩
    refine Z.aload_n C dX6_ballast_7 rfl ?_
    refine Z.getf C 0 3 iw_X6_ballast_6 rfl rfl (by decide) (by decide +kernel) rfl dX6_ballast_8 ?_
    refine Z.aload_n C dX6_ballast_11 rfl ?_
    refine Z.getf C 0 0 iw_X6_ballast_6 rfl rfl (by decide) (by decide +kernel) rfl dX6_ballast_12 ?_
    refine Z.cVNV C 6 (host := RX6) 1 ( c_measure l D cI cJ cL ad M B lo ch wt sn vo mo le ln od fe se td th cnt bw bs pl tk tc sill day lau hM) rfl rfl gX6_ballast_X2_measure_n120 (by decide +kernel) (by decide +kernel) (by decide +kernel) (by decide +kernel) rfl rfl rfl (by decide +kernel) ⟨Nat.le_of_ble_eq_true rfl, Nat.le_of_ble_eq_true rfl⟩ rfl rfl (Nat.le_of_ble_eq_true rfl) ⟨Nat.le_of_ble_eq_true rfl, Nat.le_of_ble_eq_true rfl⟩ dX6_ballast_15 (fun w2 hw2 => ?_)
    obtain ⟨vo1, mo1, hm, rfl⟩ := hw2
    refine Z.aload_n C dX6_ballast_18 rfl ?_
    refine Z.getf C 0 3 iw_X6_ballast_6 rfl rfl (by decide) (by decide +kernel) rfl dX6_ballast_19 ?_
    refine Z.aload_n C dX6_ballast_22 rfl ?_
    refine Z.getf C 0 2 iw_X6_ballast_6 rfl rfl (by decide) (by decide +kernel) rfl dX6_ballast_23 ?_
    refine Z.iload_n C dX6_ballast_26 rfl ?_
    refine Z.cVNVd C 6 (host := RX6) 2 (c_setBallast l D cI cJ cL ad M B lo ch wt sn vo1 mo1 le ln od fe se td th cnt bw bs pl tk tc sill day lau hM hm hw hc0 hc1 n (by omega)) rfl rfl gX6_ballast_X2_setBallast_n124 (by decide +kernel) (by decide +kernel) (by decide +kernel) (by decide +kernel) rfl rfl rfl (by decide +kernel) ⟨Nat.le_of_ble_eq_true rfl, Nat.le_of_ble_eq_true rfl⟩ rfl rfl (Nat.le_of_ble_eq_true rfl) ⟨Nat.le_of_ble_eq_true rfl, Nat.le_of_ble_eq_true rfl⟩ dX6_ballast_27 ?_
    refine Z.bipush C dX6_ballast_30 (by decide) ?_
    refine Z.aload_n C dX6_ballast_32 rfl ?_
    refine Z.getf C 0 2 iw_X6_ballast_6 rfl rfl (by decide) (by decide +kernel) rfl dX6_ballast_33 ?_
    refine Z.getfN C 5 3 iw_X6_ballast_3 rfl rfl (by decide) (host := RX6) (by decide +kernel) rfl dX6_ballast_36 ?_
    refine Z.imul C dX6_ballast_39 ?_
    refine Z.aload_n C dX6_ballast_40 rfl ?_
    refine Z.getf C 0 2 iw_X6_ballast_6 rfl rfl (by decide) (by decide +kernel) rfl dX6_ballast_41 ?_
    refine Z.getfN C 5 4 iw_X6_ballast_3 rfl rfl (by decide) (host := RX6) (by decide +kernel) rfl dX6_ballast_44 ?_
    refine Z.iadd C dX6_ballast_47 ?_
    exact Z.iretX C hr (Nat.le_of_ble_eq_true rfl) (Nat.le_of_ble_eq_true rfl) dX6_ballast_48 (⟨h, _, _, rfl, rfl, vo1, mo1, rfl⟩)
  · exact ZX.outI C hnx (Nat.le_of_ble_eq_true rfl) (Nat.le_of_ble_eq_true rfl) (⟨rfl, hE⟩)
set_option maxRecDepth 20000 in
theorem iw_X6_strake_6 : ∀ w ∈ u_ws RX6 TX6 9, w ∈ wsX6_strake := by decide +kernel
abbrev rmX6_strake : Room := { frames := 7, cells := 1, slots := 6, locals := 110 }
set_option maxHeartbeats 4000000 in
set_option maxRecDepth 100000 in
theorem c_strake (l : Launch) (D : va_G) (cI cJ cL : ClassId) (ad : Nat → Nat) (M B : Int → Int → Int) (lo ch wt sn vo mo le ln od fe se td th : Int → Int) (cnt bw bs pl tk tc sill day lau : Int) (hl0 : l.stackTraces = false) (hM : hOK M) (x : Int) (hx : inr x) : XI l yX6_strake wsX6_strake rmX6_strake [.ref (ad 0), .int (iI x)] D cI cJ cL (wX ad cI cJ M B lo ch wt sn vo mo le ln od fe se td th cnt bw bs pl tk tc sill day lau) 1 6 (fun r w' => tcK x = 0 ∧ r = LsM M x ∧ w' = (wX ad cI cJ M B lo ch wt sn vo mo le ln od fe se td th cnt bw bs pl tk tc sill day lau)) (fun E w' => w' = (wX ad cI cJ M B lo ch wt sn vo mo le ln od fe se td th cnt bw bs pl tk tc sill day lau) ∧ (E = eIX ∧ tcK x = 1)) := by
  refine XI.of (cc := cX6_strake) (maxL := 2) (ret := (some .int)) (own := RX6) _ 0 (by decide +kernel) rfl rfl rfl (Nat.le_of_ble_eq_true rfl) rfl (fun sz9 p9 e9 s9 m9 a9 b9 h9 c9 C hr hnx => ?_)
  refine Z.iload_n C dX6_strake_0 rfl ?_
  refine Z.xSVp C 1 (c_refuseNoStrake l D cI cJ cL hl0 x hx) gX6_strake_X6_refuseNoStrake rfl rfl rfl (by decide +kernel) ⟨Nat.le_of_ble_eq_true rfl, Nat.le_of_ble_eq_true rfl⟩ rfl rfl (Nat.le_of_ble_eq_true rfl) ⟨Nat.le_of_ble_eq_true rfl, Nat.le_of_ble_eq_true rfl⟩ dX6_strake_1 (fun h => ?_) (fun E hE => ?_)
  · skip
    refine Z.aload_n C dX6_strake_4 rfl ?_
    refine Z.getf C 0 0 iw_X6_strake_6 rfl rfl (by decide) (by decide +kernel) rfl dX6_strake_5 ?_
    refine Z.iload_n C dX6_strake_8 rfl ?_
    refine Z.cVNId C 1 (host := RX6) 1 (c_strakeLength l D cI cJ cL ad M B lo ch wt sn vo mo le ln od fe se td th cnt bw bs pl tk tc sill day lau hM x (by omega) (by omega)) rfl rfl gX6_strake_X4_strakeLength_n150 (by decide +kernel) (by decide +kernel) (by decide +kernel) (by decide +kernel) rfl rfl rfl (by decide +kernel) ⟨Nat.le_of_ble_eq_true rfl, Nat.le_of_ble_eq_true rfl⟩ rfl rfl (Nat.le_of_ble_eq_true rfl) ⟨Nat.le_of_ble_eq_true rfl, Nat.le_of_ble_eq_true rfl⟩ dX6_strake_9 ?_
    exact Z.iretX C hr (Nat.le_of_ble_eq_true rfl) (Nat.le_of_ble_eq_true rfl) dX6_strake_12 (⟨(by unfold tcK; (repeat' split) <;> omega), rfl, rfl⟩)
  · skip
    exact ZX.outI C hnx (Nat.le_of_ble_eq_true rfl) (Nat.le_of_ble_eq_true rfl) (⟨rfl, ⟨hE.1, (by unfold tcK; (repeat' split) <;> omega)⟩⟩)
