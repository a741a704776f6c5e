/-! ===== FairBatten: the refusals ===== -/
theorem tha206 : ∀ w ∈ (vx_atS RX6 206 "java/lang/IndexOutOfBoundsException" ["java/lang/RuntimeException", "java/lang/Exception"]).filter (fun w => !goodWord w), w ∈ Cond.castable "java/lang/IndexOutOfBoundsException" "java/lang/IndexOutOfBoundsException" :: zDe.map Cond.declares := by decide +kernel
theorem tha220 : ∀ w ∈ (vx_atS RX6 220 "java/lang/IllegalArgumentException" ["java/lang/RuntimeException", "java/lang/Exception"]).filter (fun w => !goodWord w), w ∈ Cond.castable "java/lang/IllegalArgumentException" "java/lang/IllegalArgumentException" :: zDe.map Cond.declares := by decide +kernel
theorem tha107 : ∀ w ∈ (vx_atS RX6 107 "java/lang/IllegalStateException" ["java/lang/RuntimeException", "java/lang/Exception"]).filter (fun w => !goodWord w), w ∈ Cond.castable "java/lang/IllegalStateException" "java/lang/IllegalStateException" :: zDe.map Cond.declares := by decide +kernel
theorem thg206 : (Cond.classLink RX6 202 "java/lang/IndexOutOfBoundsException" :: Cond.initialized "java/lang/IndexOutOfBoundsException" :: vx_atS RX6 206 "java/lang/IndexOutOfBoundsException" ["java/lang/RuntimeException", "java/lang/Exception"]).all vx_ot = true := by decide +kernel
theorem thg220 : (Cond.classLink RX6 216 "java/lang/IllegalArgumentException" :: Cond.initialized "java/lang/IllegalArgumentException" :: vx_atS RX6 220 "java/lang/IllegalArgumentException" ["java/lang/RuntimeException", "java/lang/Exception"]).all vx_ot = true := by decide +kernel
theorem thg107 : (Cond.classLink RX6 103 "java/lang/IllegalStateException" :: Cond.initialized "java/lang/IllegalStateException" :: vx_atS RX6 107 "java/lang/IllegalStateException" ["java/lang/RuntimeException", "java/lang/Exception"]).all vx_ot = true := by decide +kernel
theorem thf206 : Bundle.fit "java/lang/IndexOutOfBoundsException" = true := by decide +kernel
theorem thf220 : Bundle.fit "java/lang/IllegalArgumentException" = true := by decide +kernel
theorem thf107 : Bundle.fit "java/lang/IllegalStateException" = true := by decide +kernel
def eIX : String := "java/lang/IndexOutOfBoundsException"
def eIA : String := "java/lang/IllegalArgumentException"
def eIS : String := "java/lang/IllegalStateException"
abbrev rmX6_refuseNoStation : Room := { frames := 6, cells := 1, slots := 6, locals := 90 }
set_option maxHeartbeats 4000000 in
set_option maxRecDepth 100000 in
theorem c_refuseNoStation (l : Launch) (D : va_G) (cI cJ cL : ClassId) (hl0 : l.stackTraces = false) (x : Int) (hx : inr x) : XV l yX6_refuseNoStation wsX6_refuseNoStation rmX6_refuseNoStation [.int (iI x)] D cI cJ cL [] 1 6 (fun w' => w' = [] ∧ (0 ≤ x ∧ x ≤ 8)) (fun E w' => w' = [] ∧ (E = eIX ∧ ¬ (0 ≤ x ∧ x ≤ 8))) := by
  refine XV.of (cc := cX6_refuseNoStation) (maxL := 1) (ret := none) (own := RX6) _ 0 (by decide +kernel) rfl rfl rfl (Nat.le_of_ble_eq_true rfl) rfl (fun sz9 p9 e9 s9 m9 a9 b9 h9 c9 C hr hnx => ?_)
  refine Z.iload_n C dX6_refuseNoStation_0 rfl ?_
  refine Z.iflt C 10 dX6_refuseNoStation_1 (by decide) (hx) (fun h => ?_) (fun h => ?_)
  · exact Z.throwSV C hnx hl0 (cls := "java/lang/IndexOutOfBoundsException") (text := "there is no such station") (ik := 202) (is := 204) (ic := 206) (by decide +kernel) (by decide +kernel) (by decide +kernel) (by decide +kernel) (by decide +kernel) tha206 thg206 thf206 dX6_refuseNoStation_10 dX6_refuseNoStation_13 dX6_refuseNoStation_14 dX6_refuseNoStation_16 dX6_refuseNoStation_19 (Nat.le_of_ble_eq_true rfl) (Nat.le_of_ble_eq_true rfl) (Nat.le_of_ble_eq_true rfl) (Nat.le_of_ble_eq_true rfl) (Nat.le_of_ble_eq_true rfl) (Nat.le_of_ble_eq_true rfl) (⟨rfl, rfl, by omega⟩)
  · refine Z.iload_n C dX6_refuseNoStation_4 rfl ?_
    refine Z.bipush C dX6_refuseNoStation_5 (by decide) ?_
    refine Z.icmplt C 20 dX6_refuseNoStation_7 (by decide) (hx) (⟨by omega, by omega⟩) (fun h2 => ?_) (fun h2 => ?_)
    · exact Z.vretX C hr (Nat.le_of_ble_eq_true rfl) (Nat.le_of_ble_eq_true rfl) dX6_refuseNoStation_20 (⟨rfl, by omega, by omega⟩)
    · exact Z.throwSV C hnx hl0 (cls := "java/lang/IndexOutOfBoundsException") (text := "there is no such station") (ik := 202) (is := 204) (ic := 206) (by decide +kernel) (by decide +kernel) (by decide +kernel) (by decide +kernel) (by decide +kernel) tha206 thg206 thf206 dX6_refuseNoStation_10 dX6_refuseNoStation_13 dX6_refuseNoStation_14 dX6_refuseNoStation_16 dX6_refuseNoStation_19 (Nat.le_of_ble_eq_true rfl) (Nat.le_of_ble_eq_true rfl) (Nat.le_of_ble_eq_true rfl) (Nat.le_of_ble_eq_true rfl) (Nat.le_of_ble_eq_true rfl) (Nat.le_of_ble_eq_true rfl) (⟨rfl, rfl, by omega⟩)
abbrev rmX6_refuseNoWaterline : Room := { frames := 6, cells := 1, slots := 6, locals := 90 }
set_option maxHeartbeats 4000000 in
set_option maxRecDepth 100000 in
theorem c_refuseNoWaterline (l : Launch) (D : va_G) (cI cJ cL : ClassId) (hl0 : l.stackTraces = false) (x : Int) (hx : inr x) : XV l yX6_refuseNoWaterline wsX6_refuseNoWaterline rmX6_refuseNoWaterline [.int (iI x)] D cI cJ cL [] 1 6 (fun w' => w' = [] ∧ (0 ≤ x ∧ x ≤ 5)) (fun E w' => w' = [] ∧ (E = eIX ∧ ¬ (0 ≤ x ∧ x ≤ 5))) := by
  refine XV.of (cc := cX6_refuseNoWaterline) (maxL := 1) (ret := none) (own := RX6) _ 0 (by decide +kernel) rfl rfl rfl (Nat.le_of_ble_eq_true rfl) rfl (fun sz9 p9 e9 s9 m9 a9 b9 h9 c9 C hr hnx => ?_)
  refine Z.iload_n C dX6_refuseNoWaterline_0 rfl ?_
  refine Z.iflt C 10 dX6_refuseNoWaterline_1 (by decide) (hx) (fun h => ?_) (fun h => ?_)
  · exact Z.throwSV C hnx hl0 (cls := "java/lang/IndexOutOfBoundsException") (text := "there is no such waterline") (ik := 202) (is := 207) (ic := 206) (by decide +kernel) (by decide +kernel) (by decide +kernel) (by decide +kernel) (by decide +kernel) tha206 thg206 thf206 dX6_refuseNoWaterline_10 dX6_refuseNoWaterline_13 dX6_refuseNoWaterline_14 dX6_refuseNoWaterline_16 dX6_refuseNoWaterline_19 (Nat.le_of_ble_eq_true rfl) (Nat.le_of_ble_eq_true rfl) (Nat.le_of_ble_eq_true rfl) (Nat.le_of_ble_eq_true rfl) (Nat.le_of_ble_eq_true rfl) (Nat.le_of_ble_eq_true rfl) (⟨rfl, rfl, by omega⟩)
  · refine Z.iload_n C dX6_refuseNoWaterline_4 rfl ?_
    refine Z.bipush C dX6_refuseNoWaterline_5 (by decide) ?_
    refine Z.icmplt C 20 dX6_refuseNoWaterline_7 (by decide) (hx) (⟨by omega, by omega⟩) (fun h2 => ?_) (fun h2 => ?_)
    · exact Z.vretX C hr (Nat.le_of_ble_eq_true rfl) (Nat.le_of_ble_eq_true rfl) dX6_refuseNoWaterline_20 (⟨rfl, by omega, by omega⟩)
    · exact Z.throwSV C hnx hl0 (cls := "java/lang/IndexOutOfBoundsException") (text := "there is no such waterline") (ik := 202) (is := 207) (ic := 206) (by decide +kernel) (by decide +kernel) (by decide +kernel) (by decide +kernel) (by decide +kernel) tha206 thg206 thf206 dX6_refuseNoWaterline_10 dX6_refuseNoWaterline_13 dX6_refuseNoWaterline_14 dX6_refuseNoWaterline_16 dX6_refuseNoWaterline_19 (Nat.le_of_ble_eq_true rfl) (Nat.le_of_ble_eq_true rfl) (Nat.le_of_ble_eq_true rfl) (Nat.le_of_ble_eq_true rfl) (Nat.le_of_ble_eq_true rfl) (Nat.le_of_ble_eq_true rfl) (⟨rfl, rfl, by omega⟩)
abbrev rmX6_refuseNoStrake : Room := { frames := 6, cells := 1, slots := 6, locals := 90 }
set_option maxHeartbeats 4000000 in
set_option maxRecDepth 100000 in
theorem c_refuseNoStrake (l : Launch) (D : va_G) (cI cJ cL : ClassId) (hl0 : l.stackTraces = false) (x : Int) (hx : inr x) : XV l yX6_refuseNoStrake wsX6_refuseNoStrake rmX6_refuseNoStrake [.int (iI x)] D cI cJ cL [] 1 6 (fun w' => w' = [] ∧ (0 ≤ x ∧ x ≤ 4)) (fun E w' => w' = [] ∧ (E = eIX ∧ ¬ (0 ≤ x ∧ x ≤ 4))) := by
  refine XV.of (cc := cX6_refuseNoStrake) (maxL := 1) (ret := none) (own := RX6) _ 0 (by decide +kernel) rfl rfl rfl (Nat.le_of_ble_eq_true rfl) rfl (fun sz9 p9 e9 s9 m9 a9 b9 h9 c9 C hr hnx => ?_)
  refine Z.iload_n C dX6_refuseNoStrake_0 rfl ?_
  refine Z.iflt C 9 dX6_refuseNoStrake_1 (by decide) (hx) (fun h => ?_) (fun h => ?_)
  · exact Z.throwSV C hnx hl0 (cls := "java/lang/IndexOutOfBoundsException") (text := "there is no such strake") (ik := 202) (is := 209) (ic := 206) (by decide +kernel) (by decide +kernel) (by decide +kernel) (by decide +kernel) (by decide +kernel) tha206 thg206 thf206 dX6_refuseNoStrake_9 dX6_refuseNoStrake_12 dX6_refuseNoStrake_13 dX6_refuseNoStrake_15 dX6_refuseNoStrake_18 (Nat.le_of_ble_eq_true rfl) (Nat.le_of_ble_eq_true rfl) (Nat.le_of_ble_eq_true rfl) (Nat.le_of_ble_eq_true rfl) (Nat.le_of_ble_eq_true rfl) (Nat.le_of_ble_eq_true rfl) (⟨rfl, rfl, by omega⟩)
  · refine Z.iload_n C dX6_refuseNoStrake_4 rfl ?_
    refine Z.iconst C dX6_refuseNoStrake_5 ?_
    refine Z.icmplt C 19 dX6_refuseNoStrake_6 (by decide) (hx) (⟨by omega, by omega⟩) (fun h2 => ?_) (fun h2 => ?_)
    · exact Z.vretX C hr (Nat.le_of_ble_eq_true rfl) (Nat.le_of_ble_eq_true rfl) dX6_refuseNoStrake_19 (⟨rfl, by omega, by omega⟩)
    · exact Z.throwSV C hnx hl0 (cls := "java/lang/IndexOutOfBoundsException") (text := "there is no such strake") (ik := 202) (is := 209) (ic := 206) (by decide +kernel) (by decide +kernel) (by decide +kernel) (by decide +kernel) (by decide +kernel) tha206 thg206 thf206 dX6_refuseNoStrake_9 dX6_refuseNoStrake_12 dX6_refuseNoStrake_13 dX6_refuseNoStrake_15 dX6_refuseNoStrake_18 (Nat.le_of_ble_eq_true rfl) (Nat.le_of_ble_eq_true rfl) (Nat.le_of_ble_eq_true rfl) (Nat.le_of_ble_eq_true rfl) (Nat.le_of_ble_eq_true rfl) (Nat.le_of_ble_eq_true rfl) (⟨rfl, rfl, by omega⟩)
abbrev rmX6_refuseOutside : Room := { frames := 6, cells := 1, slots := 6, locals := 90 }
set_option maxHeartbeats 4000000 in
set_option maxRecDepth 100000 in
theorem c_refuseOutside (l : Launch) (D : va_G) (cI cJ cL : ClassId) (hl0 : l.stackTraces = false) (x y z : Int) (hx : inr x) (hy : inr y) (hz : inr z) : XV l yX6_refuseOutside wsX6_refuseOutside rmX6_refuseOutside [.int (iI x), .int (iI y), .int (iI z)] D cI cJ cL [] 1 6 (fun w' => w' = [] ∧ (y ≤ x ∧ x ≤ z)) (fun E w' => w' = [] ∧ (E = eIA ∧ ¬ (y ≤ x ∧ x ≤ z))) := by
  refine XV.of (cc := cX6_refuseOutside) (maxL := 3) (ret := none) (own := RX6) _ 0 (by decide +kernel) rfl rfl rfl (Nat.le_of_ble_eq_true rfl) rfl (fun sz9 p9 e9 s9 m9 a9 b9 h9 c9 C hr hnx => ?_)
  refine Z.iload_n C dX6_refuseOutside_0 rfl ?_
  refine Z.iload_n C dX6_refuseOutside_1 rfl ?_
  refine Z.icmplt C 10 dX6_refuseOutside_2 (by decide) (hx) (hy) (fun h => ?_) (fun h => ?_)
  · exact Z.throwSV C hnx hl0 (cls := "java/lang/IllegalArgumentException") (text := "out of range") (ik := 216) (is := 218) (ic := 220) (by decide +kernel) (by decide +kernel) (by decide +kernel) (by decide +kernel) (by decide +kernel) tha220 thg220 thf220 dX6_refuseOutside_10 dX6_refuseOutside_13 dX6_refuseOutside_14 dX6_refuseOutside_16 dX6_refuseOutside_19 (Nat.le_of_ble_eq_true rfl) (Nat.le_of_ble_eq_true rfl) (Nat.le_of_ble_eq_true rfl) (Nat.le_of_ble_eq_true rfl) (Nat.le_of_ble_eq_true rfl) (Nat.le_of_ble_eq_true rfl) (⟨rfl, rfl, by omega⟩)
  · refine Z.iload_n C dX6_refuseOutside_5 rfl ?_
    refine Z.iload_n C dX6_refuseOutside_6 rfl ?_
    refine Z.icmple C 20 dX6_refuseOutside_7 (by decide) (hx) (hz) (fun h2 => ?_) (fun h2 => ?_)
    · exact Z.vretX C hr (Nat.le_of_ble_eq_true rfl) (Nat.le_of_ble_eq_true rfl) dX6_refuseOutside_20 (⟨rfl, by omega, by omega⟩)
    · exact Z.throwSV C hnx hl0 (cls := "java/lang/IllegalArgumentException") (text := "out of range") (ik := 216) (is := 218) (ic := 220) (by decide +kernel) (by decide +kernel) (by decide +kernel) (by decide +kernel) (by decide +kernel) tha220 thg220 thf220 dX6_refuseOutside_10 dX6_refuseOutside_13 dX6_refuseOutside_14 dX6_refuseOutside_16 dX6_refuseOutside_19 (Nat.le_of_ble_eq_true rfl) (Nat.le_of_ble_eq_true rfl) (Nat.le_of_ble_eq_true rfl) (Nat.le_of_ble_eq_true rfl) (Nat.le_of_ble_eq_true rfl) (Nat.le_of_ble_eq_true rfl) (⟨rfl, rfl, by omega⟩)
set_option maxRecDepth 20000 in
theorem iw_X6_refuseNoWeight_3 : ∀ w ∈ u_ws RX3 TX3 5, w ∈ wsX6_refuseNoWeight := by decide +kernel
set_option maxRecDepth 20000 in
theorem iw_X6_refuseNoWeight_6 : ∀ w ∈ u_ws RX6 TX6 9, w ∈ wsX6_refuseNoWeight := by decide +kernel
abbrev rmX6_refuseNoWeight : Room := { frames := 6, cells := 1, slots := 6, locals := 90 }
set_option maxHeartbeats 4000000 in
set_option maxRecDepth 100000 in
theorem c_refuseNoWeight (l : Launch) (D : va_G) (cI cJ cL : ClassId) (ad : Nat → Nat) (M B : Int → Int → Int) (lo ch wt sn vo mo le ln od fe se td th : Int → Int) (cnt bw bs pl tk tc sill day lau : Int) (hl0 : l.stackTraces = false) (hc0 : 0 ≤ cnt) (hc1 : cnt ≤ 16) (x : Int) (hx : inr x) : XV l yX6_refuseNoWeight wsX6_refuseNoWeight rmX6_refuseNoWeight [.ref (ad 0), .int (iI x)] D cI cJ cL (wX ad cI cJ M B lo ch wt sn vo mo le ln od fe se td th cnt bw bs pl tk tc sill day lau) 1 6 (fun w' => w' = (wX ad cI cJ M B lo ch wt sn vo mo le ln od fe se td th cnt bw bs pl tk tc sill day lau) ∧ (0 ≤ x ∧ x ≤ cnt - 1)) (fun E w' => w' = (wX ad cI cJ M B lo ch wt sn vo mo le ln od fe se td th cnt bw bs pl tk tc sill day lau) ∧ (E = eIX ∧ ¬ (0 ≤ x ∧ x ≤ cnt - 1))) := by
  refine XV.of (cc := cX6_refuseNoWeight) (maxL := 2) (ret := none) (own := RX6) _ 0 (by decide +kernel) rfl rfl rfl (Nat.le_of_ble_eq_true rfl) rfl (fun sz9 p9 e9 s9 m9 a9 b9 h9 c9 C hr hnx => ?_)
  refine Z.iload_n C dX6_refuseNoWeight_0 rfl ?_
  refine Z.iflt C 15 dX6_refuseNoWeight_1 (by decide) (hx) (fun h => ?_) (fun h => ?_)
  · exact Z.throwSV C hnx hl0 (cls := "java/lang/IndexOutOfBoundsException") (text := "there is no such weight") (ik := 202) (is := 214) (ic := 206) (by decide +kernel) (by decide +kernel) (by decide +kernel) (by decide +kernel) (by decide +kernel) tha206 thg206 thf206 dX6_refuseNoWeight_15 dX6_refuseNoWeight_18 dX6_refuseNoWeight_19 dX6_refuseNoWeight_21 dX6_refuseNoWeight_24 (Nat.le_of_ble_eq_true rfl) (Nat.le_of_ble_eq_true rfl) (Nat.le_of_ble_eq_true rfl) (Nat.le_of_ble_eq_true rfl) (Nat.le_of_ble_eq_true rfl) (Nat.le_of_ble_eq_true rfl) (⟨rfl, rfl, by omega⟩)
  · refine Z.iload_n C dX6_refuseNoWeight_4 rfl ?_
    refine Z.aload_n C dX6_refuseNoWeight_5 rfl ?_
    refine Z.getf C 0 2 iw_X6_refuseNoWeight_6 rfl rfl (by decide) (by decide +kernel) rfl dX6_refuseNoWeight_6 ?_
    refine Z.getfN C 5 2 iw_X6_refuseNoWeight_3 rfl rfl (by decide) (host := RX6) (by decide +kernel) rfl dX6_refuseNoWeight_9 ?_
    refine Z.icmplt C 25 dX6_refuseNoWeight_12 (by decide) (hx) (⟨by omega, by omega⟩) (fun h2 => ?_) (fun h2 => ?_)
    · exact Z.vretX C hr (Nat.le_of_ble_eq_true rfl) (Nat.le_of_ble_eq_true rfl) dX6_refuseNoWeight_25 (⟨rfl, by omega, by omega⟩)
    · exact Z.throwSV C hnx hl0 (cls := "java/lang/IndexOutOfBoundsException") (text := "there is no such weight") (ik := 202) (is := 214) (ic := 206) (by decide +kernel) (by decide +kernel) (by decide +kernel) (by decide +kernel) (by decide +kernel) tha206 thg206 thf206 dX6_refuseNoWeight_15 dX6_refuseNoWeight_18 dX6_refuseNoWeight_19 dX6_refuseNoWeight_21 dX6_refuseNoWeight_24 (Nat.le_of_ble_eq_true rfl) (Nat.le_of_ble_eq_true rfl) (Nat.le_of_ble_eq_true rfl) (Nat.le_of_ble_eq_true rfl) (Nat.le_of_ble_eq_true rfl) (Nat.le_of_ble_eq_true rfl) (⟨rfl, rfl, by omega⟩)
set_option maxRecDepth 20000 in
theorem iw_X6_refuseLaunched_6 : ∀ w ∈ u_ws RX6 TX6 9, w ∈ wsX6_refuseLaunched := by decide +kernel
abbrev rmX6_refuseLaunched : Room := { frames := 6, cells := 1, slots := 6, locals := 90 }
set_option maxHeartbeats 4000000 in
set_option maxRecDepth 100000 in
theorem c_refuseLaunched (l : Launch) (D : va_G) (cI cJ cL : ClassId) (ad : Nat → Nat) (M B : Int → Int → Int) (lo ch wt sn vo mo le ln od fe se td th : Int → Int) (cnt bw bs pl tk tc sill day lau : Int) (hl0 : l.stackTraces = false) (ha : lau = 0 ∨ lau = 1) : XV l yX6_refuseLaunched wsX6_refuseLaunched rmX6_refuseLaunched [.ref (ad 0)] D cI cJ cL (wX ad cI cJ M B lo ch wt sn vo mo le ln od fe se td th cnt bw bs pl tk tc sill day lau) 1 6 (fun w' => w' = (wX ad cI cJ M B lo ch wt sn vo mo le ln od fe se td th cnt bw bs pl tk tc sill day lau) ∧ lau = 0) (fun E w' => w' = (wX ad cI cJ M B lo ch wt sn vo mo le ln od fe se td th cnt bw bs pl tk tc sill day lau) ∧ (E = eIS ∧ lau ≠ 0)) := by
  refine XV.of (cc := cX6_refuseLaunched) (maxL := 1) (ret := none) (own := RX6) _ 0 (by decide +kernel) rfl rfl rfl (Nat.le_of_ble_eq_true rfl) rfl (fun sz9 p9 e9 s9 m9 a9 b9 h9 c9 C hr hnx => ?_)
  refine Z.aload_n C dX6_refuseLaunched_0 rfl ?_
  refine Z.getf C 0 8 iw_X6_refuseLaunched_6 rfl rfl (by decide) (by decide +kernel) rfl dX6_refuseLaunched_1 ?_
  refine Z.ifeq C 17 dX6_refuseLaunched_4 (by decide) (⟨by omega, by omega⟩) (fun h => ?_) (fun h => ?_)
  · exact Z.vretX C hr (Nat.le_of_ble_eq_true rfl) (Nat.le_of_ble_eq_true rfl) dX6_refuseLaunched_17 (⟨rfl, h⟩)
  · exact Z.throwSV C hnx hl0 (cls := "java/lang/IllegalStateException") (text := "the hull is launched") (ik := 103) (is := 221) (ic := 107) (by decide +kernel) (by decide +kernel) (by decide +kernel) (by decide +kernel) (by decide +kernel) tha107 thg107 thf107 dX6_refuseLaunched_7 dX6_refuseLaunched_10 dX6_refuseLaunched_11 dX6_refuseLaunched_13 dX6_refuseLaunched_16 (Nat.le_of_ble_eq_true rfl) (Nat.le_of_ble_eq_true rfl) (Nat.le_of_ble_eq_true rfl) (Nat.le_of_ble_eq_true rfl) (Nat.le_of_ble_eq_true rfl) (Nat.le_of_ble_eq_true rfl) (⟨rfl, rfl, h⟩)
