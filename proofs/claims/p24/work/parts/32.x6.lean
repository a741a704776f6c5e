/-! ===== FairBatten: its public methods, 2 ===== -/
set_option maxRecDepth 20000 in
theorem iw_X6_draught_6 : ∀ w ∈ u_ws RX6 TX6 9, w ∈ wsX6_draught := by decide +kernel
abbrev rmX6_draught : Room := { frames := 3, cells := 0, slots := 0, locals := 70 }
set_option maxHeartbeats 4000000 in
set_option maxRecDepth 100000 in
theorem c_draught (l : Launch) (D : va_G) (cI cJ cL : ClassId) (ad : Nat → Nat) (M B : Int → Int → Int) (lo ch wt sn vo mo le ln od fe se td th : Int → Int) (cnt bw bs pl tk tc sill day lau : Int) (hM : hOK M) (hc0 : 0 ≤ cnt) (hc1 : cnt ≤ 16) (L Mo : Int) (hL : 10 * sumZ wt cnt.toNat + 10 * bw = L) (hMo : msZ wt sn cnt.toNat + bw * 20 * bs = Mo) (hL0 : 0 ≤ L) (hL1 : L ≤ 1000000) (hM0 : 0 ≤ Mo) (hM1 : Mo ≤ 16 * L) : CI l yX6_draught wsX6_draught rmX6_draught [.ref (ad 0)] D cI cJ cL (wX ad cI cJ M B lo ch wt sn vo mo le ln od fe se td th cnt bw bs pl tk tc sill day lau) (fun r w' => ∃ vo' mo' : Int → Int, r = drZ (VM M) L ∧ w' = (wX ad cI cJ M B lo ch wt sn vo' mo' le ln od fe se td th cnt bw bs pl tk tc sill day lau)) := by
  refine CI.of (cc := cX6_draught) (maxL := 1) (ret := (some .int)) (own := RX6) _ 0 (by decide +kernel) rfl rfl rfl (Nat.le_of_ble_eq_true rfl) rfl (fun sz9 p9 e9 s9 m9 a9 b9 h9 c9 C hr => ?_)
  refine Z.aload_n C dX6_draught_0 rfl ?_
  refine Z.getf C 0 3 iw_X6_draught_6 rfl rfl (by decide) (by decide +kernel) rfl dX6_draught_1 ?_
  refine Z.aload_n C dX6_draught_4 rfl ?_
  refine Z.getf C 0 0 iw_X6_draught_6 rfl rfl (by decide) (by decide +kernel) rfl dX6_draught_5 ?_
  refine Z.cVNV C 6 (host := RX6) 1 ( c_measure l D cI cJ cL ad M B lo ch wt sn vo mo le ln od fe se td th cnt bw bs pl tk tc sill day lau hM) rfl rfl gX6_draught_X2_measure_n120 (by decide +kernel) (by decide +kernel) (by decide +kernel) (by decide +kernel) rfl rfl rfl (by decide +kernel) ⟨Nat.le_of_ble_eq_true rfl, Nat.le_of_ble_eq_true rfl⟩ rfl rfl (Nat.le_of_ble_eq_true rfl) ⟨Nat.le_of_ble_eq_true rfl, Nat.le_of_ble_eq_true rfl⟩ dX6_draught_8 (fun w2 hw2 => ?_)
  obtain ⟨vo1, mo1, hm, rfl⟩ := hw2
  refine Z.aload_n C dX6_draught_11 rfl ?_
  refine Z.getf C 0 3 iw_X6_draught_6 rfl rfl (by decide) (by decide +kernel) rfl dX6_draught_12 ?_
  refine Z.aload_n C dX6_draught_15 rfl ?_
  refine Z.getf C 0 2 iw_X6_draught_6 rfl rfl (by decide) (by decide +kernel) rfl dX6_draught_16 ?_
  refine Z.cVNId C 5 (host := RX6) 0 (c_wholeLoad l D cI cJ cL ad M B lo ch wt sn vo1 mo1 le ln od fe se td th cnt bw bs pl tk tc sill day lau hc0 hc1) rfl rfl gX6_draught_X3_wholeLoad_n134 (by decide +kernel) (by decide +kernel) (by decide +kernel) (by decide +kernel) rfl rfl rfl (by decide +kernel) ⟨Nat.le_of_ble_eq_true rfl, Nat.le_of_ble_eq_true rfl⟩ rfl rfl (Nat.le_of_ble_eq_true rfl) ⟨Nat.le_of_ble_eq_true rfl, Nat.le_of_ble_eq_true rfl⟩ dX6_draught_19 ?_
  rw [hL]
  refine Z.cVNId C 6 (host := RX6) 1 (c_draughtUnder l D cI cJ cL ad M B lo ch wt sn vo1 mo1 le ln od fe se td th cnt bw bs pl tk tc sill day lau hM hm L hL0 (by omega)) rfl rfl gX6_draught_X2_draughtUnder_n138 (by decide +kernel) (by decide +kernel) (by decide +kernel) (by decide +kernel) rfl rfl rfl (by decide +kernel) ⟨Nat.le_of_ble_eq_true rfl, Nat.le_of_ble_eq_true rfl⟩ rfl rfl (Nat.le_of_ble_eq_true rfl) ⟨Nat.le_of_ble_eq_true rfl, Nat.le_of_ble_eq_true rfl⟩ dX6_draught_22 ?_
  exact Z.iret C hr dX6_draught_25 (⟨vo1, mo1, rfl, rfl⟩)
set_option maxRecDepth 20000 in
theorem iw_X6_trim_6 : ∀ w ∈ u_ws RX6 TX6 9, w ∈ wsX6_trim := by decide +kernel
abbrev rmX6_trim : Room := { frames := 3, cells := 0, slots := 0, locals := 70 }
set_option maxHeartbeats 4000000 in
set_option maxRecDepth 100000 in
theorem c_trim (l : Launch) (D : va_G) (cI cJ cL : ClassId) (ad : Nat → Nat) (M B : Int → Int → Int) (lo ch wt sn vo mo le ln od fe se td th : Int → Int) (cnt bw bs pl tk tc sill day lau : Int) (hM : hOK M) (hc0 : 0 ≤ cnt) (hc1 : cnt ≤ 16) (L Mo : Int) (hL : 10 * sumZ wt cnt.toNat + 10 * bw = L) (hMo : msZ wt sn cnt.toNat + bw * 20 * bs = Mo) (hL0 : 0 ≤ L) (hL1 : L ≤ 1000000) (hM0 : 0 ≤ Mo) (hM1 : Mo ≤ 16 * L) : CI l yX6_trim wsX6_trim rmX6_trim [.ref (ad 0)] D cI cJ cL (wX ad cI cJ M B lo ch wt sn vo mo le ln od fe se td th cnt bw bs pl tk tc sill day lau) (fun r w' => ∃ vo' mo' : Int → Int, r = tmZ M L Mo ∧ w' = (wX ad cI cJ M B lo ch wt sn vo' mo' le ln od fe se td th cnt bw bs pl tk tc sill day lau)) := by
  refine CI.of (cc := cX6_trim) (maxL := 1) (ret := (some .int)) (own := RX6) _ 0 (by decide +kernel) rfl rfl rfl (Nat.le_of_ble_eq_true rfl) rfl (fun sz9 p9 e9 s9 m9 a9 b9 h9 c9 C hr => ?_)
  refine Z.aload_n C dX6_trim_0 rfl ?_
  refine Z.getf C 0 3 iw_X6_trim_6 rfl rfl (by decide) (by decide +kernel) rfl dX6_trim_1 ?_
  refine Z.aload_n C dX6_trim_4 rfl ?_
  refine Z.getf C 0 0 iw_X6_trim_6 rfl rfl (by decide) (by decide +kernel) rfl dX6_trim_5 ?_
  refine Z.cVNV C 6 (host := RX6) 1 ( c_measure l D cI cJ cL ad M B lo ch wt sn vo mo le ln od fe se td th cnt bw bs pl tk tc sill day lau hM) rfl rfl gX6_trim_X2_measure_n120 (by decide +kernel) (by decide +kernel) (by decide +kernel) (by decide +kernel) rfl rfl rfl (by decide +kernel) ⟨Nat.le_of_ble_eq_true rfl, Nat.le_of_ble_eq_true rfl⟩ rfl rfl (Nat.le_of_ble_eq_true rfl) ⟨Nat.le_of_ble_eq_true rfl, Nat.le_of_ble_eq_true rfl⟩ dX6_trim_8 (fun w2 hw2 => ?_)
  obtain ⟨vo1, mo1, hm, rfl⟩ := hw2
  refine Z.aload_n C dX6_trim_11 rfl ?_
  refine Z.getf C 0 3 iw_X6_trim_6 rfl rfl (by decide) (by decide +kernel) rfl dX6_trim_12 ?_
  refine Z.aload_n C dX6_trim_15 rfl ?_
  refine Z.getf C 0 2 iw_X6_trim_6 rfl rfl (by decide) (by decide +kernel) rfl dX6_trim_16 ?_
  refine Z.cVNId C 5 (host := RX6) 0 (c_wholeLoad l D cI cJ cL ad M B lo ch wt sn vo1 mo1 le ln od fe se td th cnt bw bs pl tk tc sill day lau hc0 hc1) rfl rfl gX6_trim_X3_wholeLoad_n134 (by decide +kernel) (by decide +kernel) (by decide +kernel) (by decide +kernel) rfl rfl rfl (by decide +kernel) ⟨Nat.le_of_ble_eq_true rfl, Nat.le_of_ble_eq_true rfl⟩ rfl rfl (Nat.le_of_ble_eq_true rfl) ⟨Nat.le_of_ble_eq_true rfl, Nat.le_of_ble_eq_true rfl⟩ dX6_trim_19 ?_
  refine Z.aload_n C dX6_trim_22 rfl ?_
  refine Z.getf C 0 2 iw_X6_trim_6 rfl rfl (by decide) (by decide +kernel) rfl dX6_trim_23 ?_
  refine Z.cVNId C 5 (host := RX6) 0 (c_wholeMoment l D cI cJ cL ad M B lo ch wt sn vo1 mo1 le ln od fe se td th cnt bw bs pl tk tc sill day lau hc0 hc1) rfl rfl gX6_trim_X3_wholeMoment_n141 (by decide +kernel) (by decide +kernel) (by decide +kernel) (by decide +kernel) rfl rfl rfl (by decide +kernel) ⟨Nat.le_of_ble_eq_true rfl, Nat.le_of_ble_eq_true rfl⟩ rfl rfl (Nat.le_of_ble_eq_true rfl) ⟨Nat.le_of_ble_eq_true rfl, Nat.le_of_ble_eq_true rfl⟩ dX6_trim_26 ?_
  rw [hL, hMo]
  refine Z.cVNId C 6 (host := RX6) 2 (c_trimUnder l D cI cJ cL ad M B lo ch wt sn vo1 mo1 le ln od fe se td th cnt bw bs pl tk tc sill day lau hM hm L Mo hL0 hL1 hM0 hM1) rfl rfl gX6_trim_X2_trimUnder_n144 (by decide +kernel) (by decide +kernel) (by decide +kernel) (by decide +kernel) rfl rfl rfl (by decide +kernel) ⟨Nat.le_of_ble_eq_true rfl, Nat.le_of_ble_eq_true rfl⟩ rfl rfl (Nat.le_of_ble_eq_true rfl) ⟨Nat.le_of_ble_eq_true rfl, Nat.le_of_ble_eq_true rfl⟩ dX6_trim_29 ?_
  exact Z.iret C hr dX6_trim_32 (⟨vo1, mo1, rfl, rfl⟩)
set_option maxRecDepth 20000 in
theorem iw_X6_needed_6 : ∀ w ∈ u_ws RX6 TX6 9, w ∈ wsX6_needed := by decide +kernel
abbrev rmX6_needed : Room := { frames := 4, cells := 0, slots := 0, locals := 90 }
set_option maxHeartbeats 4000000 in
set_option maxRecDepth 100000 in
theorem c_needed (l : Launch) (D : va_G) (cI cJ cL : ClassId) (ad : Nat → Nat) (M B : Int → Int → Int) (lo ch wt sn vo mo le ln od fe se td th : Int → Int) (cnt bw bs pl tk tc sill day lau : Int) (hM : hOK M) (hc0 : 0 ≤ cnt) (hc1 : cnt ≤ 16) (L Mo : Int) (hL : 10 * sumZ wt cnt.toNat + 10 * bw = L) (hMo : msZ wt sn cnt.toNat + bw * 20 * bs = Mo) (hL0 : 0 ≤ L) (hL1 : L ≤ 1000000) (hM0 : 0 ≤ Mo) (hM1 : Mo ≤ 16 * L) : CI l yX6_needed wsX6_needed rmX6_needed [.ref (ad 0)] D cI cJ cL (wX ad cI cJ M B lo ch wt sn vo mo le ln od fe se td th cnt bw bs pl tk tc sill day lau) (fun r w' => ∃ vo' mo' : Int → Int, r = ndZ M L Mo sill ∧ w' = (wX ad cI cJ M B lo ch wt sn vo' mo' le ln od fe se td th cnt bw bs pl tk tc sill day lau)) := by
  refine CI.of (cc := cX6_needed) (maxL := 2) (ret := (some .int)) (own := RX6) _ 1 (by decide +kernel) rfl rfl rfl (Nat.le_of_ble_eq_true rfl) rfl (fun sz9 p9 e9 s9 m9 a9 b9 h9 c9 C hr => ?_)
  have hdb := drZ_bd (VM M) L
  have htb := tmZ_bd hM hM0 hL0 hM1
  have hab := absZ_bd (a := tmZ M L Mo) (k := 1600) (by omega) (by omega)
  refine Z.aload_n C dX6_needed_0 rfl ?_
  refine Z.cVI C 0 0 ( c_draught l D cI cJ cL ad M B lo ch wt sn vo mo le ln od fe se td th cnt bw bs pl tk tc sill day lau hM hc0 hc1 L Mo hL hMo hL0 hL1 hM0 hM1) rfl rfl gX6_needed_X6_draught rfl rfl rfl (by decide +kernel) ⟨Nat.le_of_ble_eq_true rfl, Nat.le_of_ble_eq_true rfl⟩ rfl rfl (Nat.le_of_ble_eq_true rfl) ⟨Nat.le_of_ble_eq_true rfl, Nat.le_of_ble_eq_true rfl⟩ dX6_needed_1 (fun r2 w2 hw2 => ?_)
  obtain ⟨vo1, mo1, rfl, rfl⟩ := hw2
  refine Z.istore_n C dX6_needed_4 (by decide) ?_
  refine Z.iload_n C dX6_needed_5 rfl ?_
  refine Z.iconst C dX6_needed_6 ?_
  refine Z.icmpne C 12 dX6_needed_7 (by decide) (⟨by omega, by omega⟩) (⟨by omega, by omega⟩) (fun h => ?_) (fun h => ?_)
  · refine Z.bipush C dX6_needed_12 (by decide) ?_
    refine Z.iload_n C dX6_needed_14 rfl ?_
    refine Z.imul C dX6_needed_15 ?_
    refine Z.aload_n C dX6_needed_16 rfl ?_
    refine Z.getf C 0 6 iw_X6_needed_6 rfl rfl (by decide) (by decide +kernel) rfl dX6_needed_17 ?_
    refine Z.iadd C dX6_needed_20 ?_
    refine Z.aload_n C dX6_needed_21 rfl ?_
    refine Z.cVI C 0 0 ( c_trim l D cI cJ cL ad M B lo ch wt sn vo1 mo1 le ln od fe se td th cnt bw bs pl tk tc sill day lau hM hc0 hc1 L Mo hL hMo hL0 hL1 hM0 hM1) rfl rfl gX6_needed_X6_trim rfl rfl rfl (by decide +kernel) ⟨Nat.le_of_ble_eq_true rfl, Nat.le_of_ble_eq_true rfl⟩ rfl rfl (Nat.le_of_ble_eq_true rfl) ⟨Nat.le_of_ble_eq_true rfl, Nat.le_of_ble_eq_true rfl⟩ dX6_needed_22 (fun r3 w3 hw3 => ?_)
    obtain ⟨vo2, mo2, rfl, rfl⟩ := hw3
    refine Z.mabs C (by decide +kernel) (by decide +kernel) (by decide +kernel) (by decide +kernel) (Nat.le_of_ble_eq_true rfl) (Nat.le_of_ble_eq_true rfl) ⟨Nat.le_of_ble_eq_true rfl, Nat.le_of_ble_eq_true rfl⟩ (⟨by omega, by omega⟩) dX6_needed_25 ?_
    rw [show (if 0 ≤ tmZ M L Mo then tmZ M L Mo else -tmZ M L Mo) = absZ (tmZ M L Mo) from rfl]
    refine Z.bipush C dX6_needed_28 (by decide) ?_
    refine Z.idiv C dX6_needed_30 (by omega) (by omega) (by omega) (by omega) ?_
    refine Z.iadd C dX6_needed_31 ?_
    exact Z.iret C hr dX6_needed_32 (⟨vo2, mo2, by unfold ndZ; rw [if_neg h], rfl⟩)
  · refine Z.iconst C dX6_needed_10 ?_
    exact Z.iret C hr dX6_needed_11 (⟨vo1, mo1, by unfold ndZ; rw [if_pos (by omega)], rfl⟩)
set_option maxRecDepth 20000 in
theorem iw_X6_day_6 : ∀ w ∈ u_ws RX6 TX6 9, w ∈ wsX6_day := by decide +kernel
abbrev rmX6_day : Room := { frames := 5, cells := 0, slots := 0, locals := 111 }
set_option maxHeartbeats 4000000 in
set_option maxRecDepth 100000 in
theorem c_day (l : Launch) (D : va_G) (cI cJ cL : ClassId) (ad : Nat → Nat) (M B : Int → Int → Int) (lo ch wt sn vo mo le ln od fe se td th : Int → Int) (cnt bw bs pl tk tc sill day lau : Int) (hM : hOK M) (hc0 : 0 ≤ cnt) (hc1 : cnt ≤ 16) (ha : lau = 0 ∨ lau = 1) (hs0 : 0 ≤ sill) (hs1 : sill ≤ 50) (hd0 : 0 ≤ day) (hd1 : day ≤ 9000) (htc0 : 0 ≤ tc) (htc1 : tc ≤ 40) (hu : uqZ td tc) (htd : ∀ j : Int, 0 ≤ td j ∧ td j ≤ 9999) (hth : ∀ j : Int, 0 ≤ th j ∧ th j ≤ 99) (L Mo : Int) (hL : 10 * sumZ wt cnt.toNat + 10 * bw = L) (hMo : msZ wt sn cnt.toNat + bw * 20 * bs = Mo) (hL0 : 0 ≤ L) (hL1 : L ≤ 1000000) (hM0 : 0 ≤ Mo) (hM1 : Mo ≤ 16 * L) : CI l yX6_day wsX6_day rmX6_day [.ref (ad 0)] D cI cJ cL (wX ad cI cJ M B lo ch wt sn vo mo le ln od fe se td th cnt bw bs pl tk tc sill day lau) (fun r w' => ∃ vo' mo' : Int → Int, r = (if ndZ M L Mo sill = -1 ∨ lau = 1 then -1 else daD (fun d => tdZ td th d tc.toNat) (ndZ M L Mo sill) day 100) ∧ w' = (wX ad cI cJ M B lo ch wt sn vo' mo' le ln od fe se td th cnt bw bs pl tk tc sill day lau)) := by
  refine CI.of (cc := cX6_day) (maxL := 3) (ret := (some .int)) (own := RX6) _ 2 (by decide +kernel) rfl rfl rfl (Nat.le_of_ble_eq_true rfl) rfl (fun sz9 p9 e9 s9 m9 a9 b9 h9 c9 C hr => ?_)
  have hnb := ndZ_bd hM hM0 hL0 hM1 hs0 hs1
  refine Z.aload_n C dX6_day_0 rfl ?_
  refine Z.cVI C 0 0 ( c_needed l D cI cJ cL ad M B lo ch wt sn vo mo le ln od fe se td th cnt bw bs pl tk tc sill day lau hM hc0 hc1 L Mo hL hMo hL0 hL1 hM0 hM1) rfl rfl gX6_day_X6_needed rfl rfl rfl (by decide +kernel) ⟨Nat.le_of_ble_eq_true rfl, Nat.le_of_ble_eq_true rfl⟩ rfl rfl (Nat.le_of_ble_eq_true rfl) ⟨Nat.le_of_ble_eq_true rfl, Nat.le_of_ble_eq_true rfl⟩ dX6_day_1 (fun r2 w2 hw2 => ?_)
  obtain ⟨vo1, mo1, rfl, rfl⟩ := hw2
  generalize ndZ M L Mo sill = nd at hnb
  refine Z.istore_n C dX6_day_4 (by decide) ?_
  refine Z.aload_n C dX6_day_5 rfl ?_
  refine Z.getf C 0 8 iw_X6_day_6 rfl rfl (by decide) (by decide +kernel) rfl dX6_day_6 ?_
  refine Z.ifne C 17 dX6_day_9 (by decide) (⟨by omega, by omega⟩) (fun h => ?_) (fun h => ?_)
  · refine Z.iconst C dX6_day_17 ?_
    exact Z.iret C hr dX6_day_18 (⟨vo1, mo1, by rw [if_pos (Or.inr (by omega))], rfl⟩)
  · skip
    refine Z.iload_n C dX6_day_12 rfl ?_
    refine Z.iconst C dX6_day_13 ?_
    refine Z.icmpne C 19 dX6_day_14 (by decide) (⟨by omega, by omega⟩) (⟨by omega, by omega⟩) (fun h2 => ?_) (fun h2 => ?_)
    · skip
      refine Z.iconst C dX6_day_19 ?_
      refine Z.istore_n C dX6_day_20 (by decide) ?_
      refine Z.loop (α := Nat) (fun _ => (wX ad cI cJ M B lo ch wt sn vo1 mo1 le ln od fe se td th cnt bw bs pl tk tc sill day lau)) (fun k => [.ref (ad 0), .int (iI nd), .int (iI k)]) (fun k => k ≤ 100 ∧ daD (fun d => tdZ td th d tc.toNat) nd day (100 - k) = daD (fun d => tdZ td th d tc.toNat) nd day 100) (fun k => 100 - k) 0 ⟨by omega, rfl⟩ rfl rfl (fun k hk ih => ?_)
      obtain ⟨hk, hk2⟩ := hk
      refine Z.iload_n C dX6_day_21 rfl ?_
      refine Z.bipush C dX6_day_22 (by decide) ?_
      refine Z.icmpgt C 57 dX6_day_24 (by decide) (⟨by omega, by omega⟩) (⟨by omega, by omega⟩) (fun h3 => ?_) (fun h3 => ?_)
      · refine Z.iconst C dX6_day_57 ?_
        exact Z.iret C hr dX6_day_58 (⟨vo1, mo1, by rw [if_neg (by omega), ← hk2, show 100 - k = 0 by omega]; rfl, rfl⟩)
      · have hst := daD_step (T := fun d => tdZ td th d tc.toNat) (need := nd) (tod := day) (a := k) (by omega)
        have htb := tdZ_bd (td := td) (x := day + k) hth tc.toNat
        refine Z.aload_n C dX6_day_27 rfl ?_
        refine Z.getf C 0 5 iw_X6_day_6 rfl rfl (by decide) (by decide +kernel) rfl dX6_day_28 ?_
        refine Z.aload_n C dX6_day_31 rfl ?_
        refine Z.getf C 0 7 iw_X6_day_6 rfl rfl (by decide) (by decide +kernel) rfl dX6_day_32 ?_
        refine Z.iload_n C dX6_day_35 rfl ?_
        refine Z.iadd C dX6_day_36 ?_
        refine Z.cVNId C 8 (host := RX6) 1 (c_heightOn l D cI cJ cL ad M B lo ch wt sn vo1 mo1 le ln od fe se td th cnt bw bs pl tk tc sill day lau (day + k) (by omega) (by omega) htc0 htc1 hu htd) rfl rfl gX6_day_X0_heightOn_n175 (by decide +kernel) (by decide +kernel) (by decide +kernel) (by decide +kernel) rfl rfl rfl (by decide +kernel) ⟨Nat.le_of_ble_eq_true rfl, Nat.le_of_ble_eq_true rfl⟩ rfl rfl (Nat.le_of_ble_eq_true rfl) ⟨Nat.le_of_ble_eq_true rfl, Nat.le_of_ble_eq_true rfl⟩ dX6_day_37 ?_
        refine Z.iload_n C dX6_day_40 rfl ?_
        refine Z.icmplt C 51 dX6_day_41 (by decide) (⟨by omega, by omega⟩) (⟨by omega, by omega⟩) (fun h4 => ?_) (fun h4 => ?_)
        · rw [if_neg (by omega)] at hst
          refine Z.iinc C dX6_day_51 rfl (by decide) ?_
          refine Z.goto C 21 dX6_day_54 (by decide) ?_
          exact ih (k + 1) ⟨by omega, by rw [show 100 - (k + 1) = 99 - k by omega, ← hst]; exact hk2⟩ (by omega)
        · rw [if_pos (by omega)] at hst
          refine Z.aload_n C dX6_day_44 rfl ?_
          refine Z.getf C 0 7 iw_X6_day_6 rfl rfl (by decide) (by decide +kernel) rfl dX6_day_45 ?_
          refine Z.iload_n C dX6_day_48 rfl ?_
          refine Z.iadd C dX6_day_49 ?_
          exact Z.iret C hr dX6_day_50 (⟨vo1, mo1, by rw [if_neg (by omega), ← hk2, hst], rfl⟩)
    · refine Z.iconst C dX6_day_17 ?_
      exact Z.iret C hr dX6_day_18 (⟨vo1, mo1, by rw [if_pos (Or.inl (by omega))], rfl⟩)
set_option maxRecDepth 20000 in
theorem iw_X6_planks_5 : ∀ w ∈ u_ws RX5 TX5 7, w ∈ wsX6_planks := by decide +kernel
set_option maxRecDepth 20000 in
theorem iw_X6_planks_6 : ∀ w ∈ u_ws RX6 TX6 9, w ∈ wsX6_planks := by decide +kernel
abbrev rmX6_planks : Room := { frames := 7, cells := 1, slots := 6, locals := 112 }
set_option maxHeartbeats 4000000 in
set_option maxRecDepth 100000 in
theorem c_planks (l : Launch) (D : va_G) (cI cJ cL : ClassId) (ad : Nat → Nat) (M B : Int → Int → Int) (lo ch wt sn vo mo le ln od fe se td th : Int → Int) (cnt bw bs pl tk tc sill day lau : Int) (hl0 : l.stackTraces = false) (hM : hOK M) (x : Int) (hx : inr x) : XI l yX6_planks wsX6_planks rmX6_planks [.ref (ad 0), .int (iI x)] D cI cJ cL (wX ad cI cJ M B lo ch wt sn vo mo le ln od fe se td th cnt bw bs pl tk tc sill day lau) 1 6 (fun r w' => (100 ≤ x ∧ x ≤ 4000) ∧ r = (plS x (LsM M) 5).2.1 ∧ ∃ (le' ln' od' fe' se' : Int → Int) (tk' : Int), w' = (wX ad cI cJ M B lo ch wt sn vo mo le' ln' od' fe' se' td th cnt bw bs x tk' tc sill day lau)) (fun E w' => w' = (wX ad cI cJ M B lo ch wt sn vo mo le ln od fe se td th cnt bw bs pl tk tc sill day lau) ∧ (E = eIA ∧ ¬ (100 ≤ x ∧ x ≤ 4000))) := by
  refine XI.of (cc := cX6_planks) (maxL := 2) (ret := (some .int)) (own := RX6) _ 0 (by decide +kernel) rfl rfl rfl (Nat.le_of_ble_eq_true rfl) rfl (fun sz9 p9 e9 s9 m9 a9 b9 h9 c9 C hr hnx => ?_)
  refine Z.iload_n C dX6_planks_0 rfl ?_
  refine Z.bipush C dX6_planks_1 (by decide) ?_
  refine Z.sipush C dX6_planks_3 (by decide) ?_
  refine Z.xSVp C 3 (c_refuseOutside l D cI cJ cL hl0 x 100 4000 hx ⟨by decide, by decide⟩ ⟨by decide, by decide⟩) gX6_planks_X6_refuseOutside rfl rfl rfl (by decide +kernel) ⟨Nat.le_of_ble_eq_true rfl, Nat.le_of_ble_eq_true rfl⟩ rfl rfl (Nat.le_of_ble_eq_true rfl) ⟨Nat.le_of_ble_eq_true rfl, Nat.le_of_ble_eq_true rfl⟩ dX6_planks_6 (fun h => ?_) (fun E hE => ?_)
  · refine Z.aload_n C dX6_planks_9 rfl ?_
    refine Z.getf C 0 4 iw_X6_planks_6 rfl rfl (by decide) (by decide +kernel) rfl dX6_planks_10 ?_
    refine Z.iload_n C dX6_planks_13 rfl ?_
    refine Z.putfN C 7 5 iw_X6_planks_5 rfl rfl (by decide) tyX5 tyX5_ok nmX5 (host := RX6) (by decide +kernel) rfl (ty := .int) (by decide +kernel) rfl rfl (Nat.le_of_ble_eq_true rfl) dX6_planks_14 wX_s_pl ?_
    refine Z.aload_n C dX6_planks_17 rfl ?_
    refine Z.getf C 0 4 iw_X6_planks_6 rfl rfl (by decide) (by decide +kernel) rfl dX6_planks_18 ?_
    refine Z.aload_n C dX6_planks_21 rfl ?_
    refine Z.getf C 0 0 iw_X6_planks_6 rfl rfl (by decide) (by decide +kernel) rfl dX6_planks_22 ?_
    refine Z.cVNV C 7 (host := RX6) 1 ( c_cutAll l D cI cJ cL ad M B lo ch wt sn vo mo le ln od fe se td th cnt bw bs x tk tc sill day lau hM h.1 h.2) rfl rfl gX6_planks_X5_cutAll_n156 (by decide +kernel) (by decide +kernel) (by decide +kernel) (by decide +kernel) rfl rfl rfl (by decide +kernel) ⟨Nat.le_of_ble_eq_true rfl, Nat.le_of_ble_eq_true rfl⟩ rfl rfl (Nat.le_of_ble_eq_true rfl) ⟨Nat.le_of_ble_eq_true rfl, Nat.le_of_ble_eq_true rfl⟩ dX6_planks_25 (fun w2 hw2 => ?_)
    obtain ⟨le1, ln1, od1, fe1, se1, hk, rfl⟩ := hw2
    refine Z.aload_n C dX6_planks_28 rfl ?_
    refine Z.getf C 0 4 iw_X6_planks_6 rfl rfl (by decide) (by decide +kernel) rfl dX6_planks_29 ?_
    refine Z.getfN C 7 6 iw_X6_planks_5 rfl rfl (by decide) (host := RX6) (by decide +kernel) rfl dX6_planks_32 ?_
    exact Z.iretX C hr (Nat.le_of_ble_eq_true rfl) (Nat.le_of_ble_eq_true rfl) dX6_planks_35 (⟨h, rfl, le1, ln1, od1, fe1, se1, _, rfl⟩)
  · exact ZX.outI C hnx (Nat.le_of_ble_eq_true rfl) (Nat.le_of_ble_eq_true rfl) (⟨rfl, hE⟩)
set_option maxRecDepth 20000 in
theorem iw_X6_plankOf_5 : ∀ w ∈ u_ws RX5 TX5 7, w ∈ wsX6_plankOf := by decide +kernel
set_option maxRecDepth 20000 in
theorem iw_X6_plankOf_6 : ∀ w ∈ u_ws RX6 TX6 9, w ∈ wsX6_plankOf := by decide +kernel
abbrev rmX6_plankOf : Room := { frames := 7, cells := 1, slots := 6, locals := 110 }
set_option maxHeartbeats 4000000 in
set_option maxRecDepth 100000 in
theorem c_plankOf (l : Launch) (D : va_G) (cI cJ cL : ClassId) (ad : Nat → Nat) (M B : Int → Int → Int) (lo ch wt sn vo mo le ln od fe se td th : Int → Int) (cnt bw bs pl tk tc sill day lau : Int) (hl0 : l.stackTraces = false) (hM : hOK M) (hp : 100 ≤ pl) (hp2 : pl ≤ 4000) (x y : Int) (hx : inr x) (hy : y = 0 ∨ y = 1) : XI l yX6_plankOf wsX6_plankOf rmX6_plankOf [.ref (ad 0), .int (iI x), .int (iI y)] D cI cJ cL (wX ad cI cJ M B lo ch wt sn vo mo le ln od fe se td th cnt bw bs pl tk tc sill day lau) 1 6 (fun r w' => tcK x = 0 ∧ r = (if y = 0 then (plS pl (LsM M) 5).2.2.1 x else (plS pl (LsM M) 5).2.2.2 x) ∧ ∃ (le' ln' od' fe' se' : Int → Int) (tk' : Int), w' = (wX ad cI cJ M B lo ch wt sn vo mo le' ln' od' fe' se' td th cnt bw bs pl tk' tc sill day lau)) (fun E w' => w' = (wX ad cI cJ M B lo ch wt sn vo mo le ln od fe se td th cnt bw bs pl tk tc sill day lau) ∧ (E = eIX ∧ tcK x = 1)) := by
  refine XI.of (cc := cX6_plankOf) (maxL := 3) (ret := (some .int)) (own := RX6) _ 0 (by decide +kernel) rfl rfl rfl (Nat.le_of_ble_eq_true rfl) rfl (fun sz9 p9 e9 s9 m9 a9 b9 h9 c9 C hr hnx => ?_)
  refine Z.iload_n C dX6_plankOf_0 rfl ?_
  refine Z.xSVp C 1 (c_refuseNoStrake l D cI cJ cL hl0 x hx) gX6_plankOf_X6_refuseNoStrake rfl rfl rfl (by decide +kernel) ⟨Nat.le_of_ble_eq_true rfl, Nat.le_of_ble_eq_true rfl⟩ rfl rfl (Nat.le_of_ble_eq_true rfl) ⟨Nat.le_of_ble_eq_true rfl, Nat.le_of_ble_eq_true rfl⟩ dX6_plankOf_1 (fun h => ?_) (fun E hE => ?_)
  · skip
    have hz : tcK x = 0 := by unfold tcK; (repeat' split) <;> omega
    refine Z.aload_n C dX6_plankOf_4 rfl ?_
    refine Z.getf C 0 4 iw_X6_plankOf_6 rfl rfl (by decide) (by decide +kernel) rfl dX6_plankOf_5 ?_
    refine Z.aload_n C dX6_plankOf_8 rfl ?_
    refine Z.getf C 0 0 iw_X6_plankOf_6 rfl rfl (by decide) (by decide +kernel) rfl dX6_plankOf_9 ?_
    refine Z.cVNV C 7 (host := RX6) 1 ( c_cutAll l D cI cJ cL ad M B lo ch wt sn vo mo le ln od fe se td th cnt bw bs pl tk tc sill day lau hM hp hp2) rfl rfl gX6_plankOf_X5_cutAll_n156 (by decide +kernel) (by decide +kernel) (by decide +kernel) (by decide +kernel) rfl rfl rfl (by decide +kernel) ⟨Nat.le_of_ble_eq_true rfl, Nat.le_of_ble_eq_true rfl⟩ rfl rfl (Nat.le_of_ble_eq_true rfl) ⟨Nat.le_of_ble_eq_true rfl, Nat.le_of_ble_eq_true rfl⟩ dX6_plankOf_12 (fun w2 hw2 => ?_)
    obtain ⟨le1, ln1, od1, fe1, se1, hk, rfl⟩ := hw2
    have hk1 := hk x (by omega) (by omega)
    refine Z.iload_n C dX6_plankOf_15 rfl ?_
    refine Z.ifeq C 31 dX6_plankOf_16 (by decide) (⟨by omega, by omega⟩) (fun hq => ?_) (fun hq => ?_)
    · refine Z.aload_n C dX6_plankOf_31 rfl ?_
      refine Z.getf C 0 4 iw_X6_plankOf_6 rfl rfl (by decide) (by decide +kernel) rfl dX6_plankOf_32 ?_
      refine Z.getfN C 7 3 iw_X6_plankOf_5 rfl rfl (by decide) (host := RX6) (by decide +kernel) rfl dX6_plankOf_35 ?_
      refine Z.iload_n C dX6_plankOf_38 rfl ?_
      refine Z.iald C 32 rfl (by omega) (by omega) (by decide) dX6_plankOf_39 ?_
      exact Z.iretX C hr (Nat.le_of_ble_eq_true rfl) (Nat.le_of_ble_eq_true rfl) dX6_plankOf_40 (⟨hz, by rw [if_pos hq, hk1.1], le1, ln1, od1, fe1, se1, _, rfl⟩)
    · skip
      refine Z.aload_n C dX6_plankOf_19 rfl ?_
      refine Z.getf C 0 4 iw_X6_plankOf_6 rfl rfl (by decide) (by decide +kernel) rfl dX6_plankOf_20 ?_
      refine Z.getfN C 7 4 iw_X6_plankOf_5 rfl rfl (by decide) (host := RX6) (by decide +kernel) rfl dX6_plankOf_23 ?_
      refine Z.iload_n C dX6_plankOf_26 rfl ?_
      refine Z.iald C 33 rfl (by omega) (by omega) (by decide) dX6_plankOf_27 ?_
      refine Z.goto C 40 dX6_plankOf_28 (by decide) ?_
      exact Z.iretX C hr (Nat.le_of_ble_eq_true rfl) (Nat.le_of_ble_eq_true rfl) dX6_plankOf_40 (⟨hz, by rw [if_neg hq, hk1.2], le1, ln1, od1, fe1, se1, _, rfl⟩)
  · skip
    exact ZX.outI C hnx (Nat.le_of_ble_eq_true rfl) (Nat.le_of_ble_eq_true rfl) (⟨rfl, ⟨hE.1, (by unfold tcK; (repeat' split) <;> omega)⟩⟩)
def tcTide (x y tc p : Int) : Int := if ¬ (0 ≤ x ∧ x ≤ 9999) ∨ ¬ (0 ≤ y ∧ y ≤ 99) then 1 else if tc = 40 ∧ p = -1 then 2 else 0
set_option maxRecDepth 20000 in
theorem iw_X6_tide_6 : ∀ w ∈ u_ws RX6 TX6 9, w ∈ wsX6_tide := by decide +kernel
abbrev rmX6_tide : Room := { frames := 7, cells := 3, slots := 18, locals := 112 }
set_option maxHeartbeats 4000000 in
set_option maxRecDepth 100000 in
theorem c_tide (l : Launch) (D : va_G) (cI cJ cL : ClassId) (ad : Nat → Nat) (M B : Int → Int → Int) (lo ch wt sn vo mo le ln od fe se td th : Int → Int) (cnt bw bs pl tk tc sill day lau : Int) (hl0 : l.stackTraces = false) (htc0 : 0 ≤ tc) (htc1 : tc ≤ 40) (hu : uqZ td tc) (htd : ∀ j : Int, 0 ≤ td j ∧ td j ≤ 9999) (x y : Int) (hx : inr x) (hy : inr y) : XI l yX6_tide wsX6_tide rmX6_tide [.ref (ad 0), .int (iI x), .int (iI y)] D cI cJ cL (wX ad cI cJ M B lo ch wt sn vo mo le ln od fe se td th cnt bw bs pl tk tc sill day lau) 3 18 (fun r w' => tcTide x y tc (plZ td x tc.toNat) = 0 ∧ r = tdZ td th x tc.toNat ∧ w' = (if plZ td x tc.toNat = -1 then (wX ad cI cJ M B lo ch wt sn vo mo le ln od fe se (zset td tc x) (zset th tc y) cnt bw bs pl tk (tc + 1) sill day lau) else (wX ad cI cJ M B lo ch wt sn vo mo le ln od fe se (zset td (plZ td x tc.toNat) x) (zset th (plZ td x tc.toNat) y) cnt bw bs pl tk tc sill day lau))) (fun E w' => w' = (wX ad cI cJ M B lo ch wt sn vo mo le ln od fe se td th cnt bw bs pl tk tc sill day lau) ∧ exA E (tcTide x y tc (plZ td x tc.toNat))) := by
  refine XI.of (cc := cX6_tide) (maxL := 4) (ret := (some .int)) (own := RX6) _ 1 (by decide +kernel) rfl rfl rfl (Nat.le_of_ble_eq_true rfl) rfl (fun sz9 p9 e9 s9 m9 a9 b9 h9 c9 C hr hnx => ?_)
  refine Z.iload_n C dX6_tide_0 rfl ?_
  refine Z.iconst C dX6_tide_1 ?_
  refine Z.sipush C dX6_tide_2 (by decide) ?_
  refine Z.xSVp C 3 (c_refuseOutside l D cI cJ cL hl0 x 0 9999 hx ⟨by decide, by decide⟩ ⟨by decide, by decide⟩) gX6_tide_X6_refuseOutside rfl rfl rfl (by decide +kernel) ⟨Nat.le_of_ble_eq_true rfl, Nat.le_of_ble_eq_true rfl⟩ rfl rfl (Nat.le_of_ble_eq_true rfl) ⟨Nat.le_of_ble_eq_true rfl, Nat.le_of_ble_eq_true rfl⟩ dX6_tide_5 (fun h => ?_) (fun E hE => ?_)
  · skip
    refine Z.iload_n C dX6_tide_8 rfl ?_
    refine Z.iconst C dX6_tide_9 ?_
    refine Z.bipush C dX6_tide_10 (by decide) ?_
    refine Z.xSVp C 3 (c_refuseOutside l D cI cJ cL hl0 y 0 99 hy ⟨by decide, by decide⟩ ⟨by decide, by decide⟩) gX6_tide_X6_refuseOutside rfl rfl rfl (by decide +kernel) ⟨Nat.le_of_ble_eq_true rfl, Nat.le_of_ble_eq_true rfl⟩ rfl rfl (Nat.le_of_ble_eq_true rfl) ⟨Nat.le_of_ble_eq_true rfl, Nat.le_of_ble_eq_true rfl⟩ dX6_tide_12 (fun h => ?_) (fun E hE => ?_)
    · skip
      refine Z.aload_n C dX6_tide_15 rfl ?_
      refine Z.getf C 0 5 iw_X6_tide_6 rfl rfl (by decide) (by decide +kernel) rfl dX6_tide_16 ?_
      refine Z.iload_n C dX6_tide_19 rfl ?_
      refine Z.cVNId C 8 (host := RX6) 1 (c_hasRoomFor l D cI cJ cL ad M B lo ch wt sn vo mo le ln od fe se td th cnt bw bs pl tk tc sill day lau x (by omega) (by omega) htc0 htc1 hu htd) rfl rfl gX6_tide_X0_hasRoomFor_n169 (by decide +kernel) (by decide +kernel) (by decide +kernel) (by decide +kernel) rfl rfl rfl (by decide +kernel) ⟨Nat.le_of_ble_eq_true rfl, Nat.le_of_ble_eq_true rfl⟩ rfl rfl (Nat.le_of_ble_eq_true rfl) ⟨Nat.le_of_ble_eq_true rfl, Nat.le_of_ble_eq_true rfl⟩ dX6_tide_20 ?_
      refine Z.ifne C 36 dX6_tide_23 (by decide) (⟨by split <;> omega, by split <;> omega⟩) (fun hq => ?_) (fun hq => ?_)
      · have hc : tc < 40 ∨ plZ td x tc.toNat ≠ -1 := Decidable.byContradiction (fun hn => hq (if_neg hn))
        refine Z.aload_n C dX6_tide_36 rfl ?_
        refine Z.getf C 0 5 iw_X6_tide_6 rfl rfl (by decide) (by decide +kernel) rfl dX6_tide_37 ?_
        refine Z.iload_n C dX6_tide_40 rfl ?_
        refine Z.cVNId C 8 (host := RX6) 1 (c_heightOn l D cI cJ cL ad M B lo ch wt sn vo mo le ln od fe se td th cnt bw bs pl tk tc sill day lau x (by omega) (by omega) htc0 htc1 hu htd) rfl rfl gX6_tide_X0_heightOn_n175 (by decide +kernel) (by decide +kernel) (by decide +kernel) (by decide +kernel) rfl rfl rfl (by decide +kernel) ⟨Nat.le_of_ble_eq_true rfl, Nat.le_of_ble_eq_true rfl⟩ rfl rfl (Nat.le_of_ble_eq_true rfl) ⟨Nat.le_of_ble_eq_true rfl, Nat.le_of_ble_eq_true rfl⟩ dX6_tide_41 ?_
        refine Z.istore_n C dX6_tide_44 (by decide) ?_
        refine Z.aload_n C dX6_tide_45 rfl ?_
        refine Z.getf C 0 5 iw_X6_tide_6 rfl rfl (by decide) (by decide +kernel) rfl dX6_tide_46 ?_
        refine Z.iload_n C dX6_tide_49 rfl ?_
        refine Z.iload_n C dX6_tide_50 rfl ?_
        refine Z.cVNV C 8 (host := RX6) 2 ( c_tell l D cI cJ cL ad M B lo ch wt sn vo mo le ln od fe se td th cnt bw bs pl tk tc sill day lau x y (by omega) (by omega) htc0 htc1 hu htd hc) rfl rfl gX6_tide_X0_tell_n178 (by decide +kernel) (by decide +kernel) (by decide +kernel) (by decide +kernel) rfl rfl rfl (by decide +kernel) ⟨Nat.le_of_ble_eq_true rfl, Nat.le_of_ble_eq_true rfl⟩ rfl rfl (Nat.le_of_ble_eq_true rfl) ⟨Nat.le_of_ble_eq_true rfl, Nat.le_of_ble_eq_true rfl⟩ dX6_tide_51 (fun w2 hw2 => ?_)
        subst hw2
        refine Z.iload_n C dX6_tide_54 rfl ?_
        exact Z.iretX C hr (Nat.le_of_ble_eq_true rfl) (Nat.le_of_ble_eq_true rfl) dX6_tide_55 (⟨(by unfold tcTide; (repeat' split) <;> omega), rfl, rfl⟩)
      · have hc : ¬ (tc < 40 ∨ plZ td x tc.toNat ≠ -1) := fun hn => absurd ((if_pos hn).symm.trans hq) (by decide)
        exact Z.throwSI C hnx hl0 (cls := "java/lang/IllegalStateException") (text := "tides of 40 other days are told") (ik := 103) (is := 173) (ic := 107) (by decide +kernel) (by decide +kernel) (by decide +kernel) (by decide +kernel) (by decide +kernel) tha107 thg107 thf107 dX6_tide_26 dX6_tide_29 dX6_tide_30 dX6_tide_32 dX6_tide_35 (Nat.le_of_ble_eq_true rfl) (Nat.le_of_ble_eq_true rfl) (Nat.le_of_ble_eq_true rfl) (Nat.le_of_ble_eq_true rfl) (Nat.le_of_ble_eq_true rfl) (Nat.le_of_ble_eq_true rfl) (⟨rfl, Or.inr ⟨rfl, (by unfold tcTide; (repeat' split) <;> omega)⟩⟩)
    · skip
      exact ZX.outI C hnx (Nat.le_of_ble_eq_true rfl) (Nat.le_of_ble_eq_true rfl) (⟨rfl, (Or.inl ⟨hE.1, (by unfold tcTide; (repeat' split) <;> omega)⟩)⟩)
  · skip
    exact ZX.outI C hnx (Nat.le_of_ble_eq_true rfl) (Nat.le_of_ble_eq_true rfl) (⟨rfl, (Or.inl ⟨hE.1, (by unfold tcTide; (repeat' split) <;> omega)⟩)⟩)
set_option maxRecDepth 20000 in
theorem iw_X6_sill_6 : ∀ w ∈ u_ws RX6 TX6 9, w ∈ wsX6_sill := by decide +kernel
abbrev rmX6_sill : Room := { frames := 7, cells := 1, slots := 6, locals := 112 }
set_option maxHeartbeats 4000000 in
set_option maxRecDepth 100000 in
theorem c_sill (l : Launch) (D : va_G) (cI cJ cL : ClassId) (ad : Nat → Nat) (M B : Int → Int → Int) (lo ch wt sn vo mo le ln od fe se td th : Int → Int) (cnt bw bs pl tk tc sill day lau : Int) (hl0 : l.stackTraces = false) (x : Int) (hx : inr x) : XI l yX6_sill wsX6_sill rmX6_sill [.ref (ad 0), .int (iI x)] D cI cJ cL (wX ad cI cJ M B lo ch wt sn vo mo le ln od fe se td th cnt bw bs pl tk tc sill day lau) 1 6 (fun r w' => (0 ≤ x ∧ x ≤ 50) ∧ r = sill ∧ w' = (wX ad cI cJ M B lo ch wt sn vo mo le ln od fe se td th cnt bw bs pl tk tc x day lau)) (fun E w' => w' = (wX ad cI cJ M B lo ch wt sn vo mo le ln od fe se td th cnt bw bs pl tk tc sill day lau) ∧ (E = eIA ∧ ¬ (0 ≤ x ∧ x ≤ 50))) := by
  refine XI.of (cc := cX6_sill) (maxL := 3) (ret := (some .int)) (own := RX6) _ 1 (by decide +kernel) rfl rfl rfl (Nat.le_of_ble_eq_true rfl) rfl (fun sz9 p9 e9 s9 m9 a9 b9 h9 c9 C hr hnx => ?_)
  refine Z.iload_n C dX6_sill_0 rfl ?_
  refine Z.iconst C dX6_sill_1 ?_
  refine Z.bipush C dX6_sill_2 (by decide) ?_
  refine Z.xSVp C 3 (c_refuseOutside l D cI cJ cL hl0 x 0 50 hx ⟨by decide, by decide⟩ ⟨by decide, by decide⟩) gX6_sill_X6_refuseOutside rfl rfl rfl (by decide +kernel) ⟨Nat.le_of_ble_eq_true rfl, Nat.le_of_ble_eq_true rfl⟩ rfl rfl (Nat.le_of_ble_eq_true rfl) ⟨Nat.le_of_ble_eq_true rfl, Nat.le_of_ble_eq_true rfl⟩ dX6_sill_4 (fun h => ?_) (fun E hE => ?_)
  · refine Z.aload_n C dX6_sill_7 rfl ?_
    refine Z.getf C 0 6 iw_X6_sill_6 rfl rfl (by decide) (by decide +kernel) rfl dX6_sill_8 ?_
    refine Z.istore_n C dX6_sill_11 (by decide) ?_
    refine Z.aload_n C dX6_sill_12 rfl ?_
    refine Z.iload_n C dX6_sill_13 rfl ?_
    refine Z.putf C 0 6 iw_X6_sill_6 rfl rfl (by decide) tyX6 tyX6_ok nmX6 (by decide +kernel) rfl (ty := .int) (by decide +kernel) rfl rfl (Nat.le_of_ble_eq_true rfl) dX6_sill_14 wX_s_sill ?_
    refine Z.iload_n C dX6_sill_17 rfl ?_
    exact Z.iretX C hr (Nat.le_of_ble_eq_true rfl) (Nat.le_of_ble_eq_true rfl) dX6_sill_18 (⟨h, rfl, rfl⟩)
  · exact ZX.outI C hnx (Nat.le_of_ble_eq_true rfl) (Nat.le_of_ble_eq_true rfl) (⟨rfl, hE⟩)
set_option maxRecDepth 20000 in
theorem iw_X6_launch_6 : ∀ w ∈ u_ws RX6 TX6 9, w ∈ wsX6_launch := by decide +kernel
abbrev rmX6_launch : Room := { frames := 7, cells := 2, slots := 12, locals := 111 }
set_option maxHeartbeats 4000000 in
set_option maxRecDepth 100000 in
theorem c_launch (l : Launch) (D : va_G) (cI cJ cL : ClassId) (ad : Nat → Nat) (M B : Int → Int → Int) (lo ch wt sn vo mo le ln od fe se td th : Int → Int) (cnt bw bs pl tk tc sill day lau : Int) (hl0 : l.stackTraces = false) (hM : hOK M) (hc0 : 0 ≤ cnt) (hc1 : cnt ≤ 16) (ha : lau = 0 ∨ lau = 1) (hs0 : 0 ≤ sill) (hs1 : sill ≤ 50) (hd0 : 0 ≤ day) (hd1 : day ≤ 9000) (htc0 : 0 ≤ tc) (htc1 : tc ≤ 40) (hu : uqZ td tc) (htd : ∀ j : Int, 0 ≤ td j ∧ td j ≤ 9999) (hth : ∀ j : Int, 0 ≤ th j ∧ th j ≤ 99) (L Mo : Int) (hL : 10 * sumZ wt cnt.toNat + 10 * bw = L) (hMo : msZ wt sn cnt.toNat + bw * 20 * bs = Mo) (hL0 : 0 ≤ L) (hL1 : L ≤ 1000000) (hM0 : 0 ≤ Mo) (hM1 : Mo ≤ 16 * L) : XI l yX6_launch wsX6_launch rmX6_launch [.ref (ad 0)] D cI cJ cL (wX ad cI cJ M B lo ch wt sn vo mo le ln od fe se td th cnt bw bs pl tk tc sill day lau) 2 12 (fun r w' => ¬ (lau = 1 ∨ ndZ M L Mo sill = -1 ∨ tdZ td th day tc.toNat < ndZ M L Mo sill) ∧ r = tdZ td th day tc.toNat - ndZ M L Mo sill ∧ ∃ vo' mo' : Int → Int, w' = (wX ad cI cJ M B lo ch wt sn vo' mo' le ln od fe se td th cnt bw bs pl tk tc sill day 1)) (fun E w' => ∃ vo' mo' : Int → Int, w' = (wX ad cI cJ M B lo ch wt sn vo' mo' le ln od fe se td th cnt bw bs pl tk tc sill day lau) ∧ E = eIS ∧ (lau = 1 ∨ ndZ M L Mo sill = -1 ∨ tdZ td th day tc.toNat < ndZ M L Mo sill)) := by
  refine XI.of (cc := cX6_launch) (maxL := 3) (ret := (some .int)) (own := RX6) _ 2 (by decide +kernel) rfl rfl rfl (Nat.le_of_ble_eq_true rfl) rfl (fun sz9 p9 e9 s9 m9 a9 b9 h9 c9 C hr hnx => ?_)
  have hnb := ndZ_bd hM hM0 hL0 hM1 hs0 hs1
  have htb := tdZ_bd (td := td) (x := day) hth tc.toNat
  refine Z.aload_n C dX6_launch_0 rfl ?_
  refine Z.xVV C 0 0 (c_refuseLaunched l D cI cJ cL ad M B lo ch wt sn vo mo le ln od fe se td th cnt bw bs pl tk tc sill day lau hl0 ha) rfl rfl gX6_launch_X6_refuseLaunched rfl rfl rfl (by decide +kernel) ⟨Nat.le_of_ble_eq_true rfl, Nat.le_of_ble_eq_true rfl⟩ rfl rfl (Nat.le_of_ble_eq_true rfl) ⟨Nat.le_of_ble_eq_true rfl, Nat.le_of_ble_eq_true rfl⟩ dX6_launch_1 (fun w1 h => ?_) (fun E w1 hE => ?_)
  · obtain ⟨rfl, h⟩ := h
    refine Z.aload_n C dX6_launch_4 rfl ?_
    refine Z.cVI C 0 0 ( c_needed l D cI cJ cL ad M B lo ch wt sn vo mo le ln od fe se td th cnt bw bs pl tk tc sill day lau hM hc0 hc1 L Mo hL hMo hL0 hL1 hM0 hM1) rfl rfl gX6_launch_X6_needed rfl rfl rfl (by decide +kernel) ⟨Nat.le_of_ble_eq_true rfl, Nat.le_of_ble_eq_true rfl⟩ rfl rfl (Nat.le_of_ble_eq_true rfl) ⟨Nat.le_of_ble_eq_true rfl, Nat.le_of_ble_eq_true rfl⟩ dX6_launch_5 (fun r2 w2 hw2 => ?_)
    obtain ⟨vo1, mo1, rfl, rfl⟩ := hw2
    generalize ndZ M L Mo sill = nd at hnb
    refine Z.istore_n C dX6_launch_8 (by decide) ?_
    refine Z.iload_n C dX6_launch_9 rfl ?_
    refine Z.iconst C dX6_launch_10 ?_
    refine Z.icmpne C 24 dX6_launch_11 (by decide) (⟨by omega, by omega⟩) (⟨by omega, by omega⟩) (fun h2 => ?_) (fun h2 => ?_)
    · refine Z.aload_n C dX6_launch_24 rfl ?_
      refine Z.getf C 0 5 iw_X6_launch_6 rfl rfl (by decide) (by decide +kernel) rfl dX6_launch_25 ?_
      refine Z.aload_n C dX6_launch_28 rfl ?_
      refine Z.getf C 0 7 iw_X6_launch_6 rfl rfl (by decide) (by decide +kernel) rfl dX6_launch_29 ?_
      refine Z.cVNId C 8 (host := RX6) 1 (c_heightOn l D cI cJ cL ad M B lo ch wt sn vo1 mo1 le ln od fe se td th cnt bw bs pl tk tc sill day lau day (by omega) (by omega) htc0 htc1 hu htd) rfl rfl gX6_launch_X0_heightOn_n175 (by decide +kernel) (by decide +kernel) (by decide +kernel) (by decide +kernel) rfl rfl rfl (by decide +kernel) ⟨Nat.le_of_ble_eq_true rfl, Nat.le_of_ble_eq_true rfl⟩ rfl rfl (Nat.le_of_ble_eq_true rfl) ⟨Nat.le_of_ble_eq_true rfl, Nat.le_of_ble_eq_true rfl⟩ dX6_launch_32 ?_
      refine Z.iload_n C dX6_launch_35 rfl ?_
      refine Z.isub C dX6_launch_36 ?_
      refine Z.istore_n C dX6_launch_37 (by decide) ?_
      refine Z.iload_n C dX6_launch_38 rfl ?_
      refine Z.ifge C 52 dX6_launch_39 (by decide) (⟨by omega, by omega⟩) (fun h3 => ?_) (fun h3 => ?_)
      · skip
        refine Z.aload_n C dX6_launch_52 rfl ?_
        refine Z.iconst C dX6_launch_53 ?_
        refine Z.putf C 0 8 iw_X6_launch_6 rfl rfl (by decide) tyX6 tyX6_ok nmX6 (by decide +kernel) rfl (ty := .boolean) (by decide +kernel) rfl rfl (Nat.le_of_ble_eq_true rfl) dX6_launch_54 wX_s_lau ?_
        refine Z.iload_n C dX6_launch_57 rfl ?_
        exact Z.iretX C hr (Nat.le_of_ble_eq_true rfl) (Nat.le_of_ble_eq_true rfl) dX6_launch_58 (⟨by omega, rfl, vo1, mo1, rfl⟩)
      · skip
        exact Z.throwSI C hnx hl0 (cls := "java/lang/IllegalStateException") (text := "the tide is less than needed") (ik := 103) (is := 198) (ic := 107) (by decide +kernel) (by decide +kernel) (by decide +kernel) (by decide +kernel) (by decide +kernel) tha107 thg107 thf107 dX6_launch_42 dX6_launch_45 dX6_launch_46 dX6_launch_48 dX6_launch_51 (Nat.le_of_ble_eq_true rfl) (Nat.le_of_ble_eq_true rfl) (Nat.le_of_ble_eq_true rfl) (Nat.le_of_ble_eq_true rfl) (Nat.le_of_ble_eq_true rfl) (Nat.le_of_ble_eq_true rfl) (⟨vo1, mo1, rfl, rfl, by omega⟩)
    · skip
      exact Z.throwSI C hnx hl0 (cls := "java/lang/IllegalStateException") (text := "there is no draught") (ik := 103) (is := 196) (ic := 107) (by decide +kernel) (by decide +kernel) (by decide +kernel) (by decide +kernel) (by decide +kernel) tha107 thg107 thf107 dX6_launch_14 dX6_launch_17 dX6_launch_18 dX6_launch_20 dX6_launch_23 (Nat.le_of_ble_eq_true rfl) (Nat.le_of_ble_eq_true rfl) (Nat.le_of_ble_eq_true rfl) (Nat.le_of_ble_eq_true rfl) (Nat.le_of_ble_eq_true rfl) (Nat.le_of_ble_eq_true rfl) (⟨vo1, mo1, rfl, rfl, by omega⟩)
  · obtain ⟨rfl, hE⟩ := hE
    exact ZX.outI C hnx (Nat.le_of_ble_eq_true rfl) (Nat.le_of_ble_eq_true rfl) (⟨vo, mo, rfl, hE.1, by omega⟩)
set_option maxRecDepth 20000 in
theorem iw_X6_pass_6 : ∀ w ∈ u_ws RX6 TX6 9, w ∈ wsX6_pass := by decide +kernel
abbrev rmX6_pass : Room := { frames := 7, cells := 2, slots := 12, locals := 112 }
set_option maxHeartbeats 4000000 in
set_option maxRecDepth 100000 in
theorem c_pass (l : Launch) (D : va_G) (cI cJ cL : ClassId) (ad : Nat → Nat) (M B : Int → Int → Int) (lo ch wt sn vo mo le ln od fe se td th : Int → Int) (cnt bw bs pl tk tc sill day lau : Int) (hl0 : l.stackTraces = false) (hd0 : 0 ≤ day) (hd1 : day ≤ 9000) (x : Int) (hx : inr x) : XI l yX6_pass wsX6_pass rmX6_pass [.ref (ad 0), .int (iI x)] D cI cJ cL (wX ad cI cJ M B lo ch wt sn vo mo le ln od fe se td th cnt bw bs pl tk tc sill day lau) 2 12 (fun r w' => tcPass x day = 0 ∧ r = day + x ∧ w' = (wX ad cI cJ M B lo ch wt sn vo mo le ln od fe se td th cnt bw bs pl tk tc sill (day + x) lau)) (fun E w' => w' = (wX ad cI cJ M B lo ch wt sn vo mo le ln od fe se td th cnt bw bs pl tk tc sill day lau) ∧ exA E (tcPass x day)) := by
  refine XI.of (cc := cX6_pass) (maxL := 2) (ret := (some .int)) (own := RX6) _ 0 (by decide +kernel) rfl rfl rfl (Nat.le_of_ble_eq_true rfl) rfl (fun sz9 p9 e9 s9 m9 a9 b9 h9 c9 C hr hnx => ?_)
  refine Z.iload_n C dX6_pass_0 rfl ?_
  refine Z.iconst C dX6_pass_1 ?_
  refine Z.bipush C dX6_pass_2 (by decide) ?_
  refine Z.xSVp C 3 (c_refuseOutside l D cI cJ cL hl0 x 1 99 hx ⟨by decide, by decide⟩ ⟨by decide, by decide⟩) gX6_pass_X6_refuseOutside rfl rfl rfl (by decide +kernel) ⟨Nat.le_of_ble_eq_true rfl, Nat.le_of_ble_eq_true rfl⟩ rfl rfl (Nat.le_of_ble_eq_true rfl) ⟨Nat.le_of_ble_eq_true rfl, Nat.le_of_ble_eq_true rfl⟩ dX6_pass_4 (fun h => ?_) (fun E hE => ?_)
  · skip
    refine Z.aload_n C dX6_pass_7 rfl ?_
    refine Z.getf C 0 7 iw_X6_pass_6 rfl rfl (by decide) (by decide +kernel) rfl dX6_pass_8 ?_
    refine Z.iload_n C dX6_pass_11 rfl ?_
    refine Z.iadd C dX6_pass_12 ?_
    refine Z.sipush C dX6_pass_13 (by decide) ?_
    refine Z.icmple C 29 dX6_pass_16 (by decide) (⟨by omega, by omega⟩) (⟨by omega, by omega⟩) (fun hq => ?_) (fun hq => ?_)
    · skip
      refine Z.aload_n C dX6_pass_29 rfl ?_
      refine Z.dup C dX6_pass_30 rfl ?_
      refine Z.getf C 0 7 iw_X6_pass_6 rfl rfl (by decide) (by decide +kernel) rfl dX6_pass_31 ?_
      refine Z.iload_n C dX6_pass_34 rfl ?_
      refine Z.iadd C dX6_pass_35 ?_
      refine Z.putf C 0 7 iw_X6_pass_6 rfl rfl (by decide) tyX6 tyX6_ok nmX6 (by decide +kernel) rfl (ty := .int) (by decide +kernel) rfl rfl (Nat.le_of_ble_eq_true rfl) dX6_pass_36 wX_s_day ?_
      refine Z.aload_n C dX6_pass_39 rfl ?_
      refine Z.getf C 0 7 iw_X6_pass_6 rfl rfl (by decide) (by decide +kernel) rfl dX6_pass_40 ?_
      exact Z.iretX C hr (Nat.le_of_ble_eq_true rfl) (Nat.le_of_ble_eq_true rfl) dX6_pass_43 (⟨(by unfold tcPass; (repeat' split) <;> omega), rfl, rfl⟩)
    · skip
      exact Z.throwSI C hnx hl0 (cls := "java/lang/IllegalStateException") (text := "today would be above 9000") (ik := 103) (is := 200) (ic := 107) (by decide +kernel) (by decide +kernel) (by decide +kernel) (by decide +kernel) (by decide +kernel) tha107 thg107 thf107 dX6_pass_19 dX6_pass_22 dX6_pass_23 dX6_pass_25 dX6_pass_28 (Nat.le_of_ble_eq_true rfl) (Nat.le_of_ble_eq_true rfl) (Nat.le_of_ble_eq_true rfl) (Nat.le_of_ble_eq_true rfl) (Nat.le_of_ble_eq_true rfl) (Nat.le_of_ble_eq_true rfl) (⟨rfl, Or.inr ⟨rfl, (by unfold tcPass; (repeat' split) <;> omega)⟩⟩)
  · skip
    exact ZX.outI C hnx (Nat.le_of_ble_eq_true rfl) (Nat.le_of_ble_eq_true rfl) (⟨rfl, (Or.inl ⟨hE.1, (by unfold tcPass; (repeat' split) <;> omega)⟩)⟩)
