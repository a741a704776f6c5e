/-! ===== the law's draught, trim, needed, dayOf ===== -/
theorem ldZ_bd {f : Int → Int} {B : Int} (h : ∀ j : Nat, j < 17 → 0 ≤ f j ∧ f j ≤ B) : ∀ k : Nat, k ≤ 17 → 0 ≤ ldZ f k ∧ ldZ f k ≤ 10 * B * k
  | 0, _ => by simp [ldZ]
  | k + 1, hk => by
    have ih := ldZ_bd h k (by omega)
    have h1 := h k (by omega)
    have e : 10 * B * ((k + 1 : Nat) : Int) = 10 * B * k + 10 * B := by rw [show ((k + 1 : Nat) : Int) = (k : Int) + 1 by omega, Int.mul_add, Int.mul_one]
    simp only [ldZ]
    rw [e]
    omega
abbrev rmL_draught : Room := { frames := 1, cells := 0, slots := 0, locals := 25 }
set_option maxHeartbeats 4000000 in
set_option maxRecDepth 100000 in
theorem q_draught (l : Launch) (D : va_G) (cI cJ cL : ClassId) (aq : Nat → Nat) (hf at_ wg dy ti gg : Int → Int) (M : Int → Int → Int) (hM : hOK M) (hR : RH M hf) (L : Int) (hL : ldZ wg 17 = L) (L0 : 0 ≤ L) (L1 : L ≤ 1000000) : CI l yL_draught wsL_draught rmL_draught [.ref (aq 0), .ref (aq 2)] D cI cJ cL (wA aq cI hf at_ wg dy ti gg) (fun r w' => r = drZ (VM M) L ∧ w' = (wA aq cI hf at_ wg dy ti gg)) := by
  refine CI.of (cc := cL_draught) (maxL := 4) (ret := (some .int)) (own := RL) _ 2 (by decide +kernel) rfl rfl rfl (Nat.le_of_ble_eq_true rfl) rfl (fun sz9 p9 e9 s9 m9 a9 b9 h9 c9 C hr => ?_)
  refine Z.iconst C dL_draught_0 ?_
  refine Z.istore_n C dL_draught_1 (by decide) ?_
  refine Z.iconst C dL_draught_2 ?_
  refine Z.istore_n C dL_draught_3 (by decide) ?_
  refine Z.loop (α := Nat) (fun y => (wA aq cI hf at_ wg dy ti gg)) (fun y => [.ref (aq 0), .ref (aq 2), .int (iI (ldZ wg y)), .int (iI y)]) (fun y => y ≤ 17) (fun y => 17 - y) 0 (by decide) rfl rfl (fun k hk ih => ?_)
  refine Z.iload_n C dL_draught_4 rfl ?_
  refine Z.bipush C dL_draught_5 (by decide) ?_
  refine Z.icmpge C 25 dL_draught_7 (by decide) (⟨by omega, by omega⟩) (⟨by omega, by omega⟩) (fun h => ?_) (fun h => ?_)
  · have e17 : k = 17 := by omega
    subst e17
    rw [hL]
    refine Z.iconst C dL_draught_25 ?_
    refine Z.istore_n C dL_draught_26 (by decide) ?_
    refine Z.loop (α := Nat) (fun y => (wA aq cI hf at_ wg dy ti gg)) (fun y => [.ref (aq 0), .ref (aq 2), .int (iI L), .int (iI y)]) (fun y => y ≤ 6 ∧ drZ (VM M) L = drD (VM M) L (6 - y)) (fun y => 6 - y) 0 ⟨by decide, rfl⟩ rfl rfl (fun w hw ih2 => ?_)
    obtain ⟨hw, hd⟩ := hw
    refine Z.iload_n C dL_draught_27 rfl ?_
    refine Z.bipush C dL_draught_28 (by decide) ?_
    refine Z.icmpge C 51 dL_draught_30 (by decide) (⟨by omega, by omega⟩) (⟨by omega, by omega⟩) (fun h2 => ?_) (fun h2 => ?_)
    · have e6 : w = 6 := by omega
      subst e6
      refine Z.iconst C dL_draught_51 ?_
      exact Z.iret C hr dL_draught_52 (⟨hd.symm, rfl⟩)
    · skip
      refine Z.iload_n C dL_draught_33 rfl ?_
      refine Z.aload_n C dL_draught_34 rfl ?_
      refine Z.iconst C dL_draught_35 ?_
      refine Z.cSId C 3 (q_volumeOf l D cI cJ cL aq hf at_ wg dy ti gg M hR w (by omega) 0 (Or.inl rfl)) gL_draught_L_volumeOf rfl rfl rfl (by decide +kernel) ⟨Nat.le_of_ble_eq_true rfl, Nat.le_of_ble_eq_true rfl⟩ rfl rfl (Nat.le_of_ble_eq_true rfl) ⟨Nat.le_of_ble_eq_true rfl, Nat.le_of_ble_eq_true rfl⟩ dL_draught_36 ?_
      rw [va_vol]
      have hv := volZ_bd hM (w := w) (by omega) 8
      have hV : VM M w = volZ M w 8 := by
        unfold VM
        rw [show ((w : Int)).toNat = w by omega]
      have hst := drD_step (V := VM M) (load := L) (s := w) (by omega)
      rw [hV] at hst
      refine Z.iload_n C dL_draught_39 rfl ?_
      refine Z.icmplt C 45 dL_draught_40 (by decide) (⟨by omega, by omega⟩) (⟨by omega, by omega⟩) (fun h3 => ?_) (fun h3 => ?_)
      · rw [if_neg (by omega)] at hst
        refine Z.iinc C dL_draught_45 rfl (by decide) ?_
        refine Z.goto C 27 dL_draught_48 (by decide) ?_
        exact ih2 (w + 1) ⟨by omega, by rw [hd, hst, show 5 - w = 6 - (w + 1) by omega]⟩ (by omega)
      · rw [if_pos (by omega)] at hst
        refine Z.iload_n C dL_draught_43 rfl ?_
        exact Z.iret C hr dL_draught_44 (⟨by rw [hd, hst], rfl⟩)
  · skip
    refine Z.iload_n C dL_draught_10 rfl ?_
    refine Z.bipush C dL_draught_11 (by decide) ?_
    refine Z.aload_n C dL_draught_13 rfl ?_
    refine Z.iload_n C dL_draught_14 rfl ?_
    refine Z.iald C 2 rfl (by omega) (by omega) (by decide) dL_draught_15 ?_
    refine Z.imul C dL_draught_16 ?_
    refine Z.iadd C dL_draught_17 ?_
    refine Z.istore_n C dL_draught_18 (by decide) ?_
    refine Z.iinc C dL_draught_19 rfl (by decide) ?_
    refine Z.goto C 4 dL_draught_22 (by decide) ?_
    exact ih (k + 1) (by omega) (by omega)
abbrev rmL_trim : Room := { frames := 2, cells := 0, slots := 0, locals := 48 }
set_option maxHeartbeats 4000000 in
set_option maxRecDepth 100000 in
theorem q_trim (l : Launch) (D : va_G) (cI cJ cL : ClassId) (aq : Nat → Nat) (hf at_ wg dy ti gg : Int → Int) (M : Int → Int → Int) (hM : hOK M) (hR : RH M hf) (L Mo : Int) (hL : ldZ wg 17 = L) (hMo : msZ wg at_ 17 = Mo) (L0 : 0 ≤ L) (L1 : L ≤ 1000000) (M0 : 0 ≤ Mo) (M1 : Mo ≤ 16 * L) : CI l yL_trim wsL_trim rmL_trim [.ref (aq 0), .ref (aq 1), .ref (aq 2)] D cI cJ cL (wA aq cI hf at_ wg dy ti gg) (fun r w' => r = tmZ M L Mo ∧ w' = (wA aq cI hf at_ wg dy ti gg)) := by
  have hdb := drZ_bd (VM M) L
  refine CI.of (cc := cL_trim) (maxL := 7) (ret := (some .int)) (own := RL) _ 4 (by decide +kernel) rfl rfl rfl (Nat.le_of_ble_eq_true rfl) rfl (fun sz9 p9 e9 s9 m9 a9 b9 h9 c9 C hr => ?_)
  refine Z.aload_n C dL_trim_0 rfl ?_
  refine Z.aload_n C dL_trim_1 rfl ?_
  refine Z.cSId C 2 (q_draught l D cI cJ cL aq hf at_ wg dy ti gg M hM hR L hL L0 L1) gL_trim_L_draught rfl rfl rfl (by decide +kernel) ⟨Nat.le_of_ble_eq_true rfl, Nat.le_of_ble_eq_true rfl⟩ rfl rfl (Nat.le_of_ble_eq_true rfl) ⟨Nat.le_of_ble_eq_true rfl, Nat.le_of_ble_eq_true rfl⟩ dL_trim_2 ?_
  refine Z.istore_n C dL_trim_5 (by decide) ?_
  refine Z.iload_n C dL_trim_6 rfl ?_
  refine Z.iconst C dL_trim_7 ?_
  refine Z.icmpne C 13 dL_trim_8 (by decide) (⟨by omega, by omega⟩) (⟨by omega, by omega⟩) (fun h => ?_) (fun h => ?_)
  · skip
    refine Z.iconst C dL_trim_13 ?_
    refine Z.istore C dL_trim_14 (by decide) ?_
    refine Z.iconst C dL_trim_16 ?_
    refine Z.istore C dL_trim_17 (by decide) ?_
    refine Z.iconst C dL_trim_19 ?_
    refine Z.istore C dL_trim_20 (by decide) ?_
    refine Z.loop (α := Nat) (fun y => (wA aq cI hf at_ wg dy ti gg)) (fun y => [.ref (aq 0), .ref (aq 1), .ref (aq 2), .int (iI (drZ (VM M) L)), .int (iI (sumZ wg y)), .int (iI (m2Z wg at_ y)), .int (iI y)]) (fun y => y ≤ 17) (fun y => 17 - y) 0 (by decide) rfl rfl (fun k hk ih => ?_)
    refine Z.iload C dL_trim_22 rfl ?_
    refine Z.bipush C dL_trim_24 (by decide) ?_
    refine Z.icmpge C 60 dL_trim_26 (by decide) (⟨by omega, by omega⟩) (⟨by omega, by omega⟩) (fun h2 => ?_) (fun h2 => ?_)
    · have e17 : k = 17 := by omega
      subst e17
      have hS : L = 10 * sumZ wg 17 := by rw [← hL, ldZ_sum]
      have hM2 : Mo = 10 * m2Z wg at_ 17 := by rw [← hMo, ms_m2]
      have htm : tmZ M L Mo = (if sumZ wg 17 = 0 then 0 else 100 * m2Z wg at_ 17 / sumZ wg 17) - hfZ (MM M (drZ (VM M) L)) (VM M (drZ (VM M) L)) := by
        unfold tmZ
        rw [if_neg h]
        congr 1
        rw [hM2]
        conv => lhs; arg 2; rw [hS]
        exact hf_m2 (by omega)
      generalize sumZ wg 17 = S at hS htm
      generalize m2Z wg at_ 17 = T at hM2 htm
      generalize drZ (VM M) L = d at h hdb htm
      obtain ⟨dn, rfl⟩ : ∃ dn : Nat, d = dn := ⟨d.toNat, by omega⟩
      have hvm := VM_bd hM (w := (dn : Int)) (by omega) (by omega)
      have hmm := MM_bd hM (w := (dn : Int)) (by omega) (by omega)
      have hV : VM M dn = volZ M dn 8 := by
        unfold VM
        rw [show ((dn : Int)).toNat = dn by omega]
      have hMd : MM M dn = momZ M dn 8 := by
        unfold MM
        rw [show ((dn : Int)).toNat = dn by omega]
      refine Z.iload_n C dL_trim_60 rfl ?_
      refine Z.aload_n C dL_trim_61 rfl ?_
      refine Z.iconst C dL_trim_62 ?_
      refine Z.cSId C 3 (q_volumeOf l D cI cJ cL aq hf at_ wg dy ti gg M hR dn (by omega) 0 (Or.inl rfl)) gL_trim_L_volumeOf rfl rfl rfl (by decide +kernel) ⟨Nat.le_of_ble_eq_true rfl, Nat.le_of_ble_eq_true rfl⟩ rfl rfl (Nat.le_of_ble_eq_true rfl) ⟨Nat.le_of_ble_eq_true rfl, Nat.le_of_ble_eq_true rfl⟩ dL_trim_63 ?_
      rw [va_vol, ← hV]
      refine Z.istore C dL_trim_66 (by decide) ?_
      refine Z.iload C dL_trim_68 rfl ?_
      refine Z.cut (α := Int) 85 (fun _ => (wA aq cI hf at_ wg dy ti gg)) (fun _ => [.ref (aq 0), .ref (aq 1), .ref (aq 2), .int (iI dn), .int (iI S), .int (iI T), .int (iI (VM M dn))]) (fun k => [.int (iI k)]) (fun k => k = if S = 0 then 0 else 100 * T / S) (fun k hk => ?_) (fun join => ?_)
      · subst hk
        rw [htm]
        refine Z.iload C dL_trim_85 rfl ?_
        refine Z.cut (α := Int) 106 (fun _ => (wA aq cI hf at_ wg dy ti gg)) (fun _ => [.ref (aq 0), .ref (aq 1), .ref (aq 2), .int (iI dn), .int (iI S), .int (iI T), .int (iI (VM M dn))]) (fun k => [.int (iI k), .int (iI (if S = 0 then 0 else 100 * T / S))]) (fun k => k = hfZ (MM M dn) (VM M dn)) (fun k hk => ?_) (fun join => ?_)
        · subst hk
          refine Z.isub C dL_trim_106 ?_
          exact Z.iret C hr dL_trim_107 (⟨rfl, rfl⟩)
        · skip
          refine Z.ifne C 94 dL_trim_87 (by decide) (⟨by omega, by omega⟩) (fun h4 => ?_) (fun h4 => ?_)
          · skip
            refine Z.bipush C dL_trim_94 (by decide) ?_
            refine Z.iload_n C dL_trim_96 rfl ?_
            refine Z.aload_n C dL_trim_97 rfl ?_
            refine Z.iconst C dL_trim_98 ?_
            refine Z.cSId C 3 (q_volumeOf l D cI cJ cL aq hf at_ wg dy ti gg M hR dn (by omega) 1 (Or.inr rfl)) gL_trim_L_volumeOf rfl rfl rfl (by decide +kernel) ⟨Nat.le_of_ble_eq_true rfl, Nat.le_of_ble_eq_true rfl⟩ rfl rfl (Nat.le_of_ble_eq_true rfl) ⟨Nat.le_of_ble_eq_true rfl, Nat.le_of_ble_eq_true rfl⟩ dL_trim_99 ?_
            rw [va_mom, ← hMd]
            refine Z.imul C dL_trim_102 ?_
            refine Z.iload C dL_trim_103 rfl ?_
            refine Z.idiv C dL_trim_105 (by omega) (by omega) (by omega) (by omega) ?_
            exact join _ (by unfold hfZ; rw [if_neg h4])
          · skip
            refine Z.iconst C dL_trim_90 ?_
            refine Z.goto C 106 dL_trim_91 (by decide) ?_
            exact join 0 (by unfold hfZ; rw [if_pos h4])
      · skip
        refine Z.ifne C 77 dL_trim_70 (by decide) (⟨by omega, by omega⟩) (fun h3 => ?_) (fun h3 => ?_)
        · skip
          refine Z.bipush C dL_trim_77 (by decide) ?_
          refine Z.iload C dL_trim_79 rfl ?_
          refine Z.imul C dL_trim_81 ?_
          refine Z.iload C dL_trim_82 rfl ?_
          refine Z.idiv C dL_trim_84 (by omega) (by omega) (by omega) (by omega) ?_
          exact join _ (by rw [if_neg h3])
        · skip
          refine Z.iconst C dL_trim_73 ?_
          refine Z.goto C 85 dL_trim_74 (by decide) ?_
          exact join 0 (by rw [if_pos h3])
    · skip
      refine Z.iload C dL_trim_29 rfl ?_
      refine Z.aload_n C dL_trim_31 rfl ?_
      refine Z.iload C dL_trim_32 rfl ?_
      refine Z.iald C 2 rfl (by omega) (by omega) (by decide) dL_trim_34 ?_
      refine Z.iadd C dL_trim_35 ?_
      refine Z.istore C dL_trim_36 (by decide) ?_
      refine Z.iload C dL_trim_38 rfl ?_
      refine Z.iconst C dL_trim_40 ?_
      refine Z.aload_n C dL_trim_41 rfl ?_
      refine Z.iload C dL_trim_42 rfl ?_
      refine Z.iald C 2 rfl (by omega) (by omega) (by decide) dL_trim_44 ?_
      refine Z.imul C dL_trim_45 ?_
      refine Z.aload_n C dL_trim_46 rfl ?_
      refine Z.iload C dL_trim_47 rfl ?_
      refine Z.iald C 1 rfl (by omega) (by omega) (by decide) dL_trim_49 ?_
      refine Z.imul C dL_trim_50 ?_
      refine Z.iadd C dL_trim_51 ?_
      refine Z.istore C dL_trim_52 (by decide) ?_
      refine Z.iinc C dL_trim_54 rfl (by decide) ?_
      refine Z.goto C 22 dL_trim_57 (by decide) ?_
      exact ih (k + 1) (by omega) (by omega)
  · skip
    refine Z.iconst C dL_trim_11 ?_
    exact Z.iret C hr dL_trim_12 (⟨by unfold tmZ; rw [if_pos h], rfl⟩)
abbrev rmL_needed : Room := { frames := 3, cells := 0, slots := 0, locals := 74 }
set_option maxHeartbeats 4000000 in
set_option maxRecDepth 100000 in
theorem q_needed (l : Launch) (D : va_G) (cI cJ cL : ClassId) (aq : Nat → Nat) (hf at_ wg dy ti gg : Int → Int) (M : Int → Int → Int) (hM : hOK M) (hR : RH M hf) (L Mo : Int) (hL : ldZ wg 17 = L) (hMo : msZ wg at_ 17 = Mo) (L0 : 0 ≤ L) (L1 : L ≤ 1000000) (M0 : 0 ≤ Mo) (M1 : Mo ≤ 16 * L) : CI l yL_needed wsL_needed rmL_needed [.ref (aq 0), .ref (aq 1), .ref (aq 2), .ref (aq 5)] D cI cJ cL (wA aq cI hf at_ wg dy ti gg) (fun r w' => r = ndZ M L Mo (gg 2) ∧ w' = (wA aq cI hf at_ wg dy ti gg)) := by
  have hdb := drZ_bd (VM M) L
  have ht := tmZ_bd hM M0 L0 M1
  have ha := absZ_bd (a := tmZ M L Mo) (k := 1600) (by omega) (by omega)
  refine CI.of (cc := cL_needed) (maxL := 5) (ret := (some .int)) (own := RL) _ 1 (by decide +kernel) rfl rfl rfl (Nat.le_of_ble_eq_true rfl) rfl (fun sz9 p9 e9 s9 m9 a9 b9 h9 c9 C hr => ?_)
  refine Z.aload_n C dL_needed_0 rfl ?_
  refine Z.aload_n C dL_needed_1 rfl ?_
  refine Z.cSId C 2 (q_draught l D cI cJ cL aq hf at_ wg dy ti gg M hM hR L hL L0 L1) gL_needed_L_draught rfl rfl rfl (by decide +kernel) ⟨Nat.le_of_ble_eq_true rfl, Nat.le_of_ble_eq_true rfl⟩ rfl rfl (Nat.le_of_ble_eq_true rfl) ⟨Nat.le_of_ble_eq_true rfl, Nat.le_of_ble_eq_true rfl⟩ dL_needed_2 ?_
  refine Z.istore C dL_needed_5 (by decide) ?_
  refine Z.iload C dL_needed_7 rfl ?_
  refine Z.iconst C dL_needed_9 ?_
  refine Z.icmpne C 17 dL_needed_10 (by decide) (⟨by omega, by omega⟩) (⟨by omega, by omega⟩) (fun h => ?_) (fun h => ?_)
  · skip
    refine Z.bipush C dL_needed_17 (by decide) ?_
    refine Z.iload C dL_needed_19 rfl ?_
    refine Z.imul C dL_needed_21 ?_
    refine Z.aload_n C dL_needed_22 rfl ?_
    refine Z.iconst C dL_needed_23 ?_
    refine Z.iald C 5 rfl (by omega) (by omega) (by decide) dL_needed_24 ?_
    refine Z.iadd C dL_needed_25 ?_
    refine Z.aload_n C dL_needed_26 rfl ?_
    refine Z.aload_n C dL_needed_27 rfl ?_
    refine Z.aload_n C dL_needed_28 rfl ?_
    refine Z.cSId C 3 (q_trim l D cI cJ cL aq hf at_ wg dy ti gg M hM hR L Mo hL hMo L0 L1 M0 M1) gL_needed_L_trim rfl rfl rfl (by decide +kernel) ⟨Nat.le_of_ble_eq_true rfl, Nat.le_of_ble_eq_true rfl⟩ rfl rfl (Nat.le_of_ble_eq_true rfl) ⟨Nat.le_of_ble_eq_true rfl, Nat.le_of_ble_eq_true rfl⟩ dL_needed_29 ?_
    refine Z.cSIp C 1 (q_size l D cI cJ cL (tmZ M L Mo) ⟨by omega, by omega⟩) gL_needed_L_size rfl rfl rfl (by decide +kernel) ⟨Nat.le_of_ble_eq_true rfl, Nat.le_of_ble_eq_true rfl⟩ rfl rfl (Nat.le_of_ble_eq_true rfl) ⟨Nat.le_of_ble_eq_true rfl, Nat.le_of_ble_eq_true rfl⟩ dL_needed_32 ?_
    refine Z.bipush C dL_needed_35 (by decide) ?_
    refine Z.idiv C dL_needed_37 (by omega) (by omega) (by omega) (by omega) ?_
    refine Z.iadd C dL_needed_38 ?_
    exact Z.iret C hr dL_needed_39 (⟨by unfold ndZ; rw [if_neg h], rfl⟩)
  · skip
    refine Z.iconst C dL_needed_13 ?_
    refine Z.goto C 39 dL_needed_14 (by decide) ?_
    exact Z.iret C hr dL_needed_39 (⟨by unfold ndZ; rw [if_pos h], rfl⟩)
abbrev rmL_dayOf : Room := { frames := 4, cells := 0, slots := 0, locals := 98 }
set_option maxHeartbeats 4000000 in
set_option maxRecDepth 100000 in
theorem q_dayOf (l : Launch) (D : va_G) (cI cJ cL : ClassId) (aq : Nat → Nat) (hf at_ wg dy ti gg : Int → Int) (M : Int → Int → Int) (hM : hOK M) (hR : RH M hf) (L Mo : Int) (hL : ldZ wg 17 = L) (hMo : msZ wg at_ 17 = Mo) (L0 : 0 ≤ L) (L1 : L ≤ 1000000) (M0 : 0 ≤ Mo) (M1 : Mo ≤ 16 * L) (t0 : 0 ≤ gg 5) (t1 : gg 5 ≤ 40) (hu : uqZ dy (gg 5)) (hd : ∀ j : Int, 0 ≤ dy j ∧ dy j ≤ 9999) (hti : ∀ j : Int, 0 ≤ ti j ∧ ti j ≤ 99) (s0 : 0 ≤ gg 2) (s1 : gg 2 ≤ 50) (d0 : 0 ≤ gg 3) (d1 : gg 3 ≤ 9000) (ha : gg 4 = 0 ∨ gg 4 = 1) : CI l yL_dayOf wsL_dayOf rmL_dayOf [.ref (aq 0), .ref (aq 1), .ref (aq 2), .ref (aq 3), .ref (aq 4), .ref (aq 5)] D cI cJ cL (wA aq cI hf at_ wg dy ti gg) (fun r w' => r = (if ndZ M L Mo (gg 2) = -1 ∨ gg 4 = 1 then -1 else daD (fun d => tdZ dy ti d (gg 5).toNat) (ndZ M L Mo (gg 2)) (gg 3) 100) ∧ w' = (wA aq cI hf at_ wg dy ti gg)) := by
  have hnb := ndZ_bd hM (load := L) (mo := Mo) (sill := gg 2) M0 L0 M1 s0 s1
  have hgi : inr (gg 4) := by rcases ha with q | q <;> rw [q] <;> exact ⟨by decide, by decide⟩
  refine CI.of (cc := cL_dayOf) (maxL := 8) (ret := (some .int)) (own := RL) _ 2 (by decide +kernel) rfl rfl rfl (Nat.le_of_ble_eq_true rfl) rfl (fun sz9 p9 e9 s9 m9 a9 b9 h9 c9 C hr => ?_)
  refine Z.aload_n C dL_dayOf_0 rfl ?_
  refine Z.aload_n C dL_dayOf_1 rfl ?_
  refine Z.aload_n C dL_dayOf_2 rfl ?_
  refine Z.aload C dL_dayOf_3 rfl ?_
  refine Z.cSId C 4 (q_needed l D cI cJ cL aq hf at_ wg dy ti gg M hM hR L Mo hL hMo L0 L1 M0 M1) gL_dayOf_L_needed rfl rfl rfl (by decide +kernel) ⟨Nat.le_of_ble_eq_true rfl, Nat.le_of_ble_eq_true rfl⟩ rfl rfl (Nat.le_of_ble_eq_true rfl) ⟨Nat.le_of_ble_eq_true rfl, Nat.le_of_ble_eq_true rfl⟩ dL_dayOf_5 ?_
  refine Z.istore C dL_dayOf_8 (by decide) ?_
  refine Z.aload C dL_dayOf_10 rfl ?_
  refine Z.iconst C dL_dayOf_12 ?_
  refine Z.iald C 5 rfl (by omega) (by omega) (by decide) dL_dayOf_13 ?_
  refine Z.istore C dL_dayOf_14 (by decide) ?_
  generalize ndZ M L Mo (gg 2) = N at hnb
  rw [show gg 3 = gg 3 + ((0 : Nat) : Int) by omega]
  refine Z.loop (α := Nat) (fun y => (wA aq cI hf at_ wg dy ti gg)) (fun y => [.ref (aq 0), .ref (aq 1), .ref (aq 2), .ref (aq 3), .ref (aq 4), .ref (aq 5), .int (iI N), .int (iI (gg 3 + (y : Int)))]) (fun y => y ≤ 100 ∧ (¬ (N = -1 ∨ gg 4 = 1) → daD (fun d => tdZ dy ti d (gg 5).toNat) N (gg 3) 100 = daD (fun d => tdZ dy ti d (gg 5).toNat) N (gg 3) (100 - y))) (fun y => 100 - y) 0 ⟨by decide, fun _ => rfl⟩ rfl rfl (fun a hk ih => ?_)
  obtain ⟨hk, hda⟩ := hk
  refine Z.iload C dL_dayOf_16 rfl ?_
  refine Z.aload C dL_dayOf_18 rfl ?_
  refine Z.iconst C dL_dayOf_20 ?_
  refine Z.iald C 5 rfl (by omega) (by omega) (by decide) dL_dayOf_21 ?_
  refine Z.bipush C dL_dayOf_22 (by decide) ?_
  refine Z.iadd C dL_dayOf_24 ?_
  refine Z.icmpge C 65 dL_dayOf_25 (by decide) (⟨by omega, by omega⟩) (⟨by omega, by omega⟩) (fun h => ?_) (fun h => ?_)
  · have e100 : a = 100 := by omega
    subst e100
    refine Z.iconst C dL_dayOf_65 ?_
    have hres : (-1 : Int) = (if N = -1 ∨ gg 4 = 1 then -1 else daD (fun d => tdZ dy ti d (gg 5).toNat) N (gg 3 + ((0 : Nat) : Int)) 100) := by
      by_cases q : N = -1 ∨ gg 4 = 1
      · rw [if_pos q]
      · rw [if_neg q, show gg 3 + ((0 : Nat) : Int) = gg 3 by omega, hda q]
        rfl
    exact Z.iret C hr dL_dayOf_66 (⟨hres, rfl⟩)
  · refine Z.cut (α := Unit) 59 (fun _ => (wA aq cI hf at_ wg dy ti gg)) (fun _ => [.ref (aq 0), .ref (aq 1), .ref (aq 2), .ref (aq 3), .ref (aq 4), .ref (aq 5), .int (iI N), .int (iI (gg 3 + (a : Int)))]) (fun _ => []) (fun _ => N = -1 ∨ gg 4 = 1 ∨ tdZ dy ti (gg 3 + (a : Int)) (gg 5).toNat < N) (fun _ hj => ?_) (fun join => ?_)
    · skip
      refine Z.iinc C dL_dayOf_59 rfl (by decide) ?_
      refine Z.goto C 16 dL_dayOf_62 (by decide) ?_
      rw [show gg 3 + (a : Int) + 1 = gg 3 + ((a + 1 : Nat) : Int) by omega]
      refine ih (a + 1) ⟨by omega, fun q => ?_⟩ (by omega)
      have hs := daD_step (T := fun d => tdZ dy ti d (gg 5).toNat) (need := N) (tod := gg 3) (a := a) (by omega)
      rw [hda q, hs, if_neg (by
        rcases hj with z | z | z
        · exact absurd (Or.inl z) q
        · exact absurd (Or.inr z) q
        · exact Int.not_le.mpr z), show 99 - a = 100 - (a + 1) by omega]
    · skip
      refine Z.iload C dL_dayOf_28 rfl ?_
      refine Z.iconst C dL_dayOf_30 ?_
      refine Z.icmpeq C 59 dL_dayOf_31 (by decide) (⟨by omega, by omega⟩) (⟨by omega, by omega⟩) (fun h2 => ?_) (fun h2 => ?_)
      · exact join () (Or.inl h2)
      · skip
        refine Z.aload C dL_dayOf_34 rfl ?_
        refine Z.iconst C dL_dayOf_36 ?_
        refine Z.iald C 5 rfl (by omega) (by omega) (by decide) dL_dayOf_37 ?_
        refine Z.ifne C 59 dL_dayOf_38 (by decide) (hgi) (fun h3 => ?_) (fun h3 => ?_)
        · exact join () (Or.inr (Or.inl (by rcases ha with q | q; exact absurd q h3; exact q)))
        · have hb := tdZ_bd (td := dy) (th := ti) (x := gg 3 + (a : Int)) hti (gg 5).toNat
          refine Z.iload C dL_dayOf_41 rfl ?_
          refine Z.aload_n C dL_dayOf_43 rfl ?_
          refine Z.aload C dL_dayOf_44 rfl ?_
          refine Z.aload C dL_dayOf_46 rfl ?_
          refine Z.cSId C 4 (q_tideOn l D cI cJ cL aq hf at_ wg dy ti gg (gg 3 + (a : Int)) (by omega) (by omega) t0 t1 hu hd) gL_dayOf_L_tideOn rfl rfl rfl (by decide +kernel) ⟨Nat.le_of_ble_eq_true rfl, Nat.le_of_ble_eq_true rfl⟩ rfl rfl (Nat.le_of_ble_eq_true rfl) ⟨Nat.le_of_ble_eq_true rfl, Nat.le_of_ble_eq_true rfl⟩ dL_dayOf_48 ?_
          refine Z.iload C dL_dayOf_51 rfl ?_
          refine Z.icmplt C 59 dL_dayOf_53 (by decide) (⟨by omega, by omega⟩) (⟨by omega, by omega⟩) (fun h4 => ?_) (fun h4 => ?_)
          · exact join () (Or.inr (Or.inr h4))
          · have q : ¬ (N = -1 ∨ gg 4 = 1) := fun z => by omega
            have hs := daD_step (T := fun d => tdZ dy ti d (gg 5).toNat) (need := N) (tod := gg 3) (a := a) (by omega)
            have hres : gg 3 + (a : Int) = (if N = -1 ∨ gg 4 = 1 then -1 else daD (fun d => tdZ dy ti d (gg 5).toNat) N (gg 3 + ((0 : Nat) : Int)) 100) := by
              rw [if_neg q, show gg 3 + ((0 : Nat) : Int) = gg 3 by omega, hda q, hs, if_pos h4]
            refine Z.iload C dL_dayOf_56 rfl ?_
            exact Z.iret C hr dL_dayOf_58 (⟨hres, rfl⟩)
