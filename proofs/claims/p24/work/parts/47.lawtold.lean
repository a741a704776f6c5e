/-! ===== the law's isTold ===== -/
abbrev rmL_isTold : Room := { frames := 9, cells := 10, slots := 118, locals := 156 }
set_option maxHeartbeats 4000000 in
set_option maxRecDepth 100000 in
theorem q_isTold (l : Launch) (D : va_G) (cI cJ cL : ClassId) (aq : Nat → Nat) (hf at_ wg dy ti gg : Int → Int) (ad : Nat → Nat) (M B : Int → Int → Int) (lo ch wt sn vo mo le ln od fe se td th : Int → Int) (cnt bw bs pl tk tc sill day lau : Int) (hl0 : l.stackTraces = false) (rr : RelA M B hf wt sn wg at_ td th dy ti gg cnt bw bs pl tc sill day lau) (turn : Int) (u0 : 0 ≤ turn) (u1 : turn < 110) : XI l yL_isTold wsL_isTold rmL_isTold [.ref (ad 0), .int (iI turn), .ref (aq 0), .ref (aq 1), .ref (aq 2), .ref (aq 3), .ref (aq 4), .ref (aq 5)] D cI cJ cL ((wA aq cI hf at_ wg dy ti gg) ++ (wX ad cI cJ M B lo ch wt sn vo mo le ln od fe se td th cnt bw bs pl tk tc sill day lau)) 10 118 (fun r w' => r = 1 ∧ ∃ (vo' mo' le' ln' od' fe' se' : Int → Int) (tk' : Int), w' = (wA aq cI hf at_ wg dy ti gg) ++ (wX ad cI cJ M B lo ch wt sn vo' mo' le' ln' od' fe' se' td th cnt bw bs pl tk' tc sill day lau)) (fun _ _ => False) := by
  obtain ⟨L, Mo, hL, hMo, hLx, hMox, L0, L1, M0, M1⟩ := rr.lds
  have huq := rr.uq
  have hM := rr.1.hM
  have hR := rr.1.rh
  have hc0 := rr.1.c0
  have hc1 := rr.1.c1
  have hp := rr.2
  have hp0 := rr.1.p0
  have hp1 := rr.1.p1
  have el := rr.1.el
  have es := rr.1.es
  have et := rr.1.et
  have ed := rr.1.ed
  have ei := rr.1.ei
  have t0 := rr.1.t0
  have t1 := rr.1.t1
  have l0 := rr.1.l0
  have l1 := rr.1.l1
  have d0 := rr.1.d0
  have d1 := rr.1.d1
  have i0 := rr.1.i0
  obtain ⟨wn, hwn⟩ : ∃ wn : Nat, turn % 6 = wn := ⟨(turn % 6).toNat, by omega⟩
  have hw5 : wn ≤ 5 := by omega
  refine XI.of (cc := cL_isTold) (maxL := 12) (ret := (some .boolean)) (own := RL) _ 4 (by decide +kernel) rfl rfl rfl (Nat.le_of_ble_eq_true rfl) rfl (fun sz9 p9 e9 s9 m9 a9 b9 h9 c9 C hr hnx => ?_)
  refine Z.iload_n C dL_isTold_0 rfl ?_
  refine Z.bipush C dL_isTold_1 (by decide) ?_
  refine Z.irem C dL_isTold_3 (by omega) (by omega) (by omega) (by omega) ?_
  rw [hwn]
  refine Z.istore C dL_isTold_4 (by decide) ?_
  refine Z.iload_n C dL_isTold_6 rfl ?_
  refine Z.bipush C dL_isTold_7 (by decide) ?_
  refine Z.irem C dL_isTold_9 (by omega) (by omega) (by omega) (by omega) ?_
  generalize hsn : turn % 9 = sn9
  have hs0 : 0 ≤ sn9 ∧ sn9 ≤ 8 := by omega
  refine Z.istore C dL_isTold_10 (by decide) ?_
  refine Z.iconst C dL_isTold_12 ?_
  refine Z.istore C dL_isTold_13 (by decide) ?_
  refine Z.iconst C dL_isTold_15 ?_
  refine Z.istore C dL_isTold_16 (by decide) ?_
  refine Z.loop (α := Nat) (fun y => (wA aq cI hf at_ wg dy ti gg) ++ (wX ad cI cJ M B lo ch wt sn vo mo le ln od fe se td th cnt bw bs pl tk tc sill day lau)) (fun y => [.ref (ad 0), .int (iI turn), .ref (aq 0), .ref (aq 1), .ref (aq 2), .ref (aq 3), .ref (aq 4), .ref (aq 5), .int (iI (wn : Int)), .int (iI sn9), .int (iI (areaZ M sn9 y)), .int (iI y)]) (fun y => y ≤ wn) (fun y => wn - y) 0 (Nat.zero_le _) rfl rfl (fun k hk ih => ?_)
  refine Z.iload C dL_isTold_18 rfl ?_
  refine Z.iload C dL_isTold_20 rfl ?_
  refine Z.icmpge C 60 dL_isTold_22 (by decide) (⟨by omega, by omega⟩) (⟨by omega, by omega⟩) (fun h => ?_) (fun h => ?_)
  · have e0 : k = wn := by omega
    subst e0
    have hh : hf (9 * (k : Int) + sn9) = M k sn9 := RH_at hR rfl (by omega) (by omega) hs0.1 hs0.2
    have kt : ((k : Int)).toNat = k := by omega
    refine Z.aload_n C dL_isTold_60 rfl ?_
    refine Z.iload C dL_isTold_61 rfl ?_
    refine Z.iload C dL_isTold_63 rfl ?_
    refine Z.xSXIf (wr := (wA aq cI hf at_ wg dy ti gg)) C 3 (h_half l D cI cJ cL ad M B lo ch wt sn vo mo le ln od fe se td th cnt bw bs pl tk tc sill day lau hl0 sn9 k ⟨by omega, by omega⟩ ⟨by omega, by omega⟩) gL_isTold_L_half rfl rfl rfl (by decide +kernel) ⟨Nat.le_of_ble_eq_true rfl, Nat.le_of_ble_eq_true rfl⟩ rfl rfl (Nat.le_of_ble_eq_true rfl) ⟨Nat.le_of_ble_eq_true rfl, Nat.le_of_ble_eq_true rfl⟩ dL_isTold_65 (fun r w9 h1 => ?_) (fun _ _ z => z.elim)
    obtain ⟨-, rfl, rfl⟩ := hq_det h1 (fun E z => by have := z.2.2; rw [tcSW_0 (by omega) (by omega) (by omega) (by omega)] at this; omega)
    refine Z.aload_n C dL_isTold_68 rfl ?_
    refine Z.bipush C dL_isTold_69 (by decide) ?_
    refine Z.iload C dL_isTold_71 rfl ?_
    refine Z.imul C dL_isTold_73 ?_
    refine Z.iload C dL_isTold_74 rfl ?_
    refine Z.iadd C dL_isTold_76 ?_
    refine Z.iald C 0 rfl (by omega) (by omega) (by decide) dL_isTold_77 ?_
    rw [hh]
    have hbd := hM k sn9
    refine Z.icmpne C 158 dL_isTold_78 (by decide) (⟨by omega, by omega⟩) (⟨by omega, by omega⟩) (fun h2 => ?_) (fun h2 => ?_)
    · exact absurd rfl h2
    · skip
      refine Z.aload_n C dL_isTold_81 rfl ?_
      refine Z.iload C dL_isTold_82 rfl ?_
      refine Z.xSXIf (wr := (wA aq cI hf at_ wg dy ti gg)) C 2 (h_bend l D cI cJ cL ad M B lo ch wt sn vo mo le ln od fe se td th cnt bw bs pl tk tc sill day lau hl0 k ⟨by omega, by omega⟩) gL_isTold_L_bend rfl rfl rfl (by decide +kernel) ⟨Nat.le_of_ble_eq_true rfl, Nat.le_of_ble_eq_true rfl⟩ rfl rfl (Nat.le_of_ble_eq_true rfl) ⟨Nat.le_of_ble_eq_true rfl, Nat.le_of_ble_eq_true rfl⟩ dL_isTold_84 (fun r w9 h1 => ?_) (fun _ _ z => z.elim)
      obtain ⟨-, rfl, rfl⟩ := hq_det h1 (fun E z => by have := z.2.2; rw [tcW_0 (by omega) (by omega)] at this; omega)
      refine Z.iload C dL_isTold_87 rfl ?_
      refine Z.aload_n C dL_isTold_89 rfl ?_
      refine Z.swap ?_
      refine Z.cSIf (wr := (wX ad cI cJ M B lo ch wt sn vo mo le ln od fe se td th cnt bw bs pl tk tc sill day lau)) C 2 (q_bendOf l D cI cJ cL aq hf at_ wg dy ti gg M hR k (by omega) (by omega)) gL_isTold_L_bendOf rfl rfl rfl (by decide +kernel) ⟨Nat.le_of_ble_eq_true rfl, Nat.le_of_ble_eq_true rfl⟩ rfl rfl (Nat.le_of_ble_eq_true rfl) ⟨Nat.le_of_ble_eq_true rfl, Nat.le_of_ble_eq_true rfl⟩ dL_isTold_90 (fun r9 w9 h9 => ?_)
      obtain ⟨rfl, rfl⟩ := h9
      refine Z.swap ?_
      have hb7 := bendZ_bd7 hM k
      refine Z.icmpne C 158 dL_isTold_93 (by decide) (⟨by omega, by omega⟩) (⟨by omega, by omega⟩) (fun h3 => ?_) (fun h3 => ?_)
      · exact absurd rfl h3
      · have har := areaZ_bd hM sn9 k
        refine Z.aload_n C dL_isTold_96 rfl ?_
        refine Z.iload C dL_isTold_97 rfl ?_
        refine Z.iload C dL_isTold_99 rfl ?_
        refine Z.xSXIf (wr := (wA aq cI hf at_ wg dy ti gg)) C 3 (h_area l D cI cJ cL ad M B lo ch wt sn vo mo le ln od fe se td th cnt bw bs pl tk tc sill day lau hl0 sn9 k ⟨by omega, by omega⟩ ⟨by omega, by omega⟩) gL_isTold_L_area rfl rfl rfl (by decide +kernel) ⟨Nat.le_of_ble_eq_true rfl, Nat.le_of_ble_eq_true rfl⟩ rfl rfl (Nat.le_of_ble_eq_true rfl) ⟨Nat.le_of_ble_eq_true rfl, Nat.le_of_ble_eq_true rfl⟩ dL_isTold_101 (fun r w9 h1 => ?_) (fun _ _ z => z.elim)
        obtain ⟨-, rfl, rfl⟩ := hq_det h1 (fun E z => by have := z.2.2; rw [tcSW_0 (by omega) (by omega) (by omega) (by omega)] at this; omega)
        rw [kt]
        refine Z.iload C dL_isTold_104 rfl ?_
        refine Z.icmpne C 158 dL_isTold_106 (by decide) (⟨by omega, by omega⟩) (⟨by omega, by omega⟩) (fun h4 => ?_) (fun h4 => ?_)
        · exact absurd rfl h4
        · have hv := volZ_bd hM (w := k) (by omega) 8
          refine Z.aload_n C dL_isTold_109 rfl ?_
          refine Z.iload C dL_isTold_110 rfl ?_
          refine Z.xSXIf (wr := (wA aq cI hf at_ wg dy ti gg)) C 2 (h_volume l D cI cJ cL ad M B lo ch wt sn vo mo le ln od fe se td th cnt bw bs pl tk tc sill day lau hl0 k ⟨by omega, by omega⟩) gL_isTold_L_volume rfl rfl rfl (by decide +kernel) ⟨Nat.le_of_ble_eq_true rfl, Nat.le_of_ble_eq_true rfl⟩ rfl rfl (Nat.le_of_ble_eq_true rfl) ⟨Nat.le_of_ble_eq_true rfl, Nat.le_of_ble_eq_true rfl⟩ dL_isTold_112 (fun r w9 h1 => ?_) (fun _ _ z => z.elim)
          obtain ⟨-, rfl, rfl⟩ := hq_det h1 (fun E z => by have := z.2.2; rw [tcW_0 (by omega) (by omega)] at this; omega)
          rw [kt]
          refine Z.iload C dL_isTold_115 rfl ?_
          refine Z.aload_n C dL_isTold_117 rfl ?_
          refine Z.iconst C dL_isTold_118 ?_
          refine Z.swap ?_
          refine Z.cSIf (wr := (wX ad cI cJ M B lo ch wt sn vo mo le ln od fe se td th cnt bw bs pl tk tc sill day lau)) C 3 (q_volumeOf l D cI cJ cL aq hf at_ wg dy ti gg M hR k (by omega) 0 (Or.inl rfl)) gL_isTold_L_volumeOf rfl rfl rfl (by decide +kernel) ⟨Nat.le_of_ble_eq_true rfl, Nat.le_of_ble_eq_true rfl⟩ rfl rfl (Nat.le_of_ble_eq_true rfl) ⟨Nat.le_of_ble_eq_true rfl, Nat.le_of_ble_eq_true rfl⟩ dL_isTold_119 (fun r9 w9 h9 => ?_)
          obtain ⟨rfl, rfl⟩ := h9
          refine Z.swap ?_
          rw [va_vol]
          refine Z.icmpne C 158 dL_isTold_122 (by decide) (⟨by omega, by omega⟩) (⟨by omega, by omega⟩) (fun h5 => ?_) (fun h5 => ?_)
          · exact absurd rfl h5
          · skip
            refine Z.aload_n C dL_isTold_125 rfl ?_
            refine Z.iload C dL_isTold_126 rfl ?_
            refine Z.xSXIf (wr := (wA aq cI hf at_ wg dy ti gg)) C 2 (h_volumeAnew l D cI cJ cL ad M B lo ch wt sn vo mo le ln od fe se td th cnt bw bs pl tk tc sill day lau hl0 k ⟨by omega, by omega⟩) gL_isTold_L_volumeAnew rfl rfl rfl (by decide +kernel) ⟨Nat.le_of_ble_eq_true rfl, Nat.le_of_ble_eq_true rfl⟩ rfl rfl (Nat.le_of_ble_eq_true rfl) ⟨Nat.le_of_ble_eq_true rfl, Nat.le_of_ble_eq_true rfl⟩ dL_isTold_128 (fun r w9 h1 => ?_) (fun _ _ z => z.elim)
            obtain ⟨-, rfl, rfl⟩ := hq_det h1 (fun E z => by have := z.2.2; rw [tcW_0 (by omega) (by omega)] at this; omega)
            rw [kt, slc_vol]
            refine Z.iload C dL_isTold_131 rfl ?_
            refine Z.aload_n C dL_isTold_133 rfl ?_
            refine Z.iconst C dL_isTold_134 ?_
            refine Z.swap ?_
            refine Z.cSIf (wr := (wX ad cI cJ M B lo ch wt sn vo mo le ln od fe se td th cnt bw bs pl tk tc sill day lau)) C 3 (q_volumeOf l D cI cJ cL aq hf at_ wg dy ti gg M hR k (by omega) 0 (Or.inl rfl)) gL_isTold_L_volumeOf rfl rfl rfl (by decide +kernel) ⟨Nat.le_of_ble_eq_true rfl, Nat.le_of_ble_eq_true rfl⟩ rfl rfl (Nat.le_of_ble_eq_true rfl) ⟨Nat.le_of_ble_eq_true rfl, Nat.le_of_ble_eq_true rfl⟩ dL_isTold_135 (fun r9 w9 h9 => ?_)
            obtain ⟨rfl, rfl⟩ := h9
            refine Z.swap ?_
            rw [va_vol]
            refine Z.icmpne C 158 dL_isTold_138 (by decide) (⟨by omega, by omega⟩) (⟨by omega, by omega⟩) (fun h6 => ?_) (fun h6 => ?_)
            · exact absurd rfl h6
            · have hst := strZ_bd hM (turn % 5) 8
              have hLs : LsM M (turn % 5) = strZ (M (turn % 5)) 8 := rfl
              refine Z.aload_n C dL_isTold_141 rfl ?_
              refine Z.iload_n C dL_isTold_142 rfl ?_
              refine Z.iconst C dL_isTold_143 ?_
              refine Z.irem C dL_isTold_144 (by omega) (by omega) (by omega) (by omega) ?_
              refine Z.xSXIf (wr := (wA aq cI hf at_ wg dy ti gg)) C 2 (h_strake l D cI cJ cL ad M B lo ch wt sn vo mo le ln od fe se td th cnt bw bs pl tk tc sill day lau hl0 hM (turn % 5) ⟨by omega, by omega⟩) gL_isTold_L_strake rfl rfl rfl (by decide +kernel) ⟨Nat.le_of_ble_eq_true rfl, Nat.le_of_ble_eq_true rfl⟩ rfl rfl (Nat.le_of_ble_eq_true rfl) ⟨Nat.le_of_ble_eq_true rfl, Nat.le_of_ble_eq_true rfl⟩ dL_isTold_145 (fun r w9 h1 => ?_) (fun _ _ z => z.elim)
              obtain ⟨-, rfl, rfl⟩ := hq_det h1 (fun E z => by have := z.2.2; rw [tcK_0 (by omega) (by omega)] at this; omega)
              refine Z.iload_n C dL_isTold_148 rfl ?_
              refine Z.iconst C dL_isTold_149 ?_
              refine Z.irem C dL_isTold_150 (by omega) (by omega) (by omega) (by omega) ?_
              refine Z.aload_n C dL_isTold_151 rfl ?_
              refine Z.swap ?_
              refine Z.cSIf (wr := (wX ad cI cJ M B lo ch wt sn vo mo le ln od fe se td th cnt bw bs pl tk tc sill day lau)) C 2 (q_strakeOf l D cI cJ cL aq hf at_ wg dy ti gg M hM hR (turn % 5) (by omega) (by omega)) gL_isTold_L_strakeOf rfl rfl rfl (by decide +kernel) ⟨Nat.le_of_ble_eq_true rfl, Nat.le_of_ble_eq_true rfl⟩ rfl rfl (Nat.le_of_ble_eq_true rfl) ⟨Nat.le_of_ble_eq_true rfl, Nat.le_of_ble_eq_true rfl⟩ dL_isTold_152 (fun r9 w9 h9 => ?_)
              obtain ⟨rfl, rfl⟩ := h9
              refine Z.swap ?_
              refine Z.icmpeq C 160 dL_isTold_155 (by decide) (⟨by omega, by omega⟩) (⟨by omega, by omega⟩) (fun h7 => ?_) (fun h7 => ?_)
              · have hdb := drZ_bd (VM M) L
                have htb := tmZ_bd hM M0 L0 M1
                refine Z.aload_n C dL_isTold_160 rfl ?_
                refine Z.cVIf (wr := (wA aq cI hf at_ wg dy ti gg)) C 0 0 (c_draught l D cI cJ cL ad M B lo ch wt sn vo mo le ln od fe se td th cnt bw bs pl tk tc sill day lau hM hc0 hc1 L Mo hLx hMox L0 L1 M0 M1) rfl rfl gL_isTold_X6_draught rfl rfl rfl (by decide +kernel) ⟨Nat.le_of_ble_eq_true rfl, Nat.le_of_ble_eq_true rfl⟩ rfl rfl (Nat.le_of_ble_eq_true rfl) ⟨Nat.le_of_ble_eq_true rfl, Nat.le_of_ble_eq_true rfl⟩ dL_isTold_161 (fun r w9 h1 => ?_)
                obtain ⟨vo1, mo1, rfl, rfl⟩ := h1
                refine Z.aload_n C dL_isTold_164 rfl ?_
                refine Z.aload C dL_isTold_165 rfl ?_
                refine Z.swap ?_
                refine Z.cSIf (wr := (wX ad cI cJ M B lo ch wt sn vo1 mo1 le ln od fe se td th cnt bw bs pl tk tc sill day lau)) C 2 (q_draught l D cI cJ cL aq hf at_ wg dy ti gg M hM hR L hL L0 L1) gL_isTold_L_draught rfl rfl rfl (by decide +kernel) ⟨Nat.le_of_ble_eq_true rfl, Nat.le_of_ble_eq_true rfl⟩ rfl rfl (Nat.le_of_ble_eq_true rfl) ⟨Nat.le_of_ble_eq_true rfl, Nat.le_of_ble_eq_true rfl⟩ dL_isTold_167 (fun r9 w9 h9 => ?_)
                obtain ⟨rfl, rfl⟩ := h9
                refine Z.swap ?_
                refine Z.icmpne C 187 dL_isTold_170 (by decide) (⟨by omega, by omega⟩) (⟨by omega, by omega⟩) (fun h8 => ?_) (fun h8 => ?_)
                · exact absurd rfl h8
                · skip
                  refine Z.aload_n C dL_isTold_173 rfl ?_
                  refine Z.cVIf (wr := (wA aq cI hf at_ wg dy ti gg)) C 0 0 (c_trim l D cI cJ cL ad M B lo ch wt sn vo1 mo1 le ln od fe se td th cnt bw bs pl tk tc sill day lau hM hc0 hc1 L Mo hLx hMox L0 L1 M0 M1) rfl rfl gL_isTold_X6_trim rfl rfl rfl (by decide +kernel) ⟨Nat.le_of_ble_eq_true rfl, Nat.le_of_ble_eq_true rfl⟩ rfl rfl (Nat.le_of_ble_eq_true rfl) ⟨Nat.le_of_ble_eq_true rfl, Nat.le_of_ble_eq_true rfl⟩ dL_isTold_174 (fun r w9 h1 => ?_)
                  obtain ⟨vo2, mo2, rfl, rfl⟩ := h1
                  refine Z.aload_n C dL_isTold_177 rfl ?_
                  refine Z.aload_n C dL_isTold_178 rfl ?_
                  refine Z.aload C dL_isTold_179 rfl ?_
                  refine Z.swap ?_
                  refine Z.cSIf (wr := (wX ad cI cJ M B lo ch wt sn vo2 mo2 le ln od fe se td th cnt bw bs pl tk tc sill day lau)) C 3 (q_trim l D cI cJ cL aq hf at_ wg dy ti gg M hM hR L Mo hL hMo L0 L1 M0 M1) gL_isTold_L_trim rfl rfl rfl (by decide +kernel) ⟨Nat.le_of_ble_eq_true rfl, Nat.le_of_ble_eq_true rfl⟩ rfl rfl (Nat.le_of_ble_eq_true rfl) ⟨Nat.le_of_ble_eq_true rfl, Nat.le_of_ble_eq_true rfl⟩ dL_isTold_181 (fun r9 w9 h9 => ?_)
                  obtain ⟨rfl, rfl⟩ := h9
                  refine Z.swap ?_
                  refine Z.icmpeq C 189 dL_isTold_184 (by decide) (⟨by omega, by omega⟩) (⟨by omega, by omega⟩) (fun h9 => ?_) (fun h9 => ?_)
                  · refine Z.cut (α := (Int → Int) × (Int → Int)) 233 (fun z => (wA aq cI hf at_ wg dy ti gg) ++ (wX ad cI cJ M B lo ch wt sn z.1 z.2 le ln od fe se td th cnt bw bs pl tk tc sill day lau)) (fun _ => [.ref (ad 0), .int (iI turn), .ref (aq 0), .ref (aq 1), .ref (aq 2), .ref (aq 3), .ref (aq 4), .ref (aq 5), .int (iI (k : Int)), .int (iI sn9), .int (iI (areaZ M sn9 k)), .int (iI k)]) (fun _ => []) (fun _ => True) (fun z _ => ?_) (fun join => ?_)
                    · obtain ⟨vo3, mo3⟩ := z
                      dsimp only
                      refine Z.iload_n C dL_isTold_233 rfl ?_
                      refine Z.iconst C dL_isTold_234 ?_
                      refine Z.irem C dL_isTold_235 (by omega) (by omega) (by omega) (by omega) ?_
                      refine Z.ifgt C 288 dL_isTold_236 (by decide) (⟨by omega, by omega⟩) (fun h10 => ?_) (fun h10 => ?_)
                      · skip
                        refine Z.iconst C dL_isTold_288 ?_
                        refine Z.goto C 293 dL_isTold_289 (by decide) ?_
                        exact Z.zretX C hr (Or.inr rfl) (Nat.le_of_ble_eq_true rfl) (Nat.le_of_ble_eq_true rfl) dL_isTold_293 ⟨rfl, vo3, mo3, le, ln, od, fe, se, tk, rfl⟩
                      · have hy : turn / 20 % 2 = 0 ∨ turn / 20 % 2 = 1 := by omega
                        have hj : 0 ≤ turn / 4 % 5 ∧ turn / 4 % 5 < 5 := by omega
                        refine Z.cut (α := Int) 260 (fun z => (wA aq cI hf at_ wg dy ti gg) ++ (wX ad cI cJ M B lo ch wt sn vo3 mo3 le ln od fe se td th cnt bw bs pl tk tc sill day lau)) (fun _ => [.ref (ad 0), .int (iI turn), .ref (aq 0), .ref (aq 1), .ref (aq 2), .ref (aq 3), .ref (aq 4), .ref (aq 5), .int (iI (k : Int)), .int (iI sn9), .int (iI (areaZ M sn9 k)), .int (iI k)]) (fun b => [.int (iI b), .int (iI (turn / 4 % 5)), .ref (ad 0)]) (fun b => b = turn / 20 % 2) (fun b hb => ?_) (fun join2 => ?_)
                        · subst hb
                          refine Z.xSXIf (wr := (wA aq cI hf at_ wg dy ti gg)) C 3 (h_plankOf l D cI cJ cL ad M B lo ch wt sn vo3 mo3 le ln od fe se td th cnt bw bs pl tk tc sill day lau hl0 hM hp0 hp1 (turn / 4 % 5) (turn / 20 % 2) ⟨by omega, by omega⟩ hy) gL_isTold_L_plankOf rfl rfl rfl (by decide +kernel) ⟨Nat.le_of_ble_eq_true rfl, Nat.le_of_ble_eq_true rfl⟩ rfl rfl (Nat.le_of_ble_eq_true rfl) ⟨Nat.le_of_ble_eq_true rfl, Nat.le_of_ble_eq_true rfl⟩ dL_isTold_260 (fun r w9 h1 => ?_) (fun _ _ z => z.elim)
                          obtain ⟨-, rfl, le4, ln4, od4, fe4, se4, tk4, rfl⟩ := hq_det h1 (fun E z => by have := z.2.2; rw [tcK_0 (by omega) (by omega)] at this; omega)
                          refine Z.iconst C dL_isTold_263 ?_
                          refine Z.iload_n C dL_isTold_264 rfl ?_
                          refine Z.iconst C dL_isTold_265 ?_
                          refine Z.idiv C dL_isTold_266 (by omega) (by omega) (by omega) (by omega) ?_
                          refine Z.iconst C dL_isTold_267 ?_
                          refine Z.irem C dL_isTold_268 (by omega) (by omega) (by omega) (by omega) ?_
                          refine Z.imul C dL_isTold_269 ?_
                          refine Z.iload_n C dL_isTold_270 rfl ?_
                          refine Z.bipush C dL_isTold_271 (by decide) ?_
                          refine Z.idiv C dL_isTold_273 (by omega) (by omega) (by omega) (by omega) ?_
                          refine Z.iconst C dL_isTold_274 ?_
                          refine Z.irem C dL_isTold_275 (by omega) (by omega) (by omega) (by omega) ?_
                          refine Z.iadd C dL_isTold_276 ?_
                          refine Z.aload_n C dL_isTold_277 rfl ?_
                          refine Z.aload C dL_isTold_278 rfl ?_
                          refine Z.iconst C dL_isTold_280 ?_
                          refine Z.iald C 5 rfl (by omega) (by omega) (by decide) dL_isTold_281 ?_
                          refine Z.swap ?_
                          refine Z.xSIf (wr := (wX ad cI cJ M B lo ch wt sn vo3 mo3 le4 ln4 od4 fe4 se4 td th cnt bw bs pl tk4 tc sill day lau)) C 3 (q_planksOf l D cI cJ cL aq hf at_ wg dy ti gg M hM hR (2 * (turn / 4 % 5) + turn / 20 % 2) (gg 1) (by omega) (by omega) (by omega) (by omega)) gL_isTold_L_planksOf rfl rfl rfl (by decide +kernel) ⟨Nat.le_of_ble_eq_true rfl, Nat.le_of_ble_eq_true rfl⟩ rfl rfl (Nat.le_of_ble_eq_true rfl) ⟨Nat.le_of_ble_eq_true rfl, Nat.le_of_ble_eq_true rfl⟩ dL_isTold_282 (fun r w9 h2 => ?_) (fun _ _ z => z.elim)
                          obtain ⟨⟨-, hr2⟩, rfl⟩ := h2
                          have hr3 := hr2 (turn / 4 % 5) (turn / 20 % 2) hj.1 hj.2 hy rfl
                          rw [el] at hr3
                          subst hr3
                          refine Z.swap ?_
                          have hbd : inr (if turn / 20 % 2 = 0 then (plS pl (LsM M) 5).2.2.1 (turn / 4 % 5) else (plS pl (LsM M) 5).2.2.2 (turn / 4 % 5)) := plS_inr (by omega) hp1 hM hj.1 hj.2 _
                          refine Z.icmpne C 292 dL_isTold_285 (by decide) (hbd) (hbd) (fun h11 => ?_) (fun h11 => ?_)
                          · exact absurd rfl h11
                          · skip
                            refine Z.iconst C dL_isTold_288 ?_
                            refine Z.goto C 293 dL_isTold_289 (by decide) ?_
                            exact Z.zretX C hr (Or.inr rfl) (Nat.le_of_ble_eq_true rfl) (Nat.le_of_ble_eq_true rfl) dL_isTold_293 ⟨rfl, vo3, mo3, le4, ln4, od4, fe4, se4, tk4, rfl⟩
                        · skip
                          refine Z.aload_n C dL_isTold_239 rfl ?_
                          refine Z.iload_n C dL_isTold_240 rfl ?_
                          refine Z.iconst C dL_isTold_241 ?_
                          refine Z.idiv C dL_isTold_242 (by omega) (by omega) (by omega) (by omega) ?_
                          refine Z.iconst C dL_isTold_243 ?_
                          refine Z.irem C dL_isTold_244 (by omega) (by omega) (by omega) (by omega) ?_
                          refine Z.iload_n C dL_isTold_245 rfl ?_
                          refine Z.bipush C dL_isTold_246 (by decide) ?_
                          refine Z.idiv C dL_isTold_248 (by omega) (by omega) (by omega) (by omega) ?_
                          refine Z.iconst C dL_isTold_249 ?_
                          refine Z.irem C dL_isTold_250 (by omega) (by omega) (by omega) (by omega) ?_
                          refine Z.iconst C dL_isTold_251 ?_
                          refine Z.icmpne C 259 dL_isTold_252 (by decide) (⟨by omega, by omega⟩) (⟨by omega, by omega⟩) (fun h12 => ?_) (fun h12 => ?_)
                          · skip
                            refine Z.iconst C dL_isTold_259 ?_
                            exact join2 0 (by omega)
                          · skip
                            refine Z.iconst C dL_isTold_255 ?_
                            refine Z.goto C 260 dL_isTold_256 (by decide) ?_
                            exact join2 1 (by omega)
                    · skip
                      refine Z.iload_n C dL_isTold_189 rfl ?_
                      refine Z.iconst C dL_isTold_190 ?_
                      refine Z.irem C dL_isTold_191 (by omega) (by omega) (by omega) (by omega) ?_
                      refine Z.ifne C 233 dL_isTold_192 (by decide) (⟨by omega, by omega⟩) (fun h10 => ?_) (fun h10 => ?_)
                      · exact join (vo2, mo2) trivial
                      · skip
                        refine Z.aload_n C dL_isTold_195 rfl ?_
                        refine Z.cVIf (wr := (wA aq cI hf at_ wg dy ti gg)) C 0 0 (c_needed l D cI cJ cL ad M B lo ch wt sn vo2 mo2 le ln od fe se td th cnt bw bs pl tk tc sill day lau hM hc0 hc1 L Mo hLx hMox L0 L1 M0 M1) rfl rfl gL_isTold_X6_needed rfl rfl rfl (by decide +kernel) ⟨Nat.le_of_ble_eq_true rfl, Nat.le_of_ble_eq_true rfl⟩ rfl rfl (Nat.le_of_ble_eq_true rfl) ⟨Nat.le_of_ble_eq_true rfl, Nat.le_of_ble_eq_true rfl⟩ dL_isTold_196 (fun r w9 h1 => ?_)
                        obtain ⟨vo3, mo3, rfl, rfl⟩ := h1
                        have hnb := ndZ_bd hM (load := L) (mo := Mo) (sill := sill) M0 L0 M1 l0 l1
                        refine Z.aload_n C dL_isTold_199 rfl ?_
                        refine Z.aload_n C dL_isTold_200 rfl ?_
                        refine Z.aload C dL_isTold_201 rfl ?_
                        refine Z.aload C dL_isTold_203 rfl ?_
                        refine Z.swap ?_
                        refine Z.cSIf (wr := (wX ad cI cJ M B lo ch wt sn vo3 mo3 le ln od fe se td th cnt bw bs pl tk tc sill day lau)) C 4 (q_needed l D cI cJ cL aq hf at_ wg dy ti gg M hM hR L Mo hL hMo L0 L1 M0 M1) gL_isTold_L_needed rfl rfl rfl (by decide +kernel) ⟨Nat.le_of_ble_eq_true rfl, Nat.le_of_ble_eq_true rfl⟩ rfl rfl (Nat.le_of_ble_eq_true rfl) ⟨Nat.le_of_ble_eq_true rfl, Nat.le_of_ble_eq_true rfl⟩ dL_isTold_205 (fun r9 w9 h9 => ?_)
                        obtain ⟨rfl, rfl⟩ := h9
                        refine Z.swap ?_
                        rw [es]
                        refine Z.icmpne C 231 dL_isTold_208 (by decide) (⟨by omega, by omega⟩) (⟨by omega, by omega⟩) (fun h11 => ?_) (fun h11 => ?_)
                        · exact absurd rfl h11
                        · skip
                          refine Z.aload_n C dL_isTold_211 rfl ?_
                          refine Z.cVIf (wr := (wA aq cI hf at_ wg dy ti gg)) C 0 0 (c_day l D cI cJ cL ad M B lo ch wt sn vo3 mo3 le ln od fe se td th cnt bw bs pl tk tc sill day lau hM hc0 hc1 i0 l0 l1 d0 d1 t0 t1 rr.1.hu rr.1.td0 rr.1.th0 L Mo hLx hMox L0 L1 M0 M1) rfl rfl gL_isTold_X6_day rfl rfl rfl (by decide +kernel) ⟨Nat.le_of_ble_eq_true rfl, Nat.le_of_ble_eq_true rfl⟩ rfl rfl (Nat.le_of_ble_eq_true rfl) ⟨Nat.le_of_ble_eq_true rfl, Nat.le_of_ble_eq_true rfl⟩ dL_isTold_212 (fun r w9 h1 => ?_)
                          obtain ⟨vo4, mo4, rfl, rfl⟩ := h1
                          refine Z.aload_n C dL_isTold_215 rfl ?_
                          refine Z.aload_n C dL_isTold_216 rfl ?_
                          refine Z.aload C dL_isTold_217 rfl ?_
                          refine Z.aload C dL_isTold_219 rfl ?_
                          refine Z.aload C dL_isTold_221 rfl ?_
                          refine Z.aload C dL_isTold_223 rfl ?_
                          refine Z.swap ?_
                          refine Z.cSIf (wr := (wX ad cI cJ M B lo ch wt sn vo4 mo4 le ln od fe se td th cnt bw bs pl tk tc sill day lau)) C 6 (q_dayOf l D cI cJ cL aq hf at_ wg dy ti gg M hM hR L Mo hL hMo L0 L1 M0 M1 (by omega) (by omega) huq rr.1.dy0 rr.1.ti0 (by omega) (by omega) (by omega) (by omega) (by rw [ei]; exact i0)) gL_isTold_L_dayOf rfl rfl rfl (by decide +kernel) ⟨Nat.le_of_ble_eq_true rfl, Nat.le_of_ble_eq_true rfl⟩ rfl rfl (Nat.le_of_ble_eq_true rfl) ⟨Nat.le_of_ble_eq_true rfl, Nat.le_of_ble_eq_true rfl⟩ dL_isTold_225 (fun r9 w9 h9 => ?_)
                          obtain ⟨rfl, rfl⟩ := h9
                          refine Z.swap ?_
                          have heq : (fun d => tdZ dy ti d (gg 5).toNat) = fun d => tdZ td th d tc.toNat := funext fun d => rr.1.tdE d
                          rw [es, ei, heq, ed]
                          have hdd := daD_bd (T := fun d => tdZ td th d tc.toNat) (need := ndZ M L Mo sill) (tod := day) d0 100
                          have hdi : inr (if ndZ M L Mo sill = -1 ∨ lau = 1 then -1 else daD (fun d => tdZ td th d tc.toNat) (ndZ M L Mo sill) day 100) := by
                            split
                            · exact ⟨by decide, by decide⟩
                            · exact ⟨by omega, by omega⟩
                          refine Z.icmpeq C 233 dL_isTold_228 (by decide) (hdi) (hdi) (fun h12 => ?_) (fun h12 => ?_)
                          · exact join (vo4, mo4) trivial
                          · exact absurd rfl h12
                  · exact absurd rfl h9
              · exact absurd rfl h7
  · have h1 : hf (9 * (k : Int) + sn9) = M k sn9 := RH_at hR rfl (by omega) (by omega) hs0.1 hs0.2
    have h2 : hf (9 * (k : Int) + 9 + sn9) = M ((k : Int) + 1) sn9 := RH_at hR (by omega) (by omega) (by omega) hs0.1 hs0.2
    refine Z.iload C dL_isTold_25 rfl ?_
    refine Z.aload_n C dL_isTold_27 rfl ?_
    refine Z.bipush C dL_isTold_28 (by decide) ?_
    refine Z.iload C dL_isTold_30 rfl ?_
    refine Z.imul C dL_isTold_32 ?_
    refine Z.iload C dL_isTold_33 rfl ?_
    refine Z.iadd C dL_isTold_35 ?_
    refine Z.iald C 0 rfl (by omega) (by omega) (by decide) dL_isTold_36 ?_
    rw [h1]
    refine Z.aload_n C dL_isTold_37 rfl ?_
    refine Z.bipush C dL_isTold_38 (by decide) ?_
    refine Z.iload C dL_isTold_40 rfl ?_
    refine Z.imul C dL_isTold_42 ?_
    refine Z.bipush C dL_isTold_43 (by decide) ?_
    refine Z.iadd C dL_isTold_45 ?_
    refine Z.iload C dL_isTold_46 rfl ?_
    refine Z.iadd C dL_isTold_48 ?_
    refine Z.iald C 0 rfl (by omega) (by omega) (by decide) dL_isTold_49 ?_
    rw [h2]
    refine Z.iadd C dL_isTold_50 ?_
    refine Z.iadd C dL_isTold_51 ?_
    refine Z.istore C dL_isTold_52 (by decide) ?_
    refine Z.iinc C dL_isTold_54 rfl (by decide) ?_
    refine Z.goto C 18 dL_isTold_57 (by decide) ?_
    rw [show areaZ M sn9 k + (M k sn9 + M ((k : Int) + 1) sn9) = areaZ M sn9 (k + 1) from rfl]
    exact ih (k + 1) (by omega) (by omega)
