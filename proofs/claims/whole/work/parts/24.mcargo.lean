/-! ===== the reference: weights, strakes ===== -/
def tcWeigh (x w nw : Int) : Int := if ¬ (0 ≤ x ∧ x ≤ 8) then 1 else if ¬ (0 ≤ w ∧ w ≤ 999) then 2 else if nw = 16 then 3 else 0
set_option maxRecDepth 20000 in
theorem iw_X7_weigh_7 : ∀ w ∈ u_ws RX7 TX7 16, w ∈ wsX7_weigh := by decide +kernel
abbrev rmX7_weigh : Room := { frames := 2, cells := 0, slots := 0, locals := 42 }
set_option maxHeartbeats 4000000 in
set_option maxRecDepth 100000 in
theorem m_weigh (l : Launch) (D : va_G) (cI cJ cL : ClassId) (ad : Nat → Nat) (hf at_ wg lf cf dy ti bh ln : Int → Int) (thr nw lg nt sl dd il : Int) (hn0 : 0 ≤ nw) (hn1 : nw ≤ 16) (x w : Int) (hx : inr x) (hw : inr w) : CI l yX7_weigh wsX7_weigh rmX7_weigh [.ref (ad 0), .int (iI x), .int (iI w)] D cI cJ cL (wM ad cI hf at_ wg lf cf dy ti bh ln thr nw lg nt sl dd il) (fun r w' => (tcWeigh x w nw ≠ 0 ∧ w' = (wM ad cI hf at_ wg lf cf dy ti bh ln (tcWeigh x w nw) nw lg nt sl dd il)) ∨ (tcWeigh x w nw = 0 ∧ r = nw ∧ w' = (wM ad cI hf (zset at_ nw x) (zset wg nw w) lf cf dy ti bh ln 0 (nw + 1) lg nt sl dd il))) := by
  refine CI.of (cc := cX7_weigh) (maxL := 3) (ret := (some .int)) (own := RX7) _ 0 (by decide +kernel) rfl rfl rfl (Nat.le_of_ble_eq_true rfl) rfl (fun sz9 p9 e9 s9 m9 a9 b9 h9 c9 C hr => ?_)
  refine Z.cut (α := Int) 41 (fun _ => (wM ad cI hf at_ wg lf cf dy ti bh ln thr nw lg nt sl dd il)) (fun _ => [.ref (ad 0), .int (iI x), .int (iI w)]) (fun k => [.int (iI k), .ref (ad 0)]) (fun k => k = tcWeigh x w nw ∧ 0 ≤ k ∧ k ≤ 3) (fun k hk => ?_) (fun join => ?_)
  · obtain ⟨hk, k0, k3⟩ := hk
    refine Z.putf C 0 0 iw_X7_weigh_7 rfl rfl (by decide) tyX7 tyX7_ok nmX7 (by decide +kernel) rfl (ty := .int) (by decide +kernel) rfl rfl (Nat.le_of_ble_eq_true rfl) dX7_weigh_41 wM_s_thr ?_
    refine Z.aload_n C dX7_weigh_44 rfl ?_
    refine Z.getf C 0 0 iw_X7_weigh_7 rfl rfl (by decide) (by decide +kernel) rfl dX7_weigh_45 ?_
    refine Z.ifle C 53 dX7_weigh_48 (by decide) (⟨by omega, by omega⟩) (fun h1 => ?_) (fun h1 => ?_)
    · have e0 : k = 0 := by omega
      subst e0
      have hc : nw < 16 := by
        unfold tcWeigh at hk
        split at hk
        · omega
        · split at hk
          · omega
          · split at hk <;> omega
      refine Z.aload_n C dX7_weigh_53 rfl ?_
      refine Z.getf C 0 3 iw_X7_weigh_7 rfl rfl (by decide) (by decide +kernel) rfl dX7_weigh_54 ?_
      refine Z.aload_n C dX7_weigh_57 rfl ?_
      refine Z.getf C 0 2 iw_X7_weigh_7 rfl rfl (by decide) (by decide +kernel) rfl dX7_weigh_58 ?_
      refine Z.iload_n C dX7_weigh_61 rfl ?_
      refine Z.iast C 2 rfl (by omega) (by omega) (by decide) dX7_weigh_62 wM_a2 ?_
      refine Z.aload_n C dX7_weigh_63 rfl ?_
      refine Z.getf C 0 4 iw_X7_weigh_7 rfl rfl (by decide) (by decide +kernel) rfl dX7_weigh_64 ?_
      refine Z.aload_n C dX7_weigh_67 rfl ?_
      refine Z.getf C 0 2 iw_X7_weigh_7 rfl rfl (by decide) (by decide +kernel) rfl dX7_weigh_68 ?_
      refine Z.iload_n C dX7_weigh_71 rfl ?_
      refine Z.iast C 3 rfl (by omega) (by omega) (by decide) dX7_weigh_72 wM_a3 ?_
      refine Z.aload_n C dX7_weigh_73 rfl ?_
      refine Z.dup C dX7_weigh_74 rfl ?_
      refine Z.getf C 0 2 iw_X7_weigh_7 rfl rfl (by decide) (by decide +kernel) rfl dX7_weigh_75 ?_
      refine Z.iconst C dX7_weigh_78 ?_
      refine Z.iadd C dX7_weigh_79 ?_
      refine Z.putf C 0 2 iw_X7_weigh_7 rfl rfl (by decide) tyX7 tyX7_ok nmX7 (by decide +kernel) rfl (ty := .int) (by decide +kernel) rfl rfl (Nat.le_of_ble_eq_true rfl) dX7_weigh_80 wM_s_nw ?_
      refine Z.aload_n C dX7_weigh_83 rfl ?_
      refine Z.getf C 0 2 iw_X7_weigh_7 rfl rfl (by decide) (by decide +kernel) rfl dX7_weigh_84 ?_
      refine Z.iconst C dX7_weigh_87 ?_
      refine Z.isub C dX7_weigh_88 ?_
      rw [show nw + 1 - 1 = nw by omega]
      exact Z.iret C hr dX7_weigh_89 ((Or.inr ⟨hk.symm, rfl, rfl⟩))
    · refine Z.iconst C dX7_weigh_51 ?_
      exact Z.iret C hr dX7_weigh_52 ((Or.inl ⟨by omega, by rw [hk]⟩))
  · refine Z.aload_n C dX7_weigh_0 rfl ?_
    refine Z.iload_n C dX7_weigh_1 rfl ?_
    refine Z.cSIp C 1 (m_isStation l D cI cJ cL x hx) gX7_weigh_X7_isStation rfl rfl rfl (by decide +kernel) ⟨Nat.le_of_ble_eq_true rfl, Nat.le_of_ble_eq_true rfl⟩ rfl rfl (Nat.le_of_ble_eq_true rfl) ⟨Nat.le_of_ble_eq_true rfl, Nat.le_of_ble_eq_true rfl⟩ dX7_weigh_2 ?_
    refine Z.ifne C 12 dX7_weigh_5 (by decide) ((inZ_r _ _ _)) (fun h1 => ?_) (fun h1 => ?_)
    · have q1 := inZ_1 h1
      refine Z.iload_n C dX7_weigh_12 rfl ?_
      refine Z.iconst C dX7_weigh_13 ?_
      refine Z.sipush C dX7_weigh_14 (by decide) ?_
      refine Z.cSIp C 3 (m_in l D cI cJ cL w 0 999 hw ⟨by decide, by decide⟩ ⟨by decide, by decide⟩) gX7_weigh_X7_in rfl rfl rfl (by decide +kernel) ⟨Nat.le_of_ble_eq_true rfl, Nat.le_of_ble_eq_true rfl⟩ rfl rfl (Nat.le_of_ble_eq_true rfl) ⟨Nat.le_of_ble_eq_true rfl, Nat.le_of_ble_eq_true rfl⟩ dX7_weigh_17 ?_
      refine Z.ifne C 27 dX7_weigh_20 (by decide) ((inZ_r _ _ _)) (fun h3 => ?_) (fun h3 => ?_)
      · have q3 := inZ_1 h3
        refine Z.aload_n C dX7_weigh_27 rfl ?_
        refine Z.getf C 0 2 iw_X7_weigh_7 rfl rfl (by decide) (by decide +kernel) rfl dX7_weigh_28 ?_
        refine Z.bipush C dX7_weigh_31 (by decide) ?_
        refine Z.icmpne C 40 dX7_weigh_33 (by decide) (⟨by omega, by omega⟩) (⟨by omega, by omega⟩) (fun h4 => ?_) (fun h4 => ?_)
        · refine Z.iconst C dX7_weigh_40 ?_
          exact join 0 ⟨by unfold tcWeigh; rw [if_neg (by omega), if_neg (by omega), if_neg (by omega)], by omega, by omega⟩
        · refine Z.iconst C dX7_weigh_36 ?_
          refine Z.goto C 41 dX7_weigh_37 (by decide) ?_
          exact join 3 ⟨by unfold tcWeigh; rw [if_neg (by omega), if_neg (by omega), if_pos (by omega)], by omega, by omega⟩
      · have q3 := inZ_0 h3
        refine Z.iconst C dX7_weigh_23 ?_
        refine Z.goto C 41 dX7_weigh_24 (by decide) ?_
        exact join 2 ⟨by unfold tcWeigh; rw [if_neg (by omega), if_pos q3], by omega, by omega⟩
    · have q1 := inZ_0 h1
      refine Z.iconst C dX7_weigh_8 ?_
      refine Z.goto C 41 dX7_weigh_9 (by decide) ?_
      exact join 1 ⟨by unfold tcWeigh; rw [if_pos q1], by omega, by omega⟩
def tcChange (q x w nw : Int) : Int := if ¬ (0 ≤ q ∧ q ≤ nw - 1) ∨ ¬ (0 ≤ x ∧ x ≤ 8) then 1 else if ¬ (0 ≤ w ∧ w ≤ 999) then 2 else 0
set_option maxRecDepth 20000 in
theorem iw_X7_change_7 : ∀ w ∈ u_ws RX7 TX7 16, w ∈ wsX7_change := by decide +kernel
abbrev rmX7_change : Room := { frames := 2, cells := 0, slots := 0, locals := 42 }
set_option maxHeartbeats 4000000 in
set_option maxRecDepth 100000 in
theorem m_change (l : Launch) (D : va_G) (cI cJ cL : ClassId) (ad : Nat → Nat) (hf at_ wg lf cf dy ti bh ln : Int → Int) (thr nw lg nt sl dd il : Int) (hn0 : 0 ≤ nw) (hn1 : nw ≤ 16) (q x w : Int) (hq : inr q) (hx : inr x) (hw : inr w) : CI l yX7_change wsX7_change rmX7_change [.ref (ad 0), .int (iI q), .int (iI x), .int (iI w)] D cI cJ cL (wM ad cI hf at_ wg lf cf dy ti bh ln thr nw lg nt sl dd il) (fun r w' => (tcChange q x w nw ≠ 0 ∧ w' = (wM ad cI hf at_ wg lf cf dy ti bh ln (tcChange q x w nw) nw lg nt sl dd il)) ∨ (tcChange q x w nw = 0 ∧ r = 10 * wg q + at_ q ∧ w' = (wM ad cI hf (zset at_ q x) (zset wg q w) lf cf dy ti bh ln 0 nw lg nt sl dd il))) := by
  refine CI.of (cc := cX7_change) (maxL := 5) (ret := (some .int)) (own := RX7) _ 1 (by decide +kernel) rfl rfl rfl (Nat.le_of_ble_eq_true rfl) rfl (fun sz9 p9 e9 s9 m9 a9 b9 h9 c9 C hr => ?_)
  refine Z.cut (α := Int) 42 (fun _ => (wM ad cI hf at_ wg lf cf dy ti bh ln thr nw lg nt sl dd il)) (fun _ => [.ref (ad 0), .int (iI q), .int (iI x), .int (iI w), .null]) (fun k => [.int (iI k), .ref (ad 0)]) (fun k => k = tcChange q x w nw ∧ 0 ≤ k ∧ k ≤ 2) (fun k hk => ?_) (fun join => ?_)
  · obtain ⟨hk, k0, k3⟩ := hk
    refine Z.putf C 0 0 iw_X7_change_7 rfl rfl (by decide) tyX7 tyX7_ok nmX7 (by decide +kernel) rfl (ty := .int) (by decide +kernel) rfl rfl (Nat.le_of_ble_eq_true rfl) dX7_change_42 wM_s_thr ?_
    refine Z.aload_n C dX7_change_45 rfl ?_
    refine Z.getf C 0 0 iw_X7_change_7 rfl rfl (by decide) (by decide +kernel) rfl dX7_change_46 ?_
    refine Z.ifle C 54 dX7_change_49 (by decide) (⟨by omega, by omega⟩) (fun h1 => ?_) (fun h1 => ?_)
    · have e0 : k = 0 := by omega
      subst e0
      have hc : 0 ≤ q ∧ q < 16 := by
        unfold tcChange at hk
        split at hk
        · omega
        · omega
      refine Z.bipush C dX7_change_54 (by decide) ?_
      refine Z.aload_n C dX7_change_56 rfl ?_
      refine Z.getf C 0 4 iw_X7_change_7 rfl rfl (by decide) (by decide +kernel) rfl dX7_change_57 ?_
      refine Z.iload_n C dX7_change_60 rfl ?_
      refine Z.iald C 3 rfl (by omega) (by omega) (by decide) dX7_change_61 ?_
      refine Z.imul C dX7_change_62 ?_
      refine Z.aload_n C dX7_change_63 rfl ?_
      refine Z.getf C 0 3 iw_X7_change_7 rfl rfl (by decide) (by decide +kernel) rfl dX7_change_64 ?_
      refine Z.iload_n C dX7_change_67 rfl ?_
      refine Z.iald C 2 rfl (by omega) (by omega) (by decide) dX7_change_68 ?_
      refine Z.iadd C dX7_change_69 ?_
      refine Z.istore C dX7_change_70 (by decide) ?_
      refine Z.aload_n C dX7_change_72 rfl ?_
      refine Z.getf C 0 3 iw_X7_change_7 rfl rfl (by decide) (by decide +kernel) rfl dX7_change_73 ?_
      refine Z.iload_n C dX7_change_76 rfl ?_
      refine Z.iload_n C dX7_change_77 rfl ?_
      refine Z.iast C 2 rfl (by omega) (by omega) (by decide) dX7_change_78 wM_a2 ?_
      refine Z.aload_n C dX7_change_79 rfl ?_
      refine Z.getf C 0 4 iw_X7_change_7 rfl rfl (by decide) (by decide +kernel) rfl dX7_change_80 ?_
      refine Z.iload_n C dX7_change_83 rfl ?_
      refine Z.iload_n C dX7_change_84 rfl ?_
      refine Z.iast C 3 rfl (by omega) (by omega) (by decide) dX7_change_85 wM_a3 ?_
      refine Z.iload C dX7_change_86 rfl ?_
      exact Z.iret C hr dX7_change_88 ((Or.inr ⟨hk.symm, rfl, rfl⟩))
    · refine Z.iconst C dX7_change_52 ?_
      exact Z.iret C hr dX7_change_53 ((Or.inl ⟨by omega, by rw [hk]⟩))
  · refine Z.aload_n C dX7_change_0 rfl ?_
    refine Z.iload_n C dX7_change_1 rfl ?_
    refine Z.iconst C dX7_change_2 ?_
    refine Z.aload_n C dX7_change_3 rfl ?_
    refine Z.getf C 0 2 iw_X7_change_7 rfl rfl (by decide) (by decide +kernel) rfl dX7_change_4 ?_
    refine Z.iconst C dX7_change_7 ?_
    refine Z.isub C dX7_change_8 ?_
    refine Z.cSIp C 3 (m_in l D cI cJ cL q 0 (nw - 1) hq ⟨by decide, by decide⟩ ⟨by omega, by omega⟩) gX7_change_X7_in rfl rfl rfl (by decide +kernel) ⟨Nat.le_of_ble_eq_true rfl, Nat.le_of_ble_eq_true rfl⟩ rfl rfl (Nat.le_of_ble_eq_true rfl) ⟨Nat.le_of_ble_eq_true rfl, Nat.le_of_ble_eq_true rfl⟩ dX7_change_9 ?_
    refine Z.ifeq C 22 dX7_change_12 (by decide) ((inZ_r _ _ _)) (fun h1 => ?_) (fun h1 => ?_)
    · have q1 := inZ_0 h1
      refine Z.iconst C dX7_change_22 ?_
      refine Z.goto C 42 dX7_change_23 (by decide) ?_
      exact join 1 ⟨by unfold tcChange; rw [if_pos (Or.inl q1)], by omega, by omega⟩
    · have q1 := inZ_1 h1
      refine Z.iload_n C dX7_change_15 rfl ?_
      refine Z.cSIp C 1 (m_isStation l D cI cJ cL x hx) gX7_change_X7_isStation rfl rfl rfl (by decide +kernel) ⟨Nat.le_of_ble_eq_true rfl, Nat.le_of_ble_eq_true rfl⟩ rfl rfl (Nat.le_of_ble_eq_true rfl) ⟨Nat.le_of_ble_eq_true rfl, Nat.le_of_ble_eq_true rfl⟩ dX7_change_16 ?_
      refine Z.ifne C 26 dX7_change_19 (by decide) ((inZ_r _ _ _)) (fun h2 => ?_) (fun h2 => ?_)
      · have q2 := inZ_1 h2
        refine Z.iload_n C dX7_change_26 rfl ?_
        refine Z.iconst C dX7_change_27 ?_
        refine Z.sipush C dX7_change_28 (by decide) ?_
        refine Z.cSIp C 3 (m_in l D cI cJ cL w 0 999 hw ⟨by decide, by decide⟩ ⟨by decide, by decide⟩) gX7_change_X7_in rfl rfl rfl (by decide +kernel) ⟨Nat.le_of_ble_eq_true rfl, Nat.le_of_ble_eq_true rfl⟩ rfl rfl (Nat.le_of_ble_eq_true rfl) ⟨Nat.le_of_ble_eq_true rfl, Nat.le_of_ble_eq_true rfl⟩ dX7_change_31 ?_
        refine Z.ifeq C 41 dX7_change_34 (by decide) ((inZ_r _ _ _)) (fun h3 => ?_) (fun h3 => ?_)
        · have q3 := inZ_0 h3
          refine Z.iconst C dX7_change_41 ?_
          exact join 2 ⟨by unfold tcChange; rw [if_neg (by omega), if_pos q3], by omega, by omega⟩
        · have q3 := inZ_1 h3
          refine Z.iconst C dX7_change_37 ?_
          refine Z.goto C 42 dX7_change_38 (by decide) ?_
          exact join 0 ⟨by unfold tcChange; rw [if_neg (by omega), if_neg (by omega)], by omega, by omega⟩
      · have q2 := inZ_0 h2
        refine Z.iconst C dX7_change_22 ?_
        refine Z.goto C 42 dX7_change_23 (by decide) ?_
        exact join 1 ⟨by unfold tcChange; rw [if_pos (Or.inr q2)], by omega, by omega⟩
abbrev rmX7_strakeOf : Room := { frames := 1, cells := 0, slots := 0, locals := 22 }
set_option maxHeartbeats 4000000 in
set_option maxRecDepth 100000 in
theorem m_strakeOf (l : Launch) (D : va_G) (cI cJ cL : ClassId) (ad : Nat → Nat) (hf at_ wg lf cf dy ti bh ln : Int → Int) (thr nw lg nt sl dd il : Int) (M : Int → Int → Int) (hM : hOK M) (hR : RH M hf) (w : Int) (hw0 : 0 ≤ w) (hw1 : w ≤ 5) : CI l yX7_strakeOf wsX7_strakeOf rmX7_strakeOf [.ref (ad 0), .int (iI w)] D cI cJ cL (wM ad cI hf at_ wg lf cf dy ti bh ln thr nw lg nt sl dd il) (fun r w' => r = LsM M w ∧ w' = (wM ad cI hf at_ wg lf cf dy ti bh ln thr nw lg nt sl dd il)) := by
  refine CI.of (cc := cX7_strakeOf) (maxL := 4) (ret := (some .int)) (own := RX7) _ 2 (by decide +kernel) rfl rfl rfl (Nat.le_of_ble_eq_true rfl) rfl (fun sz9 p9 e9 s9 m9 a9 b9 h9 c9 C hr => ?_)
  refine Z.iconst C dX7_strakeOf_0 ?_
  refine Z.istore_n C dX7_strakeOf_1 (by decide) ?_
  refine Z.iconst C dX7_strakeOf_2 ?_
  refine Z.istore_n C dX7_strakeOf_3 (by decide) ?_
  refine Z.loop (α := Nat) (fun _ => (wM ad cI hf at_ wg lf cf dy ti bh ln thr nw lg nt sl dd il)) (fun k => [.ref (ad 0), .int (iI w), .int (iI (strZ (M w) k)), .int (iI k)]) (fun k => k ≤ 8) (fun k => 8 - k) 0 (by omega) rfl rfl (fun k hk ih => ?_)
  refine Z.iload_n C dX7_strakeOf_4 rfl ?_
  refine Z.iconst C dX7_strakeOf_5 ?_
  refine Z.iadd C dX7_strakeOf_6 ?_
  refine Z.bipush C dX7_strakeOf_7 (by decide) ?_
  refine Z.icmpge C 42 dX7_strakeOf_9 (by decide) (⟨by omega, by omega⟩) (⟨by omega, by omega⟩) (fun h => ?_) (fun h => ?_)
  · refine Z.iload_n C dX7_strakeOf_42 rfl ?_
    exact Z.iret C hr dX7_strakeOf_43 (⟨by rw [show k = 8 by omega]; rfl, rfl⟩)
  · have b1 := hM w k
    have b2 := hM w (k + 1)
    refine Z.iload_n C dX7_strakeOf_12 rfl ?_
    refine Z.bipush C dX7_strakeOf_13 (by decide) ?_
    refine Z.aload_n C dX7_strakeOf_15 rfl ?_
    refine Z.iload_n C dX7_strakeOf_16 rfl ?_
    refine Z.iload_n C dX7_strakeOf_17 rfl ?_
    refine Z.cVId C 0 2 (m_halfAt l D cI cJ cL ad hf at_ wg lf cf dy ti bh ln thr nw lg nt sl dd il M hR k w (by omega) (by omega) hw0 hw1) rfl rfl gX7_strakeOf_X7_halfAt rfl rfl rfl (by decide +kernel) ⟨Nat.le_of_ble_eq_true rfl, Nat.le_of_ble_eq_true rfl⟩ rfl rfl (Nat.le_of_ble_eq_true rfl) ⟨Nat.le_of_ble_eq_true rfl, Nat.le_of_ble_eq_true rfl⟩ dX7_strakeOf_18 ?_
    refine Z.aload_n C dX7_strakeOf_21 rfl ?_
    refine Z.iload_n C dX7_strakeOf_22 rfl ?_
    refine Z.iconst C dX7_strakeOf_23 ?_
    refine Z.iadd C dX7_strakeOf_24 ?_
    refine Z.iload_n C dX7_strakeOf_25 rfl ?_
    refine Z.cVId C 0 2 (m_halfAt l D cI cJ cL ad hf at_ wg lf cf dy ti bh ln thr nw lg nt sl dd il M hR (k + 1) w (by omega) (by omega) hw0 hw1) rfl rfl gX7_strakeOf_X7_halfAt rfl rfl rfl (by decide +kernel) ⟨Nat.le_of_ble_eq_true rfl, Nat.le_of_ble_eq_true rfl⟩ rfl rfl (Nat.le_of_ble_eq_true rfl) ⟨Nat.le_of_ble_eq_true rfl, Nat.le_of_ble_eq_true rfl⟩ dX7_strakeOf_26 ?_
    refine Z.isub C dX7_strakeOf_29 ?_
    refine Z.cSIp C 1 (m_size l D cI cJ cL (M w k - M w (k + 1)) ⟨by omega, by omega⟩) gX7_strakeOf_X7_size rfl rfl rfl (by decide +kernel) ⟨Nat.le_of_ble_eq_true rfl, Nat.le_of_ble_eq_true rfl⟩ rfl rfl (Nat.le_of_ble_eq_true rfl) ⟨Nat.le_of_ble_eq_true rfl, Nat.le_of_ble_eq_true rfl⟩ dX7_strakeOf_30 ?_
    refine Z.iadd C dX7_strakeOf_33 ?_
    refine Z.iadd C dX7_strakeOf_34 ?_
    refine Z.istore_n C dX7_strakeOf_35 (by decide) ?_
    refine Z.iinc C dX7_strakeOf_36 rfl (by decide) ?_
    refine Z.goto C 4 dX7_strakeOf_39 (by decide) ?_
    exact ih (k + 1) (by omega) (by omega)
def tcK (x : Int) : Int := if ¬ (0 ≤ x ∧ x ≤ 4) then 1 else 0
set_option maxRecDepth 20000 in
theorem iw_X7_strake_7 : ∀ w ∈ u_ws RX7 TX7 16, w ∈ wsX7_strake := by decide +kernel
abbrev rmX7_strake : Room := { frames := 2, cells := 0, slots := 0, locals := 45 }
set_option maxHeartbeats 4000000 in
set_option maxRecDepth 100000 in
theorem m_strake (l : Launch) (D : va_G) (cI cJ cL : ClassId) (ad : Nat → Nat) (hf at_ wg lf cf dy ti bh ln : Int → Int) (thr nw lg nt sl dd il : Int) (M : Int → Int → Int) (hM : hOK M) (hR : RH M hf) (w : Int) (hw : inr w) : CI l yX7_strake wsX7_strake rmX7_strake [.ref (ad 0), .int (iI w)] D cI cJ cL (wM ad cI hf at_ wg lf cf dy ti bh ln thr nw lg nt sl dd il) (fun r w' => w' = (wM ad cI hf at_ wg lf cf dy ti bh ln (tcK w) nw lg nt sl dd il) ∧ (tcK w = 0 → r = LsM M w)) := by
  refine CI.of (cc := cX7_strake) (maxL := 2) (ret := (some .int)) (own := RX7) _ 0 (by decide +kernel) rfl rfl rfl (Nat.le_of_ble_eq_true rfl) rfl (fun sz9 p9 e9 s9 m9 a9 b9 h9 c9 C hr => ?_)
  refine Z.cut (α := Int) 15 (fun _ => (wM ad cI hf at_ wg lf cf dy ti bh ln thr nw lg nt sl dd il)) (fun _ => [.ref (ad 0), .int (iI w)]) (fun k => [.int (iI k), .ref (ad 0)]) (fun k => k = tcK w ∧ 0 ≤ k ∧ k ≤ 1) (fun k hk => ?_) (fun join => ?_)
  · obtain ⟨hk, k0, k3⟩ := hk
    refine Z.putf C 0 0 iw_X7_strake_7 rfl rfl (by decide) tyX7 tyX7_ok nmX7 (by decide +kernel) rfl (ty := .int) (by decide +kernel) rfl rfl (Nat.le_of_ble_eq_true rfl) dX7_strake_15 wM_s_thr ?_
    refine Z.aload_n C dX7_strake_18 rfl ?_
    refine Z.getf C 0 0 iw_X7_strake_7 rfl rfl (by decide) (by decide +kernel) rfl dX7_strake_19 ?_
    refine Z.ifle C 29 dX7_strake_22 (by decide) (⟨by omega, by omega⟩) (fun h1 => ?_) (fun h1 => ?_)
    · have e0 : k = 0 := by omega
      subst e0
      have hc : 0 ≤ w ∧ w ≤ 4 := by
        unfold tcK at hk
        split at hk <;> omega
      refine Z.aload_n C dX7_strake_29 rfl ?_
      refine Z.iload_n C dX7_strake_30 rfl ?_
      refine Z.cVId C 0 1 (m_strakeOf l D cI cJ cL ad hf at_ wg lf cf dy ti bh ln 0 nw lg nt sl dd il M hM hR w hc.1 (by omega)) rfl rfl gX7_strake_X7_strakeOf rfl rfl rfl (by decide +kernel) ⟨Nat.le_of_ble_eq_true rfl, Nat.le_of_ble_eq_true rfl⟩ rfl rfl (Nat.le_of_ble_eq_true rfl) ⟨Nat.le_of_ble_eq_true rfl, Nat.le_of_ble_eq_true rfl⟩ dX7_strake_31 ?_
      exact Z.iret C hr dX7_strake_34 (⟨by rw [← hk], fun _ => rfl⟩)
    · refine Z.iconst C dX7_strake_25 ?_
      refine Z.goto C 34 dX7_strake_26 (by decide) ?_
      exact Z.iret C hr dX7_strake_34 (⟨by rw [hk], fun q => by omega⟩)
  · refine Z.aload_n C dX7_strake_0 rfl ?_
    refine Z.iload_n C dX7_strake_1 rfl ?_
    refine Z.iconst C dX7_strake_2 ?_
    refine Z.iconst C dX7_strake_3 ?_
    refine Z.cSIp C 3 (m_in l D cI cJ cL w 0 4 hw ⟨by decide, by decide⟩ ⟨by decide, by decide⟩) gX7_strake_X7_in rfl rfl rfl (by decide +kernel) ⟨Nat.le_of_ble_eq_true rfl, Nat.le_of_ble_eq_true rfl⟩ rfl rfl (Nat.le_of_ble_eq_true rfl) ⟨Nat.le_of_ble_eq_true rfl, Nat.le_of_ble_eq_true rfl⟩ dX7_strake_4 ?_
    refine Z.ifeq C 14 dX7_strake_7 (by decide) ((inZ_r _ _ _)) (fun h2 => ?_) (fun h2 => ?_)
    · have q2 := inZ_0 h2
      refine Z.iconst C dX7_strake_14 ?_
      exact join 1 ⟨by unfold tcK; rw [if_pos q2], by omega, by omega⟩
    · have q2 := inZ_1 h2
      refine Z.iconst C dX7_strake_10 ?_
      refine Z.goto C 15 dX7_strake_11 (by decide) ?_
      exact join 0 ⟨by unfold tcK; rw [if_neg (by omega)], by omega, by omega⟩
theorem rk_bd (Ls : Int → Int) (k : Int) : ∀ n : Nat, 0 ≤ rkZ Ls k n ∧ rkZ Ls k n ≤ n
  | 0 => by simp [rkZ]
  | n + 1 => by
    have ih := rk_bd Ls k n
    simp only [rkZ]
    unfold bfZ
    split <;> (push_cast; omega)
theorem rk_1 {Ls : Int → Int} {k : Int} {o : Nat} (h : Ls k < Ls o ∨ (Ls o = Ls k ∧ (o : Int) < k)) : rkZ Ls k o + 1 = rkZ Ls k (o + 1) := by
  simp only [rkZ]
  rw [bf_1 h]
theorem rk_0 {Ls : Int → Int} {k : Int} {o : Nat} (h : ¬ (Ls k < Ls o ∨ (Ls o = Ls k ∧ (o : Int) < k))) : rkZ Ls k o + 0 = rkZ Ls k (o + 1) := by
  simp only [rkZ]
  unfold bfZ
  rw [if_neg h]
abbrev rmX7_strakeBehind : Room := { frames := 2, cells := 0, slots := 0, locals := 45 }
set_option maxHeartbeats 4000000 in
set_option maxRecDepth 100000 in
theorem m_strakeBehind (l : Launch) (D : va_G) (cI cJ cL : ClassId) (ad : Nat → Nat) (hf at_ wg lf cf dy ti bh ln : Int → Int) (thr nw lg nt sl dd il : Int) (M : Int → Int → Int) (hM : hOK M) (hR : RH M hf) (x : Int) (hx0 : 0 ≤ x) (hx1 : x ≤ 4) : CI l yX7_strakeBehind wsX7_strakeBehind rmX7_strakeBehind [.ref (ad 0), .int (iI x)] D cI cJ cL (wM ad cI hf at_ wg lf cf dy ti bh ln thr nw lg nt sl dd il) (fun r w' => r = skZ (LsM M) x 5 ∧ w' = (wM ad cI hf at_ wg lf cf dy ti bh ln thr nw lg nt sl dd il)) := by
  refine CI.of (cc := cX7_strakeBehind) (maxL := 6) (ret := (some .int)) (own := RX7) _ 4 (by decide +kernel) rfl rfl rfl (Nat.le_of_ble_eq_true rfl) rfl (fun sz9 p9 e9 s9 m9 a9 b9 h9 c9 C hr => ?_)
  refine Z.iconst C dX7_strakeBehind_0 ?_
  refine Z.istore_n C dX7_strakeBehind_1 (by decide) ?_
  refine Z.iconst C dX7_strakeBehind_2 ?_
  refine Z.istore_n C dX7_strakeBehind_3 (by decide) ?_
  refine Z.loop (α := Nat × Value × Value) (fun _ => (wM ad cI hf at_ wg lf cf dy ti bh ln thr nw lg nt sl dd il)) (fun y => [.ref (ad 0), .int (iI x), .int (iI (skZ (LsM M) x y.1)), .int (iI y.1), y.2.1, y.2.2]) (fun y => y.1 ≤ 5) (fun y => 5 - y.1) (0, .null, .null) (by dsimp only; omega) rfl rfl (fun y hk ih => ?_)
  obtain ⟨k, v1, v2⟩ := y
  dsimp only at hk ih ⊢
  refine Z.iload_n C dX7_strakeBehind_4 rfl ?_
  refine Z.iconst C dX7_strakeBehind_5 ?_
  refine Z.icmpge C 89 dX7_strakeBehind_6 (by decide) (⟨by omega, by omega⟩) (⟨by omega, by omega⟩) (fun h => ?_) (fun h => ?_)
  · refine Z.iload_n C dX7_strakeBehind_89 rfl ?_
    exact Z.iret C hr dX7_strakeBehind_90 (⟨by rw [show k = 5 by omega], rfl⟩)
  · refine Z.iconst C dX7_strakeBehind_9 ?_
    refine Z.istore C dX7_strakeBehind_10 (by decide) ?_
    refine Z.iconst C dX7_strakeBehind_12 ?_
    refine Z.istore C dX7_strakeBehind_13 (by decide) ?_
    refine Z.loop (α := Nat) (fun _ => (wM ad cI hf at_ wg lf cf dy ti bh ln thr nw lg nt sl dd il)) (fun o => [.ref (ad 0), .int (iI x), .int (iI (skZ (LsM M) x k)), .int (iI k), .int (iI (rkZ (LsM M) k o)), .int (iI o)]) (fun o => o ≤ 5) (fun o => 5 - o) 0 (by omega) rfl rfl (fun o ho ih2 => ?_)
    refine Z.iload C dX7_strakeBehind_15 rfl ?_
    refine Z.iconst C dX7_strakeBehind_17 ?_
    refine Z.icmpge C 71 dX7_strakeBehind_18 (by decide) (⟨by omega, by omega⟩) (⟨by omega, by omega⟩) (fun h2 => ?_) (fun h2 => ?_)
    · have ho5 : o = 5 := by omega
      subst ho5
      have hb := rk_bd (LsM M) k 5
      refine Z.iload C dX7_strakeBehind_71 rfl ?_
      refine Z.iload_n C dX7_strakeBehind_73 rfl ?_
      refine Z.icmpne C 81 dX7_strakeBehind_74 (by decide) (⟨by omega, by omega⟩) (⟨by omega, by omega⟩) (fun h3 => ?_) (fun h3 => ?_)
      · refine Z.iload_n C dX7_strakeBehind_81 rfl ?_
        refine Z.istore_n C dX7_strakeBehind_82 (by decide) ?_
        refine Z.iinc C dX7_strakeBehind_83 rfl (by decide) ?_
        refine Z.goto C 4 dX7_strakeBehind_86 (by decide) ?_
        have e : skZ (LsM M) x (k + 1) = skZ (LsM M) x k := by simp only [skZ]; rw [if_neg h3]
        rw [← e]
        exact ih (k + 1, _, _) (by dsimp only; omega) (by dsimp only; omega)
      · refine Z.iload_n C dX7_strakeBehind_77 rfl ?_
        refine Z.goto C 82 dX7_strakeBehind_78 (by decide) ?_
        refine Z.istore_n C dX7_strakeBehind_82 (by decide) ?_
        refine Z.iinc C dX7_strakeBehind_83 rfl (by decide) ?_
        refine Z.goto C 4 dX7_strakeBehind_86 (by decide) ?_
        have e : skZ (LsM M) x (k + 1) = k := by simp only [skZ]; rw [if_pos h3]
        have z := ih (k + 1, .int (iI (rkZ (LsM M) k 5)), .int (iI ((5 : Nat) : Int))) (by dsimp only; omega) (by dsimp only; omega)
        dsimp only at z
        rw [e] at z
        exact z
    · have bo := strZ_bd hM o 8
      have bk := strZ_bd hM k 8
      have lo_ : LsM M o = strZ (M o) 8 := rfl
      have lk_ : LsM M k = strZ (M k) 8 := rfl
      refine Z.iload C dX7_strakeBehind_21 rfl ?_
      refine Z.aload_n C dX7_strakeBehind_23 rfl ?_
      refine Z.iload C dX7_strakeBehind_24 rfl ?_
      refine Z.cVId C 0 1 (m_strakeOf l D cI cJ cL ad hf at_ wg lf cf dy ti bh ln thr nw lg nt sl dd il M hM hR o (by omega) (by omega)) rfl rfl gX7_strakeBehind_X7_strakeOf rfl rfl rfl (by decide +kernel) ⟨Nat.le_of_ble_eq_true rfl, Nat.le_of_ble_eq_true rfl⟩ rfl rfl (Nat.le_of_ble_eq_true rfl) ⟨Nat.le_of_ble_eq_true rfl, Nat.le_of_ble_eq_true rfl⟩ dX7_strakeBehind_26 ?_
      refine Z.aload_n C dX7_strakeBehind_29 rfl ?_
      refine Z.iload_n C dX7_strakeBehind_30 rfl ?_
      refine Z.cVId C 0 1 (m_strakeOf l D cI cJ cL ad hf at_ wg lf cf dy ti bh ln thr nw lg nt sl dd il M hM hR k (by omega) (by omega)) rfl rfl gX7_strakeBehind_X7_strakeOf rfl rfl rfl (by decide +kernel) ⟨Nat.le_of_ble_eq_true rfl, Nat.le_of_ble_eq_true rfl⟩ rfl rfl (Nat.le_of_ble_eq_true rfl) ⟨Nat.le_of_ble_eq_true rfl, Nat.le_of_ble_eq_true rfl⟩ dX7_strakeBehind_31 ?_
      refine Z.icmpgt C 57 dX7_strakeBehind_34 (by decide) (⟨by omega, by omega⟩) (⟨by omega, by omega⟩) (fun h4 => ?_) (fun h4 => ?_)
      · refine Z.iconst C dX7_strakeBehind_57 ?_
        refine Z.goto C 62 dX7_strakeBehind_58 (by decide) ?_
        refine Z.iadd C dX7_strakeBehind_62 ?_
        refine Z.istore C dX7_strakeBehind_63 (by decide) ?_
        refine Z.iinc C dX7_strakeBehind_65 rfl (by decide) ?_
        refine Z.goto C 15 dX7_strakeBehind_68 (by decide) ?_
        rw [rk_1 (Or.inl h4)]
        exact ih2 (o + 1) (by omega) (by omega)
      · skip
        refine Z.aload_n C dX7_strakeBehind_37 rfl ?_
        refine Z.iload C dX7_strakeBehind_38 rfl ?_
        refine Z.cVId C 0 1 (m_strakeOf l D cI cJ cL ad hf at_ wg lf cf dy ti bh ln thr nw lg nt sl dd il M hM hR o (by omega) (by omega)) rfl rfl gX7_strakeBehind_X7_strakeOf rfl rfl rfl (by decide +kernel) ⟨Nat.le_of_ble_eq_true rfl, Nat.le_of_ble_eq_true rfl⟩ rfl rfl (Nat.le_of_ble_eq_true rfl) ⟨Nat.le_of_ble_eq_true rfl, Nat.le_of_ble_eq_true rfl⟩ dX7_strakeBehind_40 ?_
        refine Z.aload_n C dX7_strakeBehind_43 rfl ?_
        refine Z.iload_n C dX7_strakeBehind_44 rfl ?_
        refine Z.cVId C 0 1 (m_strakeOf l D cI cJ cL ad hf at_ wg lf cf dy ti bh ln thr nw lg nt sl dd il M hM hR k (by omega) (by omega)) rfl rfl gX7_strakeBehind_X7_strakeOf rfl rfl rfl (by decide +kernel) ⟨Nat.le_of_ble_eq_true rfl, Nat.le_of_ble_eq_true rfl⟩ rfl rfl (Nat.le_of_ble_eq_true rfl) ⟨Nat.le_of_ble_eq_true rfl, Nat.le_of_ble_eq_true rfl⟩ dX7_strakeBehind_45 ?_
        refine Z.icmpne C 61 dX7_strakeBehind_48 (by decide) (⟨by omega, by omega⟩) (⟨by omega, by omega⟩) (fun h5 => ?_) (fun h5 => ?_)
        · refine Z.iconst C dX7_strakeBehind_61 ?_
          refine Z.iadd C dX7_strakeBehind_62 ?_
          refine Z.istore C dX7_strakeBehind_63 (by decide) ?_
          refine Z.iinc C dX7_strakeBehind_65 rfl (by decide) ?_
          refine Z.goto C 15 dX7_strakeBehind_68 (by decide) ?_
          rw [rk_0 (by omega)]
          exact ih2 (o + 1) (by omega) (by omega)
        · skip
          refine Z.iload C dX7_strakeBehind_51 rfl ?_
          refine Z.iload_n C dX7_strakeBehind_53 rfl ?_
          refine Z.icmpge C 61 dX7_strakeBehind_54 (by decide) (⟨by omega, by omega⟩) (⟨by omega, by omega⟩) (fun h6 => ?_) (fun h6 => ?_)
          · refine Z.iconst C dX7_strakeBehind_61 ?_
            refine Z.iadd C dX7_strakeBehind_62 ?_
            refine Z.istore C dX7_strakeBehind_63 (by decide) ?_
            refine Z.iinc C dX7_strakeBehind_65 rfl (by decide) ?_
            refine Z.goto C 15 dX7_strakeBehind_68 (by decide) ?_
            rw [rk_0 (by omega)]
            exact ih2 (o + 1) (by omega) (by omega)
          · skip
            refine Z.iconst C dX7_strakeBehind_57 ?_
            refine Z.goto C 62 dX7_strakeBehind_58 (by decide) ?_
            refine Z.iadd C dX7_strakeBehind_62 ?_
            refine Z.istore C dX7_strakeBehind_63 (by decide) ?_
            refine Z.iinc C dX7_strakeBehind_65 rfl (by decide) ?_
            refine Z.goto C 15 dX7_strakeBehind_68 (by decide) ?_
            rw [rk_1 (Or.inr ⟨h5, h6⟩)]
            exact ih2 (o + 1) (by omega) (by omega)
