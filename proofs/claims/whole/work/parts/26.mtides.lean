/-! ===== the reference: tides ===== -/
def pcZ (dy : Int → Int) (x n0 : Int) : Nat → Int
  | 0 => n0
  | k + 1 => if dy k = x then (k : Int) else pcZ dy x n0 k
theorem pcZ_pl (dy : Int → Int) (x n0 : Int) : ∀ n : Nat, pcZ dy x n0 n = if plZ dy x n = -1 then n0 else plZ dy x n
  | 0 => rfl
  | n + 1 => by
    by_cases e : dy n = x
    · have e1 : pcZ dy x n0 (n + 1) = n := if_pos e
      have e2 : plZ dy x (n + 1) = n := if_pos e
      rw [e1, e2, if_neg (by omega)]
    · have e1 : pcZ dy x n0 (n + 1) = pcZ dy x n0 n := if_neg e
      have e2 : plZ dy x (n + 1) = plZ dy x n := if_neg e
      rw [e1, e2]
      exact pcZ_pl dy x n0 n
theorem pcZ_bd {dy : Int → Int} {x n0 : Int} (n : Nat) (h0 : 0 ≤ n0) (h1 : (n : Int) ≤ n0) : 0 ≤ pcZ dy x n0 n ∧ pcZ dy x n0 n ≤ n0 := by
  rw [pcZ_pl]
  rcases plZ_cases (td := dy) (day := x) n with ⟨q, -⟩ | ⟨k, q1, q2, -⟩
  · rw [if_pos q]; omega
  · rw [if_neg (by omega)]; omega
theorem tdZ_cong {td th td' th' : Int → Int} {x : Int} : ∀ n : Nat, (∀ j : Nat, j < n → td j = td' j ∧ th j = th' j) → tdZ td th x n = tdZ td' th' x n
  | 0, _ => rfl
  | n + 1, h => by
    simp only [tdZ]
    rw [(h n (Nat.lt_succ_self n)).1, (h n (Nat.lt_succ_self n)).2, tdZ_cong n (fun j hj => h j (by omega))]
theorem plZ_cong {td td' : Int → Int} {x : Int} : ∀ n : Nat, (∀ j : Nat, j < n → td j = td' j) → plZ td x n = plZ td' x n
  | 0, _ => rfl
  | n + 1, h => by
    simp only [plZ]
    rw [h n (Nat.lt_succ_self n), plZ_cong n (fun j hj => h j (by omega))]
theorem tdZ_bd {td th : Int → Int} {x : Int} (h : ∀ j : Int, 0 ≤ th j ∧ th j ≤ 99) : ∀ n : Nat, 0 ≤ tdZ td th x n ∧ tdZ td th x n ≤ 99
  | 0 => by simp only [tdZ]; omega
  | n + 1 => by
    have ih := tdZ_bd (td := td) (x := x) h n
    have := h n
    simp only [tdZ]
    split <;> omega
set_option maxRecDepth 20000 in
theorem iw_X7_tideOn_7 : ∀ w ∈ u_ws RX7 TX7 16, w ∈ wsX7_tideOn := by decide +kernel
abbrev rmX7_tideOn : Room := { frames := 0, cells := 0, slots := 0, locals := 0 }
set_option maxHeartbeats 4000000 in
set_option maxRecDepth 100000 in
theorem m_tideOn (l : Launch) (D : va_G) (cI cJ cL : ClassId) (ad : Nat → Nat) (hf at_ wg lf cf dy ti bh ln : Int → Int) (thr nw lg nt sl dd il : Int) (hn0 : 0 ≤ nt) (hn1 : nt ≤ 40) (hd : ∀ j : Int, 0 ≤ dy j ∧ dy j ≤ 9999) (x : Int) (hx0 : 0 ≤ x) (hx1 : x ≤ 10000) : CI l yX7_tideOn wsX7_tideOn rmX7_tideOn [.ref (ad 0), .int (iI x)] D cI cJ cL (wM ad cI hf at_ wg lf cf dy ti bh ln thr nw lg nt sl dd il) (fun r w' => r = tdZ dy ti x nt.toNat ∧ w' = (wM ad cI hf at_ wg lf cf dy ti bh ln thr nw lg nt sl dd il)) := by
  refine CI.of (cc := cX7_tideOn) (maxL := 4) (ret := (some .int)) (own := RX7) _ 2 (by decide +kernel) rfl rfl rfl (Nat.le_of_ble_eq_true rfl) rfl (fun sz9 p9 e9 s9 m9 a9 b9 h9 c9 C hr => ?_)
  refine Z.bipush C dX7_tideOn_0 (by decide) ?_
  refine Z.iload_n C dX7_tideOn_2 rfl ?_
  refine Z.imul C dX7_tideOn_3 ?_
  refine Z.iconst C dX7_tideOn_4 ?_
  refine Z.iadd C dX7_tideOn_5 ?_
  refine Z.bipush C dX7_tideOn_6 (by decide) ?_
  refine Z.irem C dX7_tideOn_8 (by omega) (by omega) (by omega) (by omega) ?_
  refine Z.istore_n C dX7_tideOn_9 (by decide) ?_
  refine Z.iconst C dX7_tideOn_10 ?_
  refine Z.istore_n C dX7_tideOn_11 (by decide) ?_
  refine Z.loop (α := Nat) (fun _ => (wM ad cI hf at_ wg lf cf dy ti bh ln thr nw lg nt sl dd il)) (fun k => [.ref (ad 0), .int (iI x), .int (iI (tdZ dy ti x k)), .int (iI k)]) (fun k => k ≤ nt.toNat) (fun k => nt.toNat - k) 0 (by omega) rfl rfl (fun k hk ih => ?_)
  refine Z.iload_n C dX7_tideOn_12 rfl ?_
  refine Z.aload_n C dX7_tideOn_13 rfl ?_
  refine Z.getf C 0 8 iw_X7_tideOn_7 rfl rfl (by decide) (by decide +kernel) rfl dX7_tideOn_14 ?_
  refine Z.icmpge C 47 dX7_tideOn_17 (by decide) (⟨by omega, by omega⟩) (⟨by omega, by omega⟩) (fun h => ?_) (fun h => ?_)
  · refine Z.iload_n C dX7_tideOn_47 rfl ?_
    exact Z.iret C hr dX7_tideOn_48 (⟨by rw [show k = nt.toNat by omega], rfl⟩)
  · have b1 := hd k
    refine Z.aload_n C dX7_tideOn_20 rfl ?_
    refine Z.getf C 0 9 iw_X7_tideOn_7 rfl rfl (by decide) (by decide +kernel) rfl dX7_tideOn_21 ?_
    refine Z.iload_n C dX7_tideOn_24 rfl ?_
    refine Z.iald C 6 rfl (by omega) (by omega) (by decide) dX7_tideOn_25 ?_
    refine Z.iload_n C dX7_tideOn_26 rfl ?_
    refine Z.icmpne C 39 dX7_tideOn_27 (by decide) (⟨by omega, by omega⟩) (⟨by omega, by omega⟩) (fun q => ?_) (fun q => ?_)
    · refine Z.iload_n C dX7_tideOn_39 rfl ?_
      refine Z.istore_n C dX7_tideOn_40 (by decide) ?_
      refine Z.iinc C dX7_tideOn_41 rfl (by decide) ?_
      refine Z.goto C 12 dX7_tideOn_44 (by decide) ?_
      have e : tdZ dy ti x (k + 1) = tdZ dy ti x k := by simp only [tdZ]; rw [if_neg q]
      rw [← e]
      exact ih (k + 1) (by omega) (by omega)
    · refine Z.aload_n C dX7_tideOn_30 rfl ?_
      refine Z.getf C 0 10 iw_X7_tideOn_7 rfl rfl (by decide) (by decide +kernel) rfl dX7_tideOn_31 ?_
      refine Z.iload_n C dX7_tideOn_34 rfl ?_
      refine Z.iald C 7 rfl (by omega) (by omega) (by decide) dX7_tideOn_35 ?_
      refine Z.goto C 40 dX7_tideOn_36 (by decide) ?_
      refine Z.istore_n C dX7_tideOn_40 (by decide) ?_
      refine Z.iinc C dX7_tideOn_41 rfl (by decide) ?_
      refine Z.goto C 12 dX7_tideOn_44 (by decide) ?_
      have e : tdZ dy ti x (k + 1) = ti k := by simp only [tdZ]; rw [if_pos q]
      rw [← e]
      exact ih (k + 1) (by omega) (by omega)
set_option maxRecDepth 20000 in
theorem iw_X7_tide_7 : ∀ w ∈ u_ws RX7 TX7 16, w ∈ wsX7_tide := by decide +kernel
abbrev rmX7_tide : Room := { frames := 1, cells := 0, slots := 0, locals := 23 }
set_option maxHeartbeats 4000000 in
set_option maxRecDepth 100000 in
theorem m_tide (l : Launch) (D : va_G) (cI cJ cL : ClassId) (ad : Nat → Nat) (hf at_ wg lf cf dy ti bh ln : Int → Int) (thr nw lg nt sl dd il : Int) (hn0 : 0 ≤ nt) (hn1 : nt ≤ 40) (hd : ∀ j : Int, 0 ≤ dy j ∧ dy j ≤ 9999) (x y : Int) (hx : inr x) (hy : inr y) : CI l yX7_tide wsX7_tide rmX7_tide [.ref (ad 0), .int (iI x), .int (iI y)] D cI cJ cL (wM ad cI hf at_ wg lf cf dy ti bh ln thr nw lg nt sl dd il) (fun r w' => (¬ ((0 ≤ x ∧ x ≤ 9999) ∧ (0 ≤ y ∧ y ≤ 99)) ∧ w' = (wM ad cI hf at_ wg lf cf dy ti bh ln 1 nw lg nt sl dd il)) ∨ (((0 ≤ x ∧ x ≤ 9999) ∧ (0 ≤ y ∧ y ≤ 99)) ∧ pcZ dy x nt nt.toNat = 40 ∧ w' = (wM ad cI hf at_ wg lf cf dy ti bh ln 2 nw lg nt sl dd il)) ∨ (((0 ≤ x ∧ x ≤ 9999) ∧ (0 ≤ y ∧ y ≤ 99)) ∧ pcZ dy x nt nt.toNat ≠ 40 ∧ r = tdZ dy ti x nt.toNat ∧ w' = (wM ad cI hf at_ wg lf cf (zset dy (pcZ dy x nt nt.toNat) x) (zset ti (pcZ dy x nt nt.toNat) y) bh ln 0 nw lg (if pcZ dy x nt nt.toNat = nt then nt + 1 else nt) sl dd il))) := by
  refine CI.of (cc := cX7_tide) (maxL := 5) (ret := (some .int)) (own := RX7) _ 2 (by decide +kernel) rfl rfl rfl (Nat.le_of_ble_eq_true rfl) rfl (fun sz9 p9 e9 s9 m9 a9 b9 h9 c9 C hr => ?_)
  refine Z.cut (α := Int) 27 (fun _ => (wM ad cI hf at_ wg lf cf dy ti bh ln thr nw lg nt sl dd il)) (fun _ => [.ref (ad 0), .int (iI x), .int (iI y), .null, .null]) (fun k => [.int (iI k), .ref (ad 0)]) (fun k => (k = 1 ∧ ¬ ((0 ≤ x ∧ x ≤ 9999) ∧ (0 ≤ y ∧ y ≤ 99))) ∨ (k = 0 ∧ ((0 ≤ x ∧ x ≤ 9999) ∧ (0 ≤ y ∧ y ≤ 99)))) (fun k hk => ?_) (fun join => ?_)
  · have hki : inr k := by rcases hk with ⟨q, -⟩ | ⟨q, -⟩ <;> exact ⟨by omega, by omega⟩
    refine Z.putf C 0 0 iw_X7_tide_7 rfl rfl (by decide) tyX7 tyX7_ok nmX7 (by decide +kernel) rfl (ty := .int) (by decide +kernel) rfl rfl (Nat.le_of_ble_eq_true rfl) dX7_tide_27 wM_s_thr ?_
    refine Z.aload_n C dX7_tide_30 rfl ?_
    refine Z.getf C 0 0 iw_X7_tide_7 rfl rfl (by decide) (by decide +kernel) rfl dX7_tide_31 ?_
    refine Z.ifle C 39 dX7_tide_34 (by decide) (hki) (fun h1 => ?_) (fun h1 => ?_)
    · rcases hk with ⟨q, -⟩ | ⟨q, hr1⟩
      · omega
      · subst q
        have hp := pcZ_bd (dy := dy) (x := x) (n0 := nt) nt.toNat hn0 (by omega)
        refine Z.aload_n C dX7_tide_39 rfl ?_
        refine Z.getf C 0 8 iw_X7_tide_7 rfl rfl (by decide) (by decide +kernel) rfl dX7_tide_40 ?_
        refine Z.istore_n C dX7_tide_43 (by decide) ?_
        refine Z.iconst C dX7_tide_44 ?_
        refine Z.istore C dX7_tide_45 (by decide) ?_
        refine Z.loop (α := Nat) (fun _ => (wM ad cI hf at_ wg lf cf dy ti bh ln 0 nw lg nt sl dd il)) (fun k => [.ref (ad 0), .int (iI x), .int (iI y), .int (iI (pcZ dy x nt k)), .int (iI k)]) (fun k => k ≤ nt.toNat) (fun k => nt.toNat - k) 0 (by omega) rfl rfl (fun k hk ih => ?_)
        refine Z.iload C dX7_tide_47 rfl ?_
        refine Z.aload_n C dX7_tide_49 rfl ?_
        refine Z.getf C 0 8 iw_X7_tide_7 rfl rfl (by decide) (by decide +kernel) rfl dX7_tide_50 ?_
        refine Z.icmpge C 80 dX7_tide_53 (by decide) (⟨by omega, by omega⟩) (⟨by omega, by omega⟩) (fun h2 => ?_) (fun h2 => ?_)
        · rw [show k = nt.toNat by omega]
          generalize pcZ dy x nt nt.toNat = pc at hp
          refine Z.aload_n C dX7_tide_80 rfl ?_
          refine Z.iload_n C dX7_tide_81 rfl ?_
          refine Z.bipush C dX7_tide_82 (by decide) ?_
          refine Z.icmpne C 91 dX7_tide_84 (by decide) (⟨by omega, by omega⟩) (⟨by omega, by omega⟩) (fun h3 => ?_) (fun h3 => ?_)
          · refine Z.iconst C dX7_tide_91 ?_
            refine Z.putf C 0 0 iw_X7_tide_7 rfl rfl (by decide) tyX7 tyX7_ok nmX7 (by decide +kernel) rfl (ty := .int) (by decide +kernel) rfl rfl (Nat.le_of_ble_eq_true rfl) dX7_tide_92 wM_s_thr ?_
            refine Z.aload_n C dX7_tide_95 rfl ?_
            refine Z.getf C 0 0 iw_X7_tide_7 rfl rfl (by decide) (by decide +kernel) rfl dX7_tide_96 ?_
            refine Z.ifle C 104 dX7_tide_99 (by decide) (⟨by omega, by omega⟩) (fun h4 => ?_) (fun h4 => ?_)
            · refine Z.aload_n C dX7_tide_104 rfl ?_
              refine Z.iload_n C dX7_tide_105 rfl ?_
              refine Z.cVId C 0 1 (m_tideOn l D cI cJ cL ad hf at_ wg lf cf dy ti bh ln 0 nw lg nt sl dd il hn0 hn1 hd x (by omega) (by omega)) rfl rfl gX7_tide_X7_tideOn rfl rfl rfl (by decide +kernel) ⟨Nat.le_of_ble_eq_true rfl, Nat.le_of_ble_eq_true rfl⟩ rfl rfl (Nat.le_of_ble_eq_true rfl) ⟨Nat.le_of_ble_eq_true rfl, Nat.le_of_ble_eq_true rfl⟩ dX7_tide_106 ?_
              refine Z.istore C dX7_tide_109 (by decide) ?_
              refine Z.aload_n C dX7_tide_111 rfl ?_
              refine Z.getf C 0 9 iw_X7_tide_7 rfl rfl (by decide) (by decide +kernel) rfl dX7_tide_112 ?_
              refine Z.iload_n C dX7_tide_115 rfl ?_
              refine Z.iload_n C dX7_tide_116 rfl ?_
              refine Z.iast C 6 rfl (by omega) (by omega) (by decide) dX7_tide_117 wM_a6 ?_
              refine Z.aload_n C dX7_tide_118 rfl ?_
              refine Z.getf C 0 10 iw_X7_tide_7 rfl rfl (by decide) (by decide +kernel) rfl dX7_tide_119 ?_
              refine Z.iload_n C dX7_tide_122 rfl ?_
              refine Z.iload_n C dX7_tide_123 rfl ?_
              refine Z.iast C 7 rfl (by omega) (by omega) (by decide) dX7_tide_124 wM_a7 ?_
              refine Z.aload_n C dX7_tide_125 rfl ?_
              refine Z.dup C dX7_tide_126 rfl ?_
              refine Z.getf C 0 8 iw_X7_tide_7 rfl rfl (by decide) (by decide +kernel) rfl dX7_tide_127 ?_
              refine Z.iload_n C dX7_tide_130 rfl ?_
              refine Z.aload_n C dX7_tide_131 rfl ?_
              refine Z.getf C 0 8 iw_X7_tide_7 rfl rfl (by decide) (by decide +kernel) rfl dX7_tide_132 ?_
              refine Z.icmpne C 142 dX7_tide_135 (by decide) (⟨by omega, by omega⟩) (⟨by omega, by omega⟩) (fun h5 => ?_) (fun h5 => ?_)
              · refine Z.iconst C dX7_tide_142 ?_
                refine Z.iadd C dX7_tide_143 ?_
                refine Z.putf C 0 8 iw_X7_tide_7 rfl rfl (by decide) tyX7 tyX7_ok nmX7 (by decide +kernel) rfl (ty := .int) (by decide +kernel) rfl rfl (Nat.le_of_ble_eq_true rfl) dX7_tide_144 wM_s_nt ?_
                refine Z.iload C dX7_tide_147 rfl ?_
                rw [show nt + 0 = nt by omega]
                exact Z.iret C hr dX7_tide_149 ((Or.inr (Or.inr ⟨hr1, h3, rfl, by rw [if_neg h5]⟩)))
              · skip
                refine Z.iconst C dX7_tide_138 ?_
                refine Z.goto C 143 dX7_tide_139 (by decide) ?_
                refine Z.iadd C dX7_tide_143 ?_
                refine Z.putf C 0 8 iw_X7_tide_7 rfl rfl (by decide) tyX7 tyX7_ok nmX7 (by decide +kernel) rfl (ty := .int) (by decide +kernel) rfl rfl (Nat.le_of_ble_eq_true rfl) dX7_tide_144 wM_s_nt ?_
                refine Z.iload C dX7_tide_147 rfl ?_
                exact Z.iret C hr dX7_tide_149 ((Or.inr (Or.inr ⟨hr1, h3, rfl, by rw [if_pos h5]⟩)))
            · omega
          · skip
            refine Z.iconst C dX7_tide_87 ?_
            refine Z.goto C 92 dX7_tide_88 (by decide) ?_
            refine Z.putf C 0 0 iw_X7_tide_7 rfl rfl (by decide) tyX7 tyX7_ok nmX7 (by decide +kernel) rfl (ty := .int) (by decide +kernel) rfl rfl (Nat.le_of_ble_eq_true rfl) dX7_tide_92 wM_s_thr ?_
            refine Z.aload_n C dX7_tide_95 rfl ?_
            refine Z.getf C 0 0 iw_X7_tide_7 rfl rfl (by decide) (by decide +kernel) rfl dX7_tide_96 ?_
            refine Z.ifle C 104 dX7_tide_99 (by decide) (⟨by omega, by omega⟩) (fun h4 => ?_) (fun h4 => ?_)
            · omega
            · refine Z.iconst C dX7_tide_102 ?_
              exact Z.iret C hr dX7_tide_103 ((Or.inr (Or.inl ⟨hr1, h3, rfl⟩)))
        · have b1 := hd k
          refine Z.aload_n C dX7_tide_56 rfl ?_
          refine Z.getf C 0 9 iw_X7_tide_7 rfl rfl (by decide) (by decide +kernel) rfl dX7_tide_57 ?_
          refine Z.iload C dX7_tide_60 rfl ?_
          refine Z.iald C 6 rfl (by omega) (by omega) (by decide) dX7_tide_62 ?_
          refine Z.iload_n C dX7_tide_63 rfl ?_
          refine Z.icmpne C 72 dX7_tide_64 (by decide) (⟨by omega, by omega⟩) (⟨by omega, by omega⟩) (fun q => ?_) (fun q => ?_)
          · refine Z.iload_n C dX7_tide_72 rfl ?_
            refine Z.istore_n C dX7_tide_73 (by decide) ?_
            refine Z.iinc C dX7_tide_74 rfl (by decide) ?_
            refine Z.goto C 47 dX7_tide_77 (by decide) ?_
            have e : pcZ dy x nt (k + 1) = pcZ dy x nt k := by simp only [pcZ]; rw [if_neg q]
            rw [← e]
            exact ih (k + 1) (by omega) (by omega)
          · refine Z.iload C dX7_tide_67 rfl ?_
            refine Z.goto C 73 dX7_tide_69 (by decide) ?_
            refine Z.istore_n C dX7_tide_73 (by decide) ?_
            refine Z.iinc C dX7_tide_74 rfl (by decide) ?_
            refine Z.goto C 47 dX7_tide_77 (by decide) ?_
            have e : pcZ dy x nt (k + 1) = k := by simp only [pcZ]; rw [if_pos q]
            have z := ih (k + 1) (by omega) (by omega)
            rw [e] at z
            exact z
    · rcases hk with ⟨q, hr1⟩ | ⟨q, -⟩
      · subst q
        refine Z.iconst C dX7_tide_37 ?_
        exact Z.iret C hr dX7_tide_38 ((Or.inl ⟨hr1, rfl⟩))
      · omega
  · skip
    refine Z.aload_n C dX7_tide_0 rfl ?_
    refine Z.iload_n C dX7_tide_1 rfl ?_
    refine Z.iconst C dX7_tide_2 ?_
    refine Z.sipush C dX7_tide_3 (by decide) ?_
    refine Z.cSIp C 3 (m_in l D cI cJ cL x 0 9999 hx ⟨by decide, by decide⟩ ⟨by decide, by decide⟩) gX7_tide_X7_in rfl rfl rfl (by decide +kernel) ⟨Nat.le_of_ble_eq_true rfl, Nat.le_of_ble_eq_true rfl⟩ rfl rfl (Nat.le_of_ble_eq_true rfl) ⟨Nat.le_of_ble_eq_true rfl, Nat.le_of_ble_eq_true rfl⟩ dX7_tide_6 ?_
    refine Z.ifeq C 26 dX7_tide_9 (by decide) ((inZ_r _ _ _)) (fun h1 => ?_) (fun h1 => ?_)
    · have q1 := inZ_0 h1
      refine Z.iconst C dX7_tide_26 ?_
      exact join 1 (Or.inl ⟨rfl, fun z => q1 z.1⟩)
    · have q1 := inZ_1 h1
      refine Z.iload_n C dX7_tide_12 rfl ?_
      refine Z.iconst C dX7_tide_13 ?_
      refine Z.bipush C dX7_tide_14 (by decide) ?_
      refine Z.cSIp C 3 (m_in l D cI cJ cL y 0 99 hy ⟨by decide, by decide⟩ ⟨by decide, by decide⟩) gX7_tide_X7_in rfl rfl rfl (by decide +kernel) ⟨Nat.le_of_ble_eq_true rfl, Nat.le_of_ble_eq_true rfl⟩ rfl rfl (Nat.le_of_ble_eq_true rfl) ⟨Nat.le_of_ble_eq_true rfl, Nat.le_of_ble_eq_true rfl⟩ dX7_tide_16 ?_
      refine Z.ifeq C 26 dX7_tide_19 (by decide) ((inZ_r _ _ _)) (fun h2 => ?_) (fun h2 => ?_)
      · have q2 := inZ_0 h2
        refine Z.iconst C dX7_tide_26 ?_
        exact join 1 (Or.inl ⟨rfl, fun z => q2 z.2⟩)
      · have q2 := inZ_1 h2
        refine Z.iconst C dX7_tide_22 ?_
        refine Z.goto C 27 dX7_tide_23 (by decide) ?_
        exact join 0 (Or.inr ⟨rfl, q1, q2⟩)
set_option maxRecDepth 20000 in
theorem iw_X7_sill_7 : ∀ w ∈ u_ws RX7 TX7 16, w ∈ wsX7_sill := by decide +kernel
abbrev rmX7_sill : Room := { frames := 1, cells := 0, slots := 0, locals := 22 }
set_option maxHeartbeats 4000000 in
set_option maxRecDepth 100000 in
theorem m_sill (l : Launch) (D : va_G) (cI cJ cL : ClassId) (ad : Nat → Nat) (hf at_ wg lf cf dy ti bh ln : Int → Int) (thr nw lg nt sl dd il : Int) (x : Int) (hx : inr x) : CI l yX7_sill wsX7_sill rmX7_sill [.ref (ad 0), .int (iI x)] D cI cJ cL (wM ad cI hf at_ wg lf cf dy ti bh ln thr nw lg nt sl dd il) (fun r w' => (¬ (0 ≤ x ∧ x ≤ 50) ∧ w' = (wM ad cI hf at_ wg lf cf dy ti bh ln 1 nw lg nt sl dd il)) ∨ ((0 ≤ x ∧ x ≤ 50) ∧ r = sl ∧ w' = (wM ad cI hf at_ wg lf cf dy ti bh ln 0 nw lg nt x dd il))) := by
  refine CI.of (cc := cX7_sill) (maxL := 3) (ret := (some .int)) (own := RX7) _ 1 (by decide +kernel) rfl rfl rfl (Nat.le_of_ble_eq_true rfl) rfl (fun sz9 p9 e9 s9 m9 a9 b9 h9 c9 C hr => ?_)
  refine Z.aload_n C dX7_sill_0 rfl ?_
  refine Z.iload_n C dX7_sill_1 rfl ?_
  refine Z.iconst C dX7_sill_2 ?_
  refine Z.bipush C dX7_sill_3 (by decide) ?_
  refine Z.cSIp C 3 (m_in l D cI cJ cL x 0 50 hx ⟨by decide, by decide⟩ ⟨by decide, by decide⟩) gX7_sill_X7_in rfl rfl rfl (by decide +kernel) ⟨Nat.le_of_ble_eq_true rfl, Nat.le_of_ble_eq_true rfl⟩ rfl rfl (Nat.le_of_ble_eq_true rfl) ⟨Nat.le_of_ble_eq_true rfl, Nat.le_of_ble_eq_true rfl⟩ dX7_sill_5 ?_
  refine Z.ifeq C 15 dX7_sill_8 (by decide) ((inZ_r _ _ _)) (fun h1 => ?_) (fun h1 => ?_)
  · have q1 := inZ_0 h1
    refine Z.iconst C dX7_sill_15 ?_
    refine Z.putf C 0 0 iw_X7_sill_7 rfl rfl (by decide) tyX7 tyX7_ok nmX7 (by decide +kernel) rfl (ty := .int) (by decide +kernel) rfl rfl (Nat.le_of_ble_eq_true rfl) dX7_sill_16 wM_s_thr ?_
    refine Z.aload_n C dX7_sill_19 rfl ?_
    refine Z.getf C 0 0 iw_X7_sill_7 rfl rfl (by decide) (by decide +kernel) rfl dX7_sill_20 ?_
    refine Z.ifle C 28 dX7_sill_23 (by decide) (⟨by omega, by omega⟩) (fun h2 => ?_) (fun h2 => ?_)
    · omega
    · refine Z.iconst C dX7_sill_26 ?_
      exact Z.iret C hr dX7_sill_27 ((Or.inl ⟨q1, rfl⟩))
  · have q1 := inZ_1 h1
    refine Z.iconst C dX7_sill_11 ?_
    refine Z.goto C 16 dX7_sill_12 (by decide) ?_
    refine Z.putf C 0 0 iw_X7_sill_7 rfl rfl (by decide) tyX7 tyX7_ok nmX7 (by decide +kernel) rfl (ty := .int) (by decide +kernel) rfl rfl (Nat.le_of_ble_eq_true rfl) dX7_sill_16 wM_s_thr ?_
    refine Z.aload_n C dX7_sill_19 rfl ?_
    refine Z.getf C 0 0 iw_X7_sill_7 rfl rfl (by decide) (by decide +kernel) rfl dX7_sill_20 ?_
    refine Z.ifle C 28 dX7_sill_23 (by decide) (⟨by omega, by omega⟩) (fun h2 => ?_) (fun h2 => ?_)
    · refine Z.aload_n C dX7_sill_28 rfl ?_
      refine Z.getf C 0 11 iw_X7_sill_7 rfl rfl (by decide) (by decide +kernel) rfl dX7_sill_29 ?_
      refine Z.istore_n C dX7_sill_32 (by decide) ?_
      refine Z.aload_n C dX7_sill_33 rfl ?_
      refine Z.iload_n C dX7_sill_34 rfl ?_
      refine Z.putf C 0 11 iw_X7_sill_7 rfl rfl (by decide) tyX7 tyX7_ok nmX7 (by decide +kernel) rfl (ty := .int) (by decide +kernel) rfl rfl (Nat.le_of_ble_eq_true rfl) dX7_sill_35 wM_s_sl ?_
      refine Z.iload_n C dX7_sill_38 rfl ?_
      exact Z.iret C hr dX7_sill_39 ((Or.inr ⟨q1, rfl, rfl⟩))
    · omega
def ndZ (M : Int → Int → Int) (load mo sill : Int) : Int := if drZ (VM M) load = -1 then -1 else 10 * drZ (VM M) load + sill + absZ (tmZ M load mo) / 10
theorem ndZ_bd {M : Int → Int → Int} (hM : hOK M) {load mo sill : Int} (h0 : 0 ≤ mo) (hl : 0 ≤ load) (h : mo ≤ 16 * load) (hs : 0 ≤ sill) (hs1 : sill ≤ 50) : -1 ≤ ndZ M load mo sill ∧ ndZ M load mo sill ≤ 1000 := by
  have ht := tmZ_bd hM h0 hl h
  have ha := absZ_bd (a := tmZ M load mo) (k := 1600) (by omega) (by omega)
  have hd := drZ_bd (VM M) load
  unfold ndZ
  split <;> omega
set_option maxRecDepth 20000 in
theorem iw_X7_neededNow_7 : ∀ w ∈ u_ws RX7 TX7 16, w ∈ wsX7_neededNow := by decide +kernel
abbrev rmX7_neededNow : Room := { frames := 5, cells := 0, slots := 0, locals := 113 }
set_option maxHeartbeats 4000000 in
set_option maxRecDepth 100000 in
theorem m_neededNow (l : Launch) (D : va_G) (cI cJ cL : ClassId) (ad : Nat → Nat) (hf at_ wg lf cf dy ti bh ln : Int → Int) (thr nw lg nt sl dd il : Int) (M : Int → Int → Int) (hM : hOK M) (hR : RH M hf) (x y : Int) (hld : ldZ wg 17 = x) (hmo : msZ wg at_ 17 = y) (hx0 : 0 ≤ x) (hx1 : x ≤ 1000000) (hy0 : 0 ≤ y) (hy1 : y ≤ 16 * x) : CI l yX7_neededNow wsX7_neededNow rmX7_neededNow [.ref (ad 0)] D cI cJ cL (wM ad cI hf at_ wg lf cf dy ti bh ln thr nw lg nt sl dd il) (fun r w' => r = ndZ M x y sl ∧ w' = (wM ad cI hf at_ wg lf cf dy ti bh ln thr nw lg nt sl dd il)) := by
  have ht := tmZ_bd hM hy0 hx0 hy1
  have ha := absZ_bd (a := tmZ M x y) (k := 1600) (by omega) (by omega)
  refine CI.of (cc := cX7_neededNow) (maxL := 2) (ret := (some .int)) (own := RX7) _ 1 (by decide +kernel) rfl rfl rfl (Nat.le_of_ble_eq_true rfl) rfl (fun sz9 p9 e9 s9 m9 a9 b9 h9 c9 C hr => ?_)
  refine Z.aload_n C dX7_neededNow_0 rfl ?_
  refine Z.cVId C 0 0 (m_draughtNow l D cI cJ cL ad hf at_ wg lf cf dy ti bh ln thr nw lg nt sl dd il M hM hR x hld hx0 (by omega)) rfl rfl gX7_neededNow_X7_draughtNow rfl rfl rfl (by decide +kernel) ⟨Nat.le_of_ble_eq_true rfl, Nat.le_of_ble_eq_true rfl⟩ rfl rfl (Nat.le_of_ble_eq_true rfl) ⟨Nat.le_of_ble_eq_true rfl, Nat.le_of_ble_eq_true rfl⟩ dX7_neededNow_1 ?_
  have b0 := drZ_bd (VM M) x
  refine Z.istore_n C dX7_neededNow_4 (by decide) ?_
  refine Z.iload_n C dX7_neededNow_5 rfl ?_
  refine Z.iconst C dX7_neededNow_6 ?_
  refine Z.icmpne C 14 dX7_neededNow_7 (by decide) (⟨by omega, by omega⟩) (⟨by omega, by omega⟩) (fun h => ?_) (fun h => ?_)
  · refine Z.bipush C dX7_neededNow_14 (by decide) ?_
    refine Z.iload_n C dX7_neededNow_16 rfl ?_
    refine Z.imul C dX7_neededNow_17 ?_
    refine Z.aload_n C dX7_neededNow_18 rfl ?_
    refine Z.getf C 0 11 iw_X7_neededNow_7 rfl rfl (by decide) (by decide +kernel) rfl dX7_neededNow_19 ?_
    refine Z.iadd C dX7_neededNow_22 ?_
    refine Z.aload_n C dX7_neededNow_23 rfl ?_
    refine Z.cVId C 0 0 (m_trimNow l D cI cJ cL ad hf at_ wg lf cf dy ti bh ln thr nw lg nt sl dd il M hM hR x y hld hmo hx0 hx1 hy0 hy1) rfl rfl gX7_neededNow_X7_trimNow rfl rfl rfl (by decide +kernel) ⟨Nat.le_of_ble_eq_true rfl, Nat.le_of_ble_eq_true rfl⟩ rfl rfl (Nat.le_of_ble_eq_true rfl) ⟨Nat.le_of_ble_eq_true rfl, Nat.le_of_ble_eq_true rfl⟩ dX7_neededNow_24 ?_
    refine Z.cSIp C 1 (m_size l D cI cJ cL (tmZ M x y) ⟨by omega, by omega⟩) gX7_neededNow_X7_size rfl rfl rfl (by decide +kernel) ⟨Nat.le_of_ble_eq_true rfl, Nat.le_of_ble_eq_true rfl⟩ rfl rfl (Nat.le_of_ble_eq_true rfl) ⟨Nat.le_of_ble_eq_true rfl, Nat.le_of_ble_eq_true rfl⟩ dX7_neededNow_27 ?_
    refine Z.bipush C dX7_neededNow_30 (by decide) ?_
    refine Z.idiv C dX7_neededNow_32 (by omega) (by omega) (by omega) (by omega) ?_
    refine Z.iadd C dX7_neededNow_33 ?_
    exact Z.iret C hr dX7_neededNow_34 (⟨by unfold ndZ; rw [if_neg h], rfl⟩)
  · refine Z.iconst C dX7_neededNow_10 ?_
    refine Z.goto C 34 dX7_neededNow_11 (by decide) ?_
    exact Z.iret C hr dX7_neededNow_34 (⟨by unfold ndZ; rw [if_pos h], rfl⟩)
set_option maxRecDepth 20000 in
theorem iw_X7_needed_7 : ∀ w ∈ u_ws RX7 TX7 16, w ∈ wsX7_needed := by decide +kernel
abbrev rmX7_needed : Room := { frames := 6, cells := 0, slots := 0, locals := 134 }
set_option maxHeartbeats 4000000 in
set_option maxRecDepth 100000 in
theorem m_needed (l : Launch) (D : va_G) (cI cJ cL : ClassId) (ad : Nat → Nat) (hf at_ wg lf cf dy ti bh ln : Int → Int) (thr nw lg nt sl dd il : Int) (M : Int → Int → Int) (hM : hOK M) (hR : RH M hf) (x y : Int) (hld : ldZ wg 17 = x) (hmo : msZ wg at_ 17 = y) (hx0 : 0 ≤ x) (hx1 : x ≤ 1000000) (hy0 : 0 ≤ y) (hy1 : y ≤ 16 * x) : CI l yX7_needed wsX7_needed rmX7_needed [.ref (ad 0)] D cI cJ cL (wM ad cI hf at_ wg lf cf dy ti bh ln thr nw lg nt sl dd il) (fun r w' => r = ndZ M x y sl ∧ w' = (wM ad cI hf at_ wg lf cf dy ti bh ln 0 nw lg nt sl dd il)) := by
  refine CI.of (cc := cX7_needed) (maxL := 1) (ret := (some .int)) (own := RX7) _ 0 (by decide +kernel) rfl rfl rfl (Nat.le_of_ble_eq_true rfl) rfl (fun sz9 p9 e9 s9 m9 a9 b9 h9 c9 C hr => ?_)
  refine Z.aload_n C dX7_needed_0 rfl ?_
  refine Z.iconst C dX7_needed_1 ?_
  refine Z.putf C 0 0 iw_X7_needed_7 rfl rfl (by decide) tyX7 tyX7_ok nmX7 (by decide +kernel) rfl (ty := .int) (by decide +kernel) rfl rfl (Nat.le_of_ble_eq_true rfl) dX7_needed_2 wM_s_thr ?_
  refine Z.aload_n C dX7_needed_5 rfl ?_
  refine Z.cVId C 0 0 (m_neededNow l D cI cJ cL ad hf at_ wg lf cf dy ti bh ln 0 nw lg nt sl dd il M hM hR x y hld hmo hx0 hx1 hy0 hy1) rfl rfl gX7_needed_X7_neededNow rfl rfl rfl (by decide +kernel) ⟨Nat.le_of_ble_eq_true rfl, Nat.le_of_ble_eq_true rfl⟩ rfl rfl (Nat.le_of_ble_eq_true rfl) ⟨Nat.le_of_ble_eq_true rfl, Nat.le_of_ble_eq_true rfl⟩ dX7_needed_6 ?_
  exact Z.iret C hr dX7_needed_9 (⟨rfl, rfl⟩)
def daD (T : Int → Int) (need tod : Int) : Nat → Int
  | 0 => -1
  | k + 1 => if need ≤ T (tod + ((99 - k : Nat) : Int)) then tod + ((99 - k : Nat) : Int) else daD T need tod k
theorem daD_step {T : Int → Int} {need tod : Int} {a : Nat} (ha : a ≤ 99) : daD T need tod (100 - a) = if need ≤ T (tod + a) then tod + a else daD T need tod (99 - a) := by
  obtain ⟨j, hj⟩ : ∃ j, 100 - a = j + 1 := ⟨99 - a, by omega⟩
  have e : 99 - a = j := by omega
  have e2 : 99 - j = a := by omega
  rw [hj, e]
  simp only [daD]
  rw [e2]
theorem daD_bd {T : Int → Int} {need tod : Int} (h : 0 ≤ tod) : ∀ k : Nat, -1 ≤ daD T need tod k ∧ daD T need tod k ≤ tod + 99
  | 0 => by simp only [daD]; omega
  | k + 1 => by
    have := daD_bd (T := T) (need := need) h k
    simp only [daD]
    split <;> omega
theorem daD_cong {T T' : Int → Int} {need tod : Int} : ∀ k : Nat, (∀ a : Nat, a ≤ 99 → T (tod + a) = T' (tod + a)) → daD T need tod k = daD T' need tod k
  | 0, _ => rfl
  | k + 1, h => by
    simp only [daD]
    rw [h (99 - k) (by omega), daD_cong k h]
set_option maxRecDepth 20000 in
theorem iw_X7_day_7 : ∀ w ∈ u_ws RX7 TX7 16, w ∈ wsX7_day := by decide +kernel
abbrev rmX7_day : Room := { frames := 6, cells := 0, slots := 0, locals := 134 }
set_option maxHeartbeats 4000000 in
set_option maxRecDepth 100000 in
theorem m_day (l : Launch) (D : va_G) (cI cJ cL : ClassId) (ad : Nat → Nat) (hf at_ wg lf cf dy ti bh ln : Int → Int) (thr nw lg nt sl dd il : Int) (M : Int → Int → Int) (hM : hOK M) (hR : RH M hf) (x y : Int) (hld : ldZ wg 17 = x) (hmo : msZ wg at_ 17 = y) (hx0 : 0 ≤ x) (hx1 : x ≤ 1000000) (hy0 : 0 ≤ y) (hy1 : y ≤ 16 * x) (hs0 : 0 ≤ sl) (hs1 : sl ≤ 50) (hn0 : 0 ≤ nt) (hn1 : nt ≤ 40) (hd : ∀ j : Int, 0 ≤ dy j ∧ dy j ≤ 9999) (hti : ∀ j : Int, 0 ≤ ti j ∧ ti j ≤ 99) (hd0 : 0 ≤ dd) (hd1 : dd ≤ 9000) (hil : il = 0 ∨ il = 1) : CI l yX7_day wsX7_day rmX7_day [.ref (ad 0)] D cI cJ cL (wM ad cI hf at_ wg lf cf dy ti bh ln thr nw lg nt sl dd il) (fun r w' => r = (if ndZ M x y sl = -1 ∨ il = 1 then -1 else daD (fun d => tdZ dy ti d nt.toNat) (ndZ M x y sl) dd 100) ∧ w' = (wM ad cI hf at_ wg lf cf dy ti bh ln 0 nw lg nt sl dd il)) := by
  have hnb := ndZ_bd hM hy0 hx0 hy1 hs0 hs1
  refine CI.of (cc := cX7_day) (maxL := 4) (ret := (some .int)) (own := RX7) _ 3 (by decide +kernel) rfl rfl rfl (Nat.le_of_ble_eq_true rfl) rfl (fun sz9 p9 e9 s9 m9 a9 b9 h9 c9 C hr => ?_)
  refine Z.aload_n C dX7_day_0 rfl ?_
  refine Z.iconst C dX7_day_1 ?_
  refine Z.putf C 0 0 iw_X7_day_7 rfl rfl (by decide) tyX7 tyX7_ok nmX7 (by decide +kernel) rfl (ty := .int) (by decide +kernel) rfl rfl (Nat.le_of_ble_eq_true rfl) dX7_day_2 wM_s_thr ?_
  refine Z.aload_n C dX7_day_5 rfl ?_
  refine Z.cVId C 0 0 (m_neededNow l D cI cJ cL ad hf at_ wg lf cf dy ti bh ln 0 nw lg nt sl dd il M hM hR x y hld hmo hx0 hx1 hy0 hy1) rfl rfl gX7_day_X7_neededNow rfl rfl rfl (by decide +kernel) ⟨Nat.le_of_ble_eq_true rfl, Nat.le_of_ble_eq_true rfl⟩ rfl rfl (Nat.le_of_ble_eq_true rfl) ⟨Nat.le_of_ble_eq_true rfl, Nat.le_of_ble_eq_true rfl⟩ dX7_day_6 ?_
  generalize ndZ M x y sl = nd at hnb
  refine Z.istore_n C dX7_day_9 (by decide) ?_
  refine Z.iconst C dX7_day_10 ?_
  refine Z.istore_n C dX7_day_11 (by decide) ?_
  refine Z.aload_n C dX7_day_12 rfl ?_
  refine Z.getf C 0 12 iw_X7_day_7 rfl rfl (by decide) (by decide +kernel) rfl dX7_day_13 ?_
  refine Z.bipush C dX7_day_16 (by decide) ?_
  refine Z.iadd C dX7_day_18 ?_
  refine Z.istore_n C dX7_day_19 (by decide) ?_
  refine Z.loop (α := Nat) (fun _ => (wM ad cI hf at_ wg lf cf dy ti bh ln 0 nw lg nt sl dd il)) (fun k => [.ref (ad 0), .int (iI nd), .int (iI (daD (fun d => tdZ dy ti d nt.toNat) nd dd (100 - k))), .int (iI (dd + ((k : Int) - 1)))]) (fun k => k ≤ 100 ∧ (k < 100 → nd ≠ -1 ∧ il = 0)) (fun k => k) 100 ⟨by omega, fun h => absurd h (by omega)⟩ rfl rfl (fun k hk ih => ?_)
  obtain ⟨hk, hk2⟩ := hk
  refine Z.iload_n C dX7_day_20 rfl ?_
  refine Z.aload_n C dX7_day_21 rfl ?_
  refine Z.getf C 0 12 iw_X7_day_7 rfl rfl (by decide) (by decide +kernel) rfl dX7_day_22 ?_
  refine Z.icmplt C 61 dX7_day_25 (by decide) (⟨by omega, by omega⟩) (⟨by omega, by omega⟩) (fun h => ?_) (fun h => ?_)
  · have hz := hk2 (by omega)
    refine Z.iload_n C dX7_day_61 rfl ?_
    exact Z.iret C hr dX7_day_62 (⟨by rw [if_neg (by omega), show k = 0 by omega], rfl⟩)
  · refine Z.iload_n C dX7_day_28 rfl ?_
    refine Z.iconst C dX7_day_29 ?_
    refine Z.icmpeq C 61 dX7_day_30 (by decide) (⟨by omega, by omega⟩) (⟨by omega, by omega⟩) (fun h2 => ?_) (fun h2 => ?_)
    · have e : 100 - k = 0 := by
        by_cases q : k < 100
        · exact absurd h2 (hk2 q).1
        · omega
      refine Z.iload_n C dX7_day_61 rfl ?_
      exact Z.iret C hr dX7_day_62 (⟨by rw [if_pos (Or.inl h2), e]; rfl, rfl⟩)
    · refine Z.aload_n C dX7_day_33 rfl ?_
      refine Z.getf C 0 13 iw_X7_day_7 rfl rfl (by decide) (by decide +kernel) rfl dX7_day_34 ?_
      refine Z.ifne C 61 dX7_day_37 (by decide) (⟨by omega, by omega⟩) (fun h3 => ?_) (fun h3 => ?_)
      · have e : 100 - k = 0 := by
          by_cases q : k < 100
          · exact absurd (hk2 q).2 h3
          · omega
        refine Z.iload_n C dX7_day_61 rfl ?_
        exact Z.iret C hr dX7_day_62 (⟨by rw [if_pos (Or.inr (by omega)), e]; rfl, rfl⟩)
      · obtain ⟨a, rfl⟩ : ∃ a : Nat, k = a + 1 := ⟨k - 1, by omega⟩
        have hst := daD_step (T := fun d => tdZ dy ti d nt.toNat) (need := nd) (tod := dd) (a := a) (by omega)
        have htb := tdZ_bd (td := dy) (x := dd + a) hti nt.toNat
        rw [show ((a + 1 : Nat) : Int) - 1 = a by omega, show 100 - (a + 1) = 99 - a by omega]
        refine Z.aload_n C dX7_day_40 rfl ?_
        refine Z.iload_n C dX7_day_41 rfl ?_
        refine Z.cVId C 0 1 (m_tideOn l D cI cJ cL ad hf at_ wg lf cf dy ti bh ln 0 nw lg nt sl dd il hn0 hn1 hd (dd + a) (by omega) (by omega)) rfl rfl gX7_day_X7_tideOn rfl rfl rfl (by decide +kernel) ⟨Nat.le_of_ble_eq_true rfl, Nat.le_of_ble_eq_true rfl⟩ rfl rfl (Nat.le_of_ble_eq_true rfl) ⟨Nat.le_of_ble_eq_true rfl, Nat.le_of_ble_eq_true rfl⟩ dX7_day_42 ?_
        refine Z.iload_n C dX7_day_45 rfl ?_
        refine Z.icmplt C 53 dX7_day_46 (by decide) (⟨by omega, by omega⟩) (⟨by omega, by omega⟩) (fun h4 => ?_) (fun h4 => ?_)
        · rw [if_neg (by omega)] at hst
          refine Z.iload_n C dX7_day_53 rfl ?_
          refine Z.istore_n C dX7_day_54 (by decide) ?_
          refine Z.iinc C dX7_day_55 rfl (by decide) ?_
          refine Z.goto C 20 dX7_day_58 (by decide) ?_
          rw [show dd + (a : Int) + -1 = dd + (a - 1) by omega, ← hst]
          exact ih a ⟨by omega, fun _ => ⟨h2, h3⟩⟩ (by omega)
        · rw [if_pos (by omega)] at hst
          refine Z.iload_n C dX7_day_49 rfl ?_
          refine Z.goto C 54 dX7_day_50 (by decide) ?_
          refine Z.istore_n C dX7_day_54 (by decide) ?_
          refine Z.iinc C dX7_day_55 rfl (by decide) ?_
          refine Z.goto C 20 dX7_day_58 (by decide) ?_
          have z := ih a ⟨by omega, fun _ => ⟨h2, h3⟩⟩ (by omega)
          rw [hst] at z
          rw [show dd + (a : Int) + -1 = dd + (a - 1) by omega]
          exact z
set_option maxRecDepth 20000 in
theorem iw_X7_launch_7 : ∀ w ∈ u_ws RX7 TX7 16, w ∈ wsX7_launch := by decide +kernel
abbrev rmX7_launch : Room := { frames := 6, cells := 0, slots := 0, locals := 134 }
set_option maxHeartbeats 4000000 in
set_option maxRecDepth 100000 in
theorem m_launch (l : Launch) (D : va_G) (cI cJ cL : ClassId) (ad : Nat → Nat) (hf at_ wg lf cf dy ti bh ln : Int → Int) (thr nw lg nt sl dd il : Int) (M : Int → Int → Int) (hM : hOK M) (hR : RH M hf) (x y : Int) (hld : ldZ wg 17 = x) (hmo : msZ wg at_ 17 = y) (hx0 : 0 ≤ x) (hx1 : x ≤ 1000000) (hy0 : 0 ≤ y) (hy1 : y ≤ 16 * x) (hs0 : 0 ≤ sl) (hs1 : sl ≤ 50) (hn0 : 0 ≤ nt) (hn1 : nt ≤ 40) (hd : ∀ j : Int, 0 ≤ dy j ∧ dy j ≤ 9999) (hti : ∀ j : Int, 0 ≤ ti j ∧ ti j ≤ 99) (hd0 : 0 ≤ dd) (hd1 : dd ≤ 9000) (hil : il = 0 ∨ il = 1) : CI l yX7_launch wsX7_launch rmX7_launch [.ref (ad 0)] D cI cJ cL (wM ad cI hf at_ wg lf cf dy ti bh ln thr nw lg nt sl dd il) (fun r w' => ((il = 1 ∨ ndZ M x y sl = -1 ∨ tdZ dy ti dd nt.toNat < ndZ M x y sl) ∧ w' = (wM ad cI hf at_ wg lf cf dy ti bh ln 1 nw lg nt sl dd il)) ∨ (¬ (il = 1 ∨ ndZ M x y sl = -1 ∨ tdZ dy ti dd nt.toNat < ndZ M x y sl) ∧ r = tdZ dy ti dd nt.toNat - ndZ M x y sl ∧ w' = (wM ad cI hf at_ wg lf cf dy ti bh ln 0 nw lg nt sl dd 1))) := by
  have hnb := ndZ_bd hM hy0 hx0 hy1 hs0 hs1
  have htb := tdZ_bd (td := dy) (x := dd) hti nt.toNat
  refine CI.of (cc := cX7_launch) (maxL := 2) (ret := (some .int)) (own := RX7) _ 1 (by decide +kernel) rfl rfl rfl (Nat.le_of_ble_eq_true rfl) rfl (fun sz9 p9 e9 s9 m9 a9 b9 h9 c9 C hr => ?_)
  refine Z.aload_n C dX7_launch_0 rfl ?_
  refine Z.cVId C 0 0 (m_neededNow l D cI cJ cL ad hf at_ wg lf cf dy ti bh ln thr nw lg nt sl dd il M hM hR x y hld hmo hx0 hx1 hy0 hy1) rfl rfl gX7_launch_X7_neededNow rfl rfl rfl (by decide +kernel) ⟨Nat.le_of_ble_eq_true rfl, Nat.le_of_ble_eq_true rfl⟩ rfl rfl (Nat.le_of_ble_eq_true rfl) ⟨Nat.le_of_ble_eq_true rfl, Nat.le_of_ble_eq_true rfl⟩ dX7_launch_1 ?_
  generalize ndZ M x y sl = nd at hnb
  refine Z.cut (α := Int) 35 (fun _ => (wM ad cI hf at_ wg lf cf dy ti bh ln thr nw lg nt sl dd il)) (fun _ => [.ref (ad 0), .int (iI nd)]) (fun k => [.int (iI k), .ref (ad 0)]) (fun k => (k = 1 ∧ (il = 1 ∨ nd = -1 ∨ tdZ dy ti dd nt.toNat < nd)) ∨ (k = 0 ∧ ¬ (il = 1 ∨ nd = -1 ∨ tdZ dy ti dd nt.toNat < nd))) (fun k hk => ?_) (fun join => ?_)
  · have hki : inr k := by rcases hk with ⟨q, -⟩ | ⟨q, -⟩ <;> exact ⟨by omega, by omega⟩
    refine Z.putf C 0 0 iw_X7_launch_7 rfl rfl (by decide) tyX7 tyX7_ok nmX7 (by decide +kernel) rfl (ty := .int) (by decide +kernel) rfl rfl (Nat.le_of_ble_eq_true rfl) dX7_launch_35 wM_s_thr ?_
    refine Z.aload_n C dX7_launch_38 rfl ?_
    refine Z.getf C 0 0 iw_X7_launch_7 rfl rfl (by decide) (by decide +kernel) rfl dX7_launch_39 ?_
    refine Z.ifle C 47 dX7_launch_42 (by decide) (hki) (fun h1 => ?_) (fun h1 => ?_)
    · rcases hk with ⟨q, -⟩ | ⟨q, hr1⟩
      · omega
      · subst q
        refine Z.aload_n C dX7_launch_47 rfl ?_
        refine Z.iconst C dX7_launch_48 ?_
        refine Z.putf C 0 13 iw_X7_launch_7 rfl rfl (by decide) tyX7 tyX7_ok nmX7 (by decide +kernel) rfl (ty := .boolean) (by decide +kernel) rfl rfl (Nat.le_of_ble_eq_true rfl) dX7_launch_49 wM_s_il ?_
        refine Z.aload_n C dX7_launch_52 rfl ?_
        refine Z.aload_n C dX7_launch_53 rfl ?_
        refine Z.getf C 0 12 iw_X7_launch_7 rfl rfl (by decide) (by decide +kernel) rfl dX7_launch_54 ?_
        refine Z.cVId C 0 1 (m_tideOn l D cI cJ cL ad hf at_ wg lf cf dy ti bh ln 0 nw lg nt sl dd 1 hn0 hn1 hd dd (by omega) (by omega)) rfl rfl gX7_launch_X7_tideOn rfl rfl rfl (by decide +kernel) ⟨Nat.le_of_ble_eq_true rfl, Nat.le_of_ble_eq_true rfl⟩ rfl rfl (Nat.le_of_ble_eq_true rfl) ⟨Nat.le_of_ble_eq_true rfl, Nat.le_of_ble_eq_true rfl⟩ dX7_launch_57 ?_
        refine Z.iload_n C dX7_launch_60 rfl ?_
        refine Z.isub C dX7_launch_61 ?_
        exact Z.iret C hr dX7_launch_62 ((Or.inr ⟨hr1, rfl, rfl⟩))
    · rcases hk with ⟨q, hr1⟩ | ⟨q, -⟩
      · subst q
        refine Z.iconst C dX7_launch_45 ?_
        exact Z.iret C hr dX7_launch_46 ((Or.inl ⟨hr1, rfl⟩))
      · omega
  · skip
    refine Z.istore_n C dX7_launch_4 (by decide) ?_
    refine Z.aload_n C dX7_launch_5 rfl ?_
    refine Z.aload_n C dX7_launch_6 rfl ?_
    refine Z.getf C 0 13 iw_X7_launch_7 rfl rfl (by decide) (by decide +kernel) rfl dX7_launch_7 ?_
    refine Z.ifne C 30 dX7_launch_10 (by decide) (⟨by omega, by omega⟩) (fun h1 => ?_) (fun h1 => ?_)
    · refine Z.iconst C dX7_launch_30 ?_
      refine Z.goto C 35 dX7_launch_31 (by decide) ?_
      exact join 1 (Or.inl ⟨rfl, Or.inl (by omega)⟩)
    · refine Z.iload_n C dX7_launch_13 rfl ?_
      refine Z.iconst C dX7_launch_14 ?_
      refine Z.icmpeq C 30 dX7_launch_15 (by decide) (⟨by omega, by omega⟩) (⟨by omega, by omega⟩) (fun h2 => ?_) (fun h2 => ?_)
      · refine Z.iconst C dX7_launch_30 ?_
        refine Z.goto C 35 dX7_launch_31 (by decide) ?_
        exact join 1 (Or.inl ⟨rfl, Or.inr (Or.inl h2)⟩)
      · refine Z.aload_n C dX7_launch_18 rfl ?_
        refine Z.aload_n C dX7_launch_19 rfl ?_
        refine Z.getf C 0 12 iw_X7_launch_7 rfl rfl (by decide) (by decide +kernel) rfl dX7_launch_20 ?_
        refine Z.cVId C 0 1 (m_tideOn l D cI cJ cL ad hf at_ wg lf cf dy ti bh ln thr nw lg nt sl dd il hn0 hn1 hd dd (by omega) (by omega)) rfl rfl gX7_launch_X7_tideOn rfl rfl rfl (by decide +kernel) ⟨Nat.le_of_ble_eq_true rfl, Nat.le_of_ble_eq_true rfl⟩ rfl rfl (Nat.le_of_ble_eq_true rfl) ⟨Nat.le_of_ble_eq_true rfl, Nat.le_of_ble_eq_true rfl⟩ dX7_launch_23 ?_
        refine Z.iload_n C dX7_launch_26 rfl ?_
        refine Z.icmpge C 34 dX7_launch_27 (by decide) (⟨by omega, by omega⟩) (⟨by omega, by omega⟩) (fun h3 => ?_) (fun h3 => ?_)
        · refine Z.iconst C dX7_launch_34 ?_
          exact join 0 (Or.inr ⟨rfl, by omega⟩)
        · refine Z.iconst C dX7_launch_30 ?_
          refine Z.goto C 35 dX7_launch_31 (by decide) ?_
          exact join 1 (Or.inl ⟨rfl, Or.inr (Or.inr h3)⟩)
def tcPass (x tod : Int) : Int := if ¬ (1 ≤ x ∧ x ≤ 99) then 1 else if 9000 < tod + x then 2 else 0
set_option maxRecDepth 20000 in
theorem iw_X7_pass_7 : ∀ w ∈ u_ws RX7 TX7 16, w ∈ wsX7_pass := by decide +kernel
abbrev rmX7_pass : Room := { frames := 1, cells := 0, slots := 0, locals := 22 }
set_option maxHeartbeats 4000000 in
set_option maxRecDepth 100000 in
theorem m_pass (l : Launch) (D : va_G) (cI cJ cL : ClassId) (ad : Nat → Nat) (hf at_ wg lf cf dy ti bh ln : Int → Int) (thr nw lg nt sl dd il : Int) (hd0 : 0 ≤ dd) (hd1 : dd ≤ 9000) (x : Int) (hx : inr x) : CI l yX7_pass wsX7_pass rmX7_pass [.ref (ad 0), .int (iI x)] D cI cJ cL (wM ad cI hf at_ wg lf cf dy ti bh ln thr nw lg nt sl dd il) (fun r w' => (tcPass x dd ≠ 0 ∧ w' = (wM ad cI hf at_ wg lf cf dy ti bh ln (tcPass x dd) nw lg nt sl dd il)) ∨ (tcPass x dd = 0 ∧ r = dd + x ∧ w' = (wM ad cI hf at_ wg lf cf dy ti bh ln 0 nw lg nt sl (dd + x) il))) := by
  refine CI.of (cc := cX7_pass) (maxL := 2) (ret := (some .int)) (own := RX7) _ 0 (by decide +kernel) rfl rfl rfl (Nat.le_of_ble_eq_true rfl) rfl (fun sz9 p9 e9 s9 m9 a9 b9 h9 c9 C hr => ?_)
  refine Z.cut (α := Int) 32 (fun _ => (wM ad cI hf at_ wg lf cf dy ti bh ln thr nw lg nt sl dd il)) (fun _ => [.ref (ad 0), .int (iI x)]) (fun k => [.int (iI k), .ref (ad 0)]) (fun k => k = tcPass x dd ∧ 0 ≤ k ∧ k ≤ 2) (fun k hk => ?_) (fun join => ?_)
  · obtain ⟨hk, k0, k3⟩ := hk
    refine Z.putf C 0 0 iw_X7_pass_7 rfl rfl (by decide) tyX7 tyX7_ok nmX7 (by decide +kernel) rfl (ty := .int) (by decide +kernel) rfl rfl (Nat.le_of_ble_eq_true rfl) dX7_pass_32 wM_s_thr ?_
    refine Z.aload_n C dX7_pass_35 rfl ?_
    refine Z.getf C 0 0 iw_X7_pass_7 rfl rfl (by decide) (by decide +kernel) rfl dX7_pass_36 ?_
    refine Z.ifle C 44 dX7_pass_39 (by decide) (⟨by omega, by omega⟩) (fun h1 => ?_) (fun h1 => ?_)
    · have e0 : k = 0 := by omega
      subst e0
      refine Z.aload_n C dX7_pass_44 rfl ?_
      refine Z.dup C dX7_pass_45 rfl ?_
      refine Z.getf C 0 12 iw_X7_pass_7 rfl rfl (by decide) (by decide +kernel) rfl dX7_pass_46 ?_
      refine Z.iload_n C dX7_pass_49 rfl ?_
      refine Z.iadd C dX7_pass_50 ?_
      refine Z.putf C 0 12 iw_X7_pass_7 rfl rfl (by decide) tyX7 tyX7_ok nmX7 (by decide +kernel) rfl (ty := .int) (by decide +kernel) rfl rfl (Nat.le_of_ble_eq_true rfl) dX7_pass_51 wM_s_dd ?_
      refine Z.aload_n C dX7_pass_54 rfl ?_
      refine Z.getf C 0 12 iw_X7_pass_7 rfl rfl (by decide) (by decide +kernel) rfl dX7_pass_55 ?_
      exact Z.iret C hr dX7_pass_58 ((Or.inr ⟨hk.symm, rfl, rfl⟩))
    · refine Z.iconst C dX7_pass_42 ?_
      exact Z.iret C hr dX7_pass_43 ((Or.inl ⟨by omega, by rw [hk]⟩))
  · skip
    refine Z.aload_n C dX7_pass_0 rfl ?_
    refine Z.iload_n C dX7_pass_1 rfl ?_
    refine Z.iconst C dX7_pass_2 ?_
    refine Z.bipush C dX7_pass_3 (by decide) ?_
    refine Z.cSIp C 3 (m_in l D cI cJ cL x 1 99 hx ⟨by decide, by decide⟩ ⟨by decide, by decide⟩) gX7_pass_X7_in rfl rfl rfl (by decide +kernel) ⟨Nat.le_of_ble_eq_true rfl, Nat.le_of_ble_eq_true rfl⟩ rfl rfl (Nat.le_of_ble_eq_true rfl) ⟨Nat.le_of_ble_eq_true rfl, Nat.le_of_ble_eq_true rfl⟩ dX7_pass_5 ?_
    refine Z.ifne C 15 dX7_pass_8 (by decide) ((inZ_r _ _ _)) (fun h3 => ?_) (fun h3 => ?_)
    · have q3 := inZ_1 h3
      refine Z.aload_n C dX7_pass_15 rfl ?_
      refine Z.getf C 0 12 iw_X7_pass_7 rfl rfl (by decide) (by decide +kernel) rfl dX7_pass_16 ?_
      refine Z.iload_n C dX7_pass_19 rfl ?_
      refine Z.iadd C dX7_pass_20 ?_
      refine Z.sipush C dX7_pass_21 (by decide) ?_
      refine Z.icmple C 31 dX7_pass_24 (by decide) (⟨by omega, by omega⟩) (⟨by omega, by omega⟩) (fun h4 => ?_) (fun h4 => ?_)
      · refine Z.iconst C dX7_pass_31 ?_
        exact join 0 ⟨by unfold tcPass; rw [if_neg (by omega), if_neg (by omega)], by omega, by omega⟩
      · refine Z.iconst C dX7_pass_27 ?_
        refine Z.goto C 32 dX7_pass_28 (by decide) ?_
        exact join 2 ⟨by unfold tcPass; rw [if_neg (by omega), if_pos h4], by omega, by omega⟩
    · have q3 := inZ_0 h3
      refine Z.iconst C dX7_pass_11 ?_
      refine Z.goto C 32 dX7_pass_12 (by decide) ?_
      exact join 1 ⟨by unfold tcPass; rw [if_pos q3], by omega, by omega⟩
