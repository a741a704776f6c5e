/-! ===== the law's planksOf ===== -/
theorem wP_a0 {q : Nat} {c : ClassId} {n : Nat} {g f : Int → Int} {w2 : va_W} : ([(q, aI c n g)] ++ w2).set 0 (q, aI c n f) = [(q, aI c n f)] ++ w2 := rfl
theorem agN.zero {le f : Int → Int} {n : Int} (h : agN le f n) (hz : le n = 0) : agN le (zset f n 0) (n + 1) := by
  intro j h0 h1
  by_cases e : j = n
  · subst e; rw [zset_eq]; exact hz
  · rw [zset_ne _ e]; exact h j h0 (by omega)
abbrev rmL_planksOf : Room := { frames := 2, cells := 1, slots := 64, locals := 43 }
set_option maxHeartbeats 4000000 in
set_option maxRecDepth 100000 in
theorem q_planksOf (l : Launch) (D : va_G) (cI cJ cL : ClassId) (aq : Nat → Nat) (hf at_ wg dy ti gg : Int → Int) (M : Int → Int → Int) (hM : hOK M) (hR : RH M hf) (asked pl : Int) (ha0 : -1 ≤ asked) (ha1 : asked < 10) (hp : 300 ≤ pl) (hp2 : pl ≤ 4000) : XI l yL_planksOf wsL_planksOf rmL_planksOf [.int (iI asked), .ref (aq 0), .int (iI pl)] D cI cJ cL (wA aq cI hf at_ wg dy ti gg) 1 64 (fun r w' => ((asked = -1 → r = (plS pl (LsM M) 5).2.1) ∧ ∀ j y : Int, 0 ≤ j → j < 5 → (y = 0 ∨ y = 1) → asked = 2 * j + y → r = if y = 0 then (plS pl (LsM M) 5).2.2.1 j else (plS pl (LsM M) 5).2.2.2 j) ∧ w' = (wA aq cI hf at_ wg dy ti gg)) (fun _ _ => False) := by
  have hLb : ∀ j : Int, 80 ≤ LsM M j ∧ LsM M j ≤ 1680 := fun j => by
    have h := strZ_bd hM j 8
    unfold LsM
    omega
  have hpk := pk_bd (pl := pl) (by omega) hp2 hM
  refine XI.of (cc := cL_planksOf) (maxL := 10) (ret := (some .int)) (own := RL) _ 7 (by decide +kernel) rfl rfl rfl (Nat.le_of_ble_eq_true rfl) rfl (fun sz9 p9 e9 s9 m9 a9 b9 h9 c9 C hr hnx => ?_)
  refine Z.bipush C dL_planksOf_0 (by decide) ?_
  refine Z.newa C (by decide +kernel) 64 rfl (by decide) (Nat.le_of_ble_eq_true rfl) (Nat.le_of_ble_eq_true rfl) dL_planksOf_2 (fun q => ?_)
  refine Z.swap ?_
  refine Z.astore_n C dL_planksOf_4 (by decide) ?_
  refine Z.iconst C dL_planksOf_5 ?_
  refine Z.istore C dL_planksOf_6 (by decide) ?_
  refine Z.iconst C dL_planksOf_8 ?_
  refine Z.istore C dL_planksOf_9 (by decide) ?_
  refine Z.iconst C dL_planksOf_11 ?_
  refine Z.istore C dL_planksOf_12 (by decide) ?_
  refine Z.loop (α := Nat × Nat × (Int → Int) × Int × Value × Value × Value) (fun y => [(q, aI cI 64 y.2.2.1)] ++ (wA aq cI hf at_ wg dy ti gg)) (fun y => [.int (iI asked), .ref (aq 0), .int (iI pl), .ref q, .int (iI (pk_ pl (LsM M) y.1).2), .int (iI y.2.2.2.1), .int (iI (y.2.1 : Int)), y.2.2.2.2.1, y.2.2.2.2.2.1, y.2.2.2.2.2.2]) (fun y => y.1 ≤ 10 ∧ ctP (LsM M) y.1 y.2.1 ∧ agN y.2.2.1 (pk_ pl (LsM M) y.1).1 (pk_ pl (LsM M) y.1).2 ∧ (∀ j : Int, (pk_ pl (LsM M) y.1).2 ≤ j → j < 64 → y.2.2.1 j = 0) ∧ (pk_ pl (LsM M) y.1).2 ≤ 6 * (y.1 : Int) ∧ frP pl (LsM M) y.1 asked y.2.2.2.1) (fun y => 10 - y.1) (0, 0, (fun _ => 0), -1, .null, .null, .null) ⟨by decide, ctP_0 _, fun j h0 h1 => by simp only [pk_] at h1; omega, fun _ _ _ => rfl, by simp [pk_], frP_0 _ _ _ _⟩ rfl rfl (fun y hy ih => ?_)
  obtain ⟨i, c, lf, fr, v7, v8, v9⟩ := y
  dsimp only at hy ih ⊢
  obtain ⟨hi, hct, hag, hz, hn6, hfr⟩ := hy
  obtain ⟨hbd, hn0, -⟩ := hpk i hi
  have hc := hct.1
  refine Z.iload C dL_planksOf_14 rfl ?_
  refine Z.sipush C dL_planksOf_16 (by decide) ?_
  refine Z.icmpge C 178 dL_planksOf_19 (by decide) (⟨by omega, by omega⟩) (⟨by omega, by omega⟩) (fun h => ?_) (fun h => ?_)
  · have e10 : i = 10 := by
      apply Classical.byContradiction
      intro z
      have := ctP_lt hct (by omega)
      omega
    subst e10
    have hpl := (plS_pk pl (LsM M) 5).2
    refine Z.iload_n C dL_planksOf_178 rfl ?_
    refine Z.iconst C dL_planksOf_179 ?_
    refine Z.icmpne C 188 dL_planksOf_180 (by decide) (⟨by omega, by omega⟩) (⟨by omega, by omega⟩) (fun h2 => ?_) (fun h2 => ?_)
    · skip
      refine Z.iload C dL_planksOf_188 rfl ?_
      refine Z.re (ws' := (wA aq cI hf at_ wg dy ti gg)) [1, 2, 3, 4, 5, 6] (by decide) rfl rfl ?_
      exact Z.iretX C hr (Nat.le_of_ble_eq_true rfl) (Nat.le_of_ble_eq_true rfl) dL_planksOf_190 (⟨⟨fun z => absurd z h2, fun j y j0 j1 hy hq => frP_end j0 j1 hy (hq ▸ hfr)⟩, rfl⟩)
    · skip
      refine Z.iload C dL_planksOf_183 rfl ?_
      refine Z.goto C 190 dL_planksOf_185 (by decide) ?_
      refine Z.re (ws' := (wA aq cI hf at_ wg dy ti gg)) [1, 2, 3, 4, 5, 6] (by decide) rfl rfl ?_
      exact Z.iretX C hr (Nat.le_of_ble_eq_true rfl) (Nat.le_of_ble_eq_true rfl) dL_planksOf_190 (⟨⟨fun _ => hpl.symm, fun j y j0 j1 hy hq => by omega⟩, rfl⟩)
  · have hi10 : i < 10 := by
      apply Classical.byContradiction
      intro z
      have e10 : i = 10 := by omega
      subst e10
      have := ctP_10 hct
      omega
    refine Z.iconst C dL_planksOf_22 ?_
    refine Z.istore C dL_planksOf_23 (by decide) ?_
    refine Z.bipush C dL_planksOf_25 (by decide) ?_
    refine Z.istore C dL_planksOf_27 (by decide) ?_
    refine Z.loop (α := Nat × Int) (fun y => [(q, aI cI 64 lf)] ++ (wA aq cI hf at_ wg dy ti gg)) (fun y => [.int (iI asked), .ref (aq 0), .int (iI pl), .ref q, .int (iI (pk_ pl (LsM M) i).2), .int (iI fr), .int (iI (c : Int)), .int (iI y.2), .int (iI ((y.1 : Int) - 1)), v9]) (fun y => y.1 ≤ 10 ∧ nxP (LsM M) i y.1 y.2) (fun y => y.1) (10, -1) ⟨by decide, nxP_0 _ _⟩ rfl rfl (fun y hy ih2 => ?_)
    obtain ⟨n, nx⟩ := y
    dsimp only at hy ih2 ⊢
    obtain ⟨hn, hnx⟩ := hy
    have hnxr : -1 ≤ nx ∧ nx < 10 := by
      rcases hnx with ⟨q1, -⟩ | ⟨q1, q2, -, -⟩ <;> omega
    refine Z.iload C dL_planksOf_29 rfl ?_
    refine Z.iflt C 79 dL_planksOf_31 (by decide) (⟨by omega, by omega⟩) (fun h2 => ?_) (fun h2 => ?_)
    · have e0 : n = 0 := by omega
      subst e0
      obtain ⟨g1, g2, g3⟩ := nxP_end hi10 hnx
      have hsk := pos_sk (LsM M) hi10 g1 g2 g3
      obtain ⟨nn, rfl⟩ : ∃ nn : Nat, nx = nn := ⟨nx.toNat, by omega⟩
      have hlen := hLb ((nn : Int) / 2)
      refine Z.iload C dL_planksOf_79 rfl ?_
      refine Z.iconst C dL_planksOf_81 ?_
      refine Z.idiv C dL_planksOf_82 (by omega) (by omega) (by omega) (by omega) ?_
      refine Z.aload_n C dL_planksOf_83 rfl ?_
      refine Z.cSIf (wr := [(q, aI cI 64 lf)]) C 2 (q_strakeOf l D cI cJ cL aq hf at_ wg dy ti gg M hM hR ((nn : Int) / 2) (by omega) (by omega)) gL_planksOf_L_strakeOf rfl rfl rfl (by decide +kernel) ⟨Nat.le_of_ble_eq_true rfl, Nat.le_of_ble_eq_true rfl⟩ rfl rfl (Nat.le_of_ble_eq_true rfl) ⟨Nat.le_of_ble_eq_true rfl, Nat.le_of_ble_eq_true rfl⟩ dL_planksOf_84 (fun r9 w9 h9 => ?_)
      obtain ⟨rfl, rfl⟩ := h9
      refine Z.istore C dL_planksOf_87 (by decide) ?_
      refine Z.loop (α := (Int → Int) × Int × Int × Nat) (fun y => [(q, aI cI 64 lf)] ++ (wA aq cI hf at_ wg dy ti gg)) (fun y => [.int (iI asked), .ref (aq 0), .int (iI pl), .ref q, .int (iI y.2.1), .int (iI fr), .int (iI (c : Int)), .int (iI (nn : Int)), .int (iI y.2.2.1), v9]) (fun y => agN lf y.1 y.2.1 ∧ bdN y.1 y.2.1 ∧ (pk_ pl (LsM M) i).2 ≤ y.2.1 ∧ 300 * (y.2.1 - (pk_ pl (LsM M) i).2) + y.2.2.1 ≤ 1680 ∧ 0 ≤ y.2.2.1 ∧ y.2.2.1 ≤ 100 * (y.2.2.2 + 1) ∧ whZ pl y.2.2.2 y.1 y.2.1 y.2.2.1 = whZ pl 16 (pk_ pl (LsM M) i).1 (pk_ pl (LsM M) i).2 (LsM M ((nn : Int) / 2))) (fun y => y.2.2.2) ((pk_ pl (LsM M) i).1, (pk_ pl (LsM M) i).2, LsM M ((nn : Int) / 2), 16) ⟨hag, hbd, Int.le_refl _, by dsimp only; omega, by dsimp only; omega, by dsimp only; omega, rfl⟩ rfl rfl (fun y hy ih3 => ?_)
      obtain ⟨f1, n1, r, t⟩ := y
      dsimp only at hy ih3 ⊢
      obtain ⟨k1, k2, k3, k4, k5, k6, k7⟩ := hy
      refine Z.iload C dL_planksOf_89 rfl ?_
      refine Z.iload_n C dL_planksOf_91 rfl ?_
      refine Z.icmple C 107 dL_planksOf_92 (by decide) (⟨by omega, by omega⟩) (⟨by omega, by omega⟩) (fun h3 => ?_) (fun h3 => ?_)
      · rw [whZ_end h3] at k7
        have hcut : cutZ pl (pk_ pl (LsM M) i).1 (pk_ pl (LsM M) i).2 (LsM M ((nn : Int) / 2)) = cutF pl (f1, n1, r) := by unfold cutZ; rw [← k7]
        have hpk1 : pk_ pl (LsM M) (i + 1) = (cutF pl (f1, n1, r)).2 := by
          show (cutZ pl (pk_ pl (LsM M) i).1 (pk_ pl (LsM M) i).2 (LsM M (skZ (LsM M) ((i / 2 : Nat) : Int) 5))).2 = _
          rw [← hsk, hcut]
        have hrr : rr_ pl (LsM M) i = (cutF pl (f1, n1, r)).1 := by
          unfold rr_
          rw [← hsk, hcut]
        refine Z.iconst C dL_planksOf_107 ?_
        refine Z.istore C dL_planksOf_108 (by decide) ?_
        refine Z.loop (α := Nat) (fun y => [(q, aI cI 64 lf)] ++ (wA aq cI hf at_ wg dy ti gg)) (fun y => [.int (iI asked), .ref (aq 0), .int (iI pl), .ref q, .int (iI n1), .int (iI fr), .int (iI (c : Int)), .int (iI (nn : Int)), .int (iI r), .int (iI y)]) (fun y => (y : Int) ≤ n1 ∧ fsZ f1 r y = -1) (fun y => 64 - y) 0 ⟨by omega, rfl⟩ rfl rfl (fun k hk ih4 => ?_)
        obtain ⟨hk, hfs⟩ := hk
        refine Z.cut (α := (Int → Int) × Int) 147 (fun z => [(q, aI cI 64 z.1)] ++ (wA aq cI hf at_ wg dy ti gg)) (fun z => [.int (iI asked), .ref (aq 0), .int (iI pl), .ref q, .int (iI z.2), .int (iI fr), .int (iI (c : Int)), .int (iI (nn : Int)), .int (iI r), .int (iI k)]) (fun _ => []) (fun z => (k : Int) = (cutF pl (f1, n1, r)).1 ∧ z.2 = (cutF pl (f1, n1, r)).2.2 ∧ z.2 ≤ n1 + 1 ∧ (k : Int) < z.2 ∧ agN (zset z.1 k (z.1 k - r)) (cutF pl (f1, n1, r)).2.1 z.2 ∧ ∀ j : Int, z.2 ≤ j → j < 64 → z.1 j = 0) (fun z hz2 => ?_) (fun join => ?_)
        · obtain ⟨lf2, n2⟩ := z
          dsimp only at hz2 ⊢
          obtain ⟨z1, z2, z3, z4, z5, z6⟩ := hz2
          refine Z.aload_n C dL_planksOf_147 rfl ?_
          refine Z.iload C dL_planksOf_148 rfl ?_
          refine Z.dup2 C dL_planksOf_150 rfl rfl ?_
          refine Z.iald C 0 rfl (by omega) (by omega) (by decide) dL_planksOf_151 ?_
          refine Z.iload C dL_planksOf_152 rfl ?_
          refine Z.isub C dL_planksOf_154 ?_
          refine Z.iast C 0 rfl (by omega) (by omega) (by decide) dL_planksOf_155 wP_a0 ?_
          refine Z.cut (α := Int) 166 (fun _ => [(q, aI cI 64 (zset lf2 k (lf2 k - r)))] ++ (wA aq cI hf at_ wg dy ti gg)) (fun fr2 => [.int (iI asked), .ref (aq 0), .int (iI pl), .ref q, .int (iI n2), .int (iI fr2), .int (iI (c : Int)), .int (iI (nn : Int)), .int (iI r), .int (iI k)]) (fun _ => []) (fun fr2 => frP pl (LsM M) (i + 1) asked fr2) (fun fr2 hf2 => ?_) (fun join2 => ?_)
          · skip
            refine Z.iload C dL_planksOf_166 rfl ?_
            refine Z.iconst C dL_planksOf_168 ?_
            refine Z.iload C dL_planksOf_169 rfl ?_
            refine Z.ishlE C (z := ((2 ^ nn : Nat) : Int)) (bit_shl nn (by omega)) dL_planksOf_171 ?_
            refine Z.iorE C (z := ((c ||| 2 ^ nn : Nat) : Int)) (bit_or nn (by omega) c hc) dL_planksOf_172 ?_
            refine Z.istore C dL_planksOf_173 (by decide) ?_
            refine Z.goto C 14 dL_planksOf_175 (by decide) ?_
            have hstep := ctP_step hct (n := nn) (by omega) g3
            rw [z2, show (cutF pl (f1, n1, r)).2.2 = (pk_ pl (LsM M) (i + 1)).2 by rw [hpk1]]
            refine ih (i + 1, c ||| 2 ^ nn, zset lf2 k (lf2 k - r), fr2, .int (iI (nn : Int)), .int (iI r), .int (iI k)) ⟨by dsimp only; omega, hstep, ?_, ?_, ?_, hf2⟩ (by dsimp only; omega)
            · dsimp only
              rw [hpk1, ← z2]
              exact z5
            · dsimp only
              intro j j0 j1
              rw [hpk1, ← z2] at j0
              rw [zset_ne _ (by omega)]
              exact z6 j j0 j1
            · dsimp only
              rw [hpk1, ← z2]
              push_cast
              omega
          · obtain ⟨s1, s2⟩ := frP_step (at_ := (k : Int)) hfr (by omega) g2 g3 (by rw [z1, hrr])
            refine Z.iload C dL_planksOf_156 rfl ?_
            refine Z.iload_n C dL_planksOf_158 rfl ?_
            refine Z.icmpne C 166 dL_planksOf_159 (by decide) (⟨by omega, by omega⟩) (⟨by omega, by omega⟩) (fun h5 => ?_) (fun h5 => ?_)
            · exact join2 fr (s1 h5)
            · skip
              refine Z.iload C dL_planksOf_162 rfl ?_
              refine Z.istore C dL_planksOf_164 (by decide) ?_
              exact join2 k (s2 h5)
        · skip
          refine Z.iload C dL_planksOf_110 rfl ?_
          refine Z.iload C dL_planksOf_112 rfl ?_
          refine Z.icmpge C 132 dL_planksOf_114 (by decide) (⟨by omega, by omega⟩) (⟨by omega, by omega⟩) (fun h4 => ?_) (fun h4 => ?_)
          · have ek : (k : Int) = n1 := by omega
            have et : n1.toNat = k := by omega
            refine Z.iload C dL_planksOf_132 rfl ?_
            refine Z.iload C dL_planksOf_134 rfl ?_
            refine Z.icmpne C 147 dL_planksOf_136 (by decide) (⟨by omega, by omega⟩) (⟨by omega, by omega⟩) (fun h5 => ?_) (fun h5 => ?_)
            · omega
            · skip
              refine Z.aload_n C dL_planksOf_139 rfl ?_
              refine Z.iload C dL_planksOf_140 rfl ?_
              refine Z.iinc C dL_planksOf_142 rfl (by decide) ?_
              refine Z.iload_n C dL_planksOf_145 rfl ?_
              refine Z.iast C 0 rfl (by omega) (by omega) (by decide) dL_planksOf_146 wP_a0 ?_
              refine join (zset lf n1 pl, n1 + 1) ⟨?_, ?_, by dsimp only; omega, by dsimp only; omega, ?_, ?_⟩
              · unfold cutF
                dsimp only
                rw [et, if_pos hfs]
                exact ek
              · unfold cutF
                dsimp only
                rw [et, if_pos hfs]
              · unfold cutF
                dsimp only
                rw [et, if_pos hfs, ek, zset_eq]
                dsimp only
                rw [zset_zset]
                exact k1.push _
              · dsimp only
                intro j j0 j1
                rw [zset_ne _ (by omega)]
                exact hz j (by omega) j1
          · have e1 := k1 k (by omega) (by omega)
            have e2 := k2 k (by omega) (by omega)
            refine Z.aload_n C dL_planksOf_117 rfl ?_
            refine Z.iload C dL_planksOf_118 rfl ?_
            refine Z.iald C 0 rfl (by omega) (by omega) (by decide) dL_planksOf_120 ?_
            refine Z.iload C dL_planksOf_121 rfl ?_
            refine Z.icmpge C 132 dL_planksOf_123 (by decide) (⟨by omega, by omega⟩) (⟨by omega, by omega⟩) (fun h5 => ?_) (fun h5 => ?_)
            · have hfound := fsZ_found hfs (by omega) n1.toNat (by omega)
              refine Z.iload C dL_planksOf_132 rfl ?_
              refine Z.iload C dL_planksOf_134 rfl ?_
              refine Z.icmpne C 147 dL_planksOf_136 (by decide) (⟨by omega, by omega⟩) (⟨by omega, by omega⟩) (fun h6 => ?_) (fun h6 => ?_)
              · refine join (lf, n1) ⟨?_, ?_, by dsimp only; omega, by dsimp only; omega, ?_, ?_⟩
                · unfold cutF
                  dsimp only
                  rw [hfound, if_neg (by omega)]
                · unfold cutF
                  dsimp only
                  rw [hfound, if_neg (by omega)]
                · unfold cutF
                  dsimp only
                  rw [hfound, if_neg (by omega)]
                  dsimp only
                  rw [e1]
                  exact k1.set _ _
                · dsimp only
                  intro j j0 j1
                  exact hz j (by omega) j1
              · omega
            · skip
              refine Z.iinc C dL_planksOf_126 rfl (by decide) ?_
              refine Z.goto C 110 dL_planksOf_129 (by decide) ?_
              exact ih4 (k + 1) ⟨by omega, fsZ_next hfs (by omega)⟩ (by omega)
      · obtain ⟨t', rfl⟩ : ∃ t' : Nat, t = t' + 1 := ⟨t - 1, by omega⟩
        simp only [whZ] at k7
        rw [if_pos h3] at k7
        refine Z.iinc C dL_planksOf_95 rfl (by decide) ?_
        refine Z.iload C dL_planksOf_98 rfl ?_
        refine Z.iload_n C dL_planksOf_100 rfl ?_
        refine Z.isub C dL_planksOf_101 ?_
        refine Z.istore C dL_planksOf_102 (by decide) ?_
        refine Z.goto C 89 dL_planksOf_104 (by decide) ?_
        exact ih3 (zset f1 n1 0, n1 + 1, r - pl, t') ⟨k1.zero (hz n1 k3 (by omega)), k2.push (by omega) (by omega), by dsimp only; omega, by dsimp only; omega, by dsimp only; omega, by dsimp only; push_cast at k6 ⊢; omega, k7⟩ (by dsimp only; omega)
    · obtain ⟨k, rfl⟩ : ∃ k : Nat, n = k + 1 := ⟨n - 1, by omega⟩
      have hck := hct.2 k (by omega)
      have hcd : c / 2 ^ k < 1024 := Nat.lt_of_le_of_lt (Nat.div_le_self _ _) hc
      rw [show ((k + 1 : Nat) : Int) - 1 = k by omega]
      rw [show ((k + 1 : Nat) : Int) = (k : Int) + 1 by omega] at hnx
      refine Z.cut (α := Int) 73 (fun _ => [(q, aI cI 64 lf)] ++ (wA aq cI hf at_ wg dy ti gg)) (fun z => [.int (iI asked), .ref (aq 0), .int (iI pl), .ref q, .int (iI (pk_ pl (LsM M) i).2), .int (iI fr), .int (iI (c : Int)), .int (iI z), .int (iI (k : Int)), v9]) (fun _ => []) (fun z => nxP (LsM M) i k z) (fun z hz2 => ?_) (fun join => ?_)
      · skip
        refine Z.iinc C dL_planksOf_73 rfl (by decide) ?_
        refine Z.goto C 29 dL_planksOf_76 (by decide) ?_
        rw [show (k : Int) + -1 = k - 1 by omega]
        exact ih2 (k, z) ⟨by dsimp only; omega, hz2⟩ (by dsimp only; omega)
      · skip
        refine Z.iload C dL_planksOf_34 rfl ?_
        refine Z.iload C dL_planksOf_36 rfl ?_
        refine Z.ishrE C (z := ((c / 2 ^ k : Nat) : Int)) (bit_shr k (by omega) c hc) dL_planksOf_38 ?_
        refine Z.iconst C dL_planksOf_39 ?_
        refine Z.iandE C (z := (((c / 2 ^ k) % 2 : Nat) : Int)) (bit_and (c / 2 ^ k) hcd) dL_planksOf_40 ?_
        have hbit := bit_is (c := c) (k := k)
        refine Z.ifne C 73 dL_planksOf_41 (by decide) (⟨by omega, by omega⟩) (fun h3 => ?_) (fun h3 => ?_)
        · have hp9 : posZ (LsM M) k < i := by
            rcases hbit with ⟨b1, -⟩ | ⟨-, b2⟩
            · omega
            · rw [b2] at hck
              exact of_decide_eq_true hck.symm
          exact join nx (nxP_keep hnx (Or.inl hp9))
        · have hp9 : (i : Int) ≤ posZ (LsM M) k := by
            rcases hbit with ⟨-, b2⟩ | ⟨b1, -⟩
            · rw [b2] at hck
              have := of_decide_eq_false hck.symm
              omega
            · omega
          refine Z.iload C dL_planksOf_44 rfl ?_
          refine Z.iconst C dL_planksOf_46 ?_
          refine Z.icmpeq C 69 dL_planksOf_47 (by decide) (⟨by omega, by omega⟩) (⟨by omega, by omega⟩) (fun h4 => ?_) (fun h4 => ?_)
          · skip
            refine Z.iload C dL_planksOf_69 rfl ?_
            refine Z.istore C dL_planksOf_71 (by decide) ?_
            exact join k (nxP_take (by omega) (by omega) hnx hp9 (Or.inl h4))
          · have l1 := hLb ((k : Int) / 2)
            have l2 := hLb (nx / 2)
            refine Z.iload C dL_planksOf_50 rfl ?_
            refine Z.iconst C dL_planksOf_52 ?_
            refine Z.idiv C dL_planksOf_53 (by omega) (by omega) (by omega) (by omega) ?_
            refine Z.aload_n C dL_planksOf_54 rfl ?_
            refine Z.cSIf (wr := [(q, aI cI 64 lf)]) C 2 (q_strakeOf l D cI cJ cL aq hf at_ wg dy ti gg M hM hR ((k : Int) / 2) (by omega) (by omega)) gL_planksOf_L_strakeOf rfl rfl rfl (by decide +kernel) ⟨Nat.le_of_ble_eq_true rfl, Nat.le_of_ble_eq_true rfl⟩ rfl rfl (Nat.le_of_ble_eq_true rfl) ⟨Nat.le_of_ble_eq_true rfl, Nat.le_of_ble_eq_true rfl⟩ dL_planksOf_55 (fun r9 w9 h9 => ?_)
            obtain ⟨rfl, rfl⟩ := h9
            refine Z.iload C dL_planksOf_58 rfl ?_
            refine Z.iconst C dL_planksOf_60 ?_
            refine Z.idiv C dL_planksOf_61 (by omega) (by omega) (by omega) (by omega) ?_
            refine Z.aload_n C dL_planksOf_62 rfl ?_
            refine Z.cSIf (wr := [(q, aI cI 64 lf)]) C 2 (q_strakeOf l D cI cJ cL aq hf at_ wg dy ti gg M hM hR (nx / 2) (by omega) (by omega)) gL_planksOf_L_strakeOf rfl rfl rfl (by decide +kernel) ⟨Nat.le_of_ble_eq_true rfl, Nat.le_of_ble_eq_true rfl⟩ rfl rfl (Nat.le_of_ble_eq_true rfl) ⟨Nat.le_of_ble_eq_true rfl, Nat.le_of_ble_eq_true rfl⟩ dL_planksOf_63 (fun r9 w9 h9 => ?_)
            obtain ⟨rfl, rfl⟩ := h9
            refine Z.icmplt C 73 dL_planksOf_66 (by decide) (⟨by omega, by omega⟩) (⟨by omega, by omega⟩) (fun h5 => ?_) (fun h5 => ?_)
            · exact join nx (nxP_keep hnx (Or.inr ⟨by omega, h4, by omega⟩))
            · skip
              refine Z.iload C dL_planksOf_69 rfl ?_
              refine Z.istore C dL_planksOf_71 (by decide) ?_
              exact join k (nxP_take (by omega) (by omega) hnx hp9 (Or.inr (by omega)))
