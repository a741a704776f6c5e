/-! ===== Batten ===== -/
def NOL : Int := 2000000
def mnF (g : Int → Int) : Nat → Int
  | 0 => FAR
  | k + 1 => if g k < mnF g k then g k else mnF g k
def amF (g : Int → Int) : Nat → Int
  | 0 => 0
  | k + 1 => if g k < mnF g k then (k : Int) else amF g k
def RZ (lo ch : Int → Int) : Nat → Int → Int → Int
  | 0 => fun _ _ => 0
  | j + 1 => fun h n => mnF (fun t => sqZ (lo ((6 - j : Nat) : Int) + h) (lo (((6 - j : Nat) : Int) + 1) + n) (lo (((6 - j : Nat) : Int) + 2) + t) + RZ lo ch j n t) (ch (((6 - j : Nat) : Int) + 2)).toNat
def gZ (lo ch : Int → Int) (s : Nat) (h n : Int) : Int → Int := fun t => sqZ (lo s + h) (lo (s + 1) + n) (lo (s + 2) + t) + RZ lo ch (6 - s) n t
theorem RZ_s (lo ch : Int → Int) {s : Nat} (hs : s ≤ 6) (h n : Int) : RZ lo ch (7 - s) h n = mnF (gZ lo ch s h n) (ch (s + 2)).toNat := by
  obtain ⟨j, hj⟩ : ∃ j, 7 - s = j + 1 := ⟨6 - s, by omega⟩
  have e : 6 - j = s := by omega
  have e2 : 6 - s = j := by omega
  rw [hj]
  unfold gZ
  rw [e2]
  simp only [RZ]
  rw [e]
def LC (lo ch : Int → Int) : Prop := ∀ s : Int, 0 ≤ s → s ≤ 8 → 0 ≤ lo s ∧ 1 ≤ ch s ∧ ch s ≤ 5 ∧ lo s + ch s ≤ 201
theorem mnF_zero (g : Int → Int) : mnF g 0 = FAR := rfl
theorem mnF_lt {g : Int → Int} {k : Nat} (h : g k < mnF g k) : mnF g (k + 1) = g k := if_pos h
theorem mnF_ge {g : Int → Int} {k : Nat} (h : ¬ g k < mnF g k) : mnF g (k + 1) = mnF g k := if_neg h
theorem amF_lt {g : Int → Int} {k : Nat} (h : g k < mnF g k) : amF g (k + 1) = k := if_pos h
theorem amF_ge {g : Int → Int} {k : Nat} (h : ¬ g k < mnF g k) : amF g (k + 1) = amF g k := if_neg h
theorem mnF_bd {g : Int → Int} {b : Int} : ∀ n : Nat, 0 < n → (∀ t : Nat, t < n → 0 ≤ g t ∧ g t ≤ b) → b < FAR → 0 ≤ mnF g n ∧ mnF g n ≤ b
  | 0, h, _, _ => absurd h (Nat.lt_irrefl _)
  | n + 1, _, h, hb => by
    have hn := h n (Nat.lt_succ_self n)
    by_cases q : g n < mnF g n
    · rw [mnF_lt q]; exact hn
    · rw [mnF_ge q]
      by_cases e : n = 0
      · subst e
        rw [mnF_zero] at q
        omega
      · exact mnF_bd n (by omega) (fun t ht => h t (by omega)) hb
theorem sq_bd {b a c : Int} (hb : 0 ≤ b) (hb1 : b ≤ 200) (ha : 0 ≤ a) (ha1 : a ≤ 200) (hc : 0 ≤ c) (hc1 : c ≤ 200) : 0 ≤ sqZ b a c ∧ sqZ b a c ≤ 160000 := by
  unfold sqZ
  generalize hx : b + c - 2 * a = x
  have h1 : -400 ≤ x := by omega
  have h2 : x ≤ 400 := by omega
  have h3 : x * x = x.natAbs * x.natAbs := (Int.natAbs_mul_self (a := x)).symm
  have h4 : x.natAbs ≤ 400 := by omega
  have h5 : x.natAbs * x.natAbs ≤ 400 * 400 := Nat.mul_le_mul h4 h4
  rw [h3]
  exact ⟨by omega, by omega⟩
theorem RZ_bd {lo ch : Int → Int} (hL : LC lo ch) : ∀ (j : Nat), j ≤ 7 → ∀ h n : Int, 0 ≤ h → h < ch ((7 - j : Nat) : Int) → 0 ≤ n → n < ch (((7 - j : Nat) : Int) + 1) → 0 ≤ RZ lo ch j h n ∧ RZ lo ch j h n ≤ 160000 * j
  | 0, _, h, n, _, _, _, _ => by simp [RZ]
  | j + 1, hj, h, n, h0, h1, n0, n1 => by
    simp only [RZ]
    rw [show 7 - (j + 1) = 6 - j by omega] at h1 n1
    have c0 := hL ((6 - j : Nat) : Int) (by omega) (by omega)
    have c1 := hL (((6 - j : Nat) : Int) + 1) (by omega) (by omega)
    have c2 := hL (((6 - j : Nat) : Int) + 2) (by omega) (by omega)
    refine mnF_bd _ (by omega) (fun t ht => ?_) (by unfold FAR; push_cast; omega)
    have ih := RZ_bd hL j (by omega) n t n0 (by rw [show 7 - j = 6 - j + 1 by omega]; push_cast; exact n1) (by omega) (by rw [show 7 - j = 6 - j + 1 by omega]; push_cast; rw [show ((6 - j : Nat) : Int) + 1 + 1 = ((6 - j : Nat) : Int) + 2 by omega]; omega)
    have hs := sq_bd (b := lo ((6 - j : Nat) : Int) + h) (a := lo (((6 - j : Nat) : Int) + 1) + n) (c := lo (((6 - j : Nat) : Int) + 2) + t) (by omega) (by omega) (by omega) (by omega) (by omega) (by omega)
    push_cast
    omega
theorem gZ_bd {lo ch : Int → Int} (hL : LC lo ch) {s : Nat} (hs : s ≤ 6) {h n t : Int} (h0 : 0 ≤ h) (h1 : h < ch s) (n0 : 0 ≤ n) (n1 : n < ch (s + 1)) (t0 : 0 ≤ t) (t1 : t < ch (s + 2)) : 0 ≤ gZ lo ch s h n t ∧ gZ lo ch s h n t ≤ 1120000 := by
  have c0 := hL s (by omega) (by omega)
  have c1 := hL (s + 1) (by omega) (by omega)
  have c2 := hL (s + 2) (by omega) (by omega)
  have ih := RZ_bd hL (6 - s) (by omega) n t n0 (by rw [show 7 - (6 - s) = s + 1 by omega]; push_cast; exact n1) t0 (by rw [show 7 - (6 - s) = s + 1 by omega]; push_cast; rw [show (s : Int) + 1 + 1 = s + 2 by omega]; exact t1)
  have hq := sq_bd (b := lo s + h) (a := lo (s + 1) + n) (c := lo (s + 2) + t) (by omega) (by omega) (by omega) (by omega) (by omega) (by omega)
  have : ((6 - s : Nat) : Int) ≤ 6 := by omega
  unfold gZ
  omega
theorem zrow_zrow (M : Int → Int → Int) (i : Int) (f g : Int → Int) : zrow (zrow M i f) i g = zrow M i g := by
  funext j
  by_cases q : j = i
  · rw [q, zrow_eq, zrow_eq]
  · rw [zrow_ne _ _ q, zrow_ne _ _ q, zrow_ne _ _ q]
set_option maxRecDepth 20000 in
theorem iw_X1_bendWith_1 : ∀ w ∈ u_ws RX1 TX1 3, w ∈ wsX1_bendWith := by decide +kernel
abbrev rmX1_bendWith : Room := { frames := 1, cells := 0, slots := 0, locals := 23 }
set_option maxHeartbeats 4000000 in
set_option maxRecDepth 100000 in
theorem c_bendWith (l : Launch) (D : va_G) (cI cJ cL : ClassId) (ad : Nat → Nat) (M B : Int → Int → Int) (lo ch wt sn vo mo le ln od fe se td th : Int → Int) (cnt bw bs pl tk tc sill day lau : Int) (s h n t : Int) (s0 : 0 ≤ s) (s1 : s ≤ 6) (n0 : 0 ≤ n) (n1 : n < 5) (t0 : 0 ≤ t) (t1 : t < 5) : CI l yX1_bendWith wsX1_bendWith rmX1_bendWith [.ref (ad 3), .int (iI s), .int (iI h), .int (iI n), .int (iI t)] D cI cJ cL (wX ad cI cJ M B lo ch wt sn vo mo le ln od fe se td th cnt bw bs pl tk tc sill day lau) (fun r w' => r = sqZ (lo s + h) (lo (s + 1) + n) (lo (s + 2) + t) + B (s + 1) (n * 5 + t) ∧ w' = (wX ad cI cJ M B lo ch wt sn vo mo le ln od fe se td th cnt bw bs pl tk tc sill day lau)) := by
  refine CI.of (cc := cX1_bendWith) (maxL := 6) (ret := (some .int)) (own := RX1) _ 1 (by decide +kernel) rfl rfl rfl (Nat.le_of_ble_eq_true rfl) rfl (fun sz9 p9 e9 s9 m9 a9 b9 h9 c9 C hr => ?_)
  refine Z.aload_n C dX1_bendWith_0 rfl ?_
  refine Z.getf C 3 1 iw_X1_bendWith_1 rfl rfl (by decide) (by decide +kernel) rfl dX1_bendWith_1 ?_
  refine Z.iload_n C dX1_bendWith_4 rfl ?_
  refine Z.iald C 23 rfl (by omega) (by omega) (by decide) dX1_bendWith_5 ?_
  refine Z.iload_n C dX1_bendWith_6 rfl ?_
  refine Z.iadd C dX1_bendWith_7 ?_
  refine Z.aload_n C dX1_bendWith_8 rfl ?_
  refine Z.getf C 3 1 iw_X1_bendWith_1 rfl rfl (by decide) (by decide +kernel) rfl dX1_bendWith_9 ?_
  refine Z.iload_n C dX1_bendWith_12 rfl ?_
  refine Z.iconst C dX1_bendWith_13 ?_
  refine Z.iadd C dX1_bendWith_14 ?_
  refine Z.iald C 23 rfl (by omega) (by omega) (by decide) dX1_bendWith_15 ?_
  refine Z.iload_n C dX1_bendWith_16 rfl ?_
  refine Z.iadd C dX1_bendWith_17 ?_
  refine Z.aload_n C dX1_bendWith_18 rfl ?_
  refine Z.getf C 3 1 iw_X1_bendWith_1 rfl rfl (by decide) (by decide +kernel) rfl dX1_bendWith_19 ?_
  refine Z.iload_n C dX1_bendWith_22 rfl ?_
  refine Z.iconst C dX1_bendWith_23 ?_
  refine Z.iadd C dX1_bendWith_24 ?_
  refine Z.iald C 23 rfl (by omega) (by omega) (by decide) dX1_bendWith_25 ?_
  refine Z.iload C dX1_bendWith_26 rfl ?_
  refine Z.iadd C dX1_bendWith_28 ?_
  refine Z.cSNIp C (host := RX6) 3 (c_squareOfBend l D cI cJ cL (lo s + h) (lo (s + 1) + n) (lo (s + 2) + t)) gX1_bendWith_X6_squareOfBend_n45 (by decide +kernel) (by decide +kernel) (by decide +kernel) rfl rfl rfl (by decide +kernel) ⟨Nat.le_of_ble_eq_true rfl, Nat.le_of_ble_eq_true rfl⟩ rfl rfl (Nat.le_of_ble_eq_true rfl) ⟨Nat.le_of_ble_eq_true rfl, Nat.le_of_ble_eq_true rfl⟩ dX1_bendWith_29 ?_
  refine Z.istore C dX1_bendWith_32 (by decide) ?_
  refine Z.iload C dX1_bendWith_34 rfl ?_
  refine Z.aload_n C dX1_bendWith_36 rfl ?_
  refine Z.getf C 3 0 iw_X1_bendWith_1 rfl rfl (by decide) (by decide +kernel) rfl dX1_bendWith_37 ?_
  refine Z.iload_n C dX1_bendWith_40 rfl ?_
  refine Z.iconst C dX1_bendWith_41 ?_
  refine Z.iadd C dX1_bendWith_42 ?_
  refine Z.aald C 4 rfl (by omega) (by omega) (by decide) dX1_bendWith_43 ?_
  refine Z.iload_n C dX1_bendWith_44 rfl ?_
  refine Z.iconst C dX1_bendWith_45 ?_
  refine Z.imul C dX1_bendWith_46 ?_
  refine Z.iload C dX1_bendWith_47 rfl ?_
  refine Z.iadd C dX1_bendWith_49 ?_
  refine Z.iald C _ (wX_brow (by omega) (by omega)) (by omega) (by omega) (by decide) dX1_bendWith_50 ?_
  refine Z.iadd C dX1_bendWith_51 ?_
  exact Z.iret C hr dX1_bendWith_52 (⟨rfl, rfl⟩)
set_option maxRecDepth 20000 in
theorem iw_X1_reckonRest_1 : ∀ w ∈ u_ws RX1 TX1 3, w ∈ wsX1_reckonRest := by decide +kernel
abbrev rmX1_reckonRest : Room := { frames := 2, cells := 0, slots := 0, locals := 48 }
set_option maxHeartbeats 4000000 in
set_option maxRecDepth 100000 in
theorem c_reckonRest (l : Launch) (D : va_G) (cI cJ cL : ClassId) (ad : Nat → Nat) (M B : Int → Int → Int) (lo ch wt sn vo mo le ln od fe se td th : Int → Int) (cnt bw bs pl tk tc sill day lau : Int) (hL : LC lo ch) (s : Nat) (hs : s ≤ 6) (hR : ∀ n t : Nat, n < ch (s + 1) → t < ch (s + 2) → B (s + 1) (n * 5 + t) = RZ lo ch (6 - s) n t) : CV l yX1_reckonRest wsX1_reckonRest rmX1_reckonRest [.ref (ad 3), .int (iI s)] D cI cJ cL (wX ad cI cJ M B lo ch wt sn vo mo le ln od fe se td th cnt bw bs pl tk tc sill day lau) (fun w' => ∃ f' : Int → Int, (∀ h n : Nat, h < ch s → n < ch (s + 1) → f' (h * 5 + n) = RZ lo ch (7 - s) h n) ∧ w' = (wX ad cI cJ M (zrow B s f') lo ch wt sn vo mo le ln od fe se td th cnt bw bs pl tk tc sill day lau)) := by
  have c0 := hL s (by omega) (by omega)
  have c1 := hL (s + 1) (by omega) (by omega)
  have c2 := hL (s + 2) (by omega) (by omega)
  refine CV.of (cc := cX1_reckonRest) (maxL := 6) (ret := none) (own := RX1) _ 4 (by decide +kernel) rfl rfl rfl (Nat.le_of_ble_eq_true rfl) rfl (fun sz9 p9 e9 s9 m9 a9 b9 h9 c9 C hr => ?_)
  refine Z.iconst C dX1_reckonRest_0 ?_
  refine Z.istore_n C dX1_reckonRest_1 (by decide) ?_
  refine Z.loop (α := Nat × (Int → Int) × Value × Value × Value) (fun y => (wX ad cI cJ M (zrow B s y.2.1) lo ch wt sn vo mo le ln od fe se td th cnt bw bs pl tk tc sill day lau)) (fun y => [.ref (ad 3), .int (iI s), .int (iI y.1), y.2.2.1, y.2.2.2.1, y.2.2.2.2]) (fun y => y.1 ≤ ch s ∧ ∀ h n : Nat, h < y.1 → n < ch (s + 1) → y.2.1 (h * 5 + n) = RZ lo ch (7 - s) h n) (fun y => 5 - y.1) (0, B s, .null, .null, .null) ⟨by dsimp only; omega, fun h n a _ => absurd a (Nat.not_lt_zero _)⟩ ?_ rfl (fun y hy ih => ?_)
  · have e : zrow B s (B s) = B := by
      funext j
      by_cases q : j = s
      · rw [q, zrow_eq]
      · rw [zrow_ne _ _ q]
    dsimp only
    rw [e]
  obtain ⟨h, f1, v1, v2, v3⟩ := y
  dsimp only at hy ih ⊢
  obtain ⟨hh, hf⟩ := hy
  refine Z.iload_n C dX1_reckonRest_2 rfl ?_
  refine Z.aload_n C dX1_reckonRest_3 rfl ?_
  refine Z.getf C 3 2 iw_X1_reckonRest_1 rfl rfl (by decide) (by decide +kernel) rfl dX1_reckonRest_4 ?_
  refine Z.iload_n C dX1_reckonRest_7 rfl ?_
  refine Z.iald C 24 rfl (by omega) (by omega) (by decide) dX1_reckonRest_8 ?_
  refine Z.icmpge C 94 dX1_reckonRest_9 (by decide) (⟨by omega, by omega⟩) (⟨by omega, by omega⟩) (fun q => ?_) (fun q => ?_)
  · exact Z.vret C hr dX1_reckonRest_94 ⟨f1, fun h' n a b => hf h' n (by omega) b, rfl⟩
  · refine Z.iconst C dX1_reckonRest_12 ?_
    refine Z.istore_n C dX1_reckonRest_13 (by decide) ?_
    refine Z.loop (α := Nat × (Int → Int) × Value × Value) (fun y => (wX ad cI cJ M (zrow B s y.2.1) lo ch wt sn vo mo le ln od fe se td th cnt bw bs pl tk tc sill day lau)) (fun y => [.ref (ad 3), .int (iI s), .int (iI h), .int (iI y.1), y.2.2.1, y.2.2.2]) (fun y => y.1 ≤ ch (s + 1) ∧ (∀ h' n : Nat, h' < h → n < ch (s + 1) → y.2.1 (h' * 5 + n) = RZ lo ch (7 - s) h' n) ∧ (∀ n : Nat, n < y.1 → y.2.1 (h * 5 + n) = RZ lo ch (7 - s) h n)) (fun y => 5 - y.1) (0, f1, v2, v3) ⟨by dsimp only; omega, hf, fun n a => absurd a (Nat.not_lt_zero _)⟩ rfl rfl (fun y hy ih2 => ?_)
    obtain ⟨n, f2, v4, v5⟩ := y
    dsimp only at hy ih2 ⊢
    obtain ⟨hn, hf1, hf2⟩ := hy
    refine Z.iload_n C dX1_reckonRest_14 rfl ?_
    refine Z.aload_n C dX1_reckonRest_15 rfl ?_
    refine Z.getf C 3 2 iw_X1_reckonRest_1 rfl rfl (by decide) (by decide +kernel) rfl dX1_reckonRest_16 ?_
    refine Z.iload_n C dX1_reckonRest_19 rfl ?_
    refine Z.iconst C dX1_reckonRest_20 ?_
    refine Z.iadd C dX1_reckonRest_21 ?_
    refine Z.iald C 24 rfl (by omega) (by omega) (by decide) dX1_reckonRest_22 ?_
    refine Z.icmpge C 88 dX1_reckonRest_23 (by decide) (⟨by omega, by omega⟩) (⟨by omega, by omega⟩) (fun q2 => ?_) (fun q2 => ?_)
    · refine Z.iinc C dX1_reckonRest_88 rfl (by decide) ?_
      refine Z.goto C 2 dX1_reckonRest_91 (by decide) ?_
      refine ih (h + 1, f2, _, _, _) ⟨by dsimp only; omega, fun h' n' a b => ?_⟩ (by dsimp only; omega)
      dsimp only at a ⊢
      by_cases e : h' = h
      · rw [e]; exact hf2 n' (by omega)
      · exact hf1 h' n' (by omega) b
    · refine Z.ldc C (v := iI 2000000) 2000000 (by decide +kernel) rfl dX1_reckonRest_26 ?_
      refine Z.istore C dX1_reckonRest_28 (by decide) ?_
      refine Z.iconst C dX1_reckonRest_30 ?_
      refine Z.istore C dX1_reckonRest_31 (by decide) ?_
      refine Z.loop (α := Nat × Int) (fun y => (wX ad cI cJ M (zrow B s f2) lo ch wt sn vo mo le ln od fe se td th cnt bw bs pl tk tc sill day lau)) (fun y => [.ref (ad 3), .int (iI s), .int (iI h), .int (iI n), .int (iI y.2), .int (iI y.1)]) (fun y => y.1 ≤ ch (s + 2) ∧ ((y.1 = 0 ∧ y.2 = NOL) ∨ (0 < y.1 ∧ y.2 = mnF (gZ lo ch s h n) y.1 ∧ 0 ≤ y.2 ∧ y.2 ≤ 1120000))) (fun y => 5 - y.1) (0, NOL) ⟨by dsimp only; omega, Or.inl ⟨rfl, rfl⟩⟩ rfl rfl (fun y hy ih3 => ?_)
      obtain ⟨t, le3⟩ := y
      dsimp only at hy ih3 ⊢
      obtain ⟨ht, hle⟩ := hy
      refine Z.iload C dX1_reckonRest_33 rfl ?_
      refine Z.aload_n C dX1_reckonRest_35 rfl ?_
      refine Z.getf C 3 2 iw_X1_reckonRest_1 rfl rfl (by decide) (by decide +kernel) rfl dX1_reckonRest_36 ?_
      refine Z.iload_n C dX1_reckonRest_39 rfl ?_
      refine Z.iconst C dX1_reckonRest_40 ?_
      refine Z.iadd C dX1_reckonRest_41 ?_
      refine Z.iald C 24 rfl (by omega) (by omega) (by decide) dX1_reckonRest_42 ?_
      refine Z.icmpge C 68 dX1_reckonRest_43 (by decide) (⟨by omega, by omega⟩) (⟨by omega, by omega⟩) (fun q3 => ?_) (fun q3 => ?_)
      · rcases hle with ⟨z, -⟩ | ⟨-, z1, z2, z3⟩
        · omega
        · refine Z.aload_n C dX1_reckonRest_68 rfl ?_
          refine Z.getf C 3 0 iw_X1_reckonRest_1 rfl rfl (by decide) (by decide +kernel) rfl dX1_reckonRest_69 ?_
          refine Z.iload_n C dX1_reckonRest_72 rfl ?_
          refine Z.aald C 4 rfl (by omega) (by omega) (by decide) dX1_reckonRest_73 ?_
          refine Z.iload_n C dX1_reckonRest_74 rfl ?_
          refine Z.iconst C dX1_reckonRest_75 ?_
          refine Z.imul C dX1_reckonRest_76 ?_
          refine Z.iload_n C dX1_reckonRest_77 rfl ?_
          refine Z.iadd C dX1_reckonRest_78 ?_
          refine Z.iload C dX1_reckonRest_79 rfl ?_
          refine Z.iast C _ (wX_brow (by omega) (by omega)) (by omega) (by omega) (by decide) dX1_reckonRest_81 (wX_setbrow (by omega) (by omega)) ?_
          rw [zrow_eq, zrow_zrow]
          refine Z.iinc C dX1_reckonRest_82 rfl (by decide) ?_
          refine Z.goto C 14 dX1_reckonRest_85 (by decide) ?_
          refine ih2 (n + 1, zset f2 (h * 5 + n) le3, .int (iI le3), .int (iI t)) ⟨by dsimp only; omega, fun h' n' a b => ?_, fun n' a => ?_⟩ (by dsimp only; omega)
          · dsimp only
            rw [zset_ne _ (by omega)]
            exact hf1 h' n' a b
          · dsimp only at a ⊢
            by_cases e : n' = n
            · rw [e, zset_eq, RZ_s lo ch hs, z1, show (ch (s + 2)).toNat = t by omega]
            · rw [zset_ne _ (by omega)]
              exact hf2 n' (by omega)
      · have hg := gZ_bd hL hs (h := h) (n := n) (t := t) (by omega) (by omega) (by omega) (by omega) (by omega) (by omega)
        have hgv : sqZ (lo s + h) (lo (s + 1) + n) (lo (s + 2) + t) + (zrow B s f2) (s + 1) (n * 5 + t) = gZ lo ch s h n t := by
          rw [zrow_ne _ _ (by omega), hR n t (by omega) (by omega)]
          rfl
        have hle2 : inr le3 := by unfold NOL at hle; exact ⟨by omega, by omega⟩
        refine Z.iload C dX1_reckonRest_46 rfl ?_
        refine Z.aload_n C dX1_reckonRest_48 rfl ?_
        refine Z.iload_n C dX1_reckonRest_49 rfl ?_
        refine Z.iload_n C dX1_reckonRest_50 rfl ?_
        refine Z.iload_n C dX1_reckonRest_51 rfl ?_
        refine Z.iload C dX1_reckonRest_52 rfl ?_
        refine Z.cVId C 3 4 (c_bendWith l D cI cJ cL ad M (zrow B s f2) lo ch wt sn vo mo le ln od fe se td th cnt bw bs pl tk tc sill day lau s h n t (by omega) (by omega) (by omega) (by omega) (by omega) (by omega)) rfl rfl gX1_reckonRest_X1_bendWith rfl rfl rfl (by decide +kernel) ⟨Nat.le_of_ble_eq_true rfl, Nat.le_of_ble_eq_true rfl⟩ rfl rfl (Nat.le_of_ble_eq_true rfl) ⟨Nat.le_of_ble_eq_true rfl, Nat.le_of_ble_eq_true rfl⟩ dX1_reckonRest_54 ?_
        rw [hgv]
        refine Z.mmin C (by decide +kernel) (by decide +kernel) (by decide +kernel) (by decide +kernel) (Nat.le_of_ble_eq_true rfl) (Nat.le_of_ble_eq_true rfl) ⟨Nat.le_of_ble_eq_true rfl, Nat.le_of_ble_eq_true rfl⟩ (hle2) (⟨by omega, by omega⟩) dX1_reckonRest_57 ?_
        refine Z.istore C dX1_reckonRest_60 (by decide) ?_
        refine Z.iinc C dX1_reckonRest_62 rfl (by decide) ?_
        refine Z.goto C 33 dX1_reckonRest_65 (by decide) ?_
        refine ih3 (t + 1, if gZ lo ch s h n t < le3 then gZ lo ch s h n t else le3) ⟨by dsimp only; omega, Or.inr ⟨by dsimp only; omega, ?_, ?_, ?_⟩⟩ (by dsimp only; omega)
        · dsimp only
          rcases hle with ⟨z1, z2⟩ | ⟨-, z1, -, -⟩
          · subst z1
            have hN : NOL = 2000000 := rfl
            have hF : mnF (gZ lo ch s h n) 0 = 100000000 := rfl
            rw [mnF_lt (by rw [hF]; omega), z2, if_pos (by omega)]
          · rw [z1]
            rfl
        · dsimp only; unfold NOL at hle; split <;> omega
        · dsimp only; unfold NOL at hle; split <;> omega
set_option maxRecDepth 20000 in
theorem iw_X1_lowestThird_1 : ∀ w ∈ u_ws RX1 TX1 3, w ∈ wsX1_lowestThird := by decide +kernel
abbrev rmX1_lowestThird : Room := { frames := 2, cells := 0, slots := 0, locals := 48 }
set_option maxHeartbeats 4000000 in
set_option maxRecDepth 100000 in
theorem c_lowestThird (l : Launch) (D : va_G) (cI cJ cL : ClassId) (ad : Nat → Nat) (M B : Int → Int → Int) (lo ch wt sn vo mo le ln od fe se td th : Int → Int) (cnt bw bs pl tk tc sill day lau : Int) (hL : LC lo ch) (s : Nat) (hs : s ≤ 6) (h n : Int) (h0 : 0 ≤ h) (h1 : h < ch s) (n0 : 0 ≤ n) (n1 : n < ch (s + 1)) (hR : ∀ t : Nat, t < ch (s + 2) → B (s + 1) (n * 5 + t) = RZ lo ch (6 - s) n t) : CI l yX1_lowestThird wsX1_lowestThird rmX1_lowestThird [.ref (ad 3), .int (iI s), .int (iI h), .int (iI n)] D cI cJ cL (wX ad cI cJ M B lo ch wt sn vo mo le ln od fe se td th cnt bw bs pl tk tc sill day lau) (fun r w' => r = amF (gZ lo ch s h n) (ch (s + 2)).toNat ∧ w' = (wX ad cI cJ M B lo ch wt sn vo mo le ln od fe se td th cnt bw bs pl tk tc sill day lau)) := by
  have c0 := hL s (by omega) (by omega)
  have c1 := hL (s + 1) (by omega) (by omega)
  have c2 := hL (s + 2) (by omega) (by omega)
  refine CI.of (cc := cX1_lowestThird) (maxL := 8) (ret := (some .int)) (own := RX1) _ 4 (by decide +kernel) rfl rfl rfl (Nat.le_of_ble_eq_true rfl) rfl (fun sz9 p9 e9 s9 m9 a9 b9 h9 c9 C hr => ?_)
  refine Z.iconst C dX1_lowestThird_0 ?_
  refine Z.istore C dX1_lowestThird_1 (by decide) ?_
  refine Z.ldc C (v := iI 2000000) 2000000 (by decide +kernel) rfl dX1_lowestThird_3 ?_
  refine Z.istore C dX1_lowestThird_5 (by decide) ?_
  refine Z.iconst C dX1_lowestThird_7 ?_
  refine Z.istore C dX1_lowestThird_8 (by decide) ?_
  refine Z.loop (α := Nat × Int × Value) (fun y => (wX ad cI cJ M B lo ch wt sn vo mo le ln od fe se td th cnt bw bs pl tk tc sill day lau)) (fun y => [.ref (ad 3), .int (iI s), .int (iI h), .int (iI n), .int (iI (amF (gZ lo ch s h n) y.1)), .int (iI y.2.1), .int (iI y.1), y.2.2]) (fun y => y.1 ≤ ch (s + 2) ∧ ((y.1 = 0 ∧ y.2.1 = NOL) ∨ (0 < y.1 ∧ y.2.1 = mnF (gZ lo ch s h n) y.1 ∧ 0 ≤ y.2.1 ∧ y.2.1 ≤ 1120000))) (fun y => 5 - y.1) (0, NOL, .null) ⟨by dsimp only; omega, Or.inl ⟨rfl, rfl⟩⟩ rfl rfl (fun y hy ih3 => ?_)
  obtain ⟨t, le3, v7⟩ := y
  dsimp only at hy ih3 ⊢
  obtain ⟨ht, hle⟩ := hy
  refine Z.iload C dX1_lowestThird_10 rfl ?_
  refine Z.aload_n C dX1_lowestThird_12 rfl ?_
  refine Z.getf C 3 2 iw_X1_lowestThird_1 rfl rfl (by decide) (by decide +kernel) rfl dX1_lowestThird_13 ?_
  refine Z.iload_n C dX1_lowestThird_16 rfl ?_
  refine Z.iconst C dX1_lowestThird_17 ?_
  refine Z.iadd C dX1_lowestThird_18 ?_
  refine Z.iald C 24 rfl (by omega) (by omega) (by decide) dX1_lowestThird_19 ?_
  refine Z.icmpge C 55 dX1_lowestThird_20 (by decide) (⟨by omega, by omega⟩) (⟨by omega, by omega⟩) (fun q3 => ?_) (fun q3 => ?_)
  · refine Z.iload C dX1_lowestThird_55 rfl ?_
    exact Z.iret C hr dX1_lowestThird_57 (⟨by rw [show (ch (s + 2)).toNat = t by omega], rfl⟩)
  · have hg := gZ_bd hL hs (h := h) (n := n) (t := t) h0 h1 n0 n1 (by omega) (by omega)
    have hgv : sqZ (lo s + h) (lo (s + 1) + n) (lo (s + 2) + t) + B (s + 1) (n * 5 + t) = gZ lo ch s h n t := by
      rw [hR t (by omega)]
      rfl
    have hle2 : inr le3 := by unfold NOL at hle; exact ⟨by omega, by omega⟩
    have hlt : gZ lo ch s h n t < le3 ↔ gZ lo ch s h n t < mnF (gZ lo ch s h n) t := by
      rcases hle with ⟨z1, z2⟩ | ⟨-, z1, -, -⟩
      · subst z1
        rw [z2, show mnF (gZ lo ch s h n) ((0 : Nat)) = FAR from rfl]
        unfold NOL FAR
        omega
      · rw [z1]
    refine Z.aload_n C dX1_lowestThird_23 rfl ?_
    refine Z.iload_n C dX1_lowestThird_24 rfl ?_
    refine Z.iload_n C dX1_lowestThird_25 rfl ?_
    refine Z.iload_n C dX1_lowestThird_26 rfl ?_
    refine Z.iload C dX1_lowestThird_27 rfl ?_
    refine Z.cVId C 3 4 (c_bendWith l D cI cJ cL ad M B lo ch wt sn vo mo le ln od fe se td th cnt bw bs pl tk tc sill day lau s h n t (by omega) (by omega) (by omega) (by omega) (by omega) (by omega)) rfl rfl gX1_lowestThird_X1_bendWith rfl rfl rfl (by decide +kernel) ⟨Nat.le_of_ble_eq_true rfl, Nat.le_of_ble_eq_true rfl⟩ rfl rfl (Nat.le_of_ble_eq_true rfl) ⟨Nat.le_of_ble_eq_true rfl, Nat.le_of_ble_eq_true rfl⟩ dX1_lowestThird_29 ?_
    rw [hgv]
    refine Z.istore C dX1_lowestThird_32 (by decide) ?_
    refine Z.iload C dX1_lowestThird_34 rfl ?_
    refine Z.iload C dX1_lowestThird_36 rfl ?_
    refine Z.icmpge C 49 dX1_lowestThird_38 (by decide) (⟨by omega, by omega⟩) (hle2) (fun q4 => ?_) (fun q4 => ?_)
    · have hno : ¬ gZ lo ch s h n t < mnF (gZ lo ch s h n) t := fun z => by have := hlt.mpr z; omega
      refine Z.iinc C dX1_lowestThird_49 rfl (by decide) ?_
      refine Z.goto C 10 dX1_lowestThird_52 (by decide) ?_
      rcases hle with ⟨z1, z2⟩ | ⟨z0, z1, z2, z3⟩
      · unfold NOL at z2; omega
      · rw [← amF_ge hno]
        exact ih3 (t + 1, le3, _) ⟨by dsimp only; omega, Or.inr ⟨by dsimp only; omega, by dsimp only; rw [mnF_ge hno, z1], z2, z3⟩⟩ (by dsimp only; omega)
    · have hno := hlt.mp q4
      refine Z.iload C dX1_lowestThird_41 rfl ?_
      refine Z.istore C dX1_lowestThird_43 (by decide) ?_
      refine Z.iload C dX1_lowestThird_45 rfl ?_
      refine Z.istore C dX1_lowestThird_47 (by decide) ?_
      refine Z.iinc C dX1_lowestThird_49 rfl (by decide) ?_
      refine Z.goto C 10 dX1_lowestThird_52 (by decide) ?_
      have ham := amF_lt hno
      have z := ih3 (t + 1, gZ lo ch s h n t, .int (iI (gZ lo ch s h n t))) ⟨by dsimp only; omega, Or.inr ⟨by dsimp only; omega, by dsimp only; rw [mnF_lt hno], hg.1, hg.2⟩⟩ (by dsimp only; omega)
      dsimp only at z
      rw [ham] at z
      exact z
