/-! ===== the reference: planks ===== -/
def pk_ (pl : Int) (Ls : Int → Int) : Nat → (Int → Int) × Int
  | 0 => (fun _ => 0, 0)
  | k + 1 => (cutZ pl (pk_ pl Ls k).1 (pk_ pl Ls k).2 (Ls (skZ Ls ((k / 2 : Nat) : Int) 5))).2
def rr_ (pl : Int) (Ls : Int → Int) (k : Nat) : Int := (cutZ pl (pk_ pl Ls k).1 (pk_ pl Ls k).2 (Ls (skZ Ls ((k / 2 : Nat) : Int) 5))).1
theorem plS_pk (pl : Int) (Ls : Int → Int) : ∀ t : Nat, (plS pl Ls t).1 = (pk_ pl Ls (2 * t)).1 ∧ (plS pl Ls t).2.1 = (pk_ pl Ls (2 * t)).2
  | 0 => ⟨rfl, rfl⟩
  | t + 1 => by
    obtain ⟨h1, h2⟩ := plS_pk pl Ls t
    have e : 2 * (t + 1) = 2 * t + 1 + 1 := by omega
    have e1 : (2 * t + 1) / 2 = t := by omega
    have e2 : 2 * t / 2 = t := by omega
    rw [e]
    simp only [plS, pk_]
    rw [e1, e2, ← h1, ← h2]
    exact ⟨rfl, rfl⟩
theorem plS_r (pl : Int) (Ls : Int → Int) (hinj : ∀ a b : Nat, a < 5 → b < 5 → skZ Ls a 5 = skZ Ls b 5 → a = b) : ∀ T : Nat, T ≤ 5 → ∀ t : Nat, t < T → (plS pl Ls T).2.2.1 (skZ Ls t 5) = rr_ pl Ls (2 * t) ∧ (plS pl Ls T).2.2.2 (skZ Ls t 5) = rr_ pl Ls (2 * t + 1)
  | 0, _, t, h => absurd h (Nat.not_lt_zero _)
  | T + 1, hT, t, h => by
    obtain ⟨h1, h2⟩ := plS_pk pl Ls T
    simp only [plS]
    by_cases e : t = T
    · subst e
      rw [zset_eq, zset_eq]
      unfold rr_
      have e1 : (2 * t + 1) / 2 = t := by omega
      have e2 : 2 * t / 2 = t := by omega
      simp only [pk_]
      rw [e1, e2, ← h1, ← h2]
      exact ⟨rfl, rfl⟩
    · have hne : skZ Ls t 5 ≠ skZ Ls T 5 := fun q => e (hinj t T (by omega) (by omega) q)
      rw [zset_ne _ hne, zset_ne _ hne]
      exact plS_r pl Ls hinj T (by omega) t (by omega)
theorem SO_ins {Ls od : Int → Int} {i : Nat} : ∃ p : Nat, p ≤ i ∧ (∀ j : Nat, p ≤ j → j < i → Ls (od j) < Ls i) ∧ (p = 0 ∨ Ls i ≤ Ls (od ((p : Int) - 1))) := by
  have key : ∀ n : Nat, n ≤ i → ∃ p : Nat, p ≤ i ∧ (∀ j : Nat, p ≤ j → j < i → Ls (od j) < Ls i) ∧ (p = 0 ∨ Ls i ≤ Ls (od ((p : Int) - 1)) ∨ p = i - n) := by
    intro n
    induction n with
    | zero => intro _; exact ⟨i, Nat.le_refl _, fun j a b => by omega, Or.inr (Or.inr (by omega))⟩
    | succ n ih =>
      intro hn
      obtain ⟨p, h1, h2, h3⟩ := ih (by omega)
      rcases h3 with h3 | h3 | h3
      · exact ⟨p, h1, h2, Or.inl h3⟩
      · exact ⟨p, h1, h2, Or.inr (Or.inl h3)⟩
      · by_cases q : Ls i ≤ Ls (od ((p : Int) - 1))
        · exact ⟨p, h1, h2, Or.inr (Or.inl q)⟩
        · refine ⟨p - 1, by omega, fun j a b => ?_, Or.inr (Or.inr (by omega))⟩
          by_cases e : j = p - 1
          · rw [e, show ((p - 1 : Nat) : Int) = (p : Int) - 1 by omega]; omega
          · exact h2 j (by omega) b
  obtain ⟨p, h1, h2, h3⟩ := key i (Nat.le_refl _)
  exact ⟨p, h1, h2, by rcases h3 with h | h | h; exact Or.inl h; exact Or.inr h; exact Or.inl (by omega)⟩
theorem SO_ex (Ls : Int → Int) : ∀ i : Nat, ∃ od : Int → Int, SO Ls od i
  | 0 => ⟨fun _ => 0, fun t h => absurd h (Nat.not_lt_zero _), fun a b _ h => absurd h (Nat.not_lt_zero _), fun g => rfl⟩
  | i + 1 => by
    obtain ⟨od, h⟩ := SO_ex Ls i
    obtain ⟨p, h1, h2, h3⟩ := SO_ins (Ls := Ls) (od := od) (i := i)
    refine ⟨zset (fun j => if j < p then od j else od (j - 1)) p i, SO_step h h1 (fun j hj => ?_) (fun j a b => ?_) h2 h3⟩
    · show (if (j : Int) < p then od j else od ((j : Int) - 1)) = od j
      rw [if_pos (by omega)]
    · show (if (j : Int) < p then od j else od ((j : Int) - 1)) = _
      rw [if_neg (by omega)]
theorem sk_inj (Ls : Int → Int) : ∀ a b : Nat, a < 5 → b < 5 → skZ Ls a 5 = skZ Ls b 5 → a = b := by
  obtain ⟨od, h⟩ := SO_ex Ls 5
  intro a b ha hb e
  have h1 := SO_rk h ha
  have h2 := SO_rk h hb
  rw [SO_sk h ha, SO_sk h hb] at e
  rw [e, h2] at h1
  omega
theorem sk_in (Ls : Int → Int) : ∀ a : Nat, a < 5 → 0 ≤ skZ Ls a 5 ∧ skZ Ls a 5 < 5 := by
  obtain ⟨od, h⟩ := SO_ex Ls 5
  intro a ha
  rw [SO_sk h ha]
  exact h.1 a ha
theorem sk_surj (Ls : Int → Int) {j : Int} (h0 : 0 ≤ j) (h1 : j < 5) : ∃ t : Nat, t < 5 ∧ skZ Ls t 5 = j := by
  obtain ⟨od, h⟩ := SO_ex Ls 5
  obtain ⟨t, h2, h3⟩ := SO_surj h h0 h1
  exact ⟨t, h2, by rw [SO_sk h h2]; exact h3⟩
theorem pk_bd {pl : Int} (hp : 100 ≤ pl) (hp2 : pl ≤ 4000) {M : Int → Int → Int} (hM : hOK M) : ∀ k : Nat, k ≤ 10 → bdN (pk_ pl (LsM M) k).1 (pk_ pl (LsM M) k).2 ∧ 0 ≤ (pk_ pl (LsM M) k).2 ∧ (pk_ pl (LsM M) k).2 ≤ 17 * k
  | 0, _ => ⟨fun j a b => absurd b (by simp only [pk_]; omega), by simp [pk_], by simp [pk_]⟩
  | k + 1, hk => by
    obtain ⟨h1, h2, h3⟩ := pk_bd hp hp2 hM k (by omega)
    have hb := strZ_bd hM (skZ (LsM M) ((k / 2 : Nat) : Int) 5) 8
    have hl : LsM M (skZ (LsM M) ((k / 2 : Nat) : Int) 5) = strZ (M (skZ (LsM M) ((k / 2 : Nat) : Int) 5)) 8 := rfl
    have c := cutZ_bd hp hp2 (f := (pk_ pl (LsM M) k).1) (n := (pk_ pl (LsM M) k).2) (len := LsM M (skZ (LsM M) ((k / 2 : Nat) : Int) 5)) h2 h1 (by omega) (by omega)
    simp only [pk_]
    exact ⟨c.2.2.1, by omega, by omega⟩
set_option maxRecDepth 20000 in
theorem iw_X7_planksNow_7 : ∀ w ∈ u_ws RX7 TX7 16, w ∈ wsX7_planksNow := by decide +kernel
abbrev rmX7_planksNow : Room := { frames := 3, cells := 0, slots := 0, locals := 70 }
set_option maxHeartbeats 4000000 in
set_option maxRecDepth 100000 in
theorem m_planksNow (l : Launch) (D : va_G) (cI cJ cL : ClassId) (ad : Nat → Nat) (hf at_ wg lf cf dy ti bh ln : Int → Int) (thr nw lg nt sl dd il : Int) (M : Int → Int → Int) (hM : hOK M) (hR : RH M hf) (hp : 100 ≤ lg) (hp2 : lg ≤ 4000) : CI l yX7_planksNow wsX7_planksNow rmX7_planksNow [.ref (ad 0)] D cI cJ cL (wM ad cI hf at_ wg lf cf dy ti bh ln thr nw lg nt sl dd il) (fun r w' => r = (plS lg (LsM M) 5).2.1 ∧ ∃ lf' cf' : Int → Int, (∀ j : Int, 0 ≤ j → j < 5 → cf' (2 * j) = (plS lg (LsM M) 5).2.2.1 j ∧ cf' (2 * j + 1) = (plS lg (LsM M) 5).2.2.2 j) ∧ w' = (wM ad cI hf at_ wg lf' cf' dy ti bh ln thr nw lg nt sl dd il)) := by
  refine CI.of (cc := cX7_planksNow) (maxL := 6) (ret := (some .int)) (own := RX7) _ 5 (by decide +kernel) rfl rfl rfl (Nat.le_of_ble_eq_true rfl) rfl (fun sz9 p9 e9 s9 m9 a9 b9 h9 c9 C hr => ?_)
  refine Z.iconst C dX7_planksNow_0 ?_
  refine Z.istore_n C dX7_planksNow_1 (by decide) ?_
  refine Z.iconst C dX7_planksNow_2 ?_
  refine Z.istore_n C dX7_planksNow_3 (by decide) ?_
  refine Z.loop (α := Nat × (Int → Int) × (Int → Int) × Value × Value × Value) (fun y => (wM ad cI hf at_ wg y.2.1 y.2.2.1 dy ti bh ln thr nw lg nt sl dd il)) (fun y => [.ref (ad 0), .int (iI (pk_ lg (LsM M) y.1).2), .int (iI y.1), y.2.2.2.1, y.2.2.2.2.1, y.2.2.2.2.2]) (fun y => y.1 ≤ 10 ∧ agN y.2.1 (pk_ lg (LsM M) y.1).1 (pk_ lg (LsM M) y.1).2 ∧ (∀ t : Nat, t < 5 → (2 * t < y.1 → y.2.2.1 (2 * skZ (LsM M) t 5) = rr_ lg (LsM M) (2 * t)) ∧ (2 * t + 1 < y.1 → y.2.2.1 (2 * skZ (LsM M) t 5 + 1) = rr_ lg (LsM M) (2 * t + 1)))) (fun y => 10 - y.1) (0, lf, cf, .null, .null, .null) ⟨Nat.zero_le _, fun j a b => absurd b (by simp only [pk_]; omega), fun t _ => ⟨fun h => absurd h (Nat.not_lt_zero _), fun h => absurd h (Nat.not_lt_zero _)⟩⟩ rfl rfl (fun y hy ih => ?_)
  obtain ⟨k, lf1, cf1, v3, v4, v5⟩ := y
  dsimp only at hy ih ⊢
  obtain ⟨hk, hag, hcf⟩ := hy
  have hbd := pk_bd hp hp2 hM k hk
  refine Z.iload_n C dX7_planksNow_4 rfl ?_
  refine Z.bipush C dX7_planksNow_5 (by decide) ?_
  refine Z.icmpge C 134 dX7_planksNow_7 (by decide) (⟨by omega, by omega⟩) (⟨by omega, by omega⟩) (fun h => ?_) (fun h => ?_)
  · have e10 : k = 10 := by omega
    subst e10
    have hpl := plS_pk lg (LsM M) 5
    refine Z.iload_n C dX7_planksNow_134 rfl ?_
    refine Z.iret C hr dX7_planksNow_135 ⟨hpl.2.symm, lf1, cf1, fun j h0 h1 => ?_, rfl⟩
    obtain ⟨t, h2, h3⟩ := sk_surj (LsM M) h0 h1
    have h4 := plS_r lg (LsM M) (sk_inj (LsM M)) 5 (Nat.le_refl _) t h2
    have h5 := hcf t h2
    rw [h3] at h4 h5
    rw [h4.1, h4.2]
    exact ⟨h5.1 (by omega), h5.2 (by omega)⟩
  · have hsi := sk_in (LsM M) (k / 2) (by omega)
    have hpkS : pk_ lg (LsM M) (k + 1) = (cutZ lg (pk_ lg (LsM M) k).1 (pk_ lg (LsM M) k).2 (LsM M (skZ (LsM M) ((k / 2 : Nat) : Int) 5))).2 := rfl
    have hrr : rr_ lg (LsM M) k = (cutZ lg (pk_ lg (LsM M) k).1 (pk_ lg (LsM M) k).2 (LsM M (skZ (LsM M) ((k / 2 : Nat) : Int) 5))).1 := rfl
    refine Z.aload_n C dX7_planksNow_10 rfl ?_
    refine Z.iload_n C dX7_planksNow_11 rfl ?_
    refine Z.iconst C dX7_planksNow_12 ?_
    refine Z.idiv C dX7_planksNow_13 (by omega) (by omega) (by omega) (by omega) ?_
    rw [show (k : Int) / 2 = ((k / 2 : Nat) : Int) by omega]
    refine Z.cVId C 0 1 (m_strakeBehind l D cI cJ cL ad hf at_ wg lf1 cf1 dy ti bh ln thr nw lg nt sl dd il M hM hR ((k / 2 : Nat) : Int) (by omega) (by omega)) rfl rfl gX7_planksNow_X7_strakeBehind rfl rfl rfl (by decide +kernel) ⟨Nat.le_of_ble_eq_true rfl, Nat.le_of_ble_eq_true rfl⟩ rfl rfl (Nat.le_of_ble_eq_true rfl) ⟨Nat.le_of_ble_eq_true rfl, Nat.le_of_ble_eq_true rfl⟩ dX7_planksNow_14 ?_
    have hinj : ∀ t : Nat, t < 5 → skZ (LsM M) t 5 = skZ (LsM M) ((k / 2 : Nat) : Int) 5 → t = k / 2 := fun t ht e => sk_inj (LsM M) t (k / 2) ht (by omega) e
    generalize hst : skZ (LsM M) ((k / 2 : Nat) : Int) 5 = st at hsi hpkS hrr hinj
    have hb := strZ_bd hM st 8
    have hlen : LsM M st = strZ (M st) 8 := rfl
    refine Z.istore_n C dX7_planksNow_17 (by decide) ?_
    refine Z.aload_n C dX7_planksNow_18 rfl ?_
    refine Z.iload_n C dX7_planksNow_19 rfl ?_
    refine Z.cVId C 0 1 (m_strakeOf l D cI cJ cL ad hf at_ wg lf1 cf1 dy ti bh ln thr nw lg nt sl dd il M hM hR st (by omega) (by omega)) rfl rfl gX7_planksNow_X7_strakeOf rfl rfl rfl (by decide +kernel) ⟨Nat.le_of_ble_eq_true rfl, Nat.le_of_ble_eq_true rfl⟩ rfl rfl (Nat.le_of_ble_eq_true rfl) ⟨Nat.le_of_ble_eq_true rfl, Nat.le_of_ble_eq_true rfl⟩ dX7_planksNow_20 ?_
    refine Z.istore C dX7_planksNow_23 (by decide) ?_
    refine Z.loop (α := (Int → Int) × (Int → Int) × Int × Int × Nat) (fun y => (wM ad cI hf at_ wg y.1 cf1 dy ti bh ln thr nw lg nt sl dd il)) (fun y => [.ref (ad 0), .int (iI y.2.2.1), .int (iI k), .int (iI st), .int (iI y.2.2.2.1), v5]) (fun y => agN y.1 y.2.1 y.2.2.1 ∧ bdN y.2.1 y.2.2.1 ∧ 0 ≤ y.2.2.1 ∧ y.2.2.1 + y.2.2.2.2 ≤ 169 ∧ 0 ≤ y.2.2.2.1 ∧ y.2.2.2.1 ≤ 100 * (y.2.2.2.2 + 1) ∧ whZ lg y.2.2.2.2 y.2.1 y.2.2.1 y.2.2.2.1 = whZ lg 16 (pk_ lg (LsM M) k).1 (pk_ lg (LsM M) k).2 (LsM M st)) (fun y => y.2.2.2.2) (lf1, (pk_ lg (LsM M) k).1, (pk_ lg (LsM M) k).2, LsM M st, 16) ⟨hag, hbd.1, hbd.2.1, by dsimp only; omega, by dsimp only; omega, by dsimp only; omega, rfl⟩ rfl rfl (fun y hy ih2 => ?_)
    obtain ⟨le1, f1, n, r, t⟩ := y
    dsimp only at hy ih2 ⊢
    obtain ⟨g1, g2, g3, g4, g5, g6, g7⟩ := hy
    refine Z.iload C dX7_planksNow_25 rfl ?_
    refine Z.aload_n C dX7_planksNow_27 rfl ?_
    refine Z.getf C 0 5 iw_X7_planksNow_7 rfl rfl (by decide) (by decide +kernel) rfl dX7_planksNow_28 ?_
    refine Z.icmple C 56 dX7_planksNow_31 (by decide) (⟨by omega, by omega⟩) (⟨by omega, by omega⟩) (fun h2 => ?_) (fun h2 => ?_)
    · rw [whZ_end h2] at g7
      have hcut : cutZ lg (pk_ lg (LsM M) k).1 (pk_ lg (LsM M) k).2 (LsM M st) = cutF lg (f1, n, r) := by unfold cutZ; rw [← g7]
      rw [hcut] at hpkS hrr
      unfold cutF at hpkS hrr
      dsimp only at hpkS hrr
      refine Z.cut (α := (Int → Int) × Int) 114 (fun y => (wM ad cI hf at_ wg y.1 cf1 dy ti bh ln thr nw lg nt sl dd il)) (fun y => [.ref (ad 0), .int (iI (pk_ lg (LsM M) (k + 1)).2), .int (iI k), .int (iI st), .int (iI r), .int (iI (rr_ lg (LsM M) k))]) (fun _ => []) (fun y => agN y.1 (pk_ lg (LsM M) (k + 1)).1 (pk_ lg (LsM M) (k + 1)).2) (fun y hy => ?_) (fun join => ?_)
      · obtain ⟨lf2, z⟩ := y
        dsimp only at hy ⊢
        refine Z.aload_n C dX7_planksNow_114 rfl ?_
        refine Z.getf C 0 7 iw_X7_planksNow_7 rfl rfl (by decide) (by decide +kernel) rfl dX7_planksNow_115 ?_
        refine Z.iconst C dX7_planksNow_118 ?_
        refine Z.iload_n C dX7_planksNow_119 rfl ?_
        refine Z.imul C dX7_planksNow_120 ?_
        refine Z.iload_n C dX7_planksNow_121 rfl ?_
        refine Z.iconst C dX7_planksNow_122 ?_
        refine Z.irem C dX7_planksNow_123 (by omega) (by omega) (by omega) (by omega) ?_
        rw [show (k : Int) % 2 = ((k % 2 : Nat) : Int) by omega]
        refine Z.iadd C dX7_planksNow_124 ?_
        refine Z.iload C dX7_planksNow_125 rfl ?_
        refine Z.iast C 5 rfl (by omega) (by omega) (by decide) dX7_planksNow_127 wM_a5 ?_
        refine Z.iinc C dX7_planksNow_128 rfl (by decide) ?_
        refine Z.goto C 4 dX7_planksNow_131 (by decide) ?_
        refine ih (k + 1, lf2, zset cf1 (2 * st + ((k % 2 : Nat) : Int)) (rr_ lg (LsM M) k), .int (iI st), .int (iI r), .int (iI (rr_ lg (LsM M) k))) ⟨by dsimp only; omega, hy, fun t' ht' => ⟨fun q => ?_, fun q => ?_⟩⟩ (by dsimp only; omega)
        · dsimp only at q ⊢
          by_cases e : 2 * skZ (LsM M) t' 5 = 2 * st + ((k % 2 : Nat) : Int)
          · have e1 := hinj t' ht' (by omega)
            have e2 : 2 * t' = k := by omega
            rw [e, zset_eq, e2]
          · rw [zset_ne _ e]
            have : 2 * t' ≠ k := fun z => e (by
              have e0 : t' = k / 2 := by omega
              have e3 : k % 2 = 0 := by omega
              have e4 : skZ (LsM M) t' 5 = st := by rw [e0]; exact hst
              rw [e3, e4]
              omega)
            exact (hcf t' ht').1 (by omega)
        · dsimp only at q ⊢
          by_cases e : 2 * skZ (LsM M) t' 5 + 1 = 2 * st + ((k % 2 : Nat) : Int)
          · have e1 := hinj t' ht' (by omega)
            have e2 : 2 * t' + 1 = k := by omega
            rw [e, zset_eq, e2]
          · rw [zset_ne _ e]
            have : 2 * t' + 1 ≠ k := fun z => e (by
              have e0 : t' = k / 2 := by omega
              have e3 : k % 2 = 1 := by omega
              have e4 : skZ (LsM M) t' 5 = st := by rw [e0]; exact hst
              rw [e3, e4]
              omega)
            exact (hcf t' ht').2 (by omega)
      · skip
        refine Z.iconst C dX7_planksNow_56 ?_
        refine Z.istore C dX7_planksNow_57 (by decide) ?_
        refine Z.loop (α := Nat) (fun _ => (wM ad cI hf at_ wg le1 cf1 dy ti bh ln thr nw lg nt sl dd il)) (fun j => [.ref (ad 0), .int (iI n), .int (iI k), .int (iI st), .int (iI r), .int (iI j)]) (fun j => j ≤ n.toNat ∧ fsZ f1 r j = -1) (fun j => n.toNat - j) 0 ⟨Nat.zero_le _, rfl⟩ rfl rfl (fun j hj ih3 => ?_)
        obtain ⟨hj, hf⟩ := hj
        refine Z.iload C dX7_planksNow_59 rfl ?_
        refine Z.iload_n C dX7_planksNow_61 rfl ?_
        refine Z.icmpge C 83 dX7_planksNow_62 (by decide) (⟨by omega, by omega⟩) (⟨by omega, by omega⟩) (fun h3 => ?_) (fun h3 => ?_)
        · rw [show n.toNat = j by omega, if_pos hf] at hpkS hrr
          refine Z.iload C dX7_planksNow_83 rfl ?_
          refine Z.iload_n C dX7_planksNow_85 rfl ?_
          refine Z.icmpne C 102 dX7_planksNow_86 (by decide) (⟨by omega, by omega⟩) (⟨by omega, by omega⟩) (fun h4 => ?_) (fun h4 => ?_)
          · omega
          · rw [show (j : Int) = n by omega]
            refine Z.aload_n C dX7_planksNow_89 rfl ?_
            refine Z.getf C 0 6 iw_X7_planksNow_7 rfl rfl (by decide) (by decide +kernel) rfl dX7_planksNow_90 ?_
            refine Z.iload_n C dX7_planksNow_93 rfl ?_
            refine Z.aload_n C dX7_planksNow_94 rfl ?_
            refine Z.getf C 0 5 iw_X7_planksNow_7 rfl rfl (by decide) (by decide +kernel) rfl dX7_planksNow_95 ?_
            refine Z.iast C 4 rfl (by omega) (by omega) (by decide) dX7_planksNow_98 wM_a4 ?_
            refine Z.iinc C dX7_planksNow_99 rfl (by decide) ?_
            refine Z.aload_n C dX7_planksNow_102 rfl ?_
            refine Z.getf C 0 6 iw_X7_planksNow_7 rfl rfl (by decide) (by decide +kernel) rfl dX7_planksNow_103 ?_
            refine Z.iload C dX7_planksNow_106 rfl ?_
            refine Z.dup2 C dX7_planksNow_108 rfl rfl ?_
            refine Z.iald C 4 rfl (by omega) (by omega) (by decide) dX7_planksNow_109 ?_
            rw [zset_eq]
            refine Z.iload C dX7_planksNow_110 rfl ?_
            refine Z.isub C dX7_planksNow_112 ?_
            refine Z.iast C 4 rfl (by omega) (by omega) (by decide) dX7_planksNow_113 wM_a4 ?_
            rw [zset_zset]
            have e1 : n + 1 = (pk_ lg (LsM M) (k + 1)).2 := by rw [hpkS]
            have e2 : n = rr_ lg (LsM M) k := by rw [hrr]
            have z := join (zset le1 n (lg - r), 0) (by dsimp only; rw [hpkS]; exact g1.push _)
            dsimp only at z
            rw [← e1, ← e2] at z
            exact z
        · have e1 := g1 j (by omega) (by omega)
          have e2 := g2 j (by omega) (by omega)
          refine Z.aload_n C dX7_planksNow_65 rfl ?_
          refine Z.getf C 0 6 iw_X7_planksNow_7 rfl rfl (by decide) (by decide +kernel) rfl dX7_planksNow_66 ?_
          refine Z.iload C dX7_planksNow_69 rfl ?_
          refine Z.iald C 4 rfl (by omega) (by omega) (by decide) dX7_planksNow_71 ?_
          refine Z.iload C dX7_planksNow_72 rfl ?_
          rw [e1]
          refine Z.icmpge C 83 dX7_planksNow_74 (by decide) (⟨by omega, by omega⟩) (⟨by omega, by omega⟩) (fun h4 => ?_) (fun h4 => ?_)
          · rw [fsZ_found hf (by omega) n.toNat (by omega), if_neg (by omega)] at hpkS hrr
            refine Z.iload C dX7_planksNow_83 rfl ?_
            refine Z.iload_n C dX7_planksNow_85 rfl ?_
            refine Z.icmpne C 102 dX7_planksNow_86 (by decide) (⟨by omega, by omega⟩) (⟨by omega, by omega⟩) (fun h5 => ?_) (fun h5 => ?_)
            · refine Z.aload_n C dX7_planksNow_102 rfl ?_
              refine Z.getf C 0 6 iw_X7_planksNow_7 rfl rfl (by decide) (by decide +kernel) rfl dX7_planksNow_103 ?_
              refine Z.iload C dX7_planksNow_106 rfl ?_
              refine Z.dup2 C dX7_planksNow_108 rfl rfl ?_
              refine Z.iald C 4 rfl (by omega) (by omega) (by decide) dX7_planksNow_109 ?_
              rw [e1]
              refine Z.iload C dX7_planksNow_110 rfl ?_
              refine Z.isub C dX7_planksNow_112 ?_
              refine Z.iast C 4 rfl (by omega) (by omega) (by decide) dX7_planksNow_113 wM_a4 ?_
              have e3 : n = (pk_ lg (LsM M) (k + 1)).2 := by rw [hpkS]
              have e4 : (j : Int) = rr_ lg (LsM M) k := by rw [hrr]
              have z := join (zset le1 j (f1 j - r), 0) (by dsimp only; rw [hpkS]; exact g1.set _ _)
              dsimp only at z
              rw [← e3, ← e4] at z
              exact z
            · omega
          · refine Z.iinc C dX7_planksNow_77 rfl (by decide) ?_
            refine Z.goto C 59 dX7_planksNow_80 (by decide) ?_
            exact ih3 (j + 1) ⟨by omega, fsZ_next hf (by omega)⟩ (by omega)
    · obtain ⟨t', rfl⟩ : ∃ t' : Nat, t = t' + 1 := ⟨t - 1, by omega⟩
      simp only [whZ] at g7
      rw [if_pos h2] at g7
      refine Z.aload_n C dX7_planksNow_34 rfl ?_
      refine Z.getf C 0 6 iw_X7_planksNow_7 rfl rfl (by decide) (by decide +kernel) rfl dX7_planksNow_35 ?_
      refine Z.iload_n C dX7_planksNow_38 rfl ?_
      refine Z.iconst C dX7_planksNow_39 ?_
      refine Z.iast C 4 rfl (by omega) (by omega) (by decide) dX7_planksNow_40 wM_a4 ?_
      refine Z.iinc C dX7_planksNow_41 rfl (by decide) ?_
      refine Z.iload C dX7_planksNow_44 rfl ?_
      refine Z.aload_n C dX7_planksNow_46 rfl ?_
      refine Z.getf C 0 5 iw_X7_planksNow_7 rfl rfl (by decide) (by decide +kernel) rfl dX7_planksNow_47 ?_
      refine Z.isub C dX7_planksNow_50 ?_
      refine Z.istore C dX7_planksNow_51 (by decide) ?_
      refine Z.goto C 25 dX7_planksNow_53 (by decide) ?_
      exact ih2 (zset le1 n 0, zset f1 n 0, n + 1, r - lg, t') ⟨g1.push 0, g2.push (by omega) (by omega), by dsimp only; omega, by dsimp only; push_cast at g4 ⊢; omega, by dsimp only; omega, by dsimp only; push_cast at g6 ⊢; omega, g7⟩ (by dsimp only; omega)
set_option maxRecDepth 20000 in
theorem iw_X7_planks_7 : ∀ w ∈ u_ws RX7 TX7 16, w ∈ wsX7_planks := by decide +kernel
abbrev rmX7_planks : Room := { frames := 4, cells := 0, slots := 0, locals := 95 }
set_option maxHeartbeats 4000000 in
set_option maxRecDepth 100000 in
theorem m_planks (l : Launch) (D : va_G) (cI cJ cL : ClassId) (ad : Nat → Nat) (hf at_ wg lf cf dy ti bh ln : Int → Int) (thr nw lg nt sl dd il : Int) (M : Int → Int → Int) (hM : hOK M) (hR : RH M hf) (x : Int) (hx : inr x) : CI l yX7_planks wsX7_planks rmX7_planks [.ref (ad 0), .int (iI x)] D cI cJ cL (wM ad cI hf at_ wg lf cf dy ti bh ln thr nw lg nt sl dd il) (fun r w' => (¬ (100 ≤ x ∧ x ≤ 4000) ∧ w' = (wM ad cI hf at_ wg lf cf dy ti bh ln 1 nw lg nt sl dd il)) ∨ ((100 ≤ x ∧ x ≤ 4000) ∧ r = (plS x (LsM M) 5).2.1 ∧ ∃ lf' cf' : Int → Int, w' = (wM ad cI hf at_ wg lf' cf' dy ti bh ln 0 nw x nt sl dd il))) := by
  refine CI.of (cc := cX7_planks) (maxL := 2) (ret := (some .int)) (own := RX7) _ 0 (by decide +kernel) rfl rfl rfl (Nat.le_of_ble_eq_true rfl) rfl (fun sz9 p9 e9 s9 m9 a9 b9 h9 c9 C hr => ?_)
  refine Z.aload_n C dX7_planks_0 rfl ?_
  refine Z.iload_n C dX7_planks_1 rfl ?_
  refine Z.bipush C dX7_planks_2 (by decide) ?_
  refine Z.sipush C dX7_planks_4 (by decide) ?_
  refine Z.cSIp C 3 (m_in l D cI cJ cL x 100 4000 hx ⟨by decide, by decide⟩ ⟨by decide, by decide⟩) gX7_planks_X7_in rfl rfl rfl (by decide +kernel) ⟨Nat.le_of_ble_eq_true rfl, Nat.le_of_ble_eq_true rfl⟩ rfl rfl (Nat.le_of_ble_eq_true rfl) ⟨Nat.le_of_ble_eq_true rfl, Nat.le_of_ble_eq_true rfl⟩ dX7_planks_7 ?_
  refine Z.ifeq C 17 dX7_planks_10 (by decide) ((inZ_r _ _ _)) (fun h1 => ?_) (fun h1 => ?_)
  · have q1 := inZ_0 h1
    refine Z.iconst C dX7_planks_17 ?_
    refine Z.putf C 0 0 iw_X7_planks_7 rfl rfl (by decide) tyX7 tyX7_ok nmX7 (by decide +kernel) rfl (ty := .int) (by decide +kernel) rfl rfl (Nat.le_of_ble_eq_true rfl) dX7_planks_18 wM_s_thr ?_
    refine Z.aload_n C dX7_planks_21 rfl ?_
    refine Z.getf C 0 0 iw_X7_planks_7 rfl rfl (by decide) (by decide +kernel) rfl dX7_planks_22 ?_
    refine Z.ifle C 30 dX7_planks_25 (by decide) (⟨by omega, by omega⟩) (fun h2 => ?_) (fun h2 => ?_)
    · omega
    · refine Z.iconst C dX7_planks_28 ?_
      exact Z.iret C hr dX7_planks_29 ((Or.inl ⟨q1, rfl⟩))
  · have q1 := inZ_1 h1
    refine Z.iconst C dX7_planks_13 ?_
    refine Z.goto C 18 dX7_planks_14 (by decide) ?_
    refine Z.putf C 0 0 iw_X7_planks_7 rfl rfl (by decide) tyX7 tyX7_ok nmX7 (by decide +kernel) rfl (ty := .int) (by decide +kernel) rfl rfl (Nat.le_of_ble_eq_true rfl) dX7_planks_18 wM_s_thr ?_
    refine Z.aload_n C dX7_planks_21 rfl ?_
    refine Z.getf C 0 0 iw_X7_planks_7 rfl rfl (by decide) (by decide +kernel) rfl dX7_planks_22 ?_
    refine Z.ifle C 30 dX7_planks_25 (by decide) (⟨by omega, by omega⟩) (fun h2 => ?_) (fun h2 => ?_)
    · refine Z.aload_n C dX7_planks_30 rfl ?_
      refine Z.iload_n C dX7_planks_31 rfl ?_
      refine Z.putf C 0 5 iw_X7_planks_7 rfl rfl (by decide) tyX7 tyX7_ok nmX7 (by decide +kernel) rfl (ty := .int) (by decide +kernel) rfl rfl (Nat.le_of_ble_eq_true rfl) dX7_planks_32 wM_s_lg ?_
      refine Z.aload_n C dX7_planks_35 rfl ?_
      refine Z.cVI C 0 0 ( m_planksNow l D cI cJ cL ad hf at_ wg lf cf dy ti bh ln 0 nw x nt sl dd il M hM hR q1.1 q1.2) rfl rfl gX7_planks_X7_planksNow rfl rfl rfl (by decide +kernel) ⟨Nat.le_of_ble_eq_true rfl, Nat.le_of_ble_eq_true rfl⟩ rfl rfl (Nat.le_of_ble_eq_true rfl) ⟨Nat.le_of_ble_eq_true rfl, Nat.le_of_ble_eq_true rfl⟩ dX7_planks_36 (fun r1 w1 hw1 => ?_)
      obtain ⟨rfl, lf', cf', -, rfl⟩ := hw1
      exact Z.iret C hr dX7_planks_39 ((Or.inr ⟨q1, rfl, lf', cf', rfl⟩))
    · omega
set_option maxRecDepth 20000 in
theorem iw_X7_plankOf_7 : ∀ w ∈ u_ws RX7 TX7 16, w ∈ wsX7_plankOf := by decide +kernel
abbrev rmX7_plankOf : Room := { frames := 4, cells := 0, slots := 0, locals := 95 }
set_option maxHeartbeats 4000000 in
set_option maxRecDepth 100000 in
theorem m_plankOf (l : Launch) (D : va_G) (cI cJ cL : ClassId) (ad : Nat → Nat) (hf at_ wg lf cf dy ti bh ln : Int → Int) (thr nw lg nt sl dd il : Int) (M : Int → Int → Int) (hM : hOK M) (hR : RH M hf) (hp : 100 ≤ lg) (hp2 : lg ≤ 4000) (x y : Int) (hx : inr x) (hy : y = 0 ∨ y = 1) : CI l yX7_plankOf wsX7_plankOf rmX7_plankOf [.ref (ad 0), .int (iI x), .int (iI y)] D cI cJ cL (wM ad cI hf at_ wg lf cf dy ti bh ln thr nw lg nt sl dd il) (fun r w' => (tcK x ≠ 0 ∧ w' = (wM ad cI hf at_ wg lf cf dy ti bh ln (tcK x) nw lg nt sl dd il)) ∨ (tcK x = 0 ∧ r = (if y = 0 then (plS lg (LsM M) 5).2.2.1 x else (plS lg (LsM M) 5).2.2.2 x) ∧ ∃ lf' cf' : Int → Int, w' = (wM ad cI hf at_ wg lf' cf' dy ti bh ln 0 nw lg nt sl dd il))) := by
  refine CI.of (cc := cX7_plankOf) (maxL := 3) (ret := (some .int)) (own := RX7) _ 0 (by decide +kernel) rfl rfl rfl (Nat.le_of_ble_eq_true rfl) rfl (fun sz9 p9 e9 s9 m9 a9 b9 h9 c9 C hr => ?_)
  refine Z.aload_n C dX7_plankOf_0 rfl ?_
  refine Z.iload_n C dX7_plankOf_1 rfl ?_
  refine Z.iconst C dX7_plankOf_2 ?_
  refine Z.iconst C dX7_plankOf_3 ?_
  refine Z.cSIp C 3 (m_in l D cI cJ cL x 0 4 hx ⟨by decide, by decide⟩ ⟨by decide, by decide⟩) gX7_plankOf_X7_in rfl rfl rfl (by decide +kernel) ⟨Nat.le_of_ble_eq_true rfl, Nat.le_of_ble_eq_true rfl⟩ rfl rfl (Nat.le_of_ble_eq_true rfl) ⟨Nat.le_of_ble_eq_true rfl, Nat.le_of_ble_eq_true rfl⟩ dX7_plankOf_4 ?_
  refine Z.ifeq C 14 dX7_plankOf_7 (by decide) ((inZ_r _ _ _)) (fun h1 => ?_) (fun h1 => ?_)
  · have q1 := inZ_0 h1
    have ht : tcK x = 1 := by unfold tcK; rw [if_pos q1]
    refine Z.iconst C dX7_plankOf_14 ?_
    refine Z.putf C 0 0 iw_X7_plankOf_7 rfl rfl (by decide) tyX7 tyX7_ok nmX7 (by decide +kernel) rfl (ty := .int) (by decide +kernel) rfl rfl (Nat.le_of_ble_eq_true rfl) dX7_plankOf_15 wM_s_thr ?_
    refine Z.aload_n C dX7_plankOf_18 rfl ?_
    refine Z.getf C 0 0 iw_X7_plankOf_7 rfl rfl (by decide) (by decide +kernel) rfl dX7_plankOf_19 ?_
    refine Z.ifle C 27 dX7_plankOf_22 (by decide) (⟨by omega, by omega⟩) (fun h2 => ?_) (fun h2 => ?_)
    · omega
    · refine Z.iconst C dX7_plankOf_25 ?_
      exact Z.iret C hr dX7_plankOf_26 ((Or.inl ⟨by omega, by rw [ht]⟩))
  · have q1 := inZ_1 h1
    have ht : tcK x = 0 := by unfold tcK; rw [if_neg (by omega)]
    refine Z.iconst C dX7_plankOf_10 ?_
    refine Z.goto C 15 dX7_plankOf_11 (by decide) ?_
    refine Z.putf C 0 0 iw_X7_plankOf_7 rfl rfl (by decide) tyX7 tyX7_ok nmX7 (by decide +kernel) rfl (ty := .int) (by decide +kernel) rfl rfl (Nat.le_of_ble_eq_true rfl) dX7_plankOf_15 wM_s_thr ?_
    refine Z.aload_n C dX7_plankOf_18 rfl ?_
    refine Z.getf C 0 0 iw_X7_plankOf_7 rfl rfl (by decide) (by decide +kernel) rfl dX7_plankOf_19 ?_
    refine Z.ifle C 27 dX7_plankOf_22 (by decide) (⟨by omega, by omega⟩) (fun h2 => ?_) (fun h2 => ?_)
    · refine Z.aload_n C dX7_plankOf_27 rfl ?_
      refine Z.cVI C 0 0 ( m_planksNow l D cI cJ cL ad hf at_ wg lf cf dy ti bh ln 0 nw lg nt sl dd il M hM hR hp hp2) rfl rfl gX7_plankOf_X7_planksNow rfl rfl rfl (by decide +kernel) ⟨Nat.le_of_ble_eq_true rfl, Nat.le_of_ble_eq_true rfl⟩ rfl rfl (Nat.le_of_ble_eq_true rfl) ⟨Nat.le_of_ble_eq_true rfl, Nat.le_of_ble_eq_true rfl⟩ dX7_plankOf_28 (fun r1 w1 hw1 => ?_)
      obtain ⟨rfl, lf', cf', hcf, rfl⟩ := hw1
      have hc := hcf x q1.1 (by omega)
      refine Z.pop C dX7_plankOf_31 rfl ?_
      refine Z.aload_n C dX7_plankOf_32 rfl ?_
      refine Z.getf C 0 7 iw_X7_plankOf_7 rfl rfl (by decide) (by decide +kernel) rfl dX7_plankOf_33 ?_
      refine Z.iconst C dX7_plankOf_36 ?_
      refine Z.iload_n C dX7_plankOf_37 rfl ?_
      refine Z.imul C dX7_plankOf_38 ?_
      refine Z.iload_n C dX7_plankOf_39 rfl ?_
      refine Z.ifeq C 47 dX7_plankOf_40 (by decide) (⟨by omega, by omega⟩) (fun h3 => ?_) (fun h3 => ?_)
      · refine Z.iconst C dX7_plankOf_47 ?_
        refine Z.iadd C dX7_plankOf_48 ?_
        rw [show 2 * x + 0 = 2 * x by omega]
        refine Z.iald C 5 rfl (by omega) (by omega) (by decide) dX7_plankOf_49 ?_
        rw [hc.1]
        exact Z.iret C hr dX7_plankOf_50 ((Or.inr ⟨ht, by rw [if_pos h3], lf', cf', rfl⟩))
      · skip
        refine Z.iconst C dX7_plankOf_43 ?_
        refine Z.goto C 48 dX7_plankOf_44 (by decide) ?_
        refine Z.iadd C dX7_plankOf_48 ?_
        refine Z.iald C 5 rfl (by omega) (by omega) (by decide) dX7_plankOf_49 ?_
        rw [hc.2]
        exact Z.iret C hr dX7_plankOf_50 ((Or.inr ⟨ht, by rw [if_neg h3], lf', cf', rfl⟩))
    · omega
