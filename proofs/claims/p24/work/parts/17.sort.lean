/-! ===== Nest.sortByLength, cutAll ===== -/
def bfZ (Ls : Int → Int) (o k : Int) : Int := if Ls k < Ls o ∨ (Ls o = Ls k ∧ o < k) then 1 else 0
def rkZ (Ls : Int → Int) (k : Int) : Nat → Int
  | 0 => 0
  | o + 1 => rkZ Ls k o + bfZ Ls o k
def skZ (Ls : Int → Int) (many : Int) : Nat → Int
  | 0 => -1
  | k + 1 => if rkZ Ls k 5 = many then (k : Int) else skZ Ls many k
def smZ (g od : Int → Int) : Nat → Int
  | 0 => 0
  | t + 1 => smZ g od t + g (od t)
def SO (Ls od : Int → Int) (i : Nat) : Prop := (∀ t : Nat, t < i → 0 ≤ od t ∧ od t < i) ∧ (∀ a b : Nat, a < b → b < i → bfZ Ls (od a) (od b) = 1) ∧ (∀ g : Int → Int, smZ g od i = smZ g (fun j => j) i)
theorem bf_ii (Ls : Int → Int) (a : Int) : bfZ Ls a a = 0 := by unfold bfZ; rw [if_neg (by omega)]
theorem bf_anti {Ls : Int → Int} {a b : Int} (h : bfZ Ls a b = 1) : bfZ Ls b a = 0 := by
  unfold bfZ at h ⊢
  split at h
  · rw [if_neg (by omega)]
  · omega
theorem bf_1 {Ls : Int → Int} {a b : Int} (h : Ls b < Ls a ∨ (Ls a = Ls b ∧ a < b)) : bfZ Ls a b = 1 := if_pos h
theorem bf_of {Ls : Int → Int} {a b : Int} (h : bfZ Ls a b = 1) : Ls b < Ls a ∨ (Ls a = Ls b ∧ a < b) := by
  unfold bfZ at h
  split at h
  · assumption
  · omega
theorem smZ_cong {g od od' : Int → Int} : ∀ n : Nat, (∀ t : Nat, t < n → od t = od' t) → smZ g od n = smZ g od' n
  | 0, _ => rfl
  | n + 1, h => by
    simp only [smZ]
    rw [smZ_cong n (fun t ht => h t (by omega)), h n (Nat.lt_succ_self n)]
theorem rk_sm (Ls : Int → Int) (k : Int) : ∀ n : Nat, rkZ Ls k n = smZ (fun o => bfZ Ls o k) (fun j => j) n
  | 0 => rfl
  | n + 1 => by simp only [rkZ, smZ]; rw [rk_sm Ls k n]
theorem smZ_shift {g od od' : Int → Int} {p : Nat} {v : Int} (h1 : ∀ t : Nat, t < p → od' t = od t) (h2 : od' p = v) : ∀ n : Nat, (∀ t : Nat, p < t → t ≤ p + n → od' t = od ((t : Int) - 1)) → smZ g od' (p + n + 1) = smZ g od (p + n) + g v
  | 0, _ => by
    show smZ g od' p + g (od' p) = _
    rw [h2, smZ_cong p h1]
    rfl
  | n + 1, h3 => by
    have ih := smZ_shift (g := g) h1 h2 n (fun t a b => h3 t a (by omega))
    show smZ g od' (p + n + 1) + g (od' ((p + n + 1 : Nat) : Int)) = (smZ g od (p + n) + g (od ((p + n : Nat) : Int))) + g v
    rw [ih, h3 (p + n + 1) (by omega) (by omega), show (((p + n + 1 : Nat) : Int) - 1) = ((p + n : Nat) : Int) by omega]
    omega
theorem SO_step {Ls od od2 : Int → Int} {i p : Nat} (h : SO Ls od i) (hp : p ≤ i) (h1 : ∀ j : Nat, j < p → od2 j = od j) (h2 : ∀ j : Nat, p < j → j ≤ i → od2 j = od ((j : Int) - 1)) (h3 : ∀ j : Nat, p ≤ j → j < i → Ls (od j) < Ls i) (h4 : p = 0 ∨ Ls i ≤ Ls (od ((p : Int) - 1))) : SO Ls (zset od2 p i) (i + 1) := by
  obtain ⟨r, s, g⟩ := h
  have e1 : ∀ j : Nat, j < p → zset od2 p i j = od j := fun j hj => by rw [zset_ne _ (by omega)]; exact h1 j hj
  have e2 : zset od2 p i p = i := zset_eq _ _ _
  have e3 : ∀ j : Nat, p < j → j ≤ i → zset od2 p i j = od ((j - 1 : Nat) : Int) := fun j a b => by
    rw [zset_ne _ (by omega), h2 j a b, show ((j : Int) - 1) = ((j - 1 : Nat) : Int) by omega]
  have top : ∀ a : Nat, a < p → Ls i ≤ Ls (od a) := by
    intro a ha
    rcases h4 with q | q
    · omega
    · rw [show ((p : Int) - 1) = ((p - 1 : Nat) : Int) by omega] at q
      by_cases e : a = p - 1
      · rw [e]; exact q
      · have := bf_of (s a (p - 1) (by omega) (by omega))
        omega
  refine ⟨fun t ht => ?_, fun a b hab hb => ?_, fun f => ?_⟩
  · rcases Nat.lt_trichotomy t p with q | q | q
    · rw [e1 t q]; have := r t (by omega); omega
    · rw [q, e2]; omega
    · rw [e3 t q (by omega)]; have := r (t - 1) (by omega); omega
  · rcases Nat.lt_trichotomy b p with q | q | q
    · rw [e1 b q, e1 a (by omega)]; exact s a b hab (by omega)
    · rw [q, e2, e1 a (by omega)]
      have := top a (by omega)
      have := r a (by omega)
      exact bf_1 (by omega)
    · rw [e3 b q (by omega)]
      rcases Nat.lt_trichotomy a p with z | z | z
      · rw [e1 a z]; exact s a (b - 1) (by omega) (by omega)
      · rw [z, e2]; exact bf_1 (Or.inl (h3 (b - 1) (by omega) (by omega)))
      · rw [e3 a z (by omega)]; exact s (a - 1) (b - 1) (by omega) (by omega)
  · have hsh := smZ_shift (g := f) (od := od) (od' := zset od2 p i) (p := p) (v := i) e1 e2 (i - p) (fun t a b => by
      rw [e3 t a (by omega), show ((t : Int) - 1) = ((t - 1 : Nat) : Int) by omega])
    rw [show p + (i - p) = i by omega] at hsh
    rw [hsh, g f]
    rfl
theorem SO_surj {Ls od : Int → Int} (h : SO Ls od 5) {k : Int} (h0 : 0 ≤ k) (h1 : k < 5) : ∃ t : Nat, t < 5 ∧ od t = k := by
  have g := h.2.2 (fun j => if j = k then 1 else 0)
  simp only [smZ] at g
  have c0 := Decidable.em (od ((0 : Nat) : Int) = k)
  have c1 := Decidable.em (od ((1 : Nat) : Int) = k)
  have c2 := Decidable.em (od ((2 : Nat) : Int) = k)
  have c3 := Decidable.em (od ((3 : Nat) : Int) = k)
  have c4 := Decidable.em (od ((4 : Nat) : Int) = k)
  rcases c0 with c0 | c0
  · exact ⟨0, by omega, c0⟩
  rcases c1 with c1 | c1
  · exact ⟨1, by omega, c1⟩
  rcases c2 with c2 | c2
  · exact ⟨2, by omega, c2⟩
  rcases c3 with c3 | c3
  · exact ⟨3, by omega, c3⟩
  rcases c4 with c4 | c4
  · exact ⟨4, by omega, c4⟩
  rw [if_neg c0, if_neg c1, if_neg c2, if_neg c3, if_neg c4] at g
  rcases (show k = 0 ∨ k = 1 ∨ k = 2 ∨ k = 3 ∨ k = 4 by omega) with rfl | rfl | rfl | rfl | rfl <;> simp at g
theorem SO_rk {Ls od : Int → Int} (h : SO Ls od 5) {t : Nat} (ht : t < 5) : rkZ Ls (od t) 5 = t := by
  have s := h.2.1
  rw [rk_sm, ← h.2.2]
  simp only [smZ]
  have lo : ∀ a : Nat, a < t → bfZ Ls (od a) (od t) = 1 := fun a ha => s a t ha ht
  have hi : ∀ a : Nat, t < a → a < 5 → bfZ Ls (od a) (od t) = 0 := fun a ha hb => bf_anti (s t a ha hb)
  have eq := bf_ii Ls (od t)
  rcases (show t = 0 ∨ t = 1 ∨ t = 2 ∨ t = 3 ∨ t = 4 by omega) with rfl | rfl | rfl | rfl | rfl
  · rw [eq, hi 1 (by omega) (by omega), hi 2 (by omega) (by omega), hi 3 (by omega) (by omega), hi 4 (by omega) (by omega)]; rfl
  · rw [eq, lo 0 (by omega), hi 2 (by omega) (by omega), hi 3 (by omega) (by omega), hi 4 (by omega) (by omega)]; rfl
  · rw [eq, lo 0 (by omega), lo 1 (by omega), hi 3 (by omega) (by omega), hi 4 (by omega) (by omega)]; rfl
  · rw [eq, lo 0 (by omega), lo 1 (by omega), lo 2 (by omega), hi 4 (by omega) (by omega)]; rfl
  · rw [eq, lo 0 (by omega), lo 1 (by omega), lo 2 (by omega), lo 3 (by omega)]; rfl
theorem skZ_found {Ls : Int → Int} {m : Int} {k : Nat} (hk : rkZ Ls k 5 = m) : ∀ n : Nat, (∀ j : Nat, j < n → rkZ Ls j 5 = m → j = k) → k < n → skZ Ls m n = k
  | 0, _, h => absurd h (Nat.not_lt_zero _)
  | n + 1, hu, h => by
    simp only [skZ]
    by_cases e : rkZ Ls n 5 = m
    · rw [if_pos e, hu n (Nat.lt_succ_self n) e]
    · rw [if_neg e]
      exact skZ_found hk n (fun j hj q => hu j (by omega) q) (by
        have : k ≠ n := fun q => e (q ▸ hk)
        omega)
theorem SO_sk {Ls od : Int → Int} (h : SO Ls od 5) {t : Nat} (ht : t < 5) : skZ Ls t 5 = od t := by
  have hr := h.1 t ht
  have hk : ((od t).toNat : Int) = od t := Int.toNat_of_nonneg hr.1
  have e := skZ_found (Ls := Ls) (m := t) (k := (od t).toNat) (by rw [hk]; exact SO_rk h ht) 5 (fun j hj q => by
    obtain ⟨t', h1, h2⟩ := SO_surj h (k := j) (by omega) (by omega)
    have h3 := SO_rk h h1
    rw [h2, q] at h3
    have h4 : t = t' := by omega
    subst h4
    omega) (by omega)
  rw [e, hk]
theorem strZ_bd {M : Int → Int → Int} (hM : hOK M) (i : Int) : ∀ k : Nat, 10 * (k : Int) ≤ strZ (M i) k ∧ strZ (M i) k ≤ 210 * k
  | 0 => by simp [strZ]
  | k + 1 => by
    have ih := strZ_bd hM i k
    have h1 := hM i k
    have h2 := hM i (k + 1)
    have h3 := absZ_bd (a := M i k - M i (k + 1)) (k := 200) (by omega) (by omega)
    simp only [strZ]
    push_cast
    omega
def LsM (M : Int → Int → Int) : Int → Int := fun i => strZ (M i) 8
set_option maxRecDepth 20000 in
theorem iw_X5_sortByLength_5 : ∀ w ∈ u_ws RX5 TX5 7, w ∈ wsX5_sortByLength := by decide +kernel
abbrev rmX5_sortByLength : Room := { frames := 2, cells := 0, slots := 0, locals := 45 }
set_option maxHeartbeats 4000000 in
set_option maxRecDepth 100000 in
theorem c_sortByLength (l : Launch) (D : va_G) (cI cJ cL : ClassId) (ad : Nat → Nat) (M B : Int → Int → Int) (lo ch wt sn vo mo le ln od fe se td th : Int → Int) (cnt bw bs pl tk tc sill day lau : Int) (hM : hOK M) : CV l yX5_sortByLength wsX5_sortByLength rmX5_sortByLength [.ref (ad 7), .ref (ad 1)] D cI cJ cL (wX ad cI cJ M B lo ch wt sn vo mo le ln od fe se td th cnt bw bs pl tk tc sill day lau) (fun w' => ∃ ln' od' : Int → Int, (∀ j : Nat, j < 5 → ln' j = LsM M j) ∧ SO (LsM M) od' 5 ∧ w' = (wX ad cI cJ M B lo ch wt sn vo mo le ln' od' fe se td th cnt bw bs pl tk tc sill day lau)) := by
  refine CV.of (cc := cX5_sortByLength) (maxL := 4) (ret := none) (own := RX5) _ 2 (by decide +kernel) rfl rfl rfl (Nat.le_of_ble_eq_true rfl) rfl (fun sz9 p9 e9 s9 m9 a9 b9 h9 c9 C hr => ?_)
  refine Z.iconst C dX5_sortByLength_0 ?_
  refine Z.istore_n C dX5_sortByLength_1 (by decide) ?_
  refine Z.loop (α := Nat × (Int → Int) × (Int → Int) × Value) (fun y => (wX ad cI cJ M B lo ch wt sn vo mo le y.2.1 y.2.2.1 fe se td th cnt bw bs pl tk tc sill day lau)) (fun y => [.ref (ad 7), .ref (ad 1), .int (iI y.1), y.2.2.2]) (fun y => y.1 ≤ 5 ∧ (∀ j : Nat, j < y.1 → y.2.1 j = LsM M j) ∧ SO (LsM M) y.2.2.1 y.1) (fun y => 5 - y.1) (0, ln, od, .null) ⟨Nat.zero_le _, fun j h => absurd h (Nat.not_lt_zero _), fun t h => absurd h (Nat.not_lt_zero _), fun a b _ h => absurd h (Nat.not_lt_zero _), fun g => rfl⟩ rfl rfl (fun y hk ih => ?_)
  obtain ⟨i, ln1, od1, v3⟩ := y
  dsimp only at hk ih ⊢
  obtain ⟨hi, hl1, hso⟩ := hk
  refine Z.iload_n C dX5_sortByLength_2 rfl ?_
  refine Z.iconst C dX5_sortByLength_3 ?_
  refine Z.icmpge C 79 dX5_sortByLength_4 (by decide) (⟨by omega, by omega⟩) (⟨by omega, by omega⟩) (fun h => ?_) (fun h => ?_)
  · have e5 : i = 5 := by omega
    subst e5
    exact Z.vret C hr dX5_sortByLength_79 ⟨ln1, od1, hl1, hso, rfl⟩
  · have hb := strZ_bd hM i 8
    refine Z.aload_n C dX5_sortByLength_7 rfl ?_
    refine Z.getf C 7 1 iw_X5_sortByLength_5 rfl rfl (by decide) (by decide +kernel) rfl dX5_sortByLength_8 ?_
    refine Z.iload_n C dX5_sortByLength_11 rfl ?_
    refine Z.aload_n C dX5_sortByLength_12 rfl ?_
    refine Z.iload_n C dX5_sortByLength_13 rfl ?_
    refine Z.cVNId C 1 (host := RX6) 1 (c_strakeLength l D cI cJ cL ad M B lo ch wt sn vo mo le ln1 od1 fe se td th cnt bw bs pl tk tc sill day lau hM i (by omega) (by omega)) rfl rfl gX5_sortByLength_X4_strakeLength_n42 (by decide +kernel) (by decide +kernel) (by decide +kernel) (by decide +kernel) rfl rfl rfl (by decide +kernel) ⟨Nat.le_of_ble_eq_true rfl, Nat.le_of_ble_eq_true rfl⟩ rfl rfl (Nat.le_of_ble_eq_true rfl) ⟨Nat.le_of_ble_eq_true rfl, Nat.le_of_ble_eq_true rfl⟩ dX5_sortByLength_14 ?_
    refine Z.iast C 30 rfl (by omega) (by omega) (by decide) dX5_sortByLength_17 wX_a30 ?_
    refine Z.iload_n C dX5_sortByLength_18 rfl ?_
    refine Z.istore_n C dX5_sortByLength_19 (by decide) ?_
    have hl2 : ∀ x : Int, 0 ≤ x → x ≤ i → zset ln1 i (strZ (M i) 8) x = LsM M x := by
      intro x h0 h1
      by_cases e : x = i
      · rw [e, zset_eq]; rfl
      · rw [zset_ne _ e]
        have := hl1 x.toNat (by omega)
        rw [Int.toNat_of_nonneg h0] at this
        exact this
    generalize zset ln1 i (strZ (M i) 8) = ln2 at hl2
    have hLi : LsM M i = strZ (M i) 8 := rfl
    refine Z.cut (α := Nat × (Int → Int)) 66 (fun y => (wX ad cI cJ M B lo ch wt sn vo mo le ln2 y.2 fe se td th cnt bw bs pl tk tc sill day lau)) (fun y => [.ref (ad 7), .ref (ad 1), .int (iI i), .int (iI y.1)]) (fun _ => []) (fun y => y.1 ≤ i ∧ (∀ j : Nat, j < y.1 → y.2 j = od1 j) ∧ (∀ j : Nat, y.1 < j → j ≤ i → y.2 j = od1 ((j : Int) - 1)) ∧ (∀ j : Nat, y.1 ≤ j → j < i → LsM M (od1 j) < LsM M i) ∧ (y.1 = 0 ∨ LsM M i ≤ LsM M (od1 ((y.1 : Int) - 1)))) (fun y hy => ?_) (fun join => ?_)
    · obtain ⟨p, od2⟩ := y
      dsimp only at hy ⊢
      obtain ⟨q1, q2, q3, q4, q5⟩ := hy
      refine Z.aload_n C dX5_sortByLength_66 rfl ?_
      refine Z.getf C 7 2 iw_X5_sortByLength_5 rfl rfl (by decide) (by decide +kernel) rfl dX5_sortByLength_67 ?_
      refine Z.iload_n C dX5_sortByLength_70 rfl ?_
      refine Z.iload_n C dX5_sortByLength_71 rfl ?_
      refine Z.iast C 31 rfl (by omega) (by omega) (by decide) dX5_sortByLength_72 wX_a31 ?_
      refine Z.iinc C dX5_sortByLength_73 rfl (by decide) ?_
      refine Z.goto C 2 dX5_sortByLength_76 (by decide) ?_
      exact ih (i + 1, ln2, zset od2 p i, _) ⟨by dsimp only; omega, fun j hj => hl2 j (by omega) (by dsimp only at hj; omega), SO_step hso q1 q2 q3 q4 q5⟩ (by dsimp only; omega)
    · refine Z.loop (α := Nat × (Int → Int)) (fun y => (wX ad cI cJ M B lo ch wt sn vo mo le ln2 y.2 fe se td th cnt bw bs pl tk tc sill day lau)) (fun y => [.ref (ad 7), .ref (ad 1), .int (iI i), .int (iI y.1)]) (fun y => y.1 ≤ i ∧ (∀ j : Nat, j < y.1 → y.2 j = od1 j) ∧ (∀ j : Nat, y.1 < j → j ≤ i → y.2 j = od1 ((j : Int) - 1)) ∧ (∀ j : Nat, y.1 ≤ j → j < i → LsM M (od1 j) < LsM M i)) (fun y => y.1) (i, od1) ⟨Nat.le_refl _, fun j _ => rfl, fun j a b => absurd a (by dsimp only; omega), fun j a b => absurd a (by dsimp only; omega)⟩ rfl rfl (fun y hy ih2 => ?_)
      obtain ⟨p, od2⟩ := y
      dsimp only at hy ih2 ⊢
      obtain ⟨q1, q2, q3, q4⟩ := hy
      refine Z.iload_n C dX5_sortByLength_20 rfl ?_
      refine Z.ifle C 66 dX5_sortByLength_21 (by decide) (⟨by omega, by omega⟩) (fun h2 => ?_) (fun h2 => ?_)
      · exact join (p, od2) ⟨q1, q2, q3, q4, Or.inl (by dsimp only; omega)⟩
      · have e0 : ((p - 1 : Nat) : Int) = (p : Int) - 1 := by omega
        have e1 : od2 ((p : Int) - 1) = od1 ((p : Int) - 1) := by rw [← e0]; exact q2 (p - 1) (by omega)
        have e2 : 0 ≤ od1 ((p : Int) - 1) ∧ od1 ((p : Int) - 1) < i := by rw [← e0]; exact hso.1 (p - 1) (by omega)
        have e3 := hl2 (od1 ((p : Int) - 1)) e2.1 (by omega)
        have e4 := hl2 i (by omega) (by omega)
        have b1 := strZ_bd hM (od1 ((p : Int) - 1)) 8
        have hLo : LsM M (od1 ((p : Int) - 1)) = strZ (M (od1 ((p : Int) - 1))) 8 := rfl
        refine Z.aload_n C dX5_sortByLength_24 rfl ?_
        refine Z.getf C 7 1 iw_X5_sortByLength_5 rfl rfl (by decide) (by decide +kernel) rfl dX5_sortByLength_25 ?_
        refine Z.aload_n C dX5_sortByLength_28 rfl ?_
        refine Z.getf C 7 2 iw_X5_sortByLength_5 rfl rfl (by decide) (by decide +kernel) rfl dX5_sortByLength_29 ?_
        refine Z.iload_n C dX5_sortByLength_32 rfl ?_
        refine Z.iconst C dX5_sortByLength_33 ?_
        refine Z.isub C dX5_sortByLength_34 ?_
        refine Z.iald C 31 rfl (by omega) (by omega) (by decide) dX5_sortByLength_35 ?_
        rw [e1]
        refine Z.iald C 30 rfl (by omega) (by omega) (by decide) dX5_sortByLength_36 ?_
        rw [e3]
        refine Z.aload_n C dX5_sortByLength_37 rfl ?_
        refine Z.getf C 7 1 iw_X5_sortByLength_5 rfl rfl (by decide) (by decide +kernel) rfl dX5_sortByLength_38 ?_
        refine Z.iload_n C dX5_sortByLength_41 rfl ?_
        refine Z.iald C 30 rfl (by omega) (by omega) (by decide) dX5_sortByLength_42 ?_
        rw [e4]
        refine Z.icmpge C 66 dX5_sortByLength_43 (by decide) (⟨by omega, by omega⟩) (⟨by omega, by omega⟩) (fun h3 => ?_) (fun h3 => ?_)
        · exact join (p, od2) ⟨q1, q2, q3, q4, Or.inr (by dsimp only; omega)⟩
        · refine Z.aload_n C dX5_sortByLength_46 rfl ?_
          refine Z.getf C 7 2 iw_X5_sortByLength_5 rfl rfl (by decide) (by decide +kernel) rfl dX5_sortByLength_47 ?_
          refine Z.iload_n C dX5_sortByLength_50 rfl ?_
          refine Z.aload_n C dX5_sortByLength_51 rfl ?_
          refine Z.getf C 7 2 iw_X5_sortByLength_5 rfl rfl (by decide) (by decide +kernel) rfl dX5_sortByLength_52 ?_
          refine Z.iload_n C dX5_sortByLength_55 rfl ?_
          refine Z.iconst C dX5_sortByLength_56 ?_
          refine Z.isub C dX5_sortByLength_57 ?_
          refine Z.iald C 31 rfl (by omega) (by omega) (by decide) dX5_sortByLength_58 ?_
          refine Z.iast C 31 rfl (by omega) (by omega) (by decide) dX5_sortByLength_59 wX_a31 ?_
          refine Z.iinc C dX5_sortByLength_60 rfl (by decide) ?_
          refine Z.goto C 20 dX5_sortByLength_63 (by decide) ?_
          rw [e1, show (p : Int) + -1 = ((p - 1 : Nat) : Int) by omega]
          refine ih2 (p - 1, zset od2 p (od1 ((p : Int) - 1))) ⟨by dsimp only; omega, fun j hj => ?_, fun j a b => ?_, fun j a b => ?_⟩ (by dsimp only; omega)
          · dsimp only at hj ⊢
            rw [zset_ne _ (by omega)]
            exact q2 j (by omega)
          · dsimp only at a ⊢
            by_cases e : j = p
            · rw [e, zset_eq]
            · rw [zset_ne _ (by omega)]
              exact q3 j (by omega) b
          · dsimp only at a
            by_cases e : j = p - 1
            · rw [e, e0]; omega
            · exact q4 j (by omega) b
