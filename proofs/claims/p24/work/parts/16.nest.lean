/-! ===== Nest ===== -/
def whZ (pl : Int) : Nat → (Int → Int) → Int → Int → (Int → Int) × Int × Int
  | 0, f, n, r => (f, n, r)
  | t + 1, f, n, r => if pl < r then whZ pl t (zset f n 0) (n + 1) (r - pl) else (f, n, r)
def fsZ (f : Int → Int) (r : Int) : Nat → Int
  | 0 => -1
  | k + 1 => if fsZ f r k = -1 then (if r ≤ f k then (k : Int) else -1) else fsZ f r k
def cutF (pl : Int) (x : (Int → Int) × Int × Int) : Int × (Int → Int) × Int :=
  if fsZ x.1 x.2.2 x.2.1.toNat = -1 then (x.2.1, zset x.1 x.2.1 (pl - x.2.2), x.2.1 + 1) else (fsZ x.1 x.2.2 x.2.1.toNat, zset x.1 (fsZ x.1 x.2.2 x.2.1.toNat) (x.1 (fsZ x.1 x.2.2 x.2.1.toNat) - x.2.2), x.2.1)
def cutZ (pl : Int) (f : Int → Int) (n len : Int) : Int × (Int → Int) × Int := cutF pl (whZ pl 16 f n len)
def bdN (f : Int → Int) (n : Int) : Prop := ∀ j : Int, 0 ≤ j → j < n → 0 ≤ f j ∧ f j ≤ 4000
def agN (le f : Int → Int) (n : Int) : Prop := ∀ j : Int, 0 ≤ j → j < n → le j = f j
theorem agN.set {le f : Int → Int} {n : Int} (h : agN le f n) (k v : Int) : agN (zset le k v) (zset f k v) n := by
  intro j h0 h1
  by_cases e : j = k
  · rw [e, zset_eq, zset_eq]
  · rw [zset_ne _ e, zset_ne _ e]; exact h j h0 h1
theorem agN.push {le f : Int → Int} {n : Int} (h : agN le f n) (v : Int) : agN (zset le n v) (zset f n v) (n + 1) := by
  intro j h0 h1
  by_cases e : j = n
  · rw [e, zset_eq, zset_eq]
  · rw [zset_ne _ e, zset_ne _ e]; exact h j h0 (by omega)
theorem bdN.push {f : Int → Int} {n : Int} (h : bdN f n) {v : Int} (h0 : 0 ≤ v) (h1 : v ≤ 4000) : bdN (zset f n v) (n + 1) := by
  intro j g0 g1
  by_cases e : j = n
  · rw [e, zset_eq]; exact ⟨h0, h1⟩
  · rw [zset_ne _ e]; exact h j g0 (by omega)
theorem bdN.set {f : Int → Int} {n : Int} (h : bdN f n) {k v : Int} (h0 : 0 ≤ v) (h1 : v ≤ 4000) : bdN (zset f k v) n := by
  intro j g0 g1
  by_cases e : j = k
  · rw [e, zset_eq]; exact ⟨h0, h1⟩
  · rw [zset_ne _ e]; exact h j g0 g1
theorem fsZ_found {f : Int → Int} {r : Int} {k : Nat} (h : fsZ f r k = -1) (hk : r ≤ f k) : ∀ n : Nat, k < n → fsZ f r n = k
  | 0, q => absurd q (Nat.not_lt_zero _)
  | n + 1, q => by
    by_cases e : k = n
    · subst e
      simp only [fsZ]
      rw [if_pos h, if_pos hk]
    · have ih := fsZ_found h hk n (by omega)
      simp only [fsZ]
      rw [if_neg (by omega), ih]
theorem fsZ_next {f : Int → Int} {r : Int} {k : Nat} (h : fsZ f r k = -1) (hk : f k < r) : fsZ f r (k + 1) = -1 := by
  simp only [fsZ]
  rw [if_pos h, if_neg (by omega)]
theorem fsZ_bd (f : Int → Int) (r : Int) : ∀ n : Nat, fsZ f r n = -1 ∨ (0 ≤ fsZ f r n ∧ fsZ f r n < n ∧ r ≤ f (fsZ f r n))
  | 0 => Or.inl rfl
  | n + 1 => by
    simp only [fsZ]
    rcases fsZ_bd f r n with h | h
    · rw [if_pos h]
      by_cases q : r ≤ f n
      · rw [if_pos q]; exact Or.inr ⟨by omega, by push_cast; omega, q⟩
      · rw [if_neg q]; exact Or.inl rfl
    · rw [if_neg (by omega)]; exact Or.inr ⟨h.1, by push_cast; omega, h.2.2⟩
theorem whZ_end {pl : Int} {t : Nat} {f : Int → Int} {n r : Int} (h : r ≤ pl) : whZ pl t f n r = (f, n, r) := by
  cases t with
  | zero => rfl
  | succ t => simp only [whZ]; rw [if_neg (by omega)]
theorem whZ_bd {pl : Int} (hp : 100 ≤ pl) : ∀ (t : Nat) (f : Int → Int) (n r : Int), bdN f n → 0 ≤ r → r ≤ 100 * (t + 1) → n ≤ (whZ pl t f n r).2.1 ∧ (whZ pl t f n r).2.1 ≤ n + t ∧ 0 ≤ (whZ pl t f n r).2.2 ∧ (whZ pl t f n r).2.2 ≤ pl ∧ bdN (whZ pl t f n r).1 (whZ pl t f n r).2.1
  | 0, f, n, r, hb, h0, h1 => by
    simp only [whZ]
    exact ⟨by omega, by omega, h0, by omega, hb⟩
  | t + 1, f, n, r, hb, h0, h1 => by
    simp only [whZ]
    by_cases q : pl < r
    · rw [if_pos q]
      have ih := whZ_bd hp t (zset f n 0) (n + 1) (r - pl) (hb.push (by omega) (by omega)) (by omega) (by push_cast at h1 ⊢; omega)
      exact ⟨by omega, by push_cast; omega, ih.2.2.1, ih.2.2.2.1, ih.2.2.2.2⟩
    · rw [if_neg q]
      exact ⟨by dsimp only; omega, by dsimp only; push_cast; omega, h0, by dsimp only; omega, hb⟩
theorem cutZ_bd {pl : Int} (hp : 100 ≤ pl) (hp2 : pl ≤ 4000) {f : Int → Int} {n len : Int} (hn : 0 ≤ n) (hb : bdN f n) (h0 : 0 ≤ len) (h1 : len ≤ 1680) : n ≤ (cutZ pl f n len).2.2 ∧ (cutZ pl f n len).2.2 ≤ n + 17 ∧ bdN (cutZ pl f n len).2.1 (cutZ pl f n len).2.2 ∧ 0 ≤ (cutZ pl f n len).1 ∧ (cutZ pl f n len).1 ≤ n + 16 := by
  have h := whZ_bd hp 16 f n len hb h0 (by omega)
  unfold cutZ
  generalize whZ pl 16 f n len = x at h
  obtain ⟨f1, n1, r⟩ := x
  dsimp only at h
  unfold cutF
  dsimp only
  split
  · exact ⟨by dsimp only; omega, by dsimp only; omega, h.2.2.2.2.push (by omega) (by omega), by dsimp only; omega, by dsimp only; omega⟩
  · rename_i q
    rcases fsZ_bd f1 r n1.toNat with z | ⟨z1, z2, z3⟩
    · exact absurd z q
    · have hb1 := h.2.2.2.2 (fsZ f1 r n1.toNat) z1 (by omega)
      exact ⟨by dsimp only; omega, by dsimp only; omega, h.2.2.2.2.set (by omega) (by omega), by dsimp only; omega, by dsimp only; omega⟩
set_option maxRecDepth 20000 in
theorem iw_X5_cut_5 : ∀ w ∈ u_ws RX5 TX5 7, w ∈ wsX5_cut := by decide +kernel
abbrev rmX5_cut : Room := { frames := 0, cells := 0, slots := 0, locals := 0 }
set_option maxHeartbeats 4000000 in
set_option maxRecDepth 100000 in
theorem c_cut (l : Launch) (D : va_G) (cI cJ cL : ClassId) (ad : Nat → Nat) (M B : Int → Int → Int) (lo ch wt sn vo mo le ln od fe se td th : Int → Int) (cnt bw bs pl tk tc sill day lau : Int) (hp : 100 ≤ pl) (hp2 : pl ≤ 4000) (f : Int → Int) (hag : agN le f tk) (hbd : bdN f tk) (ht0 : 0 ≤ tk) (ht1 : tk ≤ 153) (x : Int) (hx0 : 0 ≤ x) (hx1 : x ≤ 1680) : CI l yX5_cut wsX5_cut rmX5_cut [.ref (ad 7), .int (iI x)] D cI cJ cL (wX ad cI cJ M B lo ch wt sn vo mo le ln od fe se td th cnt bw bs pl tk tc sill day lau) (fun r w' => r = (cutZ pl f tk x).1 ∧ ∃ le' : Int → Int, agN le' (cutZ pl f tk x).2.1 (cutZ pl f tk x).2.2 ∧ w' = (wX ad cI cJ M B lo ch wt sn vo mo le' ln od fe se td th cnt bw bs pl (cutZ pl f tk x).2.2 tc sill day lau)) := by
  refine CI.of (cc := cX5_cut) (maxL := 4) (ret := (some .int)) (own := RX5) _ 2 (by decide +kernel) rfl rfl rfl (Nat.le_of_ble_eq_true rfl) rfl (fun sz9 p9 e9 s9 m9 a9 b9 h9 c9 C hr => ?_)
  refine Z.iload_n C dX5_cut_0 rfl ?_
  refine Z.istore_n C dX5_cut_1 (by decide) ?_
  refine Z.loop (α := (Int → Int) × (Int → Int) × Int × Int × Nat) (fun y => (wX ad cI cJ M B lo ch wt sn vo mo y.1 ln od fe se td th cnt bw bs pl y.2.2.1 tc sill day lau)) (fun y => [.ref (ad 7), .int (iI x), .int (iI y.2.2.2.1), .null]) (fun y => agN y.1 y.2.1 y.2.2.1 ∧ bdN y.2.1 y.2.2.1 ∧ 0 ≤ y.2.2.1 ∧ y.2.2.1 + y.2.2.2.2 ≤ 169 ∧ 0 ≤ y.2.2.2.1 ∧ y.2.2.2.1 ≤ 100 * (y.2.2.2.2 + 1) ∧ whZ pl y.2.2.2.2 y.2.1 y.2.2.1 y.2.2.2.1 = whZ pl 16 f tk x) (fun y => y.2.2.2.2) (le, f, tk, x, 16) ⟨hag, hbd, ht0, by dsimp only; omega, hx0, by dsimp only; omega, rfl⟩ rfl rfl (fun y hk ih => ?_)
  obtain ⟨le1, f1, n, r, t⟩ := y
  dsimp only at hk ih ⊢
  obtain ⟨g1, g2, g3, g4, g5, g6, g7⟩ := hk
  refine Z.iload_n C dX5_cut_2 rfl ?_
  refine Z.aload_n C dX5_cut_3 rfl ?_
  refine Z.getf C 7 5 iw_X5_cut_5 rfl rfl (by decide) (by decide +kernel) rfl dX5_cut_4 ?_
  refine Z.icmple C 50 dX5_cut_7 (by decide) (⟨by omega, by omega⟩) (⟨by omega, by omega⟩) (fun h => ?_) (fun h => ?_)
  · rw [whZ_end h] at g7
    have hcut : cutZ pl f tk x = cutF pl (f1, n, r) := by unfold cutZ; rw [← g7]
    rw [hcut]
    unfold cutF
    dsimp only
    refine Z.iconst C dX5_cut_50 ?_
    refine Z.istore_n C dX5_cut_51 (by decide) ?_
    refine Z.loop (α := Nat) (fun _ => (wX ad cI cJ M B lo ch wt sn vo mo le1 ln od fe se td th cnt bw bs pl n tc sill day lau)) (fun k => [.ref (ad 7), .int (iI x), .int (iI r), .int (iI k)]) (fun k => k ≤ n.toNat ∧ fsZ f1 r k = -1) (fun k => n.toNat - k) 0 ⟨Nat.zero_le _, rfl⟩ rfl rfl (fun k hk ih2 => ?_)
    obtain ⟨hk, hf⟩ := hk
    refine Z.iload_n C dX5_cut_52 rfl ?_
    refine Z.aload_n C dX5_cut_53 rfl ?_
    refine Z.getf C 7 6 iw_X5_cut_5 rfl rfl (by decide) (by decide +kernel) rfl dX5_cut_54 ?_
    refine Z.icmpge C 88 dX5_cut_57 (by decide) (⟨by omega, by omega⟩) (⟨by omega, by omega⟩) (fun h2 => ?_) (fun h2 => ?_)
    · rw [show n.toNat = k by omega, if_pos hf]
      dsimp only
      refine Z.aload_n C dX5_cut_88 rfl ?_
      refine Z.getf C 7 6 iw_X5_cut_5 rfl rfl (by decide) (by decide +kernel) rfl dX5_cut_89 ?_
      refine Z.sipush C dX5_cut_92 (by decide) ?_
      refine Z.icmplt C 100 dX5_cut_95 (by decide) (⟨by omega, by omega⟩) (⟨by omega, by omega⟩) (fun h3 => ?_) (fun h3 => ?_)
      · refine Z.aload_n C dX5_cut_100 rfl ?_
        refine Z.getf C 7 0 iw_X5_cut_5 rfl rfl (by decide) (by decide +kernel) rfl dX5_cut_101 ?_
        refine Z.aload_n C dX5_cut_104 rfl ?_
        refine Z.getf C 7 6 iw_X5_cut_5 rfl rfl (by decide) (by decide +kernel) rfl dX5_cut_105 ?_
        refine Z.aload_n C dX5_cut_108 rfl ?_
        refine Z.getf C 7 5 iw_X5_cut_5 rfl rfl (by decide) (by decide +kernel) rfl dX5_cut_109 ?_
        refine Z.iload_n C dX5_cut_112 rfl ?_
        refine Z.isub C dX5_cut_113 ?_
        refine Z.iast C 29 rfl (by omega) (by omega) (by decide) dX5_cut_114 wX_a29 ?_
        refine Z.aload_n C dX5_cut_115 rfl ?_
        refine Z.dup C dX5_cut_116 rfl ?_
        refine Z.getf C 7 6 iw_X5_cut_5 rfl rfl (by decide) (by decide +kernel) rfl dX5_cut_117 ?_
        refine Z.iconst C dX5_cut_120 ?_
        refine Z.iadd C dX5_cut_121 ?_
        refine Z.putf C 7 6 iw_X5_cut_5 rfl rfl (by decide) tyX5 tyX5_ok nmX5 (by decide +kernel) rfl (ty := .int) (by decide +kernel) rfl rfl (Nat.le_of_ble_eq_true rfl) dX5_cut_122 wX_s_tk ?_
        refine Z.aload_n C dX5_cut_125 rfl ?_
        refine Z.getf C 7 6 iw_X5_cut_5 rfl rfl (by decide) (by decide +kernel) rfl dX5_cut_126 ?_
        refine Z.iconst C dX5_cut_129 ?_
        refine Z.isub C dX5_cut_130 ?_
        rw [show n + 1 - 1 = n by omega]
        exact Z.iret C hr dX5_cut_131 (⟨rfl, zset le1 n (pl - r), g1.push _, rfl⟩)
      · omega
    · have e1 := g1 k (by omega) (by omega)
      have e2 := g2 k (by omega) (by omega)
      refine Z.aload_n C dX5_cut_60 rfl ?_
      refine Z.getf C 7 0 iw_X5_cut_5 rfl rfl (by decide) (by decide +kernel) rfl dX5_cut_61 ?_
      refine Z.iload_n C dX5_cut_64 rfl ?_
      refine Z.iald C 29 rfl (by omega) (by omega) (by decide) dX5_cut_65 ?_
      refine Z.iload_n C dX5_cut_66 rfl ?_
      refine Z.icmplt C 82 dX5_cut_67 (by decide) (⟨by omega, by omega⟩) (⟨by omega, by omega⟩) (fun h3 => ?_) (fun h3 => ?_)
      · refine Z.iinc C dX5_cut_82 rfl (by decide) ?_
        refine Z.goto C 52 dX5_cut_85 (by decide) ?_
        exact ih2 (k + 1) ⟨by omega, fsZ_next hf (by omega)⟩ (by omega)
      · rw [fsZ_found hf (by omega) n.toNat (by omega), if_neg (by omega)]
        dsimp only
        refine Z.aload_n C dX5_cut_70 rfl ?_
        refine Z.getf C 7 0 iw_X5_cut_5 rfl rfl (by decide) (by decide +kernel) rfl dX5_cut_71 ?_
        refine Z.iload_n C dX5_cut_74 rfl ?_
        refine Z.dup2 C dX5_cut_75 rfl rfl ?_
        refine Z.iald C 29 rfl (by omega) (by omega) (by decide) dX5_cut_76 ?_
        refine Z.iload_n C dX5_cut_77 rfl ?_
        refine Z.isub C dX5_cut_78 ?_
        refine Z.iast C 29 rfl (by omega) (by omega) (by decide) dX5_cut_79 wX_a29 ?_
        refine Z.iload_n C dX5_cut_80 rfl ?_
        rw [e1]
        exact Z.iret C hr dX5_cut_81 (⟨rfl, zset le1 k (f1 k - r), g1.set _ _, rfl⟩)
  · obtain ⟨t', rfl⟩ : ∃ t' : Nat, t = t' + 1 := ⟨t - 1, by omega⟩
    simp only [whZ] at g7
    rw [if_pos h] at g7
    refine Z.aload_n C dX5_cut_10 rfl ?_
    refine Z.getf C 7 6 iw_X5_cut_5 rfl rfl (by decide) (by decide +kernel) rfl dX5_cut_11 ?_
    refine Z.sipush C dX5_cut_14 (by decide) ?_
    refine Z.icmpge C 50 dX5_cut_17 (by decide) (⟨by omega, by omega⟩) (⟨by omega, by omega⟩) (fun h2 => ?_) (fun h2 => ?_)
    · omega
    · refine Z.aload_n C dX5_cut_20 rfl ?_
      refine Z.getf C 7 0 iw_X5_cut_5 rfl rfl (by decide) (by decide +kernel) rfl dX5_cut_21 ?_
      refine Z.aload_n C dX5_cut_24 rfl ?_
      refine Z.getf C 7 6 iw_X5_cut_5 rfl rfl (by decide) (by decide +kernel) rfl dX5_cut_25 ?_
      refine Z.iconst C dX5_cut_28 ?_
      refine Z.iast C 29 rfl (by omega) (by omega) (by decide) dX5_cut_29 wX_a29 ?_
      refine Z.aload_n C dX5_cut_30 rfl ?_
      refine Z.dup C dX5_cut_31 rfl ?_
      refine Z.getf C 7 6 iw_X5_cut_5 rfl rfl (by decide) (by decide +kernel) rfl dX5_cut_32 ?_
      refine Z.iconst C dX5_cut_35 ?_
      refine Z.iadd C dX5_cut_36 ?_
      refine Z.putf C 7 6 iw_X5_cut_5 rfl rfl (by decide) tyX5 tyX5_ok nmX5 (by decide +kernel) rfl (ty := .int) (by decide +kernel) rfl rfl (Nat.le_of_ble_eq_true rfl) dX5_cut_37 wX_s_tk ?_
      refine Z.iload_n C dX5_cut_40 rfl ?_
      refine Z.aload_n C dX5_cut_41 rfl ?_
      refine Z.getf C 7 5 iw_X5_cut_5 rfl rfl (by decide) (by decide +kernel) rfl dX5_cut_42 ?_
      refine Z.isub C dX5_cut_45 ?_
      refine Z.istore_n C dX5_cut_46 (by decide) ?_
      refine Z.goto C 2 dX5_cut_47 (by decide) ?_
      exact ih (zset le1 n 0, zset f1 n 0, n + 1, r - pl, t') ⟨g1.push 0, g2.push (by omega) (by omega), by dsimp only; omega, by dsimp only; push_cast at g4 ⊢; omega, by dsimp only; omega, by dsimp only; push_cast at g6 ⊢; omega, g7⟩ (by dsimp only; omega)
