/-! ===== the order of the cuts: numbers alone ===== -/
theorem rk_sk (Ls : Int → Int) {t : Nat} (ht : t < 5) : rkZ Ls (skZ Ls t 5) 5 = t := by
  obtain ⟨od, h⟩ := SO_ex Ls 5
  rw [SO_sk h ht]
  exact SO_rk h ht
theorem sk_rk (Ls : Int → Int) {j : Int} (h0 : 0 ≤ j) (h1 : j < 5) : 0 ≤ rkZ Ls j 5 ∧ rkZ Ls j 5 < 5 ∧ skZ Ls (rkZ Ls j 5) 5 = j := by
  obtain ⟨t, h2, h3⟩ := sk_surj Ls h0 h1
  have h4 := rk_sk Ls h2
  rw [h3] at h4
  rw [h4]
  exact ⟨by omega, by omega, h3⟩
theorem rk_lt (Ls : Int → Int) {a b : Int} (a0 : 0 ≤ a) (a1 : a < 5) (b0 : 0 ≤ b) (b1 : b < 5) : bfZ Ls a b = 1 ↔ rkZ Ls a 5 < rkZ Ls b 5 := by
  obtain ⟨od, h⟩ := SO_ex Ls 5
  obtain ⟨t, h2, h3⟩ := SO_surj h a0 a1
  obtain ⟨u, h4, h5⟩ := SO_surj h b0 b1
  have r1 := SO_rk h h2
  have r2 := SO_rk h h4
  rw [h3] at r1
  rw [h5] at r2
  rw [r1, r2]
  constructor
  · intro q
    by_cases e : t < u
    · omega
    · by_cases e2 : t = u
      · subst e2
        rw [← h3, ← h5, bf_ii] at q
        omega
      · have z := bf_anti (h.2.1 u t (by omega) h2)
        rw [h3, h5] at z
        omega
  · intro q
    have z := h.2.1 t u (by omega) h4
    rw [h3, h5] at z
    exact z
def posZ (Ls : Int → Int) (k : Int) : Int := 2 * rkZ Ls (k / 2) 5 + k % 2
theorem pos_bd (Ls : Int → Int) {k : Int} (h0 : 0 ≤ k) (h1 : k < 10) : 0 ≤ posZ Ls k ∧ posZ Ls k < 10 := by
  have := sk_rk Ls (j := k / 2) (by omega) (by omega)
  unfold posZ
  omega
theorem pos_inj (Ls : Int → Int) {a b : Int} (a0 : 0 ≤ a) (a1 : a < 10) (b0 : 0 ≤ b) (b1 : b < 10) (h : posZ Ls a = posZ Ls b) : a = b := by
  have h1 := sk_rk Ls (j := a / 2) (by omega) (by omega)
  have h2 := sk_rk Ls (j := b / 2) (by omega) (by omega)
  unfold posZ at h
  have e : rkZ Ls (a / 2) 5 = rkZ Ls (b / 2) 5 := by omega
  have e1 := h1.2.2
  rw [e, h2.2.2] at e1
  omega
theorem pos_ex (Ls : Int → Int) {i : Nat} (hi : i < 10) : ∃ k : Int, 0 ≤ k ∧ k < 10 ∧ posZ Ls k = i := by
  have h := sk_in Ls (i / 2) (by omega)
  have h2 := rk_sk Ls (t := i / 2) (by omega)
  refine ⟨2 * skZ Ls ((i / 2 : Nat) : Int) 5 + (i % 2 : Nat), by omega, by omega, ?_⟩
  unfold posZ
  rw [show (2 * skZ Ls ((i / 2 : Nat) : Int) 5 + ((i % 2 : Nat) : Int)) / 2 = skZ Ls ((i / 2 : Nat) : Int) 5 by omega, h2]
  omega
theorem pos_sk (Ls : Int → Int) {i : Nat} (hi : i < 10) {k : Int} (h0 : 0 ≤ k) (h1 : k < 10) (h : posZ Ls k = i) : k / 2 = skZ Ls ((i / 2 : Nat) : Int) 5 := by
  have h2 := sk_rk Ls (j := k / 2) (by omega) (by omega)
  unfold posZ at h
  have e : rkZ Ls (k / 2) 5 = ((i / 2 : Nat) : Int) := by omega
  rw [← e]
  exact h2.2.2.symm
theorem pos_le (Ls : Int → Int) {k n : Int} (h0 : 0 ≤ k) (h1 : k < n) (h2 : n < 10) : Ls (n / 2) ≤ Ls (k / 2) ↔ posZ Ls k ≤ posZ Ls n := by
  have g1 := sk_rk Ls (j := k / 2) (by omega) (by omega)
  have g2 := sk_rk Ls (j := n / 2) (by omega) (by omega)
  unfold posZ
  by_cases e : k / 2 = n / 2
  · rw [e]
    exact ⟨fun _ => by omega, fun _ => Int.le_refl _⟩
  · have h := rk_lt Ls (a := k / 2) (b := n / 2) (by omega) (by omega) (by omega) (by omega)
    have hne : rkZ Ls (k / 2) 5 ≠ rkZ Ls (n / 2) 5 := fun q => by
      have e1 := g1.2.2
      rw [q, g2.2.2] at e1
      omega
    constructor
    · intro q
      have := h.mp (bf_1 (by omega))
      omega
    · intro q
      have := bf_of (h.mpr (by omega))
      omega
/-- the next one to be cut, found from above -/
def nxP (Ls : Int → Int) (i : Int) (n nx : Int) : Prop := (nx = -1 ∧ ∀ j : Int, n ≤ j → j < 10 → posZ Ls j < i) ∨ (n ≤ nx ∧ nx < 10 ∧ i ≤ posZ Ls nx ∧ ∀ j : Int, n ≤ j → j < 10 → i ≤ posZ Ls j → posZ Ls nx ≤ posZ Ls j)
theorem nxP_keep {Ls : Int → Int} {i k nx : Int} (h : nxP Ls i (k + 1) nx) (hk : posZ Ls k < i ∨ (0 ≤ k ∧ nx ≠ -1 ∧ ¬ Ls (nx / 2) ≤ Ls (k / 2))) : nxP Ls i k nx := by
  rcases h with ⟨h1, h2⟩ | ⟨h1, h2, h3, h4⟩
  · refine Or.inl ⟨h1, fun j a b => ?_⟩
    by_cases e : j = k
    · subst e
      rcases hk with q | ⟨-, q, -⟩
      · exact q
      · exact absurd h1 q
    · exact h2 j (by omega) b
  · refine Or.inr ⟨by omega, h2, h3, fun j a b c => ?_⟩
    by_cases e : j = k
    · subst e
      rcases hk with q | ⟨k0, -, q⟩
      · omega
      · have := (pos_le Ls (k := j) (n := nx) k0 (by omega) h2).mpr
        apply Decidable.byContradiction
        intro z
        exact q (this (by omega))
    · exact h4 j (by omega) b c
theorem nxP_take {Ls : Int → Int} {i k nx : Int} (k0 : 0 ≤ k) (k1 : k < 10) (h : nxP Ls i (k + 1) nx) (hk : i ≤ posZ Ls k) (hn : nx = -1 ∨ Ls (nx / 2) ≤ Ls (k / 2)) : nxP Ls i k k := by
  refine Or.inr ⟨Int.le_refl _, k1, hk, fun j a b c => ?_⟩
  by_cases e : j = k
  · subst e; exact Int.le_refl _
  · rcases h with ⟨h1, h2⟩ | ⟨h1, h2, h3, h4⟩
    · have := h2 j (by omega) b
      omega
    · rcases hn with q | q
      · omega
      · have z := (pos_le Ls (k := k) (n := nx) k0 (by omega) h2).mp q
        have := h4 j (by omega) b c
        omega
theorem nxP_0 (Ls : Int → Int) (i : Int) : nxP Ls i 10 (-1) := Or.inl ⟨rfl, fun j a b => by omega⟩
theorem nxP_end {Ls : Int → Int} {i : Nat} (hi : i < 10) {nx : Int} (h : nxP Ls i 0 nx) : 0 ≤ nx ∧ nx < 10 ∧ posZ Ls nx = i := by
  obtain ⟨k, k0, k1, k2⟩ := pos_ex Ls hi
  rcases h with ⟨h1, h2⟩ | ⟨h1, h2, h3, h4⟩
  · have := h2 k k0 k1
    omega
  · have := h4 k k0 k1 (by omega)
    exact ⟨h1, h2, by omega⟩
/-- the mask of what is cut -/
def ctP (Ls : Int → Int) (i : Nat) (c : Nat) : Prop := c < 1024 ∧ ∀ k : Nat, k < 10 → c.testBit k = decide (posZ Ls k < i)
theorem ctP_0 (Ls : Int → Int) : ctP Ls 0 0 := ⟨by decide, fun k hk => by
  have := pos_bd Ls (k := k) (by omega) (by omega)
  rw [Nat.zero_testBit]
  symm
  exact decide_eq_false (by omega)⟩
set_option maxRecDepth 20000 in
theorem bits_1023 : ∀ k : Nat, k < 10 → (1023 : Nat).testBit k = true := by decide +kernel
theorem ctP_lt {Ls : Int → Int} {i c : Nat} (h : ctP Ls i c) (hi : i < 10) : c < 1023 := by
  obtain ⟨k, k0, k1, k2⟩ := pos_ex Ls hi
  have h1 := h.1
  apply Decidable.byContradiction
  intro z
  have e : c = 1023 := by omega
  have h2 := h.2 k.toNat (by omega)
  rw [e, bits_1023 _ (by omega), Int.toNat_of_nonneg k0, k2] at h2
  have := of_decide_eq_true h2.symm
  omega
theorem ctP_10 {Ls : Int → Int} {c : Nat} (h : ctP Ls 10 c) : c = 1023 := by
  apply Nat.eq_of_testBit_eq
  intro k
  by_cases hk : k < 10
  · have := pos_bd Ls (k := k) (by omega) (by omega)
    rw [h.2 k hk, bits_1023 k hk]
    exact decide_eq_true (by omega)
  · have e : 2 ^ 10 ≤ 2 ^ k := Nat.pow_le_pow_right (by decide) (by omega)
    have h1 := h.1
    rw [Nat.testBit_lt_two_pow (by omega), Nat.testBit_lt_two_pow (by omega)]
theorem ctP_step {Ls : Int → Int} {i c n : Nat} (h : ctP Ls i c) (hn : n < 10) (hp : posZ Ls n = i) : ctP Ls (i + 1) (c ||| 2 ^ n) := by
  have e : 2 ^ n < 2 ^ 10 := Nat.pow_lt_pow_right (by decide) hn
  refine ⟨Nat.or_lt_two_pow (n := 10) h.1 e, fun k hk => ?_⟩
  rw [Nat.testBit_or, h.2 k hk, Nat.testBit_two_pow]
  by_cases q : n = k
  · subst q
    rw [hp]
    simp
    omega
  · have hne : posZ Ls k ≠ i := fun z => q (by
      have := pos_inj Ls (a := n) (b := k) (by omega) (by omega) (by omega) (by omega) (by omega)
      omega)
    rw [decide_eq_false q, Bool.or_false]
    by_cases z : posZ Ls k < i
    · rw [decide_eq_true z]; symm; exact decide_eq_true (by omega)
    · rw [decide_eq_false z]; symm; exact decide_eq_false (by omega)
set_option maxRecDepth 100000 in
theorem bit_shr : ∀ k : Nat, k < 10 → ∀ c : Nat, c < 1024 → iI (c : Int) >>> (iI (k : Int) &&& 31) = iI ((c / 2 ^ k : Nat) : Int) := by decide +kernel
set_option maxRecDepth 100000 in
theorem bit_and : ∀ c : Nat, c < 1024 → iI (c : Int) &&& iI 1 = iI ((c % 2 : Nat) : Int) := by decide +kernel
set_option maxRecDepth 100000 in
theorem bit_shl : ∀ k : Nat, k < 10 → iI 1 <<< (iI (k : Int) &&& 31) = iI ((2 ^ k : Nat) : Int) := by decide +kernel
set_option maxRecDepth 100000 in
theorem bit_or : ∀ k : Nat, k < 10 → ∀ c : Nat, c < 1024 → iI (c : Int) ||| iI ((2 ^ k : Nat) : Int) = iI ((c ||| 2 ^ k : Nat) : Int) := by decide +kernel
theorem bit_is {c k : Nat} : ((c / 2 ^ k) % 2 = 0 ∧ c.testBit k = false) ∨ ((c / 2 ^ k) % 2 = 1 ∧ c.testBit k = true) := by
  rw [Nat.testBit_eq_decide_div_mod_eq]
  rcases Nat.mod_two_eq_zero_or_one (c / 2 ^ k) with h | h
  · left; rw [h]; exact ⟨rfl, rfl⟩
  · right; rw [h]; exact ⟨rfl, rfl⟩
/-- what the road asks of the end of one strake -/
def frP (pl : Int) (Ls : Int → Int) (i : Nat) (asked fr : Int) : Prop := 0 ≤ asked → asked < 10 → posZ Ls asked < i → fr = rr_ pl Ls (posZ Ls asked).toNat
theorem frP_0 (pl : Int) (Ls : Int → Int) (asked fr : Int) : frP pl Ls 0 asked fr := fun h0 h1 h => by
  have := pos_bd Ls h0 h1
  omega
theorem frP_step {pl : Int} {Ls : Int → Int} {i : Nat} {asked fr nx at_ : Int} (h : frP pl Ls i asked fr) (h0 : 0 ≤ nx) (h1 : nx < 10) (hp : posZ Ls nx = i) (hr : at_ = rr_ pl Ls i) : (nx ≠ asked → frP pl Ls (i + 1) asked fr) ∧ (nx = asked → frP pl Ls (i + 1) asked at_) := by
  refine ⟨fun q a0 a1 a2 => h a0 a1 ?_, fun q a0 a1 a2 => ?_⟩
  · have hne : posZ Ls asked ≠ i := fun z => q (pos_inj Ls h0 h1 a0 a1 (by omega))
    push_cast at a2
    omega
  · rw [← q, hp, hr]
    rfl
theorem frP_end {pl : Int} {Ls : Int → Int} {j y fr : Int} (j0 : 0 ≤ j) (j1 : j < 5) (hy : y = 0 ∨ y = 1) (h : frP pl Ls 10 (2 * j + y) fr) : fr = if y = 0 then (plS pl Ls 5).2.2.1 j else (plS pl Ls 5).2.2.2 j := by
  have g := sk_rk Ls j0 j1
  have b := pos_bd Ls (k := 2 * j + y) (by omega) (by omega)
  have h1 := h (by omega) (by omega) (by omega)
  have e : posZ Ls (2 * j + y) = 2 * rkZ Ls j 5 + y := by
    unfold posZ
    rw [show (2 * j + y) / 2 = j by omega]
    omega
  have hr := plS_r pl Ls (sk_inj Ls) 5 (Nat.le_refl _) (rkZ Ls j 5).toNat (by omega)
  rw [Int.toNat_of_nonneg g.1, g.2.2] at hr
  rw [h1, e]
  rcases hy with rfl | rfl
  · rw [if_pos rfl, hr.1, show (2 * rkZ Ls j 5 + 0).toNat = 2 * (rkZ Ls j 5).toNat by omega]
  · rw [if_neg (by decide), hr.2, show (2 * rkZ Ls j 5 + 1).toNat = 2 * (rkZ Ls j 5).toNat + 1 by omega]
