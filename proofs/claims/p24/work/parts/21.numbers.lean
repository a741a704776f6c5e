/-! ===== words and lemmas on numbers ===== -/
def RH (M : Int → Int → Int) (hf : Int → Int) : Prop := ∀ w s : Int, 0 ≤ w → w ≤ 5 → 0 ≤ s → s ≤ 8 → hf (9 * w + s) = M w s
def inZ (v a b : Int) : Int := if a ≤ v ∧ v ≤ b then 1 else 0
theorem inZ_r (v a b : Int) : inr (inZ v a b) := by unfold inZ; split <;> exact ⟨by decide, by decide⟩
theorem inZ_0 {v a b : Int} (h : inZ v a b = 0) : ¬ (a ≤ v ∧ v ≤ b) := by
  unfold inZ at h
  split at h
  · omega
  · assumption
theorem inZ_1 {v a b : Int} (h : inZ v a b ≠ 0) : a ≤ v ∧ v ≤ b := by
  unfold inZ at h
  split at h
  · assumption
  · omega
def tcOffset (x w h il : Int) : Int := if ¬ (0 ≤ x ∧ x ≤ 8) ∨ ¬ (0 ≤ w ∧ w ≤ 5) then 1 else if ¬ (0 ≤ h ∧ h ≤ 200) then 2 else if il ≠ 0 then 3 else 0
def tcSW (x w : Int) : Int := if ¬ (0 ≤ x ∧ x ≤ 8) ∨ ¬ (0 ≤ w ∧ w ≤ 5) then 1 else 0
def tcW (w : Int) : Int := if ¬ (0 ≤ w ∧ w ≤ 5) then 1 else 0
def ldZ (f : Int → Int) : Nat → Int
  | 0 => 0
  | k + 1 => ldZ f k + 10 * f k
def drD (V : Int → Int) (load : Int) : Nat → Int
  | 0 => -1
  | k + 1 => if load ≤ V ((5 - k : Nat) : Int) then ((5 - k : Nat) : Int) else drD V load k
theorem drD_6 (V : Int → Int) (load : Int) : drD V load 6 = drZ V load := rfl
theorem drD_step {V : Int → Int} {load : Int} {s : Nat} (hs : s ≤ 5) : drD V load (6 - s) = if load ≤ V s then (s : Int) else drD V load (5 - s) := by
  obtain ⟨j, hj⟩ : ∃ j, 6 - s = j + 1 := ⟨5 - s, by omega⟩
  have e : 5 - s = j := by omega
  have e2 : 5 - j = s := by omega
  rw [hj, e]
  simp only [drD]
  rw [e2]
theorem drD_bd (V : Int → Int) (load : Int) : ∀ k : Nat, -1 ≤ drD V load k ∧ drD V load k ≤ 5
  | 0 => by simp [drD]
  | k + 1 => by
    have := drD_bd V load k
    simp only [drD]
    split <;> omega
theorem zset_zset (f : Int → Int) (k v v' : Int) : zset (zset f k v) k v' = zset f k v' := by
  funext j
  by_cases e : j = k
  · rw [e, zset_eq, zset_eq]
  · rw [zset_ne _ e, zset_ne _ e, zset_ne _ e]
theorem zset_self (f : Int → Int) (k : Int) : zset f k (f k) = f := by
  funext j
  by_cases e : j = k
  · rw [e, zset_eq]
  · rw [zset_ne _ e]
theorem ldZ_set (f : Int → Int) (v : Int) : ldZ (zset f 16 v) 17 = ldZ f 16 + 10 * v := rfl
theorem msZ_set (f g : Int → Int) (v w : Int) : msZ (zset f 16 v) (zset g 16 w) 17 = msZ f g 16 + v * 20 * w := rfl
def tcWeigh (x w nw : Int) : Int := if ¬ (0 ≤ x ∧ x ≤ 8) then 1 else if ¬ (0 ≤ w ∧ w ≤ 999) then 2 else if nw = 16 then 3 else 0
def tcChange (q x w nw : Int) : Int := if ¬ (0 ≤ q ∧ q ≤ nw - 1) ∨ ¬ (0 ≤ x ∧ x ≤ 8) then 1 else if ¬ (0 ≤ w ∧ w ≤ 999) then 2 else 0
def tcK (x : Int) : Int := if ¬ (0 ≤ x ∧ x ≤ 4) then 1 else 0
theorem rk_bd (Ls : Int → Int) (k : Int) : ∀ n : Nat, 0 ≤ rkZ Ls k n ∧ rkZ Ls k n ≤ n
  | 0 => by simp [rkZ]
  | n + 1 => by
    have ih := rk_bd Ls k n
    simp only [rkZ]
    unfold bfZ
    split <;> (push_cast; omega)
theorem rk_1 {Ls : Int → Int} {k : Int} {o : Nat} (h : Ls k < Ls o ∨ (Ls o = Ls k ∧ (o : Int) < k)) : rkZ Ls k o + 1 = rkZ Ls k (o + 1) := by
  simp only [rkZ]
  rw [bf_1 h]
theorem rk_0 {Ls : Int → Int} {k : Int} {o : Nat} (h : ¬ (Ls k < Ls o ∨ (Ls o = Ls k ∧ (o : Int) < k))) : rkZ Ls k o + 0 = rkZ Ls k (o + 1) := by
  simp only [rkZ]
  unfold bfZ
  rw [if_neg h]
def pk_ (pl : Int) (Ls : Int → Int) : Nat → (Int → Int) × Int
  | 0 => (fun _ => 0, 0)
  | k + 1 => (cutZ pl (pk_ pl Ls k).1 (pk_ pl Ls k).2 (Ls (skZ Ls ((k / 2 : Nat) : Int) 5))).2
def rr_ (pl : Int) (Ls : Int → Int) (k : Nat) : Int := (cutZ pl (pk_ pl Ls k).1 (pk_ pl Ls k).2 (Ls (skZ Ls ((k / 2 : Nat) : Int) 5))).1
theorem plS_pk (pl : Int) (Ls : Int → Int) : ∀ t : Nat, (plS pl Ls t).1 = (pk_ pl Ls (2 * t)).1 ∧ (plS pl Ls t).2.1 = (pk_ pl Ls (2 * t)).2
  | 0 => ⟨rfl, rfl⟩
  | t + 1 => by
    obtain ⟨h1, h2⟩ := plS_pk pl Ls t
    have e : 2 * (t + 1) = 2 * t + 1 + 1 := by omega
    have e1 : (2 * t + 1) / 2 = t := by omega
    have e2 : 2 * t / 2 = t := by omega
    rw [e]
    simp only [plS, pk_]
    rw [e1, e2, ← h1, ← h2]
    exact ⟨rfl, rfl⟩
theorem plS_r (pl : Int) (Ls : Int → Int) (hinj : ∀ a b : Nat, a < 5 → b < 5 → skZ Ls a 5 = skZ Ls b 5 → a = b) : ∀ T : Nat, T ≤ 5 → ∀ t : Nat, t < T → (plS pl Ls T).2.2.1 (skZ Ls t 5) = rr_ pl Ls (2 * t) ∧ (plS pl Ls T).2.2.2 (skZ Ls t 5) = rr_ pl Ls (2 * t + 1)
  | 0, _, t, h => absurd h (Nat.not_lt_zero _)
  | T + 1, hT, t, h => by
    obtain ⟨h1, h2⟩ := plS_pk pl Ls T
    simp only [plS]
    by_cases e : t = T
    · subst e
      rw [zset_eq, zset_eq]
      unfold rr_
      have e1 : (2 * t + 1) / 2 = t := by omega
      have e2 : 2 * t / 2 = t := by omega
      simp only [pk_]
      rw [e1, e2, ← h1, ← h2]
      exact ⟨rfl, rfl⟩
    · have hne : skZ Ls t 5 ≠ skZ Ls T 5 := fun q => e (hinj t T (by omega) (by omega) q)
      rw [zset_ne _ hne, zset_ne _ hne]
      exact plS_r pl Ls hinj T (by omega) t (by omega)
theorem SO_ins {Ls od : Int → Int} {i : Nat} : ∃ p : Nat, p ≤ i ∧ (∀ j : Nat, p ≤ j → j < i → Ls (od j) < Ls i) ∧ (p = 0 ∨ Ls i ≤ Ls (od ((p : Int) - 1))) := by
  have key : ∀ n : Nat, n ≤ i → ∃ p : Nat, p ≤ i ∧ (∀ j : Nat, p ≤ j → j < i → Ls (od j) < Ls i) ∧ (p = 0 ∨ Ls i ≤ Ls (od ((p : Int) - 1)) ∨ p = i - n) := by
    intro n
    induction n with
    | zero => intro _; exact ⟨i, Nat.le_refl _, fun j a b => by omega, Or.inr (Or.inr (by omega))⟩
    | succ n ih =>
      intro hn
      obtain ⟨p, h1, h2, h3⟩ := ih (by omega)
      rcases h3 with h3 | h3 | h3
      · exact ⟨p, h1, h2, Or.inl h3⟩
      · exact ⟨p, h1, h2, Or.inr (Or.inl h3)⟩
      · by_cases q : Ls i ≤ Ls (od ((p : Int) - 1))
        · exact ⟨p, h1, h2, Or.inr (Or.inl q)⟩
        · refine ⟨p - 1, by omega, fun j a b => ?_, Or.inr (Or.inr (by omega))⟩
          by_cases e : j = p - 1
          · rw [e, show ((p - 1 : Nat) : Int) = (p : Int) - 1 by omega]; omega
          · exact h2 j (by omega) b
  obtain ⟨p, h1, h2, h3⟩ := key i (Nat.le_refl _)
  exact ⟨p, h1, h2, by rcases h3 with h | h | h; exact Or.inl h; exact Or.inr h; exact Or.inl (by omega)⟩
theorem SO_ex (Ls : Int → Int) : ∀ i : Nat, ∃ od : Int → Int, SO Ls od i
  | 0 => ⟨fun _ => 0, fun t h => absurd h (Nat.not_lt_zero _), fun a b _ h => absurd h (Nat.not_lt_zero _), fun g => rfl⟩
  | i + 1 => by
    obtain ⟨od, h⟩ := SO_ex Ls i
    obtain ⟨p, h1, h2, h3⟩ := SO_ins (Ls := Ls) (od := od) (i := i)
    refine ⟨zset (fun j => if j < p then od j else od (j - 1)) p i, SO_step h h1 (fun j hj => ?_) (fun j a b => ?_) h2 h3⟩
    · show (if (j : Int) < p then od j else od ((j : Int) - 1)) = od j
      rw [if_pos (by omega)]
    · show (if (j : Int) < p then od j else od ((j : Int) - 1)) = _
      rw [if_neg (by omega)]
theorem sk_inj (Ls : Int → Int) : ∀ a b : Nat, a < 5 → b < 5 → skZ Ls a 5 = skZ Ls b 5 → a = b := by
  obtain ⟨od, h⟩ := SO_ex Ls 5
  intro a b ha hb e
  have h1 := SO_rk h ha
  have h2 := SO_rk h hb
  rw [SO_sk h ha, SO_sk h hb] at e
  rw [e, h2] at h1
  omega
theorem sk_in (Ls : Int → Int) : ∀ a : Nat, a < 5 → 0 ≤ skZ Ls a 5 ∧ skZ Ls a 5 < 5 := by
  obtain ⟨od, h⟩ := SO_ex Ls 5
  intro a ha
  rw [SO_sk h ha]
  exact h.1 a ha
theorem sk_surj (Ls : Int → Int) {j : Int} (h0 : 0 ≤ j) (h1 : j < 5) : ∃ t : Nat, t < 5 ∧ skZ Ls t 5 = j := by
  obtain ⟨od, h⟩ := SO_ex Ls 5
  obtain ⟨t, h2, h3⟩ := SO_surj h h0 h1
  exact ⟨t, h2, by rw [SO_sk h h2]; exact h3⟩
theorem pk_bd {pl : Int} (hp : 100 ≤ pl) (hp2 : pl ≤ 4000) {M : Int → Int → Int} (hM : hOK M) : ∀ k : Nat, k ≤ 10 → bdN (pk_ pl (LsM M) k).1 (pk_ pl (LsM M) k).2 ∧ 0 ≤ (pk_ pl (LsM M) k).2 ∧ (pk_ pl (LsM M) k).2 ≤ 17 * k
  | 0, _ => ⟨fun j a b => absurd b (by simp only [pk_]; omega), by simp [pk_], by simp [pk_]⟩
  | k + 1, hk => by
    obtain ⟨h1, h2, h3⟩ := pk_bd hp hp2 hM k (by omega)
    have hb := strZ_bd hM (skZ (LsM M) ((k / 2 : Nat) : Int) 5) 8
    have hl : LsM M (skZ (LsM M) ((k / 2 : Nat) : Int) 5) = strZ (M (skZ (LsM M) ((k / 2 : Nat) : Int) 5)) 8 := rfl
    have c := cutZ_bd hp hp2 (f := (pk_ pl (LsM M) k).1) (n := (pk_ pl (LsM M) k).2) (len := LsM M (skZ (LsM M) ((k / 2 : Nat) : Int) 5)) h2 h1 (by omega) (by omega)
    simp only [pk_]
    exact ⟨c.2.2.1, by omega, by omega⟩
def pcZ (dy : Int → Int) (x n0 : Int) : Nat → Int
  | 0 => n0
  | k + 1 => if dy k = x then (k : Int) else pcZ dy x n0 k
theorem pcZ_pl (dy : Int → Int) (x n0 : Int) : ∀ n : Nat, pcZ dy x n0 n = if plZ dy x n = -1 then n0 else plZ dy x n
  | 0 => rfl
  | n + 1 => by
    by_cases e : dy n = x
    · have e1 : pcZ dy x n0 (n + 1) = n := if_pos e
      have e2 : plZ dy x (n + 1) = n := if_pos e
      rw [e1, e2, if_neg (by omega)]
    · have e1 : pcZ dy x n0 (n + 1) = pcZ dy x n0 n := if_neg e
      have e2 : plZ dy x (n + 1) = plZ dy x n := if_neg e
      rw [e1, e2]
      exact pcZ_pl dy x n0 n
theorem pcZ_bd {dy : Int → Int} {x n0 : Int} (n : Nat) (h0 : 0 ≤ n0) (h1 : (n : Int) ≤ n0) : 0 ≤ pcZ dy x n0 n ∧ pcZ dy x n0 n ≤ n0 := by
  rw [pcZ_pl]
  rcases plZ_cases (td := dy) (day := x) n with ⟨q, -⟩ | ⟨k, q1, q2, -⟩
  · rw [if_pos q]; omega
  · rw [if_neg (by omega)]; omega
theorem tdZ_cong {td th td' th' : Int → Int} {x : Int} : ∀ n : Nat, (∀ j : Nat, j < n → td j = td' j ∧ th j = th' j) → tdZ td th x n = tdZ td' th' x n
  | 0, _ => rfl
  | n + 1, h => by
    simp only [tdZ]
    rw [(h n (Nat.lt_succ_self n)).1, (h n (Nat.lt_succ_self n)).2, tdZ_cong n (fun j hj => h j (by omega))]
theorem plZ_cong {td td' : Int → Int} {x : Int} : ∀ n : Nat, (∀ j : Nat, j < n → td j = td' j) → plZ td x n = plZ td' x n
  | 0, _ => rfl
  | n + 1, h => by
    simp only [plZ]
    rw [h n (Nat.lt_succ_self n), plZ_cong n (fun j hj => h j (by omega))]
theorem tdZ_bd {td th : Int → Int} {x : Int} (h : ∀ j : Int, 0 ≤ th j ∧ th j ≤ 99) : ∀ n : Nat, 0 ≤ tdZ td th x n ∧ tdZ td th x n ≤ 99
  | 0 => by simp only [tdZ]; omega
  | n + 1 => by
    have ih := tdZ_bd (td := td) (x := x) h n
    have := h n
    simp only [tdZ]
    split <;> omega
def ndZ (M : Int → Int → Int) (load mo sill : Int) : Int := if drZ (VM M) load = -1 then -1 else 10 * drZ (VM M) load + sill + absZ (tmZ M load mo) / 10
theorem ndZ_bd {M : Int → Int → Int} (hM : hOK M) {load mo sill : Int} (h0 : 0 ≤ mo) (hl : 0 ≤ load) (h : mo ≤ 16 * load) (hs : 0 ≤ sill) (hs1 : sill ≤ 50) : -1 ≤ ndZ M load mo sill ∧ ndZ M load mo sill ≤ 1000 := by
  have ht := tmZ_bd hM h0 hl h
  have ha := absZ_bd (a := tmZ M load mo) (k := 1600) (by omega) (by omega)
  have hd := drZ_bd (VM M) load
  unfold ndZ
  split <;> omega
def daD (T : Int → Int) (need tod : Int) : Nat → Int
  | 0 => -1
  | k + 1 => if need ≤ T (tod + ((99 - k : Nat) : Int)) then tod + ((99 - k : Nat) : Int) else daD T need tod k
theorem daD_step {T : Int → Int} {need tod : Int} {a : Nat} (ha : a ≤ 99) : daD T need tod (100 - a) = if need ≤ T (tod + a) then tod + a else daD T need tod (99 - a) := by
  obtain ⟨j, hj⟩ : ∃ j, 100 - a = j + 1 := ⟨99 - a, by omega⟩
  have e : 99 - a = j := by omega
  have e2 : 99 - j = a := by omega
  rw [hj, e]
  simp only [daD]
  rw [e2]
theorem daD_bd {T : Int → Int} {need tod : Int} (h : 0 ≤ tod) : ∀ k : Nat, -1 ≤ daD T need tod k ∧ daD T need tod k ≤ tod + 99
  | 0 => by simp only [daD]; omega
  | k + 1 => by
    have := daD_bd (T := T) (need := need) h k
    simp only [daD]
    split <;> omega
theorem daD_cong {T T' : Int → Int} {need tod : Int} : ∀ k : Nat, (∀ a : Nat, a ≤ 99 → T (tod + a) = T' (tod + a)) → daD T need tod k = daD T' need tod k
  | 0, _ => rfl
  | k + 1, h => by
    simp only [daD]
    rw [h (99 - k) (by omega), daD_cong k h]
def tcPass (x tod : Int) : Int := if ¬ (1 ≤ x ∧ x ≤ 99) then 1 else if 9000 < tod + x then 2 else 0
def dZ (f : Int → Int) (x s : Int) : Int := loZ f x s - f s + 2
def mayP (f : Int → Int) (x s k : Int) : Prop := dZ f x s ≤ k ∧ k < dZ f x s + chZ f x s
theorem dZ_bd {f : Int → Int} (hf : ∀ j : Int, 0 ≤ f j ∧ f j ≤ 200) {x : Int} (x0 : 0 ≤ x) (x1 : x ≤ 2) (s : Int) : 0 ≤ dZ f x s ∧ dZ f x s ≤ 2 ∧ 3 ≤ dZ f x s + chZ f x s ∧ dZ f x s + chZ f x s ≤ 5 ∧ 1 ≤ chZ f x s := by
  have := hf s
  unfold dZ chZ loZ hiZ
  split <;> split <;> omega
theorem mayP_iff {f : Int → Int} (hf : ∀ j : Int, 0 ≤ f j ∧ f j ≤ 200) {x : Int} (x0 : 0 ≤ x) (x1 : x ≤ 2) (s k : Int) : mayP f x s k ↔ (absZ (k - 2) ≤ x ∧ (0 ≤ f s + k - 2 ∧ f s + k - 2 ≤ 200)) := by
  have := hf s
  unfold mayP dZ chZ loZ hiZ absZ
  split <;> split <;> split <;> omega
theorem mayP_2 {f : Int → Int} (hf : ∀ j : Int, 0 ≤ f j ∧ f j ≤ 200) {x : Int} (x0 : 0 ≤ x) (x1 : x ≤ 2) (s : Int) : mayP f x s 2 := by
  have := dZ_bd hf x0 x1 s
  unfold mayP
  omega
def bbZ (f bh : Int → Int) (s a b c : Int) : Int := (f (s - 1) + a - 2 + f (s + 1) + c - 2 - 2 * (f s + b - 2)) * (f (s - 1) + a - 2 + f (s + 1) + c - 2 - 2 * (f s + b - 2)) + bh (25 * (s + 1) + 5 * b + c)
/-- what leastBy has found behind n numbers -/
def lbP (g : Int → Int) (m : Int → Prop) (n : Nat) (v : Int) : Prop := v ≤ FAR ∧ (∀ c : Nat, c < n → m c → v ≤ g c) ∧ (v = FAR ∨ ∃ c : Nat, c < n ∧ m c ∧ v = g c)
theorem sq_bd2 {x : Int} (h1 : -412 ≤ x) (h2 : x ≤ 412) : 0 ≤ x * x ∧ x * x ≤ 169744 := by
  have h3 : x * x = x.natAbs * x.natAbs := (Int.natAbs_mul_self (a := x)).symm
  have h4 : x.natAbs ≤ 412 := by omega
  have h5 : x.natAbs * x.natAbs ≤ 412 * 412 := Nat.mul_le_mul h4 h4
  rw [h3]
  exact ⟨by omega, by omega⟩
theorem bbZ_bd {f bh : Int → Int} (hf : ∀ j : Int, 0 ≤ f j ∧ f j ≤ 200) {s a b c B : Int} (a0 : 0 ≤ a) (a1 : a ≤ 4) (b0 : 0 ≤ b) (b1 : b ≤ 4) (c0 : 0 ≤ c) (c1 : c ≤ 4) (hB : 0 ≤ bh (25 * (s + 1) + 5 * b + c) ∧ bh (25 * (s + 1) + 5 * b + c) ≤ B) : 0 ≤ bbZ f bh s a b c ∧ bbZ f bh s a b c ≤ 169744 + B := by
  have h1 := hf (s - 1)
  have h2 := hf s
  have h3 := hf (s + 1)
  have := sq_bd2 (x := f (s - 1) + a - 2 + f (s + 1) + c - 2 - 2 * (f s + b - 2)) (by omega) (by omega)
  unfold bbZ
  omega
theorem lbP_mn {f bh : Int → Int} (hf : ∀ j : Int, 0 ≤ f j ∧ f j ≤ 200) {x : Int} (x0 : 0 ≤ x) (x1 : x ≤ 2) {g g' : Int → Int} {s v : Int} (h : lbP g (mayP f x s) 5 v) (hg : ∀ t : Nat, t < chZ f x s → g (dZ f x s + t) = g' t ∧ g' t < FAR) : v = mnF g' (chZ f x s).toNat := by
  have hd := dZ_bd hf x0 x1 s
  have key : ∀ n : Nat, 0 < n → n ≤ (chZ f x s).toNat → (∀ t : Nat, t < n → mnF g' n ≤ g' t) ∧ ∃ t : Nat, t < n ∧ mnF g' n = g' t := by
    intro n
    induction n with
    | zero => intro q; exact absurd q (Nat.lt_irrefl _)
    | succ n ih =>
      intro _ hn
      have hgn := (hg n (by omega)).2
      by_cases q : g' n < mnF g' n
      · rw [mnF_lt q]
        refine ⟨fun t ht => ?_, n, Nat.lt_succ_self n, rfl⟩
        by_cases e : t = n
        · rw [e]; exact Int.le_refl _
        · have := (ih (by omega) (by omega)).1 t (by omega)
          omega
      · rw [mnF_ge q]
        by_cases e : n = 0
        · subst e
          rw [mnF_zero] at q
          omega
        · obtain ⟨h1, t, h2, h3⟩ := ih (by omega) (by omega)
          refine ⟨fun t' ht' => ?_, t, by omega, h3⟩
          by_cases e2 : t' = n
          · rw [e2]; omega
          · exact h1 t' (by omega)
  obtain ⟨k1, t, k2, k3⟩ := key (chZ f x s).toNat (by omega) (Nat.le_refl _)
  obtain ⟨-, h2, h3⟩ := h
  have ht := hg t (by omega)
  have g1 := h2 (dZ f x s + t).toNat (by omega) (by unfold mayP; omega)
  rw [show (((dZ f x s + t).toNat : Nat) : Int) = dZ f x s + t by omega, ht.1] at g1
  rcases h3 with q | ⟨c, q1, q2, q3⟩
  · omega
  · unfold mayP at q2
    have hc := hg (c - dZ f x s).toNat (by omega)
    rw [show dZ f x s + (((c - dZ f x s).toNat : Nat) : Int) = c by omega] at hc
    have g2 := k1 (c - dZ f x s).toNat (by omega)
    omega
/-- what stands behind: at the stations from a on, bounds for all numbers, and the least bends for those that may be -/
def bhP (f bh : Int → Int) (x : Int) (a : Nat) : Prop := ∀ s : Nat, a ≤ s → s ≤ 8 → (∀ k : Int, 0 ≤ k → k < 25 → 0 ≤ bh (25 * s + k) ∧ bh (25 * s + k) ≤ 169744 * (8 - s)) ∧ ∀ h n : Nat, h < chZ f x ((s : Int) - 1) → n < chZ f x s → bh (25 * s + (5 * (dZ f x ((s : Int) - 1) + h) + (dZ f x s + n))) = RZ (loZ f x) (chZ f x) (8 - s) h n
theorem bb_g {f bh : Int → Int} {x : Int} {s : Nat} (hs : s ≤ 6) (h n : Nat) (t : Nat) (hb : bh (25 * ((s + 2 : Nat) : Int) + (5 * (dZ f x ((s : Int) + 1) + n) + (dZ f x ((s : Int) + 2) + t))) = RZ (loZ f x) (chZ f x) (6 - s) n t) : bbZ f bh ((s : Int) + 1) (dZ f x s + h) (dZ f x ((s : Int) + 1) + n) (dZ f x ((s : Int) + 2) + t) = gZ (loZ f x) (chZ f x) s h n t := by
  unfold bbZ gZ sqZ
  rw [show 25 * ((s : Int) + 1 + 1) + 5 * (dZ f x ((s : Int) + 1) + n) + (dZ f x ((s : Int) + 2) + t) = 25 * ((s + 2 : Nat) : Int) + (5 * (dZ f x ((s : Int) + 1) + n) + (dZ f x ((s : Int) + 2) + t)) by omega, hb]
  have e : f ((s : Int) + 1 - 1) + (dZ f x s + h) - 2 + f ((s : Int) + 1 + 1) + (dZ f x ((s : Int) + 2) + t) - 2 - 2 * (f ((s : Int) + 1) + (dZ f x ((s : Int) + 1) + n) - 2) = loZ f x s + h + (loZ f x ((s : Int) + 2) + t) - 2 * (loZ f x ((s : Int) + 1) + n) := by
    rw [show (s : Int) + 1 - 1 = s by omega, show (s : Int) + 1 + 1 = s + 2 by omega]
    unfold dZ
    omega
  rw [e]
theorem zset_at (f : Int → Int) {k j v : Int} (h : j = k) : zset f k v j = v := by rw [h, zset_eq]
def lexP (R : Int → Int → Int) (c1 h n : Nat) (q : Int × Int × Int) : Prop := (h = 0 ∧ n = 0 ∧ q = (NOL, 0, 0)) ∨ ∃ a b : Nat, b < c1 ∧ (a < h ∨ (a = h ∧ b < n)) ∧ q = (R a b, (a : Int), (b : Int)) ∧ ∀ a' b' : Nat, b' < c1 → (a' < h ∨ (a' = h ∧ b' < n)) → R a b ≤ R a' b' ∧ ((a' < a ∨ (a' = a ∧ b' < b)) → R a b < R a' b')
theorem lexP_step {R : Int → Int → Int} {c1 h n : Nat} {q : Int × Int × Int} (hq : lexP R c1 h n q) (hn : n < c1) (hR : R h n < NOL) : lexP R c1 h (n + 1) (dStep R h n q) := by
  rcases hq with ⟨rfl, rfl, rfl⟩ | ⟨a, b, h1, h2, rfl, h3⟩
  · refine Or.inr ⟨0, 0, hn, Or.inr ⟨rfl, by omega⟩, ?_, fun a' b' h4 h5 => ?_⟩
    · unfold dStep
      rw [if_pos hR]
    · have ea : a' = 0 := by omega
      have eb : b' = 0 := by omega
      subst ea
      subst eb
      exact ⟨Int.le_refl _, fun z => by omega⟩
  · by_cases e : R h n < R a b
    · refine Or.inr ⟨h, n, hn, Or.inr ⟨rfl, by omega⟩, ?_, fun a' b' h4 h5 => ?_⟩
      · unfold dStep
        rw [if_pos e]
      · by_cases e2 : a' = h ∧ b' = n
        · rw [e2.1, e2.2]
          exact ⟨Int.le_refl _, fun z => by omega⟩
        · have := (h3 a' b' h4 (by omega)).1
          exact ⟨by omega, fun _ => by omega⟩
    · refine Or.inr ⟨a, b, h1, by omega, ?_, fun a' b' h4 h5 => ?_⟩
      · unfold dStep
        rw [if_neg e]
      · by_cases e2 : a' = h ∧ b' = n
        · rw [e2.1, e2.2]
          exact ⟨by omega, fun z => by omega⟩
        · exact h3 a' b' h4 (by omega)
theorem lexP_in {R : Int → Int → Int} {c1 h : Nat} {q : Int × Int × Int} (hq : lexP R c1 h 0 q) (hR : ∀ n : Nat, n < c1 → R h n < NOL) : ∀ n : Nat, n ≤ c1 → lexP R c1 h n (dIn R h q n)
  | 0, _ => hq
  | n + 1, hn => lexP_step (lexP_in hq hR n (by omega)) (by omega) (hR n (by omega))
theorem lexP_next {R : Int → Int → Int} {c1 h : Nat} {q : Int × Int × Int} (h0 : 0 < c1) (hq : lexP R c1 h c1 q) : lexP R c1 (h + 1) 0 q := by
  rcases hq with ⟨-, z, -⟩ | ⟨a, b, h1, h2, h3, h4⟩
  · omega
  · exact Or.inr ⟨a, b, h1, by omega, h3, fun a' b' g1 g2 => h4 a' b' g1 (by omega)⟩
theorem lexP_out {R : Int → Int → Int} {c1 : Nat} (h0 : 0 < c1) (c0 : Nat) (hR : ∀ h n : Nat, h < c0 → n < c1 → R h n < NOL) : ∀ h : Nat, h ≤ c0 → lexP R c1 h 0 (dOut R c1 (NOL, 0, 0) h)
  | 0, _ => Or.inl ⟨rfl, rfl, rfl⟩
  | h + 1, hh => lexP_next h0 (lexP_in (lexP_out h0 c0 hR h (by omega)) (fun n hn => hR h n (by omega) hn) c1 (Nat.le_refl _))
theorem amF_min {g : Int → Int} : ∀ n : Nat, 0 < n → (∀ t : Nat, t < n → g t < FAR) → g (amF g n) = mnF g n ∧ (∀ t : Nat, t < n → mnF g n ≤ g t) ∧ ∀ t : Nat, (t : Int) < amF g n → mnF g n < g t
  | 0, h, _ => absurd h (Nat.lt_irrefl _)
  | n + 1, _, hF => by
    by_cases q : g n < mnF g n
    · rw [amF_lt q, mnF_lt q]
      refine ⟨rfl, fun t ht => ?_, fun t ht => ?_⟩
      · by_cases e : t = n
        · rw [e]; exact Int.le_refl _
        · have := (amF_min n (by omega) (fun t ht => hF t (by omega))).2.1 t (by omega)
          omega
      · have := (amF_min n (by omega) (fun t ht => hF t (by omega))).2.1 t (by omega)
        omega
    · rw [amF_ge q, mnF_ge q]
      by_cases e : n = 0
      · subst e
        rw [mnF_zero] at q
        have := hF 0 (by omega)
        omega
      · obtain ⟨h1, h2, h3⟩ := amF_min n (by omega) (fun t ht => hF t (by omega))
        refine ⟨h1, fun t ht => ?_, h3⟩
        by_cases e2 : t = n
        · rw [e2]; omega
        · exact h2 t (by omega)
def fstP (f bh : Int → Int) (x : Int) (k : Nat) (least best : Int) : Prop := 0 ≤ least ∧ ((least = FAR ∧ best = 0 ∧ ∀ j : Nat, j < k → ¬ (mayP f x 0 ((j : Int) / 5) ∧ mayP f x 1 ((j : Int) % 5))) ∨ ∃ b : Nat, b < k ∧ best = b ∧ mayP f x 0 ((b : Int) / 5) ∧ mayP f x 1 ((b : Int) % 5) ∧ least = bh (25 + b) ∧ (∀ j : Nat, j < k → mayP f x 0 ((j : Int) / 5) → mayP f x 1 ((j : Int) % 5) → least ≤ bh (25 + j)) ∧ ∀ j : Nat, j < b → mayP f x 0 ((j : Int) / 5) → mayP f x 1 ((j : Int) % 5) → least < bh (25 + j))
theorem fstP_dQ {f bh : Int → Int} (hf : ∀ j : Int, 0 ≤ f j ∧ f j ≤ 200) {x : Int} (x0 : 0 ≤ x) (x1 : x ≤ 2) (hb : bhP f bh x 1) {least best : Int} (h : fstP f bh x 25 least best) : best / 5 = dZ f x 0 + (dQ (loZ f x) (chZ f x)).2.1 ∧ best % 5 = dZ f x 1 + (dQ (loZ f x) (chZ f x)).2.2 ∧ 0 ≤ (dQ (loZ f x) (chZ f x)).2.1 ∧ (dQ (loZ f x) (chZ f x)).2.1 < chZ f x 0 ∧ 0 ≤ (dQ (loZ f x) (chZ f x)).2.2 ∧ (dQ (loZ f x) (chZ f x)).2.2 < chZ f x 1 ∧ 0 ≤ best ∧ best < 25 := by
  have d0 := dZ_bd hf x0 x1 0
  have d1 := dZ_bd hf x0 x1 1
  have hLC := LC_Z (f := f) hf x0 x1
  have hR : ∀ a b : Nat, a < chZ f x 0 → b < chZ f x 1 → bh (25 + (5 * (dZ f x 0 + a) + (dZ f x 1 + b))) = RZ (loZ f x) (chZ f x) 7 a b := fun a b ha hb' => (hb 1 (by omega) (by omega)).2 a b ha hb'
  have hRb : ∀ a b : Nat, a < (chZ f x 0).toNat → b < (chZ f x 1).toNat → RZ (loZ f x) (chZ f x) 7 a b < NOL := fun a b ha hb' => by
    have := RZ_bd hLC 7 (by omega) a b (by omega) (by show (a : Int) < chZ f x 0; omega) (by omega) (by show (b : Int) < chZ f x 1; omega)
    unfold NOL
    omega
  have hlex := lexP_out (R := RZ (loZ f x) (chZ f x) 7) (c1 := (chZ f x 1).toNat) (by omega) (chZ f x 0).toNat hRb (chZ f x 0).toNat (Nat.le_refl _)
  have hdq : dQ (loZ f x) (chZ f x) = dOut (RZ (loZ f x) (chZ f x) 7) (chZ f x 1).toNat (NOL, 0, 0) (chZ f x 0).toNat := rfl
  rw [← hdq] at hlex
  generalize dQ (loZ f x) (chZ f x) = q at hlex
  rcases hlex with ⟨z, -, -⟩ | ⟨a, b, h1, h2, rfl, h3⟩
  · omega
  · obtain ⟨-, h⟩ := h
    rcases h with ⟨-, -, hno⟩ | ⟨c, c1, rfl, c2, c3, c4, c5, c6⟩
    · exact absurd ⟨mayP_2 hf x0 x1 0, mayP_2 hf x0 x1 1⟩ (hno 12 (by omega))
    · unfold mayP at c2 c3
      have ei : 25 + (c : Int) = 25 + (5 * (dZ f x 0 + (((c : Int) / 5 - dZ f x 0).toNat : Int)) + (dZ f x 1 + (((c : Int) % 5 - dZ f x 1).toNat : Int))) := by omega
      have hv := hR ((c : Int) / 5 - dZ f x 0).toNat ((c : Int) % 5 - dZ f x 1).toNat (by omega) (by omega)
      rw [← ei] at hv
      have k1 := h3 ((c : Int) / 5 - dZ f x 0).toNat ((c : Int) % 5 - dZ f x 1).toNat (by omega) (by omega)
      have hv2 := hR a b (by omega) (by omega)
      have ej : 25 + (5 * (dZ f x 0 + a) + (dZ f x 1 + b)) = 25 + (((5 * (dZ f x 0 + a) + (dZ f x 1 + b)).toNat : Nat) : Int) := by omega
      rw [ej] at hv2
      have m0 : mayP f x 0 ((((5 * (dZ f x 0 + a) + (dZ f x 1 + b)).toNat : Nat) : Int) / 5) := by unfold mayP; omega
      have m1 : mayP f x 1 ((((5 * (dZ f x 0 + a) + (dZ f x 1 + b)).toNat : Nat) : Int) % 5) := by unfold mayP; omega
      have k2 := c5 (5 * (dZ f x 0 + a) + (dZ f x 1 + b)).toNat (by omega) m0 m1
      have k3 : ¬ ((5 * (dZ f x 0 + a) + (dZ f x 1 + b)).toNat < c) := fun z => by
        have := c6 (5 * (dZ f x 0 + a) + (dZ f x 1 + b)).toNat z m0 m1
        omega
      have k4 : ¬ (((c : Int) / 5 - dZ f x 0).toNat < a ∨ (((c : Int) / 5 - dZ f x 0).toNat = a ∧ ((c : Int) % 5 - dZ f x 1).toNat < b)) := fun z => by
        have := k1.2 z
        omega
      dsimp only
      omega
def tcFair (w x il : Int) : Int := if ¬ (0 ≤ w ∧ w ≤ 5) then 1 else if ¬ (0 ≤ x ∧ x ≤ 2) then 2 else if il ≠ 0 then 3 else 0
def frZ (f : Int → Int) (x : Int) : Int → Int := fun s => fairZ f x s.toNat
