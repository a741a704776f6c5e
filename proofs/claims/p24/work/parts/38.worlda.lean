/-! ===== the law's own arrays ===== -/
def wA (aq : Nat → Nat) (cI : ClassId) (hf at_ wg dy ti gg : Int → Int) : va_W := [(aq 0, aI cI 54 hf), (aq 1, aI cI 17 at_), (aq 2, aI cI 17 wg), (aq 3, aI cI 40 dy), (aq 4, aI cI 40 ti), (aq 5, aI cI 6 gg)]
section WA
variable {aq : Nat → Nat} {cI : ClassId} {hf at_ wg dy ti gg f : Int → Int} {w2 : va_W}
theorem wA_a0 : (wA aq cI hf at_ wg dy ti gg).set 0 (aq 0, aI cI 54 f) = wA aq cI f at_ wg dy ti gg := rfl
theorem wL_a0 : (wA aq cI hf at_ wg dy ti gg ++ w2).set 0 (aq 0, aI cI 54 f) = wA aq cI f at_ wg dy ti gg ++ w2 := rfl
theorem wA_a1 : (wA aq cI hf at_ wg dy ti gg).set 1 (aq 1, aI cI 17 f) = wA aq cI hf f wg dy ti gg := rfl
theorem wL_a1 : (wA aq cI hf at_ wg dy ti gg ++ w2).set 1 (aq 1, aI cI 17 f) = wA aq cI hf f wg dy ti gg ++ w2 := rfl
theorem wA_a2 : (wA aq cI hf at_ wg dy ti gg).set 2 (aq 2, aI cI 17 f) = wA aq cI hf at_ f dy ti gg := rfl
theorem wL_a2 : (wA aq cI hf at_ wg dy ti gg ++ w2).set 2 (aq 2, aI cI 17 f) = wA aq cI hf at_ f dy ti gg ++ w2 := rfl
theorem wA_a3 : (wA aq cI hf at_ wg dy ti gg).set 3 (aq 3, aI cI 40 f) = wA aq cI hf at_ wg f ti gg := rfl
theorem wL_a3 : (wA aq cI hf at_ wg dy ti gg ++ w2).set 3 (aq 3, aI cI 40 f) = wA aq cI hf at_ wg f ti gg ++ w2 := rfl
theorem wA_a4 : (wA aq cI hf at_ wg dy ti gg).set 4 (aq 4, aI cI 40 f) = wA aq cI hf at_ wg dy f gg := rfl
theorem wL_a4 : (wA aq cI hf at_ wg dy ti gg ++ w2).set 4 (aq 4, aI cI 40 f) = wA aq cI hf at_ wg dy f gg ++ w2 := rfl
theorem wA_a5 : (wA aq cI hf at_ wg dy ti gg).set 5 (aq 5, aI cI 6 f) = wA aq cI hf at_ wg dy ti f := rfl
theorem wL_a5 : (wA aq cI hf at_ wg dy ti gg ++ w2).set 5 (aq 5, aI cI 6 f) = wA aq cI hf at_ wg dy ti f ++ w2 := rfl
end WA
theorem ldZ_cong {f g : Int → Int} : ∀ k : Nat, (∀ j : Nat, j < k → f j = g j) → ldZ f k = ldZ g k
  | 0, _ => rfl
  | k + 1, h => by
    simp only [ldZ]
    rw [ldZ_cong k (fun j hj => h j (by omega)), h k (by omega)]
theorem ldZ_sum (f : Int → Int) : ∀ k : Nat, ldZ f k = 10 * sumZ f k
  | 0 => rfl
  | k + 1 => by
    simp only [ldZ, sumZ]
    rw [ldZ_sum f k]
    omega
theorem sumZ_cut {f g : Int → Int} (n : Nat) (h : ∀ j : Nat, j < n → f j = g j) : ∀ k : Nat, (∀ j : Nat, n ≤ j → j < n + k → f j = 0) → sumZ f (n + k) = sumZ g n
  | 0, _ => by
    have key : ∀ m : Nat, m ≤ n → sumZ f m = sumZ g m := by
      intro m
      induction m with
      | zero => intro _; rfl
      | succ m ih =>
        intro hm
        simp only [sumZ]
        rw [ih (by omega), h m (by omega)]
    exact key n (Nat.le_refl n)
  | k + 1, h0 => by
    show sumZ f (n + k) + f ((n + k : Nat) : Int) = sumZ g n
    rw [sumZ_cut n h k (fun j h1 h2 => h0 j h1 (by omega)), h0 (n + k) (by omega) (by omega)]
    omega
theorem msZ_cut {f g f' g' : Int → Int} (n : Nat) (h : ∀ j : Nat, j < n → f j = f' j ∧ g j = g' j) : ∀ k : Nat, (∀ j : Nat, n ≤ j → j < n + k → f j = 0) → msZ f g (n + k) = msZ f' g' n
  | 0, _ => by
    have key : ∀ m : Nat, m ≤ n → msZ f g m = msZ f' g' m := by
      intro m
      induction m with
      | zero => intro _; rfl
      | succ m ih =>
        intro hm
        simp only [msZ]
        rw [ih (by omega), (h m (by omega)).1, (h m (by omega)).2]
    exact key n (Nat.le_refl n)
  | k + 1, h0 => by
    show msZ f g (n + k) + f ((n + k : Nat) : Int) * 20 * g ((n + k : Nat) : Int) = msZ f' g' n
    rw [msZ_cut n h k (fun j h1 h2 => h0 j h1 (by omega)), h0 (n + k) (by omega) (by omega)]
    omega
theorem RH_at {M : Int → Int → Int} {hf : Int → Int} (hR : RH M hf) {a w s : Int} (e : a = 9 * w + s) (w0 : 0 ≤ w) (w1 : w ≤ 5) (s0 : 0 ≤ s) (s1 : s ≤ 8) : hf a = M w s := by
  rw [e]
  exact hR w s w0 w1 s0 s1
theorem mayP_iff2 {f : Int → Int} (hf : ∀ j : Int, 0 ≤ f j ∧ f j ≤ 200) {x : Int} (x0 : 0 ≤ x) (x1 : x ≤ 2) (s k : Int) : mayP f x s k ↔ (2 - x ≤ k ∧ k ≤ 2 + x ∧ 0 ≤ f s + k - 2 ∧ f s + k - 2 ≤ 200) := by
  have := hf s
  unfold mayP dZ chZ loZ hiZ
  split <;> split <;> omega
/-! volumes between waterlines -/
def vrZ (M : Int → Int → Int) (b w : Int) : Nat → Int
  | 0 => 0
  | s + 1 => vrZ M b w s + (M w s + M w (s + 1) + M (w + 1) s + M (w + 1) (s + 1)) * (if b = 0 then (1 : Int) else 2 * (s : Int) + 1)
def vaZ (M : Int → Int → Int) (b : Int) : Nat → Int
  | 0 => 0
  | w + 1 => vaZ M b w + vrZ M b w 8
theorem vol_step (M : Int → Int → Int) (w : Nat) : ∀ s : Nat, volZ M (w + 1) s = volZ M w s + vrZ M 0 w s
  | 0 => rfl
  | s + 1 => by
    simp only [volZ, vrZ]
    rw [vol_step M w s, if_pos trivial]
    simp only [areaZ]
    omega
theorem mom_step (M : Int → Int → Int) (w : Nat) : ∀ s : Nat, momZ M (w + 1) s = momZ M w s + vrZ M 1 w s
  | 0 => rfl
  | s + 1 => by
    simp only [momZ, vrZ]
    rw [mom_step M w s, if_neg (by decide)]
    simp only [areaZ]
    have e : areaZ M s w + (M w s + M (w + 1) s) + (areaZ M (s + 1) w + (M w (s + 1) + M (w + 1) (s + 1))) = (areaZ M s w + areaZ M (s + 1) w) + (M w s + M w (s + 1) + M (w + 1) s + M (w + 1) (s + 1)) := by omega
    rw [e, Int.mul_add, Int.mul_comm (2 * (s : Int) + 1) (M w s + M w (s + 1) + M (w + 1) s + M (w + 1) (s + 1))]
    omega
theorem vol_0 (M : Int → Int → Int) : ∀ s : Nat, volZ M 0 s = 0
  | 0 => rfl
  | s + 1 => by
    simp only [volZ]
    rw [vol_0 M s]
    rfl
theorem mom_0 (M : Int → Int → Int) : ∀ s : Nat, momZ M 0 s = 0
  | 0 => rfl
  | s + 1 => by
    simp only [momZ]
    rw [mom_0 M s]
    simp only [areaZ]
    omega
theorem va_vol (M : Int → Int → Int) : ∀ w : Nat, vaZ M 0 w = volZ M w 8
  | 0 => (vol_0 M 8).symm
  | w + 1 => by
    rw [vol_step M w 8]
    simp only [vaZ]
    rw [va_vol M w]
theorem va_mom (M : Int → Int → Int) : ∀ w : Nat, vaZ M 1 w = momZ M w 8
  | 0 => (mom_0 M 8).symm
  | w + 1 => by
    rw [mom_step M w 8]
    simp only [vaZ]
    rw [va_mom M w]
theorem slc_wl (M : Int → Int → Int) (w : Nat) : ∀ s : Nat, wlaZ (M w) s + wlaZ (M (w + 1)) s = vrZ M 0 w s
  | 0 => rfl
  | s + 1 => by
    have ih := slc_wl M w s
    simp only [wlaZ, vrZ]
    rw [if_pos trivial]
    omega
theorem slc_vol (M : Int → Int → Int) : ∀ w : Nat, slcZ M w = volZ M w 8
  | 0 => (vol_0 M 8).symm
  | w + 1 => by
    rw [vol_step M w 8]
    simp only [slcZ]
    rw [slc_vol M w, slc_wl M w 8]
/-! loads -/
def m2Z (f g : Int → Int) : Nat → Int
  | 0 => 0
  | k + 1 => m2Z f g k + 2 * f k * g k
theorem ms_m2 (f g : Int → Int) : ∀ k : Nat, msZ f g k = 10 * m2Z f g k
  | 0 => rfl
  | k + 1 => by
    simp only [msZ, m2Z]
    have e1 : f k * 20 * g k = 20 * (f k * g k) := by rw [Int.mul_comm (f k) 20, Int.mul_assoc]
    have e2 : 2 * f k * g k = 2 * (f k * g k) := Int.mul_assoc 2 (f k) (g k)
    rw [ms_m2 f g k, e1, e2]
    omega
theorem hf_m2 {m s : Int} (hs : 0 ≤ s) : hfZ (10 * m) (10 * s) = if s = 0 then 0 else 100 * m / s := by
  unfold hfZ
  by_cases e : s = 0
  · rw [if_pos e, if_pos (by omega)]
  · rw [if_neg e, if_neg (by omega), show 100 * (10 * m) = 10 * (100 * m) by omega, Int.mul_ediv_mul_of_pos _ _ (by decide)]
