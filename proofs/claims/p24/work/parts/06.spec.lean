/-! ===== what is reckoned ===== -/
def hOK (M : Int → Int → Int) : Prop := ∀ i j : Int, 0 ≤ M i j ∧ M i j ≤ 200
def areaZ (M : Int → Int → Int) (s : Int) : Nat → Int
  | 0 => 0
  | k + 1 => areaZ M s k + (M k s + M (k + 1) s)
def volZ (M : Int → Int → Int) (w : Nat) : Nat → Int
  | 0 => 0
  | k + 1 => volZ M w k + (areaZ M k w + areaZ M (k + 1) w)
def momZ (M : Int → Int → Int) (w : Nat) : Nat → Int
  | 0 => 0
  | k + 1 => momZ M w k + (2 * k + 1) * (areaZ M k w + areaZ M (k + 1) w)
def wlaZ (f : Int → Int) : Nat → Int
  | 0 => 0
  | k + 1 => wlaZ f k + (f k + f (k + 1))
def slcZ (M : Int → Int → Int) : Nat → Int
  | 0 => 0
  | k + 1 => slcZ M k + (wlaZ (M k) 8 + wlaZ (M (k + 1)) 8)
def absZ (a : Int) : Int := if 0 ≤ a then a else -a
def strZ (f : Int → Int) : Nat → Int
  | 0 => 0
  | k + 1 => strZ f k + (10 + absZ (f k - f (k + 1)))
def sqZ (b a c : Int) : Int := (b + c - 2 * a) * (b + c - 2 * a)
def bendZ (f : Int → Int) : Nat → Int
  | 0 => 0
  | k + 1 => bendZ f k + sqZ (f k) (f (k + 1)) (f (k + 1 + 1))
theorem areaZ_bd {M : Int → Int → Int} (hM : hOK M) (s : Int) : ∀ k : Nat, 0 ≤ areaZ M s k ∧ areaZ M s k ≤ 400 * k
  | 0 => by simp [areaZ]
  | k + 1 => by
    have ih := areaZ_bd hM s k
    have h1 := hM k s
    have h2 := hM (k + 1) s
    simp only [areaZ]
    push_cast
    omega
theorem volZ_bd {M : Int → Int → Int} (hM : hOK M) {w : Nat} (hw : w ≤ 5) : ∀ k : Nat, 0 ≤ volZ M w k ∧ volZ M w k ≤ 4000 * k
  | 0 => by simp [volZ]
  | k + 1 => by
    have ih := volZ_bd hM hw k
    have h1 := areaZ_bd hM k w
    have h2 := areaZ_bd hM (k + 1) w
    simp only [volZ]
    push_cast
    omega
