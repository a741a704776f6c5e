/-! ===== rows for the law ===== -/
/-! ===== longs ===== -/
def lI (x : Int) : Int64 := Int64.ofInt x
theorem lI_add (a b : Int) : lI a + lI b = lI (a + b) := (Int64.ofInt_add a b).symm
theorem lI_mul (a b : Int) : lI a * lI b = lI (a * b) := (Int64.ofInt_mul a b).symm
theorem lI_sub (a b : Int) : lI a - lI b = lI (a - b) := (Int64.ofInt_sub a b).symm
theorem lI_toInt {a : Int} (h : inr a) : (lI a).toInt = a := by
  have h1 := h.1
  have h2 := h.2
  exact Int64.toInt_ofInt_of_le (by omega) (by omega)
theorem lI_of (a : Int) (h : inr a) : (iI a).toInt64 = lI a := by
  apply Int64.toInt_inj.mp
  rw [Int32.toInt_toInt64, iI_toInt h, lI_toInt h]
theorem lI_l2i {a : Int} (h : inr a) : (lI a).toInt32 = iI a := by
  apply Int32.toInt_inj.mp
  have h1 := h.1
  have h2 := h.2
  rw [Int64.toInt_toInt32, lI_toInt h, iI_toInt h]
  have e : ((2 ^ 32 : Nat) : Int) = 4294967296 := rfl
  unfold Int.bmod
  rw [e]
  dsimp only
  split <;> omega
theorem lI_div {a b : Int} (ha : 0 ≤ a) (ha2 : a ≤ 2147483647) (hb : 0 < b) (hb2 : b ≤ 2147483647) : lI a / lI b = lI (a / b) := by
  apply Int64.toInt_inj.mp
  have h1 : (lI a).toInt = a := lI_toInt ⟨by omega, by omega⟩
  have h2 : (lI b).toInt = b := lI_toInt ⟨by omega, by omega⟩
  have hq0 : 0 ≤ a / b := Int.ediv_nonneg ha (by omega)
  have hq1 : a / b ≤ a := Int.ediv_le_self b ha
  rw [Int64.toInt_div_of_ne_right, h1, h2, lI_toInt ⟨by omega, by omega⟩, Int.tdiv_eq_ediv_of_nonneg ha]
  intro h
  have h3 : (lI b).toInt = (-1 : Int64).toInt := by rw [h]
  rw [h2] at h3
  have h4 : (-1 : Int64).toInt = -1 := by decide
  omega
theorem lI_ne0 {b : Int} (hb : 0 < b) (hb2 : b ≤ 2147483647) : ¬ lI b = 0 := by
  intro h
  have h2 : (lI b).toInt = b := lI_toInt ⟨by omega, by omega⟩
  rw [h] at h2
  have h4 : (0 : Int64).toInt = 0 := by decide
  omega
def cmpZ (a b : Int) : Int := if b < a then 1 else if a = b then 0 else -1
theorem cmpZ_r (a b : Int) : inr (cmpZ a b) := by
  unfold cmpZ
  split
  · exact ⟨by decide, by decide⟩
  · split <;> exact ⟨by decide, by decide⟩
theorem lI_cmp {a b : Int} (ha : inr a) (hb : inr b) : lg_cmp (lI a) (lI b) = iI (cmpZ a b) := by
  have h1 : (lI a > lI b) ↔ b < a := by
    show lI b < lI a ↔ _
    rw [Int64.lt_iff_toInt_lt, lI_toInt ha, lI_toInt hb]
  have h2 : (lI a = lI b) ↔ a = b := ⟨fun h => by rw [← lI_toInt ha, ← lI_toInt hb, h], fun h => by rw [h]⟩
  unfold lg_cmp cmpZ
  by_cases q : b < a
  · rw [if_pos q, if_pos (h1.mpr q)]; rfl
  · rw [if_neg q, if_neg (fun z => q (h1.mp z))]
    by_cases q2 : a = b
    · rw [if_pos q2, if_pos (h2.mpr q2)]; rfl
    · rw [if_neg q2, if_neg (fun z => q2 (h2.mp z))]; rfl
/-! the first bits of an int, by >>> 1 -/
def hvZ (v : Int) : Int := (((iI v).toUInt32 >>> ((iI 1).toUInt32 &&& Int32.toUInt32 31)).toInt32).toInt
theorem hvZ_bd (v : Int) : 0 ≤ hvZ v ∧ hvZ v ≤ 2147483647 := by
  have h := pk_ushr (iI v) (iI 1) 1 (by decide +kernel)
  have hb : (iI v).toBitVec.toNat < 2 ^ 32 := (iI v).toBitVec.isLt
  have e : hvZ v = ((((iI v).toUInt32 >>> ((iI 1).toUInt32 &&& Int32.toUInt32 31)).toInt32).toBitVec).toInt := rfl
  rw [e, BitVec.toInt_eq_toNat_of_lt (by omega), h]
  omega
def lowZ (v n : Int) : Int := hvZ v % n
theorem lowZ_bd (v : Int) {n : Int} (hn : 0 < n) : 0 ≤ lowZ v n ∧ lowZ v n < n := ⟨Int.emod_nonneg _ (by omega), Int.emod_lt_of_pos _ hn⟩
/-! arrays of longs -/
def aL (c : ClassId) (n : Nat) (f : Int → Int) : va_E := .inl (c, n, .inr (.inl (fun j => lI (f (j : Int)))))
theorem aL_upd (c : ClassId) (n : Nat) (f : Int → Int) {k v : Int} (h0 : 0 ≤ k) (h1 : k ≤ 2147483647) : (.inl (c, n, .inr (.inl (vp_updL (fun j => lI (f (j : Int))) (iI k).toNatClampNeg (lI v)))) : va_E) = aL c n (zset f k v) := by
  unfold aL
  have e : vp_updL (fun j : Nat => lI (f (j : Int))) (iI k).toNatClampNeg (lI v) = fun j : Nat => lI (zset f k v (j : Int)) := by
    funext j
    have hk := iI_clamp h0 h1
    by_cases hj : j = (iI k).toNatClampNeg
    · subst hj
      rw [pk_uLs, hk, zset_eq]
    · rw [pk_uLn hj, zset_ne]
      intro q
      exact hj (by omega)
  rw [e]
section ZLW
variable {p : Program} {l : Launch} {e : Env} {R : Room} {s : State} {m : MethodId} {args : Array Value} {below : List Frame} {meth : Method} {c : Code} {nL : Nat} {A : Nat → Prop} {D : va_G} {Q : State → Prop} {cells slots : Nat} {ws : va_W} {lv : List Value} {pc : Nat} {st : List Value} {cI cJ cL : ClassId} {cc : ByteArray} {Ts : List Cond} {own : String}
theorem Z.sld (C : Cx p s m args meth c nL A D cI cJ cL cc Ts own) {b L : Nat} {xs : Nat → Int32} (hX : va_X b L xs s s.heap) (hbl : b < s.heap.size) (hbA : ¬ A b) {i : Int} (h0 : 0 ≤ i) (h1 : i < L) (hL : L ≤ 2048) (hd : decode cc pc = .ok (.iaload, 1)) (k : Z p l e R s m args below meth c nL A D Q cells slots ws lv (pc + 1) (.int (iI (xs i.toNat).toInt) :: st)) : Z p l e R s m args below meth c nL A D Q cells slots ws lv pc (.int (iI i) :: .ref b :: st) := by
  intro H locs ls hP hD hS hl
  refine va_sld C.1.1 C.1.2.1 hX hbl hbA hS (iI_in h0 h1 (by omega)) hd ?_
  rw [iI_clampN h0 (by omega), iI_of (xs i.toNat)]
  exact k H locs ls hP hD hS hl
theorem Z.slen (C : Cx p s m args meth c nL A D cI cJ cL cc Ts own) {b L : Nat} {xs : Nat → Int32} (hX : va_X b L xs s s.heap) (hbl : b < s.heap.size) (hbA : ¬ A b) (hd : decode cc pc = .ok (.arraylength, 1)) (k : Z p l e R s m args below meth c nL A D Q cells slots ws lv (pc + 1) (.int (iI (L : Int)) :: st)) : Z p l e R s m args below meth c nL A D Q cells slots ws lv pc (.ref b :: st) := by
  intro H locs ls hP hD hS hl
  refine va_slen C.1.1 C.1.2.1 hX hbl hbA hS hd ?_
  have e9 : Int32.ofNat L = iI (L : Int) := by
    unfold iI
    first | rfl | simp
  rw [e9]
  exact k H locs ls hP hD hS hl
theorem Z.iand (C : Cx p s m args meth c nL A D cI cJ cL cc Ts own) {x y : Int} (hd : decode cc pc = .ok (.iand, 1)) (k : ∀ t : Int, inr t → Z p l e R s m args below meth c nL A D Q cells slots ws lv (pc + 1) (.int (iI t) :: st)) : Z p l e R s m args below meth c nL A D Q cells slots ws lv pc (.int (iI y) :: .int (iI x) :: st) := by
  intro H locs ls hP hD hS hl
  refine lv_iand C.1.1 C.1.2.1 hd ?_
  rw [iI_of (iI x &&& iI y)]
  exact k _ (inr_of _) H locs ls hP hD hS hl
theorem Z.tout (C : Cx p s m args meth c nL A D cI cJ cL cc Ts own) {dflt lo hi : Int} {offs : Array Int} {len : Nat} {t : Int} (tgt : Nat) (hd : decode cc pc = .ok (.tableswitch dflt lo hi offs, len)) (ht : inr t) (h : t < lo ∨ hi < t) (hg : (pc : Int) + dflt = (tgt : Int)) (k : Z p l e R s m args below meth c nL A D Q cells slots ws lv tgt st) : Z p l e R s m args below meth c nL A D Q cells slots ws lv pc (.int (iI t) :: st) := by
  intro H locs ls hP hD hS hl
  exact lv_tableOut C.1.1 C.1.2.1 hd (by rw [iI_toInt ht]; exact h) hg (k H locs ls hP hD hS hl)
theorem Z.tin (C : Cx p s m args meth c nL A D cI cJ cL cc Ts own) {dflt lo hi : Int} {offs : Array Int} {len : Nat} {t off : Int} (tgt : Nat) (hd : decode cc pc = .ok (.tableswitch dflt lo hi offs, len)) (ht : inr t) (h1 : lo ≤ t) (h2 : t ≤ hi) (ho : offs[(t - lo).toNat]? = some off) (hg : (pc : Int) + off = (tgt : Int)) (k : Z p l e R s m args below meth c nL A D Q cells slots ws lv tgt st) : Z p l e R s m args below meth c nL A D Q cells slots ws lv pc (.int (iI t) :: st) := by
  intro H locs ls hP hD hS hl
  exact lv_tableIn C.1.1 C.1.2.1 hd (by rw [iI_toInt ht]; omega) (by rw [iI_toInt ht]; omega) (by rw [iI_toInt ht]; exact ho) hg (k H locs ls hP hD hS hl)
theorem Z.swap {w1 w2 : va_W} (k : Z p l e R s m args below meth c nL A D Q cells slots (w2 ++ w1) lv pc st) : Z p l e R s m args below meth c nL A D Q cells slots (w1 ++ w2) lv pc st := by
  intro H locs ls hP hD hS hl
  exact k H locs ls (va_P.app (zsplit hP).2 (zsplit hP).1) (va_D.app (zsplitD hD).2 (zsplitD hD).1 (fun i j x y hx hy => fun e9 => zapart hD hy hx e9.symm)) hS hl
theorem Z.lvw {lv' : List Value} (h : ∀ (i : Nat) (v : Value), lv'[i]? = some v → v ≠ .null → lv[i]? = some v) (k : Z p l e R s m args below meth c nL A D Q cells slots ws lv' pc st) : Z p l e R s m args below meth c nL A D Q cells slots ws lv pc st := by
  intro H locs ls hP hD hS hl
  exact k H locs ls hP hD hS ⟨hl.1, hl.2.1, fun i v hv hne => hl.2.2 i v (h i v hv hne) hne⟩

theorem Z.ishr (C : Cx p s m args meth c nL A D cI cJ cL cc Ts own) {x y : Int} (hd : decode cc pc = .ok (.ishr, 1)) (k : ∀ t : Int, inr t → Z p l e R s m args below meth c nL A D Q cells slots ws lv (pc + 1) (.int (iI t) :: st)) : Z p l e R s m args below meth c nL A D Q cells slots ws lv pc (.int (iI y) :: .int (iI x) :: st) := by
  intro H locs ls hP hD hS hl
  refine lv_ishr C.1.1 C.1.2.1 hd ?_
  rw [iI_of (iI x >>> (iI y &&& 31))]
  exact k _ (inr_of _) H locs ls hP hD hS hl
theorem Z.ishrE (C : Cx p s m args meth c nL A D cI cJ cL cc Ts own) {x y z : Int} (h : iI x >>> (iI y &&& 31) = iI z) (hd : decode cc pc = .ok (.ishr, 1)) (k : Z p l e R s m args below meth c nL A D Q cells slots ws lv (pc + 1) (.int (iI z) :: st)) : Z p l e R s m args below meth c nL A D Q cells slots ws lv pc (.int (iI y) :: .int (iI x) :: st) := by
  intro H locs ls hP hD hS hl
  refine lv_ishr C.1.1 C.1.2.1 hd ?_
  rw [h]
  exact k H locs ls hP hD hS hl
theorem Z.ishlE (C : Cx p s m args meth c nL A D cI cJ cL cc Ts own) {x y z : Int} (h : iI x <<< (iI y &&& 31) = iI z) (hd : decode cc pc = .ok (.ishl, 1)) (k : Z p l e R s m args below meth c nL A D Q cells slots ws lv (pc + 1) (.int (iI z) :: st)) : Z p l e R s m args below meth c nL A D Q cells slots ws lv pc (.int (iI y) :: .int (iI x) :: st) := by
  intro H locs ls hP hD hS hl
  refine lv_ishl C.1.1 C.1.2.1 hd ?_
  rw [h]
  exact k H locs ls hP hD hS hl
theorem Z.iandE (C : Cx p s m args meth c nL A D cI cJ cL cc Ts own) {x y z : Int} (h : iI x &&& iI y = iI z) (hd : decode cc pc = .ok (.iand, 1)) (k : Z p l e R s m args below meth c nL A D Q cells slots ws lv (pc + 1) (.int (iI z) :: st)) : Z p l e R s m args below meth c nL A D Q cells slots ws lv pc (.int (iI y) :: .int (iI x) :: st) := by
  intro H locs ls hP hD hS hl
  refine lv_iand C.1.1 C.1.2.1 hd ?_
  rw [h]
  exact k H locs ls hP hD hS hl
theorem Z.iorE (C : Cx p s m args meth c nL A D cI cJ cL cc Ts own) {x y z : Int} (h : iI x ||| iI y = iI z) (hd : decode cc pc = .ok (.ior, 1)) (k : Z p l e R s m args below meth c nL A D Q cells slots ws lv (pc + 1) (.int (iI z) :: st)) : Z p l e R s m args below meth c nL A D Q cells slots ws lv pc (.int (iI y) :: .int (iI x) :: st) := by
  intro H locs ls hP hD hS hl
  refine lv_ior C.1.1 C.1.2.1 hd ?_
  rw [h]
  exact k H locs ls hP hD hS hl
theorem Z.ushr1 (C : Cx p s m args meth c nL A D cI cJ cL cc Ts own) {x : Int} (hd : decode cc pc = .ok (.iushr, 1)) (k : Z p l e R s m args below meth c nL A D Q cells slots ws lv (pc + 1) (.int (iI (hvZ x)) :: st)) : Z p l e R s m args below meth c nL A D Q cells slots ws lv pc (.int (iI 1) :: .int (iI x) :: st) := by
  intro H locs ls hP hD hS hl
  exact lv_iushr (v := iI (hvZ x)) C.1.1 C.1.2.1 hd (iI_of _) (k H locs ls hP hD hS hl)
theorem Z.i2l (C : Cx p s m args meth c nL A D cI cJ cL cc Ts own) {r : Int} (h : inr r) (hd : decode cc pc = .ok (.i2l, 1)) (k : Z p l e R s m args below meth c nL A D Q cells slots ws lv (pc + 1) (.long (lI r) :: st)) : Z p l e R s m args below meth c nL A D Q cells slots ws lv pc (.int (iI r) :: st) := by
  intro H locs ls hP hD hS hl
  exact lv_i2l C.1.1 C.1.2.1 hd (lI_of r h) (k H locs ls hP hD hS hl)
theorem Z.l2i (C : Cx p s m args meth c nL A D cI cJ cL cc Ts own) {r : Int} (h : inr r) (hd : decode cc pc = .ok (.l2i, 1)) (k : Z p l e R s m args below meth c nL A D Q cells slots ws lv (pc + 1) (.int (iI r) :: st)) : Z p l e R s m args below meth c nL A D Q cells slots ws lv pc (.long (lI r) :: st) := by
  intro H locs ls hP hD hS hl
  exact lv_l2i C.1.1 C.1.2.1 hd (lI_l2i h) (k H locs ls hP hD hS hl)
theorem Z.ladd (C : Cx p s m args meth c nL A D cI cJ cL cc Ts own) {a b : Int} (hd : decode cc pc = .ok (.ladd, 1)) (k : Z p l e R s m args below meth c nL A D Q cells slots ws lv (pc + 1) (.long (lI (a + b)) :: st)) : Z p l e R s m args below meth c nL A D Q cells slots ws lv pc (.long (lI b) :: .long (lI a) :: st) := by
  intro H locs ls hP hD hS hl
  refine lv_ladd C.1.1 C.1.2.1 hd ?_
  rw [lI_add]
  exact k H locs ls hP hD hS hl
theorem Z.lmul (C : Cx p s m args meth c nL A D cI cJ cL cc Ts own) {a b : Int} (hd : decode cc pc = .ok (.lmul, 1)) (k : Z p l e R s m args below meth c nL A D Q cells slots ws lv (pc + 1) (.long (lI (a * b)) :: st)) : Z p l e R s m args below meth c nL A D Q cells slots ws lv pc (.long (lI b) :: .long (lI a) :: st) := by
  intro H locs ls hP hD hS hl
  refine lv_lmul C.1.1 C.1.2.1 hd ?_
  rw [lI_mul]
  exact k H locs ls hP hD hS hl
theorem Z.ldiv (C : Cx p s m args meth c nL A D cI cJ cL cc Ts own) {a b : Int} (ha : 0 ≤ a) (ha2 : a ≤ 2147483647) (hb : 0 < b) (hb2 : b ≤ 2147483647) (hd : decode cc pc = .ok (.ldiv, 1)) (k : Z p l e R s m args below meth c nL A D Q cells slots ws lv (pc + 1) (.long (lI (a / b)) :: st)) : Z p l e R s m args below meth c nL A D Q cells slots ws lv pc (.long (lI b) :: .long (lI a) :: st) := by
  intro H locs ls hP hD hS hl
  refine lv_ldiv C.1.1 C.1.2.1 hd (lI_ne0 hb hb2) ?_
  rw [lI_div ha ha2 hb hb2]
  exact k H locs ls hP hD hS hl
theorem Z.lrem (C : Cx p s m args meth c nL A D cI cJ cL cc Ts own) {a b : Int} (ha : 0 ≤ a) (ha2 : a ≤ 2147483647) (hb : 0 < b) (hb2 : b ≤ 2147483647) (hd : decode cc pc = .ok (.lrem, 1)) (k : Z p l e R s m args below meth c nL A D Q cells slots ws lv (pc + 1) (.long (lI (a % b)) :: st)) : Z p l e R s m args below meth c nL A D Q cells slots ws lv pc (.long (lI b) :: .long (lI a) :: st) := by
  intro H locs ls hP hD hS hl
  refine lv_lrem C.1.1 C.1.2.1 hd (lI_ne0 hb hb2) ?_
  rw [lI_div ha ha2 hb hb2, lI_mul, lI_sub, show a - a / b * b = a % b by rw [Int.emod_def, Int.mul_comm b (a / b)]]
  exact k H locs ls hP hD hS hl
theorem Z.ldc2 (C : Cx p s m args meth c nL A D cI cJ cL cc Ts own) {i : Nat} {v : Int64} (n : Int) (hc : Cond.constantLong own i v ∈ Ts) (hv : v = lI n) (hd : decode cc pc = .ok (.ldc2_w i, 3)) (k : Z p l e R s m args below meth c nL A D Q cells slots ws lv (pc + 3) (.long (lI n) :: st)) : Z p l e R s m args below meth c nL A D Q cells slots ws lv pc st := by
  intro H locs ls hP hD hS hl
  subst hv
  exact lv_ldc2 C.1.1 C.1.2.1 C.1.2.2.2.1 (C.1.2.2.2.2 _ hc) hd (k H locs ls hP hD hS hl)
theorem Z.lcmp (C : Cx p s m args meth c nL A D cI cJ cL cc Ts own) {a b : Int} (ha : inr a) (hb : inr b) (hd : decode cc pc = .ok (.lcmp, 1)) (k : Z p l e R s m args below meth c nL A D Q cells slots ws lv (pc + 1) (.int (iI (cmpZ a b)) :: st)) : Z p l e R s m args below meth c nL A D Q cells slots ws lv pc (.long (lI b) :: .long (lI a) :: st) := by
  intro H locs ls hP hD hS hl
  refine W.lcmp C.1.1 C.1.2.1 hd ?_
  rw [lI_cmp ha hb]
  exact k H locs ls hP hD hS hl
theorem Z.lald (C : Cx p s m args meth c nL A D cI cJ cL cc Ts own) (q0 : Nat) {a n : Nat} {f : Int → Int} {i : Int} (he : ws[q0]? = some (a, aL cL n f)) (h0 : 0 ≤ i) (h1 : i < n) (hn : n ≤ 2147483647) (hd : decode cc pc = .ok (.laload, 1)) (k : Z p l e R s m args below meth c nL A D Q cells slots ws lv (pc + 1) (.long (lI (f i)) :: st)) : Z p l e R s m args below meth c nL A D Q cells slots ws lv pc (.int (iI i) :: .ref a :: st) := by
  intro H locs ls hP hD hS hl
  refine va_lald (D := D) C.1.1 C.1.2.1 C.2.1 hP q0 2 he rfl (iI_in h0 h1 hn) hd ?_
  rw [iI_clamp h0 (by omega)]
  exact k H locs ls hP hD hS hl
theorem Z.last (C : Cx p s m args meth c nL A D cI cJ cL cc Ts own) (q0 : Nat) {a n : Nat} {f : Int → Int} {i x : Int} {ws' : va_W} (he : ws[q0]? = some (a, aL cL n f)) (h0 : 0 ≤ i) (h1 : i < n) (hn : n ≤ 2147483647) (hd : decode cc pc = .ok (.lastore, 1)) (hws : ws.set q0 (a, aL cL n (zset f i x)) = ws') (k : Z p l e R s m args below meth c nL A D Q cells slots (ws') lv (pc + 1) st) : Z p l e R s m args below meth c nL A D Q cells slots ws lv pc (.long (lI x) :: .int (iI i) :: .ref a :: st) := by
  intro H locs ls hP hD hS hl
  subst hws
  refine va_last (D := D) C.1.1 C.1.2.1 C.2.1 hP hD hS q0 2 he rfl (iI_in h0 h1 hn) hd (fun H1 locs1 hP1 hD1 hS1 => ?_)
  rw [aL_upd cL n f h0 (by omega)] at hP1 hD1
  exact k H1 locs1 ls hP1 hD1 hS1 hl
theorem Z.newL (C : Cx p s m args meth c nL A D cI cJ cL cc Ts own) (harr : Cond.arrayClass .long ∈ Ts) {n : Int} (N : Nat) (hN : n = N) (hb : N * 8 ≤ 536870912) (hcells : cells + 1 ≤ R.cells) (hslots : slots + N ≤ R.slots) (hd : decode cc pc = .ok (.newarray .long, 2)) (k : ∀ q : Nat, Z p l e R s m args below meth c nL A D Q (cells + 1) (slots + N) (ws ++ [(q, aL cL N (fun _ => 0))]) lv (pc + 2) (.ref q :: st)) : Z p l e R s m args below meth c nL A D Q cells slots ws lv pc (.int (iI n) :: st) := by
  intro H locs ls hP hD hS hl
  subst hN
  refine va_newa (D := D) (atype := .long) (ty := .long) (a0 := (N, .inr (.inl (fun _ => lI 0)))) C.1.1 C.1.2.1 (C.1.2.2.2.2 _ harr) rfl C.2.1 hP hD hS C.2.2.1 (fun _ => rfl) ?_ (by rw [iI_clampN (by omega) (by omega)]; omega) (by first | exact hb | omega) hcells hslots hd (fun q cA H1 hK1 hP1 hD1 hS1 => ?_)
  · rw [show (0 : Int32) = iI 0 from rfl, iI_lt ⟨by omega, by omega⟩ ⟨by omega, by omega⟩]
    omega
  · have e1 : s.vm.findClass ("[" ++ FieldType.long.toString) = some cA := (hK1.2 3 (cA, .long) rfl).2
    have e2 : s.vm.findClass ("[" ++ FieldType.long.toString) = some cL := (C.2.1.2 2 (cL, .long) rfl).2
    cases e1.symm.trans e2
    exact k q H1 locs ls hP1 hD1 hS1 hl
/-- a loop whose room grows -/
theorem Z.loopC {α : Type} (F : α → va_W) (L : α → List Value) (inv : α → Prop) (μ : α → Nat) (CC SS : α → Nat) (x0 : α) (h0 : inv x0) (hw : ws = F x0) (hl : lv = L x0) (hc : cells ≤ CC x0) (hs : slots ≤ SS x0)
    (body : ∀ x, inv x → (∀ y, inv y → μ y < μ x → Z p l e R s m args below meth c nL A D Q (CC y) (SS y) (F y) (L y) pc st) → Z p l e R s m args below meth c nL A D Q (CC x) (SS x) (F x) (L x) pc st) : Z p l e R s m args below meth c nL A D Q cells slots ws lv pc st := by
  have key : ∀ (n : Nat) (x : α), μ x < n → inv x → Z p l e R s m args below meth c nL A D Q (CC x) (SS x) (F x) (L x) pc st := by
    intro n
    induction n with
    | zero => intro x h; exact absurd h (Nat.not_lt_zero _)
    | succ n ih => intro x h hx; exact body x hx (fun y hy hlt => ih y (by omega) hy)
  rw [hw, hl]
  exact Z.widen hc hs (key (μ x0 + 1) x0 (Nat.lt_succ_self _) h0)
theorem Z.pick (i : Nat) {v : Value} (h : lv[i]? = some v) (k : Z p l e R s m args below meth c nL A D Q cells slots ws (lv.set i .null) pc st) : Z p l e R s m args below meth c nL A D Q cells slots ws lv pc st := by
  refine Z.lvw (lv' := lv.set i .null) (fun j w hj hne => ?_) k
  by_cases e : j = i
  · subst e
    rw [List.getElem?_set_self (List.getElem?_eq_some_iff.mp h).1] at hj
    cases hj
    exact absurd rfl hne
  · rw [List.getElem?_set_ne (fun q => e q.symm)] at hj
    exact hj
end ZLW
section ZHM
variable {l : Launch} {y : MethodName} {w w' : List Cond} {rm : Room} {av : List Value} {D : va_G} {cI cJ cL : ClassId} {ws : va_W} {cc : ByteArray} {maxL : Nat} {own : String} {mc ms : Nat} {px : String → va_W → Prop}
theorem XI.ofH {post : Int → va_W → Prop} {ret : Option FieldType} {hh : List (Nat × Nat × Nat × Nat)} (lv0 : List Value) (k : Nat) (hy : plainName y.cls = true) (hw : w = Cond.codeWith y cc maxL ret hh :: w') (hown : y.cls = own) (hc1 : zc1 av = true) (hn : av.length ≤ maxL) (hlv : av ++ List.replicate k Value.null = lv0)
    (body : ∀ (sz : Nat) (p : Program) (e : Env) (s : State) (m : MethodId) (args : Array Value) (below : List Frame) (meth : Method) (c : Code), Cx p s m args meth c maxL (va_A ws sz) D cI cJ cL cc w own → meth.sig.returnType = ret → c.exceptionTable.toList = tableOf hh →
      Z p l e rm s m args below meth c maxL (va_A ws sz) D (QXI below args s D ws sz mc ms post px) 0 0 ws lv0 0 []) : XI l y w rm av D cI cJ cL ws mc ms post px := by
  intro sz
  subst hlv
  refine vx_ofWH (cc := cc) (maxL := maxL) (ret := ret) (hh := hh) hy hw ?_
  intro p e s m args below meth c s₁ B hml hv
  obtain ⟨rfl, hsz, hP, hK, hN, hD0, hQ⟩ := hv
  have hts := atoms_spec (ws := w) B.pre
  have hf : s.vm.findClass own = some m.cls := hown ▸ findClass_of_methodNamed B.named
  have hA : ∀ q, s.heap.size ≤ q → va_A ws sz q := fun q h => Or.inr (hsz ▸ h)
  have htb : c.exceptionTable.toList = tableOf hh  := vx_table (x := y) B (hts _ (by rw [hw]; exact List.mem_cons_self))
  rw [lg_entry_eq]
  exact body sz p e s m av.toArray below meth c ⟨⟨B.exec, B.bytes, hml, hf, hts⟩, hK, hA, B.notSynchronized, hN, hQ⟩ B.returns htb s.heap [] _ hP hD0.self va_S.rf (lvl_start hc1 hn)
end ZHM
section ZHW
variable {p : Program} {l : Launch} {e : Env} {R : Room} {s : State} {m : MethodId} {args : Array Value} {below : List Frame} {meth : Method} {c : Code} {nL : Nat} {A : Nat → Prop} {D : va_G} {Q : State → Prop} {cells slots : Nat} {ws : va_W} {lv : List Value} {pc : Nat} {st : List Value} {cI cJ cL : ClassId} {cc : ByteArray} {Ts : List Cond} {own : String}
theorem ZX.catch (C : Cx p s m args meth c nL A D cI cJ cL cc Ts own) {E : String} (pre : List (Nat × Nat × Nat × Nat)) (x : Nat × Nat × Nat × Nat) (suf : List (Nat × Nat × Nat × Nat)) (hsplit : c.exceptionTable.toList = tableOf (pre ++ x :: suf))
    (hpass : ∀ z ∈ pre, z.2.2.2 ≠ 0 ∧ ∃ nm : String, Cond.classLink own z.2.2.2 nm ∈ Ts ∧ nm ∈ zEx ∧ E ≠ nm) (hE : E ∈ zEx) (hx1 : x.1 ≤ pc) (hx2 : pc < x.2.1) (h0 : x.2.2.2 ≠ 0) (hlink : Cond.classLink own x.2.2.2 E ∈ Ts)
    (k : ∀ q : Nat, Z p l e R s m args below meth c nL A D Q cells slots ws lv x.2.2.1 [.ref q]) : ZX p l e R s m args below meth c nL A D Q cells slots ws lv pc st E := by
  intro H locs ls q ce hP hD hS hl hce hv hcl
  refine vx_catch (own := own) (name := E) C.1.2.2.2.1 (tableOf pre) ⟨x.1, x.2.1, x.2.2.1, x.2.2.2⟩ (tableOf suf) (by rw [hsplit]; unfold tableOf; rw [List.map_append]; rfl) (fun z hz => ?_) ?_ h0 (C.1.2.2.2.2 _ hlink) (va_Nw.use rfl (C.2.2.2.2.1.2.2.2.1 _ hE)) hce hv hcl (k q H locs ls hP hD hS hl)
  · obtain ⟨z0, hz0, rfl⟩ := List.mem_map.mp hz
    obtain ⟨g1, nm, g2, g3, g4⟩ := hpass z0 hz0
    exact Or.inr ⟨g1, nm, C.1.2.2.2.2 _ g2, C.2.2.2.2.1.2.2.2.2.1 _ hE _ g3 g4⟩
  · simp [covers, hx1, hx2]
end ZHW
