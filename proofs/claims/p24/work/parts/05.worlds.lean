/-! ===== the class's world: one object of each kind; place = number of the address ===== -/
def wX (ad : Nat → Nat) (cI cJ : ClassId) (M B : Int → Int → Int) (lo ch wt sn vo mo le ln od fe se td th : Int → Int) (cnt bw bs pl tk tc sill day lau : Int) : va_W := [
  (ad 0, .inr (6, [.ref (ad 1), .ref (ad 3), .ref (ad 5), .ref (ad 6), .ref (ad 7), .ref (ad 8), .int (iI sill), .int (iI day), .int (iI lau)])),
  (ad 1, .inr (4, [.ref (ad 2)])),
  (ad 2, aR cJ 6 (fun j => ad (9 + j))),
  (ad 3, .inr (1, [.ref (ad 4), .ref (ad 23), .ref (ad 24)])),
  (ad 4, aR cJ 8 (fun j => ad (15 + j))),
  (ad 5, .inr (3, [.ref (ad 25), .ref (ad 26), .int (iI cnt), .int (iI bw), .int (iI bs)])),
  (ad 6, .inr (2, [.ref (ad 27), .ref (ad 28)])),
  (ad 7, .inr (5, [.ref (ad 29), .ref (ad 30), .ref (ad 31), .ref (ad 32), .ref (ad 33), .int (iI pl), .int (iI tk)])),
  (ad 8, .inr (0, [.ref (ad 34), .ref (ad 35), .int (iI tc)])),
  (ad 9, aI cI 9 (M 0)),
  (ad 10, aI cI 9 (M 1)),
  (ad 11, aI cI 9 (M 2)),
  (ad 12, aI cI 9 (M 3)),
  (ad 13, aI cI 9 (M 4)),
  (ad 14, aI cI 9 (M 5)),
  (ad 15, aI cI 25 (B 0)),
  (ad 16, aI cI 25 (B 1)),
  (ad 17, aI cI 25 (B 2)),
  (ad 18, aI cI 25 (B 3)),
  (ad 19, aI cI 25 (B 4)),
  (ad 20, aI cI 25 (B 5)),
  (ad 21, aI cI 25 (B 6)),
  (ad 22, aI cI 25 (B 7)),
  (ad 23, aI cI 9 lo),
  (ad 24, aI cI 9 ch),
  (ad 25, aI cI 16 wt),
  (ad 26, aI cI 16 sn),
  (ad 27, aI cI 6 vo),
  (ad 28, aI cI 6 mo),
  (ad 29, aI cI 170 le),
  (ad 30, aI cI 5 ln),
  (ad 31, aI cI 5 od),
  (ad 32, aI cI 5 fe),
  (ad 33, aI cI 5 se),
  (ad 34, aI cI 40 td),
  (ad 35, aI cI 40 th)]
section WX
variable {ad : Nat → Nat} {cI cJ : ClassId} {M B : Int → Int → Int} {lo ch wt sn vo mo le ln od fe se td th f : Int → Int} {cnt bw bs pl tk tc sill day lau v : Int}
theorem wX_a23 : (wX ad cI cJ M B lo ch wt sn vo mo le ln od fe se td th cnt bw bs pl tk tc sill day lau).set 23 (ad 23, aI cI 9 f) = wX ad cI cJ M B f ch wt sn vo mo le ln od fe se td th cnt bw bs pl tk tc sill day lau := rfl
theorem wX_a24 : (wX ad cI cJ M B lo ch wt sn vo mo le ln od fe se td th cnt bw bs pl tk tc sill day lau).set 24 (ad 24, aI cI 9 f) = wX ad cI cJ M B lo f wt sn vo mo le ln od fe se td th cnt bw bs pl tk tc sill day lau := rfl
theorem wX_a25 : (wX ad cI cJ M B lo ch wt sn vo mo le ln od fe se td th cnt bw bs pl tk tc sill day lau).set 25 (ad 25, aI cI 16 f) = wX ad cI cJ M B lo ch f sn vo mo le ln od fe se td th cnt bw bs pl tk tc sill day lau := rfl
theorem wX_a26 : (wX ad cI cJ M B lo ch wt sn vo mo le ln od fe se td th cnt bw bs pl tk tc sill day lau).set 26 (ad 26, aI cI 16 f) = wX ad cI cJ M B lo ch wt f vo mo le ln od fe se td th cnt bw bs pl tk tc sill day lau := rfl
theorem wX_a27 : (wX ad cI cJ M B lo ch wt sn vo mo le ln od fe se td th cnt bw bs pl tk tc sill day lau).set 27 (ad 27, aI cI 6 f) = wX ad cI cJ M B lo ch wt sn f mo le ln od fe se td th cnt bw bs pl tk tc sill day lau := rfl
theorem wX_a28 : (wX ad cI cJ M B lo ch wt sn vo mo le ln od fe se td th cnt bw bs pl tk tc sill day lau).set 28 (ad 28, aI cI 6 f) = wX ad cI cJ M B lo ch wt sn vo f le ln od fe se td th cnt bw bs pl tk tc sill day lau := rfl
theorem wX_a29 : (wX ad cI cJ M B lo ch wt sn vo mo le ln od fe se td th cnt bw bs pl tk tc sill day lau).set 29 (ad 29, aI cI 170 f) = wX ad cI cJ M B lo ch wt sn vo mo f ln od fe se td th cnt bw bs pl tk tc sill day lau := rfl
theorem wX_a30 : (wX ad cI cJ M B lo ch wt sn vo mo le ln od fe se td th cnt bw bs pl tk tc sill day lau).set 30 (ad 30, aI cI 5 f) = wX ad cI cJ M B lo ch wt sn vo mo le f od fe se td th cnt bw bs pl tk tc sill day lau := rfl
theorem wX_a31 : (wX ad cI cJ M B lo ch wt sn vo mo le ln od fe se td th cnt bw bs pl tk tc sill day lau).set 31 (ad 31, aI cI 5 f) = wX ad cI cJ M B lo ch wt sn vo mo le ln f fe se td th cnt bw bs pl tk tc sill day lau := rfl
theorem wX_a32 : (wX ad cI cJ M B lo ch wt sn vo mo le ln od fe se td th cnt bw bs pl tk tc sill day lau).set 32 (ad 32, aI cI 5 f) = wX ad cI cJ M B lo ch wt sn vo mo le ln od f se td th cnt bw bs pl tk tc sill day lau := rfl
theorem wX_a33 : (wX ad cI cJ M B lo ch wt sn vo mo le ln od fe se td th cnt bw bs pl tk tc sill day lau).set 33 (ad 33, aI cI 5 f) = wX ad cI cJ M B lo ch wt sn vo mo le ln od fe f td th cnt bw bs pl tk tc sill day lau := rfl
theorem wX_a34 : (wX ad cI cJ M B lo ch wt sn vo mo le ln od fe se td th cnt bw bs pl tk tc sill day lau).set 34 (ad 34, aI cI 40 f) = wX ad cI cJ M B lo ch wt sn vo mo le ln od fe se f th cnt bw bs pl tk tc sill day lau := rfl
theorem wX_a35 : (wX ad cI cJ M B lo ch wt sn vo mo le ln od fe se td th cnt bw bs pl tk tc sill day lau).set 35 (ad 35, aI cI 40 f) = wX ad cI cJ M B lo ch wt sn vo mo le ln od fe se td f cnt bw bs pl tk tc sill day lau := rfl
theorem wX_s_cnt : (wX ad cI cJ M B lo ch wt sn vo mo le ln od fe se td th cnt bw bs pl tk tc sill day lau).set 5 (ad 5, .inr (3, [.ref (ad 25), .ref (ad 26), .int (iI cnt), .int (iI bw), .int (iI bs)].set 2 (.int (iI v)))) = wX ad cI cJ M B lo ch wt sn vo mo le ln od fe se td th v bw bs pl tk tc sill day lau := rfl
theorem wX_s_bw : (wX ad cI cJ M B lo ch wt sn vo mo le ln od fe se td th cnt bw bs pl tk tc sill day lau).set 5 (ad 5, .inr (3, [.ref (ad 25), .ref (ad 26), .int (iI cnt), .int (iI bw), .int (iI bs)].set 3 (.int (iI v)))) = wX ad cI cJ M B lo ch wt sn vo mo le ln od fe se td th cnt v bs pl tk tc sill day lau := rfl
theorem wX_s_bs : (wX ad cI cJ M B lo ch wt sn vo mo le ln od fe se td th cnt bw bs pl tk tc sill day lau).set 5 (ad 5, .inr (3, [.ref (ad 25), .ref (ad 26), .int (iI cnt), .int (iI bw), .int (iI bs)].set 4 (.int (iI v)))) = wX ad cI cJ M B lo ch wt sn vo mo le ln od fe se td th cnt bw v pl tk tc sill day lau := rfl
theorem wX_s_pl : (wX ad cI cJ M B lo ch wt sn vo mo le ln od fe se td th cnt bw bs pl tk tc sill day lau).set 7 (ad 7, .inr (5, [.ref (ad 29), .ref (ad 30), .ref (ad 31), .ref (ad 32), .ref (ad 33), .int (iI pl), .int (iI tk)].set 5 (.int (iI v)))) = wX ad cI cJ M B lo ch wt sn vo mo le ln od fe se td th cnt bw bs v tk tc sill day lau := rfl
theorem wX_s_tk : (wX ad cI cJ M B lo ch wt sn vo mo le ln od fe se td th cnt bw bs pl tk tc sill day lau).set 7 (ad 7, .inr (5, [.ref (ad 29), .ref (ad 30), .ref (ad 31), .ref (ad 32), .ref (ad 33), .int (iI pl), .int (iI tk)].set 6 (.int (iI v)))) = wX ad cI cJ M B lo ch wt sn vo mo le ln od fe se td th cnt bw bs pl v tc sill day lau := rfl
theorem wX_s_tc : (wX ad cI cJ M B lo ch wt sn vo mo le ln od fe se td th cnt bw bs pl tk tc sill day lau).set 8 (ad 8, .inr (0, [.ref (ad 34), .ref (ad 35), .int (iI tc)].set 2 (.int (iI v)))) = wX ad cI cJ M B lo ch wt sn vo mo le ln od fe se td th cnt bw bs pl tk v sill day lau := rfl
theorem wX_s_sill : (wX ad cI cJ M B lo ch wt sn vo mo le ln od fe se td th cnt bw bs pl tk tc sill day lau).set 0 (ad 0, .inr (6, [.ref (ad 1), .ref (ad 3), .ref (ad 5), .ref (ad 6), .ref (ad 7), .ref (ad 8), .int (iI sill), .int (iI day), .int (iI lau)].set 6 (.int (iI v)))) = wX ad cI cJ M B lo ch wt sn vo mo le ln od fe se td th cnt bw bs pl tk tc v day lau := rfl
theorem wX_s_day : (wX ad cI cJ M B lo ch wt sn vo mo le ln od fe se td th cnt bw bs pl tk tc sill day lau).set 0 (ad 0, .inr (6, [.ref (ad 1), .ref (ad 3), .ref (ad 5), .ref (ad 6), .ref (ad 7), .ref (ad 8), .int (iI sill), .int (iI day), .int (iI lau)].set 7 (.int (iI v)))) = wX ad cI cJ M B lo ch wt sn vo mo le ln od fe se td th cnt bw bs pl tk tc sill v lau := rfl
theorem wX_s_lau : (wX ad cI cJ M B lo ch wt sn vo mo le ln od fe se td th cnt bw bs pl tk tc sill day lau).set 0 (ad 0, .inr (6, [.ref (ad 1), .ref (ad 3), .ref (ad 5), .ref (ad 6), .ref (ad 7), .ref (ad 8), .int (iI sill), .int (iI day), .int (iI lau)].set 8 (.int (iI v)))) = wX ad cI cJ M B lo ch wt sn vo mo le ln od fe se td th cnt bw bs pl tk tc sill day v := rfl
theorem wX_row {i : Int} (h0 : 0 ≤ i) (h1 : i < 6) : (wX ad cI cJ M B lo ch wt sn vo mo le ln od fe se td th cnt bw bs pl tk tc sill day lau)[9 + i.toNat]? = some (ad (9 + i.toNat), aI cI 9 (M i)) := by
  rcases (show i = 0 ∨ i = 1 ∨ i = 2 ∨ i = 3 ∨ i = 4 ∨ i = 5 by omega) with rfl | rfl | rfl | rfl | rfl | rfl <;> rfl
theorem wX_brow {i : Int} (h0 : 0 ≤ i) (h1 : i < 8) : (wX ad cI cJ M B lo ch wt sn vo mo le ln od fe se td th cnt bw bs pl tk tc sill day lau)[15 + i.toNat]? = some (ad (15 + i.toNat), aI cI 25 (B i)) := by
  rcases (show i = 0 ∨ i = 1 ∨ i = 2 ∨ i = 3 ∨ i = 4 ∨ i = 5 ∨ i = 6 ∨ i = 7 by omega) with rfl | rfl | rfl | rfl | rfl | rfl | rfl | rfl <;> rfl
end WX
def zrow (M : Int → Int → Int) (i : Int) (f : Int → Int) : Int → Int → Int := fun j => if j = i then f else M j
theorem zrow_eq (M : Int → Int → Int) (i : Int) (f : Int → Int) : zrow M i f i = f := if_pos rfl
theorem zrow_ne (M : Int → Int → Int) (f : Int → Int) {i j : Int} (h : j ≠ i) : zrow M i f j = M j := if_neg h
section WX2
variable {ad : Nat → Nat} {cI cJ : ClassId} {M B : Int → Int → Int} {lo ch wt sn vo mo le ln od fe se td th f : Int → Int} {cnt bw bs pl tk tc sill day lau v : Int}
theorem wX_setrow {i : Int} (h0 : 0 ≤ i) (h1 : i < 6) : (wX ad cI cJ M B lo ch wt sn vo mo le ln od fe se td th cnt bw bs pl tk tc sill day lau).set (9 + i.toNat) (ad (9 + i.toNat), aI cI 9 f) = wX ad cI cJ (zrow M i f) B lo ch wt sn vo mo le ln od fe se td th cnt bw bs pl tk tc sill day lau := by
  rcases (show i = 0 ∨ i = 1 ∨ i = 2 ∨ i = 3 ∨ i = 4 ∨ i = 5 by omega) with rfl | rfl | rfl | rfl | rfl | rfl <;> rfl
theorem wX_setbrow {i : Int} (h0 : 0 ≤ i) (h1 : i < 8) : (wX ad cI cJ M B lo ch wt sn vo mo le ln od fe se td th cnt bw bs pl tk tc sill day lau).set (15 + i.toNat) (ad (15 + i.toNat), aI cI 25 f) = wX ad cI cJ M (zrow B i f) lo ch wt sn vo mo le ln od fe se td th cnt bw bs pl tk tc sill day lau := by
  rcases (show i = 0 ∨ i = 1 ∨ i = 2 ∨ i = 3 ∨ i = 4 ∨ i = 5 ∨ i = 6 ∨ i = 7 by omega) with rfl | rfl | rfl | rfl | rfl | rfl | rfl | rfl <;> rfl
end WX2
section ZL
variable {p : Program} {l : Launch} {e : Env} {R : Room} {s : State} {m : MethodId} {args : Array Value} {below : List Frame} {meth : Method} {c : Code} {nL : Nat} {A : Nat → Prop} {D : va_G} {Q : State → Prop} {cells slots : Nat} {ws : va_W} {lv : List Value} {pc : Nat} {st : List Value}
theorem Z.loop {α : Type} (F : α → va_W) (L : α → List Value) (inv : α → Prop) (μ : α → Nat) (x0 : α) (h0 : inv x0) (hw : ws = F x0) (hl : lv = L x0)
    (body : ∀ x, inv x → (∀ y, inv y → μ y < μ x → Z p l e R s m args below meth c nL A D Q cells slots (F y) (L y) pc st) → Z p l e R s m args below meth c nL A D Q cells slots (F x) (L x) pc st) : Z p l e R s m args below meth c nL A D Q cells slots ws lv pc st := by
  have key : ∀ (n : Nat) (x : α), μ x < n → inv x → Z p l e R s m args below meth c nL A D Q cells slots (F x) (L x) pc st := by
    intro n
    induction n with
    | zero => intro x h; exact absurd h (Nat.not_lt_zero _)
    | succ n ih => intro x h hx; exact body x hx (fun y hy hlt => ih y (by omega) hy)
  rw [hw, hl]
  exact key (μ x0 + 1) x0 (Nat.lt_succ_self _) h0
theorem Z.cut {α : Type} (pj : Nat) (F : α → va_W) (L : α → List Value) (S : α → List Value) (inv : α → Prop)
    (join : ∀ x, inv x → Z p l e R s m args below meth c nL A D Q cells slots (F x) (L x) pj (S x))
    (main : (∀ x, inv x → Z p l e R s m args below meth c nL A D Q cells slots (F x) (L x) pj (S x)) → Z p l e R s m args below meth c nL A D Q cells slots ws lv pc st) : Z p l e R s m args below meth c nL A D Q cells slots ws lv pc st := main join
end ZL
