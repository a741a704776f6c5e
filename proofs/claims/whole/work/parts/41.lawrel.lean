/-! ===== the law's own rows; what holds between the class and the reference ===== -/
section ZLW
variable {p : Program} {l : Launch} {e : Env} {R : Room} {s : State} {m : MethodId} {args : Array Value} {below : List Frame} {meth : Method} {c : Code} {nL : Nat} {A : Nat → Prop} {D : va_G} {Q : State → Prop} {cells slots : Nat} {ws : va_W} {lv : List Value} {pc : Nat} {st : List Value} {cI cJ cL : ClassId} {cc : ByteArray} {Ts : List Cond} {own : String}
theorem Z.sld (C : Cx p s m args meth c nL A D cI cJ cL cc Ts own) {b L : Nat} {xs : Nat → Int32} (hX : va_X b L xs s s.heap) (hbl : b < s.heap.size) (hbA : ¬ A b) {i : Int} (h0 : 0 ≤ i) (h1 : i < L) (hL : L ≤ 2048) (hd : decode cc pc = .ok (.iaload, 1)) (k : Z p l e R s m args below meth c nL A D Q cells slots ws lv (pc + 1) (.int (iI (xs i.toNat).toInt) :: st)) : Z p l e R s m args below meth c nL A D Q cells slots ws lv pc (.int (iI i) :: .ref b :: st) := by
  intro H locs ls hP hD hS hl
  refine va_sld C.1.1 C.1.2.1 hX hbl hbA hS (iI_in h0 h1 (by omega)) hd ?_
  rw [iI_clampN h0 (by omega), iI_of (xs i.toNat)]
  exact k H locs ls hP hD hS hl
theorem Z.slen (C : Cx p s m args meth c nL A D cI cJ cL cc Ts own) {b L : Nat} {xs : Nat → Int32} (hX : va_X b L xs s s.heap) (hbl : b < s.heap.size) (hbA : ¬ A b) (hd : decode cc pc = .ok (.arraylength, 1)) (k : Z p l e R s m args below meth c nL A D Q cells slots ws lv (pc + 1) (.int (iI (L : Int)) :: st)) : Z p l e R s m args below meth c nL A D Q cells slots ws lv pc (.ref b :: st) := by
  intro H locs ls hP hD hS hl
  refine va_slen C.1.1 C.1.2.1 hX hbl hbA hS hd ?_
  have e9 : Int32.ofNat L = iI (L : Int) := by
    unfold iI
    first | rfl | simp
  rw [e9]
  exact k H locs ls hP hD hS hl
theorem Z.iand (C : Cx p s m args meth c nL A D cI cJ cL cc Ts own) {x y : Int} (hd : decode cc pc = .ok (.iand, 1)) (k : ∀ t : Int, inr t → Z p l e R s m args below meth c nL A D Q cells slots ws lv (pc + 1) (.int (iI t) :: st)) : Z p l e R s m args below meth c nL A D Q cells slots ws lv pc (.int (iI y) :: .int (iI x) :: st) := by
  intro H locs ls hP hD hS hl
  refine lv_iand C.1.1 C.1.2.1 hd ?_
  rw [iI_of (iI x &&& iI y)]
  exact k _ (inr_of _) H locs ls hP hD hS hl
theorem Z.tout (C : Cx p s m args meth c nL A D cI cJ cL cc Ts own) {dflt lo hi : Int} {offs : Array Int} {len : Nat} {t : Int} (tgt : Nat) (hd : decode cc pc = .ok (.tableswitch dflt lo hi offs, len)) (ht : inr t) (h : t < lo ∨ hi < t) (hg : (pc : Int) + dflt = (tgt : Int)) (k : Z p l e R s m args below meth c nL A D Q cells slots ws lv tgt st) : Z p l e R s m args below meth c nL A D Q cells slots ws lv pc (.int (iI t) :: st) := by
  intro H locs ls hP hD hS hl
  exact lv_tableOut C.1.1 C.1.2.1 hd (by rw [iI_toInt ht]; exact h) hg (k H locs ls hP hD hS hl)
theorem Z.tin (C : Cx p s m args meth c nL A D cI cJ cL cc Ts own) {dflt lo hi : Int} {offs : Array Int} {len : Nat} {t off : Int} (tgt : Nat) (hd : decode cc pc = .ok (.tableswitch dflt lo hi offs, len)) (ht : inr t) (h1 : lo ≤ t) (h2 : t ≤ hi) (ho : offs[(t - lo).toNat]? = some off) (hg : (pc : Int) + off = (tgt : Int)) (k : Z p l e R s m args below meth c nL A D Q cells slots ws lv tgt st) : Z p l e R s m args below meth c nL A D Q cells slots ws lv pc (.int (iI t) :: st) := by
  intro H locs ls hP hD hS hl
  exact lv_tableIn C.1.1 C.1.2.1 hd (by rw [iI_toInt ht]; omega) (by rw [iI_toInt ht]; omega) (by rw [iI_toInt ht]; exact ho) hg (k H locs ls hP hD hS hl)
theorem Z.swap {w1 w2 : va_W} (k : Z p l e R s m args below meth c nL A D Q cells slots (w2 ++ w1) lv pc st) : Z p l e R s m args below meth c nL A D Q cells slots (w1 ++ w2) lv pc st := by
  intro H locs ls hP hD hS hl
  exact k H locs ls (va_P.app (zsplit hP).2 (zsplit hP).1) (va_D.app (zsplitD hD).2 (zsplitD hD).1 (fun i j x y hx hy => fun e9 => zapart hD hy hx e9.symm)) hS hl
theorem Z.lvw {lv' : List Value} (h : ∀ (i : Nat) (v : Value), lv'[i]? = some v → v ≠ .null → lv[i]? = some v) (k : Z p l e R s m args below meth c nL A D Q cells slots ws lv' pc st) : Z p l e R s m args below meth c nL A D Q cells slots ws lv pc st := by
  intro H locs ls hP hD hS hl
  exact k H locs ls hP hD hS ⟨hl.1, hl.2.1, fun i v hv hne => hl.2.2 i v (h i v hv hne) hne⟩
end ZLW
def RelS (M B : Int → Int → Int) (hf wt sn wg at_ td th dy ti : Int → Int) (cnt bw bs pl tc sill day lau nw lg nt sl dd il : Int) : Prop :=
  (RH M hf) ∧ (hOK M) ∧ (∀ j : Int, B 7 j = 0) ∧ (0 ≤ cnt) ∧ (cnt ≤ 16) ∧ (nw = cnt) ∧ (∀ j : Int, 0 ≤ j → j < cnt → wg j = wt j ∧ at_ j = sn j) ∧ (∀ j : Int, cnt ≤ j → j < 16 → wg j = 0) ∧ (wg 16 = bw) ∧ (at_ 16 = bs) ∧ (wOK wt sn) ∧ (0 ≤ bw) ∧ (bw ≤ 99) ∧ (0 ≤ bs) ∧ (bs ≤ 8) ∧ (lg = pl) ∧ (100 ≤ pl) ∧ (pl ≤ 4000) ∧ (nt = tc) ∧ (0 ≤ tc) ∧ (tc ≤ 40) ∧ (∀ j : Int, 0 ≤ j → j < tc → dy j = td j ∧ ti j = th j) ∧ (uqZ td tc) ∧ (∀ j : Int, 0 ≤ td j ∧ td j ≤ 9999) ∧ (∀ j : Int, 0 ≤ dy j ∧ dy j ≤ 9999) ∧ (∀ j : Int, 0 ≤ th j ∧ th j ≤ 99) ∧ (∀ j : Int, 0 ≤ ti j ∧ ti j ≤ 99) ∧ (sl = sill) ∧ (0 ≤ sill) ∧ (sill ≤ 50) ∧ (dd = day) ∧ (0 ≤ day) ∧ (day ≤ 9000) ∧ (il = lau) ∧ (lau = 0 ∨ lau = 1)
section RELF
variable {M B : Int → Int → Int} {hf wt sn wg at_ td th dy ti : Int → Int} {cnt bw bs pl tc sill day lau nw lg nt sl dd il : Int}
theorem RelS.rh (r : RelS M B hf wt sn wg at_ td th dy ti cnt bw bs pl tc sill day lau nw lg nt sl dd il) : RH M hf := r.1
theorem RelS.hM (r : RelS M B hf wt sn wg at_ td th dy ti cnt bw bs pl tc sill day lau nw lg nt sl dd il) : hOK M := r.2.1
theorem RelS.hB (r : RelS M B hf wt sn wg at_ td th dy ti cnt bw bs pl tc sill day lau nw lg nt sl dd il) : ∀ j : Int, B 7 j = 0 := r.2.2.1
theorem RelS.c0 (r : RelS M B hf wt sn wg at_ td th dy ti cnt bw bs pl tc sill day lau nw lg nt sl dd il) : 0 ≤ cnt := r.2.2.2.1
theorem RelS.c1 (r : RelS M B hf wt sn wg at_ td th dy ti cnt bw bs pl tc sill day lau nw lg nt sl dd il) : cnt ≤ 16 := r.2.2.2.2.1
theorem RelS.en (r : RelS M B hf wt sn wg at_ td th dy ti cnt bw bs pl tc sill day lau nw lg nt sl dd il) : nw = cnt := r.2.2.2.2.2.1
theorem RelS.wa (r : RelS M B hf wt sn wg at_ td th dy ti cnt bw bs pl tc sill day lau nw lg nt sl dd il) : ∀ j : Int, 0 ≤ j → j < cnt → wg j = wt j ∧ at_ j = sn j := r.2.2.2.2.2.2.1
theorem RelS.w0 (r : RelS M B hf wt sn wg at_ td th dy ti cnt bw bs pl tc sill day lau nw lg nt sl dd il) : ∀ j : Int, cnt ≤ j → j < 16 → wg j = 0 := r.2.2.2.2.2.2.2.1
theorem RelS.gb (r : RelS M B hf wt sn wg at_ td th dy ti cnt bw bs pl tc sill day lau nw lg nt sl dd il) : wg 16 = bw := r.2.2.2.2.2.2.2.2.1
theorem RelS.ab (r : RelS M B hf wt sn wg at_ td th dy ti cnt bw bs pl tc sill day lau nw lg nt sl dd il) : at_ 16 = bs := r.2.2.2.2.2.2.2.2.2.1
theorem RelS.wk (r : RelS M B hf wt sn wg at_ td th dy ti cnt bw bs pl tc sill day lau nw lg nt sl dd il) : wOK wt sn := r.2.2.2.2.2.2.2.2.2.2.1
theorem RelS.b0 (r : RelS M B hf wt sn wg at_ td th dy ti cnt bw bs pl tc sill day lau nw lg nt sl dd il) : 0 ≤ bw := r.2.2.2.2.2.2.2.2.2.2.2.1
theorem RelS.b1 (r : RelS M B hf wt sn wg at_ td th dy ti cnt bw bs pl tc sill day lau nw lg nt sl dd il) : bw ≤ 99 := r.2.2.2.2.2.2.2.2.2.2.2.2.1
theorem RelS.s0 (r : RelS M B hf wt sn wg at_ td th dy ti cnt bw bs pl tc sill day lau nw lg nt sl dd il) : 0 ≤ bs := r.2.2.2.2.2.2.2.2.2.2.2.2.2.1
theorem RelS.s1 (r : RelS M B hf wt sn wg at_ td th dy ti cnt bw bs pl tc sill day lau nw lg nt sl dd il) : bs ≤ 8 := r.2.2.2.2.2.2.2.2.2.2.2.2.2.2.1
theorem RelS.el (r : RelS M B hf wt sn wg at_ td th dy ti cnt bw bs pl tc sill day lau nw lg nt sl dd il) : lg = pl := r.2.2.2.2.2.2.2.2.2.2.2.2.2.2.2.1
theorem RelS.p0 (r : RelS M B hf wt sn wg at_ td th dy ti cnt bw bs pl tc sill day lau nw lg nt sl dd il) : 100 ≤ pl := r.2.2.2.2.2.2.2.2.2.2.2.2.2.2.2.2.1
theorem RelS.p1 (r : RelS M B hf wt sn wg at_ td th dy ti cnt bw bs pl tc sill day lau nw lg nt sl dd il) : pl ≤ 4000 := r.2.2.2.2.2.2.2.2.2.2.2.2.2.2.2.2.2.1
theorem RelS.et (r : RelS M B hf wt sn wg at_ td th dy ti cnt bw bs pl tc sill day lau nw lg nt sl dd il) : nt = tc := r.2.2.2.2.2.2.2.2.2.2.2.2.2.2.2.2.2.2.1
theorem RelS.t0 (r : RelS M B hf wt sn wg at_ td th dy ti cnt bw bs pl tc sill day lau nw lg nt sl dd il) : 0 ≤ tc := r.2.2.2.2.2.2.2.2.2.2.2.2.2.2.2.2.2.2.2.1
theorem RelS.t1 (r : RelS M B hf wt sn wg at_ td th dy ti cnt bw bs pl tc sill day lau nw lg nt sl dd il) : tc ≤ 40 := r.2.2.2.2.2.2.2.2.2.2.2.2.2.2.2.2.2.2.2.2.1
theorem RelS.ta (r : RelS M B hf wt sn wg at_ td th dy ti cnt bw bs pl tc sill day lau nw lg nt sl dd il) : ∀ j : Int, 0 ≤ j → j < tc → dy j = td j ∧ ti j = th j := r.2.2.2.2.2.2.2.2.2.2.2.2.2.2.2.2.2.2.2.2.2.1
theorem RelS.hu (r : RelS M B hf wt sn wg at_ td th dy ti cnt bw bs pl tc sill day lau nw lg nt sl dd il) : uqZ td tc := r.2.2.2.2.2.2.2.2.2.2.2.2.2.2.2.2.2.2.2.2.2.2.1
theorem RelS.td0 (r : RelS M B hf wt sn wg at_ td th dy ti cnt bw bs pl tc sill day lau nw lg nt sl dd il) : ∀ j : Int, 0 ≤ td j ∧ td j ≤ 9999 := r.2.2.2.2.2.2.2.2.2.2.2.2.2.2.2.2.2.2.2.2.2.2.2.1
theorem RelS.dy0 (r : RelS M B hf wt sn wg at_ td th dy ti cnt bw bs pl tc sill day lau nw lg nt sl dd il) : ∀ j : Int, 0 ≤ dy j ∧ dy j ≤ 9999 := r.2.2.2.2.2.2.2.2.2.2.2.2.2.2.2.2.2.2.2.2.2.2.2.2.1
theorem RelS.th0 (r : RelS M B hf wt sn wg at_ td th dy ti cnt bw bs pl tc sill day lau nw lg nt sl dd il) : ∀ j : Int, 0 ≤ th j ∧ th j ≤ 99 := r.2.2.2.2.2.2.2.2.2.2.2.2.2.2.2.2.2.2.2.2.2.2.2.2.2.1
theorem RelS.ti0 (r : RelS M B hf wt sn wg at_ td th dy ti cnt bw bs pl tc sill day lau nw lg nt sl dd il) : ∀ j : Int, 0 ≤ ti j ∧ ti j ≤ 99 := r.2.2.2.2.2.2.2.2.2.2.2.2.2.2.2.2.2.2.2.2.2.2.2.2.2.2.1
theorem RelS.es (r : RelS M B hf wt sn wg at_ td th dy ti cnt bw bs pl tc sill day lau nw lg nt sl dd il) : sl = sill := r.2.2.2.2.2.2.2.2.2.2.2.2.2.2.2.2.2.2.2.2.2.2.2.2.2.2.2.1
theorem RelS.l0 (r : RelS M B hf wt sn wg at_ td th dy ti cnt bw bs pl tc sill day lau nw lg nt sl dd il) : 0 ≤ sill := r.2.2.2.2.2.2.2.2.2.2.2.2.2.2.2.2.2.2.2.2.2.2.2.2.2.2.2.2.1
theorem RelS.l1 (r : RelS M B hf wt sn wg at_ td th dy ti cnt bw bs pl tc sill day lau nw lg nt sl dd il) : sill ≤ 50 := r.2.2.2.2.2.2.2.2.2.2.2.2.2.2.2.2.2.2.2.2.2.2.2.2.2.2.2.2.2.1
theorem RelS.ed (r : RelS M B hf wt sn wg at_ td th dy ti cnt bw bs pl tc sill day lau nw lg nt sl dd il) : dd = day := r.2.2.2.2.2.2.2.2.2.2.2.2.2.2.2.2.2.2.2.2.2.2.2.2.2.2.2.2.2.2.1
theorem RelS.d0 (r : RelS M B hf wt sn wg at_ td th dy ti cnt bw bs pl tc sill day lau nw lg nt sl dd il) : 0 ≤ day := r.2.2.2.2.2.2.2.2.2.2.2.2.2.2.2.2.2.2.2.2.2.2.2.2.2.2.2.2.2.2.2.1
theorem RelS.d1 (r : RelS M B hf wt sn wg at_ td th dy ti cnt bw bs pl tc sill day lau nw lg nt sl dd il) : day ≤ 9000 := r.2.2.2.2.2.2.2.2.2.2.2.2.2.2.2.2.2.2.2.2.2.2.2.2.2.2.2.2.2.2.2.2.1
theorem RelS.ei (r : RelS M B hf wt sn wg at_ td th dy ti cnt bw bs pl tc sill day lau nw lg nt sl dd il) : il = lau := r.2.2.2.2.2.2.2.2.2.2.2.2.2.2.2.2.2.2.2.2.2.2.2.2.2.2.2.2.2.2.2.2.2.1
theorem RelS.i0 (r : RelS M B hf wt sn wg at_ td th dy ti cnt bw bs pl tc sill day lau nw lg nt sl dd il) : lau = 0 ∨ lau = 1 := r.2.2.2.2.2.2.2.2.2.2.2.2.2.2.2.2.2.2.2.2.2.2.2.2.2.2.2.2.2.2.2.2.2.2
end RELF
theorem ldZ_cong {f g : Int → Int} : ∀ k : Nat, (∀ j : Nat, j < k → f j = g j) → ldZ f k = ldZ g k
  | 0, _ => rfl
  | k + 1, h => by
    simp only [ldZ]
    rw [ldZ_cong k (fun j hj => h j (by omega)), h k (by omega)]
theorem ldZ_sum (f : Int → Int) : ∀ k : Nat, ldZ f k = 10 * sumZ f k
  | 0 => rfl
  | k + 1 => by
    simp only [ldZ, sumZ]
    rw [ldZ_sum f k]
    omega
theorem sumZ_cut {f g : Int → Int} (n : Nat) (h : ∀ j : Nat, j < n → f j = g j) : ∀ k : Nat, (∀ j : Nat, n ≤ j → j < n + k → f j = 0) → sumZ f (n + k) = sumZ g n
  | 0, _ => by
    have key : ∀ m : Nat, m ≤ n → sumZ f m = sumZ g m := by
      intro m
      induction m with
      | zero => intro _; rfl
      | succ m ih =>
        intro hm
        simp only [sumZ]
        rw [ih (by omega), h m (by omega)]
    exact key n (Nat.le_refl n)
  | k + 1, h0 => by
    show sumZ f (n + k) + f ((n + k : Nat) : Int) = sumZ g n
    rw [sumZ_cut n h k (fun j h1 h2 => h0 j h1 (by omega)), h0 (n + k) (by omega) (by omega)]
    omega
theorem msZ_cut {f g f' g' : Int → Int} (n : Nat) (h : ∀ j : Nat, j < n → f j = f' j ∧ g j = g' j) : ∀ k : Nat, (∀ j : Nat, n ≤ j → j < n + k → f j = 0) → msZ f g (n + k) = msZ f' g' n
  | 0, _ => by
    have key : ∀ m : Nat, m ≤ n → msZ f g m = msZ f' g' m := by
      intro m
      induction m with
      | zero => intro _; rfl
      | succ m ih =>
        intro hm
        simp only [msZ]
        rw [ih (by omega), (h m (by omega)).1, (h m (by omega)).2]
    exact key n (Nat.le_refl n)
  | k + 1, h0 => by
    show msZ f g (n + k) + f ((n + k : Nat) : Int) * 20 * g ((n + k : Nat) : Int) = msZ f' g' n
    rw [msZ_cut n h k (fun j h1 h2 => h0 j h1 (by omega)), h0 (n + k) (by omega) (by omega)]
    omega
section REL
variable {M B : Int → Int → Int} {hf wt sn wg at_ td th dy ti : Int → Int} {cnt bw bs pl tc sill day lau nw lg nt sl dd il : Int}
theorem RelS.L16 (r : RelS M B hf wt sn wg at_ td th dy ti cnt bw bs pl tc sill day lau nw lg nt sl dd il) : ldZ wg 16 = 10 * sumZ wt cnt.toNat := by
  have c0 := r.c0
  have c1 := r.c1
  rw [ldZ_sum, show 16 = cnt.toNat + (16 - cnt.toNat) by omega, sumZ_cut cnt.toNat (g := wt) (fun j hj => (r.wa j (by omega) (by omega)).1) (16 - cnt.toNat) (fun j h1 h2 => r.w0 j (by omega) (by omega))]
theorem RelS.M16 (r : RelS M B hf wt sn wg at_ td th dy ti cnt bw bs pl tc sill day lau nw lg nt sl dd il) : msZ wg at_ 16 = msZ wt sn cnt.toNat := by
  have c0 := r.c0
  have c1 := r.c1
  rw [show 16 = cnt.toNat + (16 - cnt.toNat) by omega, msZ_cut cnt.toNat (f' := wt) (g' := sn) (fun j hj => r.wa j (by omega) (by omega)) (16 - cnt.toNat) (fun j h1 h2 => r.w0 j (by omega) (by omega))]
theorem RelS.L17 (r : RelS M B hf wt sn wg at_ td th dy ti cnt bw bs pl tc sill day lau nw lg nt sl dd il) : ldZ wg 17 = 10 * sumZ wt cnt.toNat + 10 * bw := by
  have h := r.L16
  have e : ldZ wg 17 = ldZ wg 16 + 10 * wg ((16 : Nat) : Int) := rfl
  rw [e, h, show ((16 : Nat) : Int) = 16 from rfl, r.gb]
theorem RelS.M17 (r : RelS M B hf wt sn wg at_ td th dy ti cnt bw bs pl tc sill day lau nw lg nt sl dd il) : msZ wg at_ 17 = msZ wt sn cnt.toNat + bw * 20 * bs := by
  have h := r.M16
  have e : msZ wg at_ 17 = msZ wg at_ 16 + wg ((16 : Nat) : Int) * 20 * at_ ((16 : Nat) : Int) := rfl
  rw [e, h, show ((16 : Nat) : Int) = 16 from rfl, r.gb, r.ab]
theorem RelS.tdE (r : RelS M B hf wt sn wg at_ td th dy ti cnt bw bs pl tc sill day lau nw lg nt sl dd il) (x : Int) : tdZ dy ti x nt.toNat = tdZ td th x tc.toNat := by
  rw [r.et]
  have t0 := r.t0
  exact tdZ_cong _ (fun j hj => r.ta j (by omega) (by omega))
theorem RelS.plE (r : RelS M B hf wt sn wg at_ td th dy ti cnt bw bs pl tc sill day lau nw lg nt sl dd il) (x : Int) : plZ dy x nt.toNat = plZ td x tc.toNat := by
  rw [r.et]
  have t0 := r.t0
  exact plZ_cong _ (fun j hj => (r.ta j (by omega) (by omega)).1)
theorem RelS.bds (r : RelS M B hf wt sn wg at_ td th dy ti cnt bw bs pl tc sill day lau nw lg nt sl dd il) : 0 ≤ 10 * sumZ wt cnt.toNat ∧ 10 * sumZ wt cnt.toNat ≤ 160000 ∧ 0 ≤ msZ wt sn cnt.toNat ∧ msZ wt sn cnt.toNat ≤ 16 * (10 * sumZ wt cnt.toNat) ∧ 0 ≤ bw * 20 * bs ∧ bw * 20 * bs ≤ 16 * (10 * bw) := by
  have c0 := r.c0
  have c1 := r.c1
  have h1 := sumZ_bd r.wk cnt.toNat
  have h2 := msZ_bd r.wk cnt.toNat
  have q : 0 ≤ bw * bs ∧ bw * bs ≤ bw * 8 := ⟨Int.mul_nonneg r.b0 r.s0, Int.mul_le_mul_of_nonneg_left r.s1 r.b0⟩
  have e : bw * 20 * bs = 20 * (bw * bs) := by rw [Int.mul_comm bw 20, Int.mul_assoc]
  rw [e]
  generalize bw * bs = z at q
  have b0 := r.b0
  have h3 : (cnt.toNat : Int) = cnt := Int.toNat_of_nonneg c0
  omega
end REL
