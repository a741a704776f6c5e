/-! ===== what holds between the class and the law's arrays ===== -/
section ZRX
variable {p : Program} {l : Launch} {e : Env} {R : Room} {s : State} {m : MethodId} {args : Array Value} {below : List Frame} {meth : Method} {c : Code} {nL : Nat} {A : Nat → Prop} {D : va_G} {Q : State → Prop} {cells slots : Nat} {ws : va_W} {lv : List Value} {pc : Nat} {st : List Value} {cI cJ cL : ClassId} {cc : ByteArray} {Ts : List Cond} {own : String}
theorem Z.zretX {sz mc ms : Nat} {ws0 : va_W} {post : Int → va_W → Prop} {px : String → va_W → Prop} (C : Cx p s m args meth c nL (va_A ws0 sz) D cI cJ cL cc Ts own) (hr : meth.sig.returnType = some .boolean) {r : Int} (h01 : r = 0 ∨ r = 1) (hc : cells ≤ mc) (hs : slots ≤ ms) (hd : decode cc pc = .ok (.ireturn, 1)) (hp : post r ws) : Z p l e R s m args below meth c nL (va_A ws0 sz) D (QXI below args s D ws0 sz mc ms post px) cells slots ws lv pc [.int (iI r)] := by
  intro H locs ls hP hD hS hl
  have hn : narrow .boolean (.int (iI r)) = .int (iI r) := by rcases h01 with rfl | rfl <;> rfl
  refine W.widen hc hs (vx_ret ?_)
  exact W.zret (v := iI r) C.1.1 C.1.2.1 hr hn (fun t ht hW => ⟨⟨iI r, ws, rfl, ⟨r, rfl, hp⟩, by rw [ht]; exact hP, hD⟩, hS.F ht⟩) hS.2.2 hd C.2.2.2.1
end ZRX
def RelS (M B : Int → Int → Int) (hf wt sn wg at_ td th dy ti : Int → Int) (cnt bw bs pl tc sill day lau nw lg nt sl dd il : Int) : Prop :=
  (RH M hf) ∧ (hOK M) ∧ (∀ j : Int, B 7 j = 0) ∧ (0 ≤ cnt) ∧ (cnt ≤ 16) ∧ (nw = cnt) ∧ (∀ j : Int, 0 ≤ j → j < cnt → wg j = wt j ∧ at_ j = sn j) ∧ (∀ j : Int, cnt ≤ j → j < 16 → wg j = 0) ∧ (wg 16 = bw) ∧ (at_ 16 = bs) ∧ (wOK wt sn) ∧ (0 ≤ bw) ∧ (bw ≤ 99) ∧ (0 ≤ bs) ∧ (bs ≤ 8) ∧ (lg = pl) ∧ (100 ≤ pl) ∧ (pl ≤ 4000) ∧ (nt = tc) ∧ (0 ≤ tc) ∧ (tc ≤ 40) ∧ (∀ j : Int, 0 ≤ j → j < tc → dy j = td j ∧ ti j = th j) ∧ (uqZ td tc) ∧ (∀ j : Int, 0 ≤ td j ∧ td j ≤ 9999) ∧ (∀ j : Int, 0 ≤ dy j ∧ dy j ≤ 9999) ∧ (∀ j : Int, 0 ≤ th j ∧ th j ≤ 99) ∧ (∀ j : Int, 0 ≤ ti j ∧ ti j ≤ 99) ∧ (sl = sill) ∧ (0 ≤ sill) ∧ (sill ≤ 50) ∧ (dd = day) ∧ (0 ≤ day) ∧ (day ≤ 9000) ∧ (il = lau) ∧ (lau = 0 ∨ lau = 1)
section RELF
variable {M B : Int → Int → Int} {hf wt sn wg at_ td th dy ti : Int → Int} {cnt bw bs pl tc sill day lau nw lg nt sl dd il : Int}
theorem RelS.rh (r : RelS M B hf wt sn wg at_ td th dy ti cnt bw bs pl tc sill day lau nw lg nt sl dd il) : RH M hf := r.1
theorem RelS.hM (r : RelS M B hf wt sn wg at_ td th dy ti cnt bw bs pl tc sill day lau nw lg nt sl dd il) : hOK M := r.2.1
theorem RelS.hB (r : RelS M B hf wt sn wg at_ td th dy ti cnt bw bs pl tc sill day lau nw lg nt sl dd il) : ∀ j : Int, B 7 j = 0 := r.2.2.1
theorem RelS.c0 (r : RelS M B hf wt sn wg at_ td th dy ti cnt bw bs pl tc sill day lau nw lg nt sl dd il) : 0 ≤ cnt := r.2.2.2.1
theorem RelS.c1 (r : RelS M B hf wt sn wg at_ td th dy ti cnt bw bs pl tc sill day lau nw lg nt sl dd il) : cnt ≤ 16 := r.2.2.2.2.1
theorem RelS.en (r : RelS M B hf wt sn wg at_ td th dy ti cnt bw bs pl tc sill day lau nw lg nt sl dd il) : nw = cnt := r.2.2.2.2.2.1
theorem RelS.wa (r : RelS M B hf wt sn wg at_ td th dy ti cnt bw bs pl tc sill day lau nw lg nt sl dd il) : ∀ j : Int, 0 ≤ j → j < cnt → wg j = wt j ∧ at_ j = sn j := r.2.2.2.2.2.2.1
theorem RelS.w0 (r : RelS M B hf wt sn wg at_ td th dy ti cnt bw bs pl tc sill day lau nw lg nt sl dd il) : ∀ j : Int, cnt ≤ j → j < 16 → wg j = 0 := r.2.2.2.2.2.2.2.1
theorem RelS.gb (r : RelS M B hf wt sn wg at_ td th dy ti cnt bw bs pl tc sill day lau nw lg nt sl dd il) : wg 16 = bw := r.2.2.2.2.2.2.2.2.1
theorem RelS.ab (r : RelS M B hf wt sn wg at_ td th dy ti cnt bw bs pl tc sill day lau nw lg nt sl dd il) : at_ 16 = bs := r.2.2.2.2.2.2.2.2.2.1
theorem RelS.wk (r : RelS M B hf wt sn wg at_ td th dy ti cnt bw bs pl tc sill day lau nw lg nt sl dd il) : wOK wt sn := r.2.2.2.2.2.2.2.2.2.2.1
theorem RelS.b0 (r : RelS M B hf wt sn wg at_ td th dy ti cnt bw bs pl tc sill day lau nw lg nt sl dd il) : 0 ≤ bw := r.2.2.2.2.2.2.2.2.2.2.2.1
theorem RelS.b1 (r : RelS M B hf wt sn wg at_ td th dy ti cnt bw bs pl tc sill day lau nw lg nt sl dd il) : bw ≤ 99 := r.2.2.2.2.2.2.2.2.2.2.2.2.1
theorem RelS.s0 (r : RelS M B hf wt sn wg at_ td th dy ti cnt bw bs pl tc sill day lau nw lg nt sl dd il) : 0 ≤ bs := r.2.2.2.2.2.2.2.2.2.2.2.2.2.1
theorem RelS.s1 (r : RelS M B hf wt sn wg at_ td th dy ti cnt bw bs pl tc sill day lau nw lg nt sl dd il) : bs ≤ 8 := r.2.2.2.2.2.2.2.2.2.2.2.2.2.2.1
theorem RelS.el (r : RelS M B hf wt sn wg at_ td th dy ti cnt bw bs pl tc sill day lau nw lg nt sl dd il) : lg = pl := r.2.2.2.2.2.2.2.2.2.2.2.2.2.2.2.1
theorem RelS.p0 (r : RelS M B hf wt sn wg at_ td th dy ti cnt bw bs pl tc sill day lau nw lg nt sl dd il) : 100 ≤ pl := r.2.2.2.2.2.2.2.2.2.2.2.2.2.2.2.2.1
theorem RelS.p1 (r : RelS M B hf wt sn wg at_ td th dy ti cnt bw bs pl tc sill day lau nw lg nt sl dd il) : pl ≤ 4000 := r.2.2.2.2.2.2.2.2.2.2.2.2.2.2.2.2.2.1
theorem RelS.et (r : RelS M B hf wt sn wg at_ td th dy ti cnt bw bs pl tc sill day lau nw lg nt sl dd il) : nt = tc := r.2.2.2.2.2.2.2.2.2.2.2.2.2.2.2.2.2.2.1
theorem RelS.t0 (r : RelS M B hf wt sn wg at_ td th dy ti cnt bw bs pl tc sill day lau nw lg nt sl dd il) : 0 ≤ tc := r.2.2.2.2.2.2.2.2.2.2.2.2.2.2.2.2.2.2.2.1
theorem RelS.t1 (r : RelS M B hf wt sn wg at_ td th dy ti cnt bw bs pl tc sill day lau nw lg nt sl dd il) : tc ≤ 40 := r.2.2.2.2.2.2.2.2.2.2.2.2.2.2.2.2.2.2.2.2.1
theorem RelS.ta (r : RelS M B hf wt sn wg at_ td th dy ti cnt bw bs pl tc sill day lau nw lg nt sl dd il) : ∀ j : Int, 0 ≤ j → j < tc → dy j = td j ∧ ti j = th j := r.2.2.2.2.2.2.2.2.2.2.2.2.2.2.2.2.2.2.2.2.2.1
theorem RelS.hu (r : RelS M B hf wt sn wg at_ td th dy ti cnt bw bs pl tc sill day lau nw lg nt sl dd il) : uqZ td tc := r.2.2.2.2.2.2.2.2.2.2.2.2.2.2.2.2.2.2.2.2.2.2.1
theorem RelS.td0 (r : RelS M B hf wt sn wg at_ td th dy ti cnt bw bs pl tc sill day lau nw lg nt sl dd il) : ∀ j : Int, 0 ≤ td j ∧ td j ≤ 9999 := r.2.2.2.2.2.2.2.2.2.2.2.2.2.2.2.2.2.2.2.2.2.2.2.1
theorem RelS.dy0 (r : RelS M B hf wt sn wg at_ td th dy ti cnt bw bs pl tc sill day lau nw lg nt sl dd il) : ∀ j : Int, 0 ≤ dy j ∧ dy j ≤ 9999 := r.2.2.2.2.2.2.2.2.2.2.2.2.2.2.2.2.2.2.2.2.2.2.2.2.1
theorem RelS.th0 (r : RelS M B hf wt sn wg at_ td th dy ti cnt bw bs pl tc sill day lau nw lg nt sl dd il) : ∀ j : Int, 0 ≤ th j ∧ th j ≤ 99 := r.2.2.2.2.2.2.2.2.2.2.2.2.2.2.2.2.2.2.2.2.2.2.2.2.2.1
theorem RelS.ti0 (r : RelS M B hf wt sn wg at_ td th dy ti cnt bw bs pl tc sill day lau nw lg nt sl dd il) : ∀ j : Int, 0 ≤ ti j ∧ ti j ≤ 99 := r.2.2.2.2.2.2.2.2.2.2.2.2.2.2.2.2.2.2.2.2.2.2.2.2.2.2.1
theorem RelS.es (r : RelS M B hf wt sn wg at_ td th dy ti cnt bw bs pl tc sill day lau nw lg nt sl dd il) : sl = sill := r.2.2.2.2.2.2.2.2.2.2.2.2.2.2.2.2.2.2.2.2.2.2.2.2.2.2.2.1
theorem RelS.l0 (r : RelS M B hf wt sn wg at_ td th dy ti cnt bw bs pl tc sill day lau nw lg nt sl dd il) : 0 ≤ sill := r.2.2.2.2.2.2.2.2.2.2.2.2.2.2.2.2.2.2.2.2.2.2.2.2.2.2.2.2.1
theorem RelS.l1 (r : RelS M B hf wt sn wg at_ td th dy ti cnt bw bs pl tc sill day lau nw lg nt sl dd il) : sill ≤ 50 := r.2.2.2.2.2.2.2.2.2.2.2.2.2.2.2.2.2.2.2.2.2.2.2.2.2.2.2.2.2.1
theorem RelS.ed (r : RelS M B hf wt sn wg at_ td th dy ti cnt bw bs pl tc sill day lau nw lg nt sl dd il) : dd = day := r.2.2.2.2.2.2.2.2.2.2.2.2.2.2.2.2.2.2.2.2.2.2.2.2.2.2.2.2.2.2.1
theorem RelS.d0 (r : RelS M B hf wt sn wg at_ td th dy ti cnt bw bs pl tc sill day lau nw lg nt sl dd il) : 0 ≤ day := r.2.2.2.2.2.2.2.2.2.2.2.2.2.2.2.2.2.2.2.2.2.2.2.2.2.2.2.2.2.2.2.1
theorem RelS.d1 (r : RelS M B hf wt sn wg at_ td th dy ti cnt bw bs pl tc sill day lau nw lg nt sl dd il) : day ≤ 9000 := r.2.2.2.2.2.2.2.2.2.2.2.2.2.2.2.2.2.2.2.2.2.2.2.2.2.2.2.2.2.2.2.2.1
theorem RelS.ei (r : RelS M B hf wt sn wg at_ td th dy ti cnt bw bs pl tc sill day lau nw lg nt sl dd il) : il = lau := r.2.2.2.2.2.2.2.2.2.2.2.2.2.2.2.2.2.2.2.2.2.2.2.2.2.2.2.2.2.2.2.2.2.1
theorem RelS.i0 (r : RelS M B hf wt sn wg at_ td th dy ti cnt bw bs pl tc sill day lau nw lg nt sl dd il) : lau = 0 ∨ lau = 1 := r.2.2.2.2.2.2.2.2.2.2.2.2.2.2.2.2.2.2.2.2.2.2.2.2.2.2.2.2.2.2.2.2.2.2
end RELF
section REL
variable {M B : Int → Int → Int} {hf wt sn wg at_ td th dy ti : Int → Int} {cnt bw bs pl tc sill day lau nw lg nt sl dd il : Int}
theorem RelS.L16 (r : RelS M B hf wt sn wg at_ td th dy ti cnt bw bs pl tc sill day lau nw lg nt sl dd il) : ldZ wg 16 = 10 * sumZ wt cnt.toNat := by
  have c0 := r.c0
  have c1 := r.c1
  rw [ldZ_sum, show 16 = cnt.toNat + (16 - cnt.toNat) by omega, sumZ_cut cnt.toNat (g := wt) (fun j hj => (r.wa j (by omega) (by omega)).1) (16 - cnt.toNat) (fun j h1 h2 => r.w0 j (by omega) (by omega))]
theorem RelS.M16 (r : RelS M B hf wt sn wg at_ td th dy ti cnt bw bs pl tc sill day lau nw lg nt sl dd il) : msZ wg at_ 16 = msZ wt sn cnt.toNat := by
  have c0 := r.c0
  have c1 := r.c1
  rw [show 16 = cnt.toNat + (16 - cnt.toNat) by omega, msZ_cut cnt.toNat (f' := wt) (g' := sn) (fun j hj => r.wa j (by omega) (by omega)) (16 - cnt.toNat) (fun j h1 h2 => r.w0 j (by omega) (by omega))]
theorem RelS.L17 (r : RelS M B hf wt sn wg at_ td th dy ti cnt bw bs pl tc sill day lau nw lg nt sl dd il) : ldZ wg 17 = 10 * sumZ wt cnt.toNat + 10 * bw := by
  have h := r.L16
  have e : ldZ wg 17 = ldZ wg 16 + 10 * wg ((16 : Nat) : Int) := rfl
  rw [e, h, show ((16 : Nat) : Int) = 16 from rfl, r.gb]
theorem RelS.M17 (r : RelS M B hf wt sn wg at_ td th dy ti cnt bw bs pl tc sill day lau nw lg nt sl dd il) : msZ wg at_ 17 = msZ wt sn cnt.toNat + bw * 20 * bs := by
  have h := r.M16
  have e : msZ wg at_ 17 = msZ wg at_ 16 + wg ((16 : Nat) : Int) * 20 * at_ ((16 : Nat) : Int) := rfl
  rw [e, h, show ((16 : Nat) : Int) = 16 from rfl, r.gb, r.ab]
theorem RelS.tdE (r : RelS M B hf wt sn wg at_ td th dy ti cnt bw bs pl tc sill day lau nw lg nt sl dd il) (x : Int) : tdZ dy ti x nt.toNat = tdZ td th x tc.toNat := by
  rw [r.et]
  have t0 := r.t0
  exact tdZ_cong _ (fun j hj => r.ta j (by omega) (by omega))
theorem RelS.plE (r : RelS M B hf wt sn wg at_ td th dy ti cnt bw bs pl tc sill day lau nw lg nt sl dd il) (x : Int) : plZ dy x nt.toNat = plZ td x tc.toNat := by
  rw [r.et]
  have t0 := r.t0
  exact plZ_cong _ (fun j hj => (r.ta j (by omega) (by omega)).1)
theorem RelS.bds (r : RelS M B hf wt sn wg at_ td th dy ti cnt bw bs pl tc sill day lau nw lg nt sl dd il) : 0 ≤ 10 * sumZ wt cnt.toNat ∧ 10 * sumZ wt cnt.toNat ≤ 160000 ∧ 0 ≤ msZ wt sn cnt.toNat ∧ msZ wt sn cnt.toNat ≤ 16 * (10 * sumZ wt cnt.toNat) ∧ 0 ≤ bw * 20 * bs ∧ bw * 20 * bs ≤ 16 * (10 * bw) := by
  have c0 := r.c0
  have c1 := r.c1
  have h1 := sumZ_bd r.wk cnt.toNat
  have h2 := msZ_bd r.wk cnt.toNat
  have q : 0 ≤ bw * bs ∧ bw * bs ≤ bw * 8 := ⟨Int.mul_nonneg r.b0 r.s0, Int.mul_le_mul_of_nonneg_left r.s1 r.b0⟩
  have e : bw * 20 * bs = 20 * (bw * bs) := by rw [Int.mul_comm bw 20, Int.mul_assoc]
  rw [e]
  generalize bw * bs = z at q
  have b0 := r.b0
  have h3 : (cnt.toNat : Int) = cnt := Int.toNat_of_nonneg c0
  omega
end REL

def RelA (M B : Int → Int → Int) (hf wt sn wg at_ td th dy ti gg : Int → Int) (cnt bw bs pl tc sill day lau : Int) : Prop := RelS M B hf wt sn wg at_ td th dy ti cnt bw bs pl tc sill day lau (gg 0) (gg 1) (gg 5) (gg 2) (gg 3) (gg 4) ∧ 300 ≤ pl
section RELA
variable {M B : Int → Int → Int} {hf wt sn wg at_ td th dy ti gg : Int → Int} {cnt bw bs pl tc sill day lau : Int}
theorem RelA.lds (r : RelA M B hf wt sn wg at_ td th dy ti gg cnt bw bs pl tc sill day lau) : ∃ L Mo : Int, ldZ wg 17 = L ∧ msZ wg at_ 17 = Mo ∧ 10 * sumZ wt cnt.toNat + 10 * bw = L ∧ msZ wt sn cnt.toNat + bw * 20 * bs = Mo ∧ 0 ≤ L ∧ L ≤ 1000000 ∧ 0 ≤ Mo ∧ Mo ≤ 16 * L := by
  have b := r.1.bds
  have b0 := r.1.b0
  have b1 := r.1.b1
  exact ⟨_, _, rfl, rfl, r.1.L17.symm, r.1.M17.symm, by rw [r.1.L17]; omega, by rw [r.1.L17]; omega, by rw [r.1.M17]; omega, by rw [r.1.M17, r.1.L17]; omega⟩
theorem RelA.uq (r : RelA M B hf wt sn wg at_ td th dy ti gg cnt bw bs pl tc sill day lau) : uqZ dy (gg 5) := by
  have et := r.1.et
  intro i j i0 i1 j0 j1 e
  have q1 := (r.1.ta i i0 (by omega)).1
  have q2 := (r.1.ta j j0 (by omega)).1
  exact r.1.hu i j i0 (by omega) j0 (by omega) (by rw [← q1, ← q2, e])
end RELA
theorem hq_det {px : String → va_W → Prop} {post : Int → va_W → Prop} {L : List (String × Int)} {r : Int} {w' : va_W} (h : hqP px post L r w') (hn : ∀ E : String, ¬ px E w') : post r w' := by
  rcases h with ⟨E, h1, -⟩ | h
  · exact absurd h1 (hn E)
  · exact h
theorem tcSW_0 {x w : Int} (x0 : 0 ≤ x) (x1 : x ≤ 8) (w0 : 0 ≤ w) (w1 : w ≤ 5) : tcSW x w = 0 := by
  unfold tcSW
  rw [if_neg (by omega)]
theorem tcW_0 {w : Int} (w0 : 0 ≤ w) (w1 : w ≤ 5) : tcW w = 0 := by
  unfold tcW
  rw [if_neg (by omega)]
theorem tcK_0 {x : Int} (x0 : 0 ≤ x) (x1 : x ≤ 4) : tcK x = 0 := by
  unfold tcK
  rw [if_neg (by omega)]
theorem bendZ_bd7 {M : Int → Int → Int} (hM : hOK M) (i : Int) : 0 ≤ bendZ (M i) 7 ∧ bendZ (M i) 7 ≤ 160000 * 7 := by
  have key : ∀ k : Nat, 0 ≤ bendZ (M i) k ∧ bendZ (M i) k ≤ 160000 * k := by
    intro k
    induction k with
    | zero => exact ⟨Int.le_refl _, Int.le_refl _⟩
    | succ k ih =>
      have h0 := hM i k
      have h1 := hM i ((k : Int) + 1)
      have h2 := hM i ((k : Int) + 1 + 1)
      have q := sq_bd (b := M i k) (a := M i ((k : Int) + 1)) (c := M i ((k : Int) + 1 + 1)) h0.1 h0.2 h1.1 h1.2 h2.1 h2.2
      have e : bendZ (M i) (k + 1) = bendZ (M i) k + sqZ (M i k) (M i ((k : Int) + 1)) (M i ((k : Int) + 1 + 1)) := rfl
      rw [e]
      push_cast
      omega
  exact key 7
theorem rr_bd {pl : Int} (hp : 100 ≤ pl) (hp2 : pl ≤ 4000) {M : Int → Int → Int} (hM : hOK M) {k : Nat} (hk : k < 10) : 0 ≤ rr_ pl (LsM M) k ∧ rr_ pl (LsM M) k ≤ 200 := by
  obtain ⟨h1, h2, h3⟩ := pk_bd hp hp2 hM k (by omega)
  have hb := strZ_bd hM (skZ (LsM M) ((k / 2 : Nat) : Int) 5) 8
  have hl : LsM M (skZ (LsM M) ((k / 2 : Nat) : Int) 5) = strZ (M (skZ (LsM M) ((k / 2 : Nat) : Int) 5)) 8 := rfl
  have c := cutZ_bd hp hp2 (f := (pk_ pl (LsM M) k).1) (n := (pk_ pl (LsM M) k).2) (len := LsM M (skZ (LsM M) ((k / 2 : Nat) : Int) 5)) h2 h1 (by omega) (by omega)
  unfold rr_
  exact ⟨c.2.2.2.1, by omega⟩
theorem plS_inr {pl : Int} (hp : 100 ≤ pl) (hp2 : pl ≤ 4000) {M : Int → Int → Int} (hM : hOK M) {j : Int} (j0 : 0 ≤ j) (j1 : j < 5) (P : Prop) [Decidable P] : inr (if P then (plS pl (LsM M) 5).2.2.1 j else (plS pl (LsM M) 5).2.2.2 j) := by
  obtain ⟨t, h1, h2⟩ := sk_surj (LsM M) j0 j1
  have hr := plS_r pl (LsM M) (sk_inj (LsM M)) 5 (Nat.le_refl _) t h1
  rw [h2] at hr
  rw [hr.1, hr.2]
  have b1 := rr_bd hp hp2 hM (k := 2 * t) (by omega)
  have b2 := rr_bd hp hp2 hM (k := 2 * t + 1) (by omega)
  split
  · exact ⟨by omega, by omega⟩
  · exact ⟨by omega, by omega⟩
theorem pk_inr {pl : Int} (hp : 100 ≤ pl) (hp2 : pl ≤ 4000) {M : Int → Int → Int} (hM : hOK M) : inr (plS pl (LsM M) 5).2.1 := by
  have e : (plS pl (LsM M) 5).2.1 = (pk_ pl (LsM M) 10).2 := (plS_pk pl (LsM M) 5).2
  have := pk_bd hp hp2 hM 10 (Nat.le_refl _)
  rw [e]
  exact ⟨by omega, by omega⟩
