/-! ===== more on numbers, for the arms ===== -/
theorem hOK_row {M : Int → Int → Int} (hM : hOK M) {w : Int} {f : Int → Int} (hf : ∀ j : Int, 0 ≤ f j ∧ f j ≤ 200) : hOK (zrow M w f) := by
  intro i j
  by_cases e : i = w
  · subst e; rw [zrow_eq]; exact hf j
  · rw [zrow_ne _ _ e]; exact hM i j
theorem zset_bd {f : Int → Int} {a b x y : Int} (hf : ∀ j : Int, a ≤ f j ∧ f j ≤ b) (h0 : a ≤ y) (h1 : y ≤ b) : ∀ j : Int, a ≤ zset f x y j ∧ zset f x y j ≤ b := by
  intro j
  unfold zset
  split
  · exact ⟨h0, h1⟩
  · exact hf j
theorem wOK_set {wt sn : Int → Int} (h : wOK wt sn) {q x y : Int} (x0 : 0 ≤ x) (x1 : x ≤ 999) (y0 : 0 ≤ y) (y1 : y ≤ 8) : wOK (zset wt q x) (zset sn q y) := by
  intro j
  by_cases e : j = q
  · subst e; rw [zset_eq, zset_eq]; exact ⟨x0, x1, y0, y1⟩
  · rw [zset_ne _ e, zset_ne _ e]; exact h j
theorem RH_cg {M : Int → Int → Int} {w : Int} {f g hf : Int → Int} (h : RH (zrow M w f) hf) (hg : ∀ s : Nat, s ≤ 8 → g s = f s) : RH (zrow M w g) hf := by
  intro v s v0 v1 s0 s1
  have q := h v s v0 v1 s0 s1
  by_cases e : v = w
  · subst e
    rw [zrow_eq] at q ⊢
    have := hg s.toNat (by omega)
    rw [Int.toNat_of_nonneg s0] at this
    rw [this]; exact q
  · rw [zrow_ne _ _ e] at q ⊢; exact q
def balB (q : Int × Int × Int) : Prop := (0 ≤ q.2.1 ∧ q.2.1 ≤ 99) ∧ (0 ≤ q.2.2 ∧ q.2.2 ≤ 8)
theorem balIn_B {M : Int → Int → Int} {L Mo : Int} {k : Nat} (hk : k ≤ 99) {q : Int × Int × Int} (h : balB q) : ∀ s : Nat, s ≤ 9 → balB (balIn M L Mo k q s)
  | 0, _ => h
  | s + 1, hs => by
    have ih := balIn_B (M := M) (L := L) (Mo := Mo) hk h s (by omega)
    simp only [balIn, balStep]
    split
    · refine ⟨⟨?_, ?_⟩, ?_, ?_⟩ <;> dsimp only <;> omega
    · exact ih
theorem balOut_B {M : Int → Int → Int} {L Mo : Int} {q : Int × Int × Int} (h : balB q) : ∀ n : Nat, n ≤ 100 → balB (balOut M L Mo q n)
  | 0, _ => h
  | n + 1, hn => by
    simp only [balOut]
    exact balIn_B (by omega) (balOut_B h n (by omega)) 9 (by omega)
theorem uqZ_more {td : Int → Int} {n x : Int} (hu : uqZ td n) (hx : ∀ j : Int, 0 ≤ j → j < n → td j ≠ x) : uqZ (zset td n x) (n + 1) := by
  intro i j i0 i1 j0 j1 h
  by_cases ei : i = n
  · by_cases ej : j = n
    · omega
    · rw [ei, zset_eq, zset_ne _ ej] at h
      exact absurd h.symm (hx j j0 (by omega))
  · by_cases ej : j = n
    · rw [ej, zset_eq, zset_ne _ ei] at h
      exact absurd h (hx i i0 (by omega))
    · rw [zset_ne _ ei, zset_ne _ ej] at h
      exact hu i j i0 (by omega) j0 (by omega) h
theorem zset_same {f : Int → Int} {k x : Int} (h : f k = x) : zset f k x = f := by
  funext j
  by_cases e : j = k
  · subst e; rw [zset_eq, h]
  · rw [zset_ne _ e]
theorem tideP {M B : Int → Int → Int} {wt sn td th hf at_ wg dy ti : Int → Int} {cnt bw bs pl tc sill day lau : Int} (r : RelS M B hf wt sn wg at_ td th dy ti cnt bw bs pl tc sill day lau cnt pl tc sill day lau) (x : Int) : pcZ dy x tc tc.toNat = if plZ td x tc.toNat = -1 then tc else plZ td x tc.toNat := by
  rw [pcZ_pl, show plZ dy x tc.toNat = plZ td x tc.toNat from r.plE x]
theorem tideU {adX : Nat → Nat} {cI cJ : ClassId} {M B : Int → Int → Int} {lo ch wt sn vo mo le ln od fe se td th hf at_ wg dy ti : Int → Int} {cnt bw bs pl tk tc sill day lau : Int} (r : RelS M B hf wt sn wg at_ td th dy ti cnt bw bs pl tc sill day lau cnt pl tc sill day lau) {x y : Int} (hq : tcTide x y tc (plZ td x tc.toNat) = 0) {u : va_W} (hu : u = (if plZ td x tc.toNat = -1 then wX adX cI cJ M B lo ch wt sn vo mo le ln od fe se (zset td tc x) (zset th tc y) cnt bw bs pl tk (tc + 1) sill day lau else wX adX cI cJ M B lo ch wt sn vo mo le ln od fe se (zset td (plZ td x tc.toNat) x) (zset th (plZ td x tc.toNat) y) cnt bw bs pl tk tc sill day lau)) : ∃ (td1 th1 : Int → Int) (tc1 : Int), (if pcZ dy x tc tc.toNat = tc then tc + 1 else tc) = tc1 ∧ RelS M B hf wt sn wg at_ td1 th1 (zset dy (pcZ dy x tc tc.toNat) x) (zset ti (pcZ dy x tc tc.toNat) y) cnt bw bs pl tc1 sill day lau cnt pl tc1 sill day lau ∧ u = wX adX cI cJ M B lo ch wt sn vo mo le ln od fe se td1 th1 cnt bw bs pl tk tc1 sill day lau := by
  have hP := tideP r x
  have t0 := r.t0
  have t1 := r.t1
  have hbd : ((0 ≤ x ∧ x ≤ 9999) ∧ (0 ≤ y ∧ y ≤ 99)) ∧ ¬ (tc = 40 ∧ plZ td x tc.toNat = -1) := by
    unfold tcTide at hq
    (repeat' split at hq) <;> omega
  obtain ⟨⟨⟨x0, x1⟩, y0, y1⟩, h40⟩ := hbd
  rcases plZ_cases (td := td) (day := x) tc.toNat with ⟨hp, hn⟩ | ⟨k, hk1, hk2, hk3⟩
  · rw [if_pos hp] at hP hu
    have hn' : ∀ j : Int, 0 ≤ j → j < tc → td j ≠ x := fun j h1 h2 => by
      have := hn j.toNat (by omega)
      rw [Int.toNat_of_nonneg h1] at this
      exact this
    refine ⟨_, _, tc + 1, if_pos hP, ?_, hu⟩
    rw [hP]
    have hta : ∀ j : Int, 0 ≤ j → j < tc + 1 → zset dy tc x j = zset td tc x j ∧ zset ti tc y j = zset th tc y j := by
      intro j h1 h2
      by_cases e : j = tc
      · subst e; rw [zset_eq, zset_eq, zset_eq, zset_eq]; exact ⟨rfl, rfl⟩
      · rw [zset_ne _ e, zset_ne _ e, zset_ne _ e, zset_ne _ e]; exact r.ta j h1 (by omega)
    exact ⟨r.rh, r.hM, r.hB, r.c0, r.c1, r.en, r.wa, r.w0, r.gb, r.ab, r.wk, r.b0, r.b1, r.s0, r.s1, r.el, r.p0, r.p1, rfl, (by omega), (by omega), hta, uqZ_more r.hu hn', zset_bd r.td0 x0 x1, zset_bd r.dy0 x0 x1, zset_bd r.th0 y0 y1, zset_bd r.ti0 y0 y1, r.es, r.l0, r.l1, r.ed, r.d0, r.d1, r.ei, r.i0⟩
  · have hne : ¬ plZ td x tc.toNat = -1 := by omega
    rw [if_neg hne] at hP hu
    rw [hk2] at hP hu
    refine ⟨_, _, tc, if_neg (by omega), ?_, hu⟩
    rw [hP, zset_same hk3]
    have hdk : dy (k : Int) = x := by rw [(r.ta k (by omega) (by omega)).1, hk3]
    rw [zset_same hdk]
    have hta : ∀ j : Int, 0 ≤ j → j < tc → dy j = td j ∧ zset ti (k : Int) y j = zset th (k : Int) y j := by
      intro j h1 h2
      refine ⟨(r.ta j h1 h2).1, ?_⟩
      by_cases e : j = (k : Int)
      · subst e; rw [zset_eq, zset_eq]
      · rw [zset_ne _ e, zset_ne _ e]; exact (r.ta j h1 h2).2
    exact ⟨r.rh, r.hM, r.hB, r.c0, r.c1, r.en, r.wa, r.w0, r.gb, r.ab, r.wk, r.b0, r.b1, r.s0, r.s1, r.el, r.p0, r.p1, r.et, r.t0, r.t1, hta, r.hu, r.td0, r.dy0, zset_bd r.th0 y0 y1, zset_bd r.ti0 y0 y1, r.es, r.l0, r.l1, r.ed, r.d0, r.d1, r.ei, r.i0⟩
