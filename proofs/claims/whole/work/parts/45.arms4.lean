/-! ===== the arms of the law, 4 ===== -/
theorem uqZ_more {td : Int → Int} {n x : Int} (hu : uqZ td n) (hx : ∀ j : Int, 0 ≤ j → j < n → td j ≠ x) : uqZ (zset td n x) (n + 1) := by
  intro i j i0 i1 j0 j1 h
  by_cases ei : i = n
  · by_cases ej : j = n
    · omega
    · rw [ei, zset_eq, zset_ne _ ej] at h
      exact absurd h.symm (hx j j0 (by omega))
  · by_cases ej : j = n
    · rw [ej, zset_eq, zset_ne _ ei] at h
      exact absurd h (hx i i0 (by omega))
    · rw [zset_ne _ ei, zset_ne _ ej] at h
      exact hu i j i0 (by omega) j0 (by omega) h
theorem zset_same {f : Int → Int} {k x : Int} (h : f k = x) : zset f k x = f := by
  funext j
  by_cases e : j = k
  · subst e; rw [zset_eq, h]
  · rw [zset_ne _ e]
theorem tideP {M B : Int → Int → Int} {wt sn td th hf at_ wg dy ti : Int → Int} {cnt bw bs pl tc sill day lau : Int} (r : RelS M B hf wt sn wg at_ td th dy ti cnt bw bs pl tc sill day lau cnt pl tc sill day lau) (x : Int) : pcZ dy x tc tc.toNat = if plZ td x tc.toNat = -1 then tc else plZ td x tc.toNat := by
  rw [pcZ_pl, show plZ dy x tc.toNat = plZ td x tc.toNat from r.plE x]
theorem tideU {adX : Nat → Nat} {cI cJ : ClassId} {M B : Int → Int → Int} {lo ch wt sn vo mo le ln od fe se td th hf at_ wg dy ti : Int → Int} {cnt bw bs pl tk tc sill day lau : Int} (r : RelS M B hf wt sn wg at_ td th dy ti cnt bw bs pl tc sill day lau cnt pl tc sill day lau) {x y : Int} (hq : tcTide x y tc (plZ td x tc.toNat) = 0) {u : va_W} (hu : u = (if plZ td x tc.toNat = -1 then wX adX cI cJ M B lo ch wt sn vo mo le ln od fe se (zset td tc x) (zset th tc y) cnt bw bs pl tk (tc + 1) sill day lau else wX adX cI cJ M B lo ch wt sn vo mo le ln od fe se (zset td (plZ td x tc.toNat) x) (zset th (plZ td x tc.toNat) y) cnt bw bs pl tk tc sill day lau)) : ∃ (td1 th1 : Int → Int) (tc1 : Int), (if pcZ dy x tc tc.toNat = tc then tc + 1 else tc) = tc1 ∧ RelS M B hf wt sn wg at_ td1 th1 (zset dy (pcZ dy x tc tc.toNat) x) (zset ti (pcZ dy x tc tc.toNat) y) cnt bw bs pl tc1 sill day lau cnt pl tc1 sill day lau ∧ u = wX adX cI cJ M B lo ch wt sn vo mo le ln od fe se td1 th1 cnt bw bs pl tk tc1 sill day lau := by
  have hP := tideP r x
  have t0 := r.t0
  have t1 := r.t1
  have hbd : ((0 ≤ x ∧ x ≤ 9999) ∧ (0 ≤ y ∧ y ≤ 99)) ∧ ¬ (tc = 40 ∧ plZ td x tc.toNat = -1) := by
    unfold tcTide at hq
    (repeat' split at hq) <;> omega
  obtain ⟨⟨⟨x0, x1⟩, y0, y1⟩, h40⟩ := hbd
  rcases plZ_cases (td := td) (day := x) tc.toNat with ⟨hp, hn⟩ | ⟨k, hk1, hk2, hk3⟩
  · rw [if_pos hp] at hP hu
    have hn' : ∀ j : Int, 0 ≤ j → j < tc → td j ≠ x := fun j h1 h2 => by
      have := hn j.toNat (by omega)
      rw [Int.toNat_of_nonneg h1] at this
      exact this
    refine ⟨_, _, tc + 1, if_pos hP, ?_, hu⟩
    rw [hP]
    have hta : ∀ j : Int, 0 ≤ j → j < tc + 1 → zset dy tc x j = zset td tc x j ∧ zset ti tc y j = zset th tc y j := by
      intro j h1 h2
      by_cases e : j = tc
      · subst e; rw [zset_eq, zset_eq, zset_eq, zset_eq]; exact ⟨rfl, rfl⟩
      · rw [zset_ne _ e, zset_ne _ e, zset_ne _ e, zset_ne _ e]; exact r.ta j h1 (by omega)
    exact ⟨r.rh, r.hM, r.hB, r.c0, r.c1, r.en, r.wa, r.w0, r.gb, r.ab, r.wk, r.b0, r.b1, r.s0, r.s1, r.el, r.p0, r.p1, rfl, (by omega), (by omega), hta, uqZ_more r.hu hn', zset_bd r.td0 x0 x1, zset_bd r.dy0 x0 x1, zset_bd r.th0 y0 y1, zset_bd r.ti0 y0 y1, r.es, r.l0, r.l1, r.ed, r.d0, r.d1, r.ei, r.i0⟩
  · have hne : ¬ plZ td x tc.toNat = -1 := by omega
    rw [if_neg hne] at hP hu
    rw [hk2] at hP hu
    refine ⟨_, _, tc, if_neg (by omega), ?_, hu⟩
    rw [hP, zset_same hk3]
    have hdk : dy (k : Int) = x := by rw [(r.ta k (by omega) (by omega)).1, hk3]
    rw [zset_same hdk]
    have hta : ∀ j : Int, 0 ≤ j → j < tc → dy j = td j ∧ zset ti (k : Int) y j = zset th (k : Int) y j := by
      intro j h1 h2
      refine ⟨(r.ta j h1 h2).1, ?_⟩
      by_cases e : j = (k : Int)
      · subst e; rw [zset_eq, zset_eq]
      · rw [zset_ne _ e, zset_ne _ e]; exact (r.ta j h1 h2).2
    exact ⟨r.rh, r.hM, r.hB, r.c0, r.c1, r.en, r.wa, r.w0, r.gb, r.ab, r.wk, r.b0, r.b1, r.s0, r.s1, r.el, r.p0, r.p1, r.et, r.t0, r.t1, hta, r.hu, r.td0, r.dy0, zset_bd r.th0 y0 y1, zset_bd r.ti0 y0 y1, r.es, r.l0, r.l1, r.ed, r.d0, r.d1, r.ei, r.i0⟩
theorem tideR {cI : ClassId} {M B : Int → Int → Int} {wt sn td th hf at_ wg dy ti : Int → Int} {cnt bw bs pl tc sill day lau : Int} (r : RelS M B hf wt sn wg at_ td th dy ti cnt bw bs pl tc sill day lau cnt pl tc sill day lau) {adM : Nat → Nat} {lf cf bh ln2 : Int → Int} {x y r2 : Int} {w2 : va_W} (h : (¬ ((0 ≤ x ∧ x ≤ 9999) ∧ (0 ≤ y ∧ y ≤ 99)) ∧ w2 = wM adM cI hf at_ wg lf cf dy ti bh ln2 1 cnt pl tc sill day lau) ∨ (((0 ≤ x ∧ x ≤ 9999) ∧ (0 ≤ y ∧ y ≤ 99)) ∧ pcZ dy x tc tc.toNat = 40 ∧ w2 = wM adM cI hf at_ wg lf cf dy ti bh ln2 2 cnt pl tc sill day lau) ∨ (((0 ≤ x ∧ x ≤ 9999) ∧ (0 ≤ y ∧ y ≤ 99)) ∧ pcZ dy x tc tc.toNat ≠ 40 ∧ r2 = tdZ dy ti x tc.toNat ∧ w2 = wM adM cI hf at_ wg lf cf (zset dy (pcZ dy x tc tc.toNat) x) (zset ti (pcZ dy x tc tc.toNat) y) bh ln2 0 cnt pl (if pcZ dy x tc tc.toNat = tc then tc + 1 else tc) sill day lau)) : (tcTide x y tc (plZ td x tc.toNat) ≠ 0 ∧ w2 = wM adM cI hf at_ wg lf cf dy ti bh ln2 (tcTide x y tc (plZ td x tc.toNat)) cnt pl tc sill day lau) ∨ (tcTide x y tc (plZ td x tc.toNat) = 0 ∧ r2 = tdZ dy ti x tc.toNat ∧ w2 = wM adM cI hf at_ wg lf cf (zset dy (pcZ dy x tc tc.toNat) x) (zset ti (pcZ dy x tc tc.toNat) y) bh ln2 0 cnt pl (if pcZ dy x tc tc.toNat = tc then tc + 1 else tc) sill day lau) := by
  have hP := tideP r x
  have t0 := r.t0
  have t1 := r.t1
  have hkey : pcZ dy x tc tc.toNat = 40 ↔ (tc = 40 ∧ plZ td x tc.toNat = -1) := by
    rw [hP]
    rcases plZ_cases (td := td) (day := x) tc.toNat with ⟨hp, hn⟩ | ⟨k, hk1, hk2, hk3⟩
    · rw [if_pos hp]; omega
    · rw [if_neg (by omega)]; omega
  rcases h with ⟨h1, h2⟩ | ⟨h1, h2, h3⟩ | ⟨h1, h2, h3, h4⟩
  · have e : tcTide x y tc (plZ td x tc.toNat) = 1 := by unfold tcTide; rw [if_pos (by omega)]
    rw [e]; exact Or.inl ⟨by decide, h2⟩
  · have e : tcTide x y tc (plZ td x tc.toNat) = 2 := by unfold tcTide; rw [if_neg (by omega), if_pos (hkey.mp h2)]
    rw [e]; exact Or.inl ⟨by decide, h3⟩
  · have e : tcTide x y tc (plZ td x tc.toNat) = 0 := by unfold tcTide; rw [if_neg (by omega), if_neg (fun q => h2 (hkey.mpr q))]
    rw [e]; exact Or.inr ⟨rfl, h3, h4⟩
section ARMS4
variable {p : Program} {l : Launch} {e : Env} {s : State} {m : MethodId} {args : Array Value} {below : List Frame} {meth : Method} {c : Code} {A : Nat → Prop} {D : va_G} {Q : State → Prop} {cells slots : Nat} {ws : va_W} {cI cJ cL : ClassId} {b L fb mdl o : Nat} {xs : Nat → Int32} {k : Int}
set_option maxHeartbeats 4000000 in
set_option maxRecDepth 100000 in
theorem arm_tide (C : Cx p s m args meth c 7 A D cI cJ cL cL_law wsL_law RL) (hl0 : l.stackTraces = false) (hX : va_X b L xs s s.heap) (hbl : b < s.heap.size) (hbA : ¬ A b) (hL : L ≤ 2048) (k0 : 0 ≤ k) (k1 : k + 4 ≤ L) (hc : cells + 4 ≤ 601024) (hs : slots + 24 ≤ 7293034) (hW : LWp fb mdl o cI cJ cL ws) (kk : ∀ ws' : va_W, LWp fb mdl o cI cJ cL ws' → Z p l e room_1 s m args below meth c 7 A D Q (cells + 4) (slots + 24) ws' [.ref b, .ref fb, .ref mdl, .ref o, .int (iI k), .null, .null] 1264 []) : Z p l e room_1 s m args below meth c 7 A D Q cells slots ws [.ref b, .ref fb, .ref mdl, .ref o, .int (iI k), .null, .null] 1014 [] := by
  obtain ⟨adX, adM, M, B, lo, ch, wt, sn, vo, mo, le, ln, od, fe, se, td, th, cnt, bw, bs, pl, tk, tc, sill, day, lau, hf, at_, wg, lf, cf, dy, ti, bh, ln2, thr, v, rfl, rfl, r, rfl⟩ := hW
  obtain ⟨x1, hx1, e1⟩ : ∃ x : Int, inr x ∧ (xs (k + 1).toNat).toInt = x := ⟨_, inr_of _, rfl⟩
  obtain ⟨x2, hx2, e2⟩ : ∃ x : Int, inr x ∧ (xs (k + 2).toNat).toInt = x := ⟨_, inr_of _, rfl⟩
  have htc : 0 ≤ tcTide x1 x2 tc (plZ td x1 tc.toNat) ∧ tcTide x1 x2 tc (plZ td x1 tc.toNat) ≤ 3 := by unfold tcTide; (repeat' split) <;> omega
  refine Z.aload_n C dL_law_1014 rfl ?_
  refine Z.aload_n C dL_law_1015 rfl ?_
  refine Z.iload C dL_law_1016 rfl ?_
  refine Z.iconst C dL_law_1018 ?_
  refine Z.iadd C dL_law_1019 ?_
  refine Z.sld C hX hbl hbA (by omega) (by omega) hL dL_law_1020 ?_
  rw [e1]
  refine Z.aload_n C dL_law_1021 rfl ?_
  refine Z.iload C dL_law_1022 rfl ?_
  refine Z.iconst C dL_law_1024 ?_
  refine Z.iadd C dL_law_1025 ?_
  refine Z.sld C hX hbl hbA (by omega) (by omega) hL dL_law_1026 ?_
  rw [e2]
  refine Z.aload_n C dL_law_1027 rfl ?_
  refine Z.xSXIf (R := room_1) C (wr := wM adM cI hf at_ wg lf cf dy ti bh ln2 thr cnt pl tc sill day lau) 4 (h_tide l D cI cJ cL adX M B lo ch wt sn vo mo le ln od fe se td th cnt bw bs pl tk tc sill day lau hl0 r.t0 r.t1 r.hu r.td0 x1 x2 hx1 hx2 o v) gL_law_L_tide rfl rfl rfl (by decide +kernel) ⟨Nat.le_of_ble_eq_true rfl, Nat.le_of_ble_eq_true rfl⟩ rfl rfl (Nat.le_of_ble_eq_true rfl) ⟨by show cells + 3 ≤ 601024; omega, by show slots + 18 ≤ 7293034; omega⟩ dL_law_1028 (fun r1 w1 h1 => ?_) (fun E w1 hE => hE.elim)
  refine Z.istore C dL_law_1031 (by decide) ?_
  rcases h1 with ⟨E, u, ⟨hu, hE⟩, hm, rfl⟩ | ⟨rfl, v1, u, ⟨hq, hv, hu⟩, rfl⟩
  · subst hu
    have hq := exA_r hE hm
    refine Z.aload_n C dL_law_1033 rfl ?_
    refine Z.aload_n C dL_law_1034 rfl ?_
    refine Z.iload C dL_law_1035 rfl ?_
    refine Z.iconst C dL_law_1037 ?_
    refine Z.iadd C dL_law_1038 ?_
    refine Z.sld C hX hbl hbA (by omega) (by omega) hL dL_law_1039 ?_
    rw [e1]
    refine Z.aload_n C dL_law_1040 rfl ?_
    refine Z.iload C dL_law_1041 rfl ?_
    refine Z.iconst C dL_law_1043 ?_
    refine Z.iadd C dL_law_1044 ?_
    refine Z.sld C hX hbl hbA (by omega) (by omega) hL dL_law_1045 ?_
    rw [e2]
    refine Z.swap ?_
    refine Z.cVIf (R := room_1) C (wr := (o, oE cL v) :: wX adX cI cJ M B lo ch wt sn vo mo le ln od fe se td th cnt bw bs pl tk tc sill day lau) (wc := wM adM cI hf at_ wg lf cf dy ti bh ln2 thr cnt pl tc sill day lau) 0 2 (m_tide l D cI cJ cL adM hf at_ wg lf cf dy ti bh ln2 thr cnt pl tc sill day lau r.t0 r.t1 r.dy0 x1 x2 hx1 hx2) rfl rfl gL_law_X7_tide rfl rfl rfl (by decide +kernel) ⟨Nat.le_of_ble_eq_true rfl, Nat.le_of_ble_eq_true rfl⟩ rfl rfl (Nat.le_of_ble_eq_true rfl) ⟨by show cells + 3 ≤ 601024; omega, by show slots + 18 ≤ 7293034; omega⟩ dL_law_1046 (fun r2 w2 h2 => ?_)
    refine Z.istore C dL_law_1049 (by decide) ?_
    replace h2 := tideR r h2
    obtain ⟨hz, rfl⟩ := h2.resolve_right (fun h => by have := h.1; omega)
    refine Z.aload_n C dL_law_1051 rfl ?_
    refine Z.cVIf (R := room_1) C (wr := (o, oE cL v) :: wX adX cI cJ M B lo ch wt sn vo mo le ln od fe se td th cnt bw bs pl tk tc sill day lau) (wc := wM adM cI hf at_ wg lf cf dy ti bh ln2 (tcTide x1 x2 tc (plZ td x1 tc.toNat)) cnt pl tc sill day lau) 0 0 (m_thrown l D cI cJ cL adM hf at_ wg lf cf dy ti bh ln2 (tcTide x1 x2 tc (plZ td x1 tc.toNat)) cnt pl tc sill day lau) rfl rfl gL_law_X7_thrown rfl rfl rfl (by decide +kernel) ⟨Nat.le_of_ble_eq_true rfl, Nat.le_of_ble_eq_true rfl⟩ rfl rfl (Nat.le_of_ble_eq_true rfl) ⟨by show cells + 3 ≤ 601024; omega, by show slots + 18 ≤ 7293034; omega⟩ dL_law_1052 (fun r3 w3 h3 => ?_)
    obtain ⟨rfl, rfl⟩ := h3
    refine Z.iload C dL_law_1055 rfl ?_
    refine Z.icmpeq C 1062 dL_law_1057 (by decide) ⟨by omega, by omega⟩ ⟨by omega, by omega⟩ (fun hcmp => ?_) (fun hcmp => absurd (by omega) hcmp)
    refine Z.iload C dL_law_1062 rfl ?_
    refine Z.ifne C 1079 dL_law_1064 (by decide) ⟨by omega, by omega⟩ (fun hcmp => ?_) (fun hcmp => absurd hcmp (by omega))
    refine Z.goto C 1264 dL_law_1079 (by decide) ?_
    refine Z.swap ?_
    refine Z.widen (k := cells + 4) (n := slots + 24) (by omega) (by omega) ?_
    refine Z.lvw (lv' := [.ref b, .ref (adX 0), .ref (adM 0), .ref o, .int (iI k), .null, .null]) (fun i v9 h9 hne => lv7 i v9 h9 hne) ?_
    exact kk _ ⟨adX, adM, M, B, lo, ch, wt, sn, vo, mo, le, ln, od, fe, se, td, th, cnt, bw, bs, pl, tk, tc, sill, day, lau, hf, at_, wg, lf, cf, dy, ti, bh, ln2, tcTide x1 x2 tc (plZ td x1 tc.toNat), _, rfl, rfl, r, rfl⟩
  · obtain ⟨td1, th1, tc1, hT1, hT, rfl⟩ := tideU r hq hu
    refine Z.aload_n C dL_law_1033 rfl ?_
    refine Z.aload_n C dL_law_1034 rfl ?_
    refine Z.iload C dL_law_1035 rfl ?_
    refine Z.iconst C dL_law_1037 ?_
    refine Z.iadd C dL_law_1038 ?_
    refine Z.sld C hX hbl hbA (by omega) (by omega) hL dL_law_1039 ?_
    rw [e1]
    refine Z.aload_n C dL_law_1040 rfl ?_
    refine Z.iload C dL_law_1041 rfl ?_
    refine Z.iconst C dL_law_1043 ?_
    refine Z.iadd C dL_law_1044 ?_
    refine Z.sld C hX hbl hbA (by omega) (by omega) hL dL_law_1045 ?_
    rw [e2]
    refine Z.swap ?_
    refine Z.cVIf (R := room_1) C (wr := (o, oE cL v1) :: wX adX cI cJ M B lo ch wt sn vo mo le ln od fe se td1 th1 cnt bw bs pl tk tc1 sill day lau) (wc := wM adM cI hf at_ wg lf cf dy ti bh ln2 thr cnt pl tc sill day lau) 0 2 (m_tide l D cI cJ cL adM hf at_ wg lf cf dy ti bh ln2 thr cnt pl tc sill day lau r.t0 r.t1 r.dy0 x1 x2 hx1 hx2) rfl rfl gL_law_X7_tide rfl rfl rfl (by decide +kernel) ⟨Nat.le_of_ble_eq_true rfl, Nat.le_of_ble_eq_true rfl⟩ rfl rfl (Nat.le_of_ble_eq_true rfl) ⟨by show cells + 3 ≤ 601024; omega, by show slots + 18 ≤ 7293034; omega⟩ dL_law_1046 (fun r2 w2 h2 => ?_)
    refine Z.istore C dL_law_1049 (by decide) ?_
    replace h2 := tideR r h2
    obtain ⟨hz, hr2, hw2⟩ := h2.resolve_left (fun h => h.1 hq)
    rw [hT1] at hw2
    subst hw2
    refine Z.aload_n C dL_law_1051 rfl ?_
    refine Z.cVIf (R := room_1) C (wr := (o, oE cL v1) :: wX adX cI cJ M B lo ch wt sn vo mo le ln od fe se td1 th1 cnt bw bs pl tk tc1 sill day lau) (wc := wM adM cI hf at_ wg lf cf (zset dy (pcZ dy x1 tc tc.toNat) x1) (zset ti (pcZ dy x1 tc tc.toNat) x2) bh ln2 0 cnt pl tc1 sill day lau) 0 0 (m_thrown l D cI cJ cL adM hf at_ wg lf cf (zset dy (pcZ dy x1 tc tc.toNat) x1) (zset ti (pcZ dy x1 tc tc.toNat) x2) bh ln2 0 cnt pl tc1 sill day lau) rfl rfl gL_law_X7_thrown rfl rfl rfl (by decide +kernel) ⟨Nat.le_of_ble_eq_true rfl, Nat.le_of_ble_eq_true rfl⟩ rfl rfl (Nat.le_of_ble_eq_true rfl) ⟨by show cells + 3 ≤ 601024; omega, by show slots + 18 ≤ 7293034; omega⟩ dL_law_1052 (fun r3 w3 h3 => ?_)
    obtain ⟨rfl, rfl⟩ := h3
    refine Z.iload C dL_law_1055 rfl ?_
    refine Z.icmpeq C 1062 dL_law_1057 (by decide) ⟨by omega, by omega⟩ ⟨by omega, by omega⟩ (fun hcmp => ?_) (fun hcmp => absurd (by omega) hcmp)
    refine Z.iload C dL_law_1062 rfl ?_
    refine Z.ifne C 1079 dL_law_1064 (by decide) ⟨by omega, by omega⟩ (fun hcmp => absurd rfl hcmp) (fun hcmp => ?_)
    refine Z.aload_n C dL_law_1067 rfl ?_
    refine Z.iconst C dL_law_1068 ?_
    refine Z.laldO C 0 rfl dL_law_1069 ?_
    refine Z.iload C dL_law_1070 rfl ?_
    refine Z.i2l C dL_law_1072 ?_
    rw [hv, hr2, r.tdE]
    refine Z.lcmpE C dL_law_1073 ?_
    refine Z.ifeq C 1079 dL_law_1074 (by decide) ⟨by decide, by decide⟩ (fun hcmp => ?_) (fun hcmp => absurd rfl hcmp)
    refine Z.goto C 1264 dL_law_1079 (by decide) ?_
    refine Z.swap ?_
    refine Z.widen (k := cells + 4) (n := slots + 24) (by omega) (by omega) ?_
    refine Z.lvw (lv' := [.ref b, .ref (adX 0), .ref (adM 0), .ref o, .int (iI k), .null, .null]) (fun i v9 h9 hne => lv7 i v9 h9 hne) ?_
    exact kk _ ⟨adX, adM, M, B, lo, ch, wt, sn, vo, mo, le, ln, od, fe, se, td1, th1, cnt, bw, bs, pl, tk, tc1, sill, day, lau, hf, at_, wg, lf, cf, zset dy (pcZ dy x1 tc tc.toNat) x1, zset ti (pcZ dy x1 tc tc.toNat) x2, bh, ln2, 0, _, rfl, rfl, hT, rfl⟩
set_option maxHeartbeats 4000000 in
set_option maxRecDepth 100000 in
theorem arm_plankOf0 (C : Cx p s m args meth c 7 A D cI cJ cL cL_law wsL_law RL) (hl0 : l.stackTraces = false) (hX : va_X b L xs s s.heap) (hbl : b < s.heap.size) (hbA : ¬ A b) (hL : L ≤ 2048) (k0 : 0 ≤ k) (k1 : k + 4 ≤ L) (hc : cells + 4 ≤ 601024) (hs : slots + 24 ≤ 7293034) (hW : LWp fb mdl o cI cJ cL ws) (kk : ∀ ws' : va_W, LWp fb mdl o cI cJ cL ws' → Z p l e room_1 s m args below meth c 7 A D Q (cells + 4) (slots + 24) ws' [.ref b, .ref fb, .ref mdl, .ref o, .int (iI k), .null, .null] 1264 []) (hb : (xs (k + 2).toNat).toInt = 0) : Z p l e room_1 s m args below meth c 7 A D Q cells slots ws [.ref b, .ref fb, .ref mdl, .ref o, .int (iI k), .null, .null] 930 [] := by
  obtain ⟨adX, adM, M, B, lo, ch, wt, sn, vo, mo, le, ln, od, fe, se, td, th, cnt, bw, bs, pl, tk, tc, sill, day, lau, hf, at_, wg, lf, cf, dy, ti, bh, ln2, thr, v, rfl, rfl, r, rfl⟩ := hW
  obtain ⟨x1, hx1, e1⟩ : ∃ x : Int, inr x ∧ (xs (k + 1).toNat).toInt = x := ⟨_, inr_of _, rfl⟩
  obtain ⟨x2, hx2, e2⟩ : ∃ x : Int, inr x ∧ (xs (k + 2).toNat).toInt = x := ⟨_, inr_of _, rfl⟩
  rw [e2] at hb
  have htc : 0 ≤ tcK x1 ∧ tcK x1 ≤ 3 := by unfold tcK; (repeat' split) <;> omega
  refine Z.aload_n C dL_law_930 rfl ?_
  refine Z.aload_n C dL_law_931 rfl ?_
  refine Z.iload C dL_law_932 rfl ?_
  refine Z.iconst C dL_law_934 ?_
  refine Z.iadd C dL_law_935 ?_
  refine Z.sld C hX hbl hbA (by omega) (by omega) hL dL_law_936 ?_
  rw [e1]
  refine Z.aload_n C dL_law_937 rfl ?_
  refine Z.iload C dL_law_938 rfl ?_
  refine Z.iconst C dL_law_940 ?_
  refine Z.iadd C dL_law_941 ?_
  refine Z.sld C hX hbl hbA (by omega) (by omega) hL dL_law_942 ?_
  rw [e2]
  refine Z.ifeq C 950 dL_law_943 (by decide) hx2 (fun _ => ?_) (fun h => absurd hb h)
  refine Z.iconst C dL_law_950 ?_
  refine Z.aload_n C dL_law_951 rfl ?_
  refine Z.xSXIf (R := room_1) C (wr := wM adM cI hf at_ wg lf cf dy ti bh ln2 thr cnt pl tc sill day lau) 4 (h_plankOf l D cI cJ cL adX M B lo ch wt sn vo mo le ln od fe se td th cnt bw bs pl tk tc sill day lau hl0 r.hM r.p0 r.p1 x1 0 hx1 (Or.inl rfl) o v) gL_law_L_plankOf rfl rfl rfl (by decide +kernel) ⟨Nat.le_of_ble_eq_true rfl, Nat.le_of_ble_eq_true rfl⟩ rfl rfl (Nat.le_of_ble_eq_true rfl) ⟨by show cells + 1 ≤ 601024; omega, by show slots + 6 ≤ 7293034; omega⟩ dL_law_952 (fun r1 w1 h1 => ?_) (fun E w1 hE => hE.elim)
  refine Z.istore C dL_law_955 (by decide) ?_
  rcases h1 with ⟨E, u, ⟨hu, hE⟩, hm, rfl⟩ | ⟨rfl, v1, u, ⟨hq, hv, hu⟩, rfl⟩
  · subst hu
    have hq := exX_r hE hm
    refine Z.aload_n C dL_law_957 rfl ?_
    refine Z.aload_n C dL_law_958 rfl ?_
    refine Z.iload C dL_law_959 rfl ?_
    refine Z.iconst C dL_law_961 ?_
    refine Z.iadd C dL_law_962 ?_
    refine Z.sld C hX hbl hbA (by omega) (by omega) hL dL_law_963 ?_
    rw [e1]
    refine Z.aload_n C dL_law_964 rfl ?_
    refine Z.iload C dL_law_965 rfl ?_
    refine Z.iconst C dL_law_967 ?_
    refine Z.iadd C dL_law_968 ?_
    refine Z.sld C hX hbl hbA (by omega) (by omega) hL dL_law_969 ?_
    rw [e2]
    refine Z.ifeq C 977 dL_law_970 (by decide) hx2 (fun _ => ?_) (fun h => absurd hb h)
    refine Z.iconst C dL_law_977 ?_
    refine Z.swap ?_
    refine Z.cVIf (R := room_1) C (wr := (o, oE cL v) :: wX adX cI cJ M B lo ch wt sn vo mo le ln od fe se td th cnt bw bs pl tk tc sill day lau) (wc := wM adM cI hf at_ wg lf cf dy ti bh ln2 thr cnt pl tc sill day lau) 0 2 (m_plankOf l D cI cJ cL adM hf at_ wg lf cf dy ti bh ln2 thr cnt pl tc sill day lau M r.hM r.rh r.p0 r.p1 x1 0 hx1 (Or.inl rfl)) rfl rfl gL_law_X7_plankOf rfl rfl rfl (by decide +kernel) ⟨Nat.le_of_ble_eq_true rfl, Nat.le_of_ble_eq_true rfl⟩ rfl rfl (Nat.le_of_ble_eq_true rfl) ⟨by show cells + 1 ≤ 601024; omega, by show slots + 6 ≤ 7293034; omega⟩ dL_law_978 (fun r2 w2 h2 => ?_)
    refine Z.istore C dL_law_981 (by decide) ?_
    obtain ⟨hz, rfl⟩ := h2.resolve_right (fun h => by have := h.1; omega)
    refine Z.aload_n C dL_law_983 rfl ?_
    refine Z.cVIf (R := room_1) C (wr := (o, oE cL v) :: wX adX cI cJ M B lo ch wt sn vo mo le ln od fe se td th cnt bw bs pl tk tc sill day lau) (wc := wM adM cI hf at_ wg lf cf dy ti bh ln2 (tcK x1) cnt pl tc sill day lau) 0 0 (m_thrown l D cI cJ cL adM hf at_ wg lf cf dy ti bh ln2 (tcK x1) cnt pl tc sill day lau) rfl rfl gL_law_X7_thrown rfl rfl rfl (by decide +kernel) ⟨Nat.le_of_ble_eq_true rfl, Nat.le_of_ble_eq_true rfl⟩ rfl rfl (Nat.le_of_ble_eq_true rfl) ⟨by show cells + 1 ≤ 601024; omega, by show slots + 6 ≤ 7293034; omega⟩ dL_law_984 (fun r3 w3 h3 => ?_)
    obtain ⟨rfl, rfl⟩ := h3
    refine Z.iload C dL_law_987 rfl ?_
    refine Z.icmpeq C 994 dL_law_989 (by decide) ⟨by omega, by omega⟩ ⟨by omega, by omega⟩ (fun hcmp => ?_) (fun hcmp => absurd (by omega) hcmp)
    refine Z.iload C dL_law_994 rfl ?_
    refine Z.ifne C 1011 dL_law_996 (by decide) ⟨by omega, by omega⟩ (fun hcmp => ?_) (fun hcmp => absurd hcmp (by omega))
    refine Z.goto C 1264 dL_law_1011 (by decide) ?_
    refine Z.swap ?_
    refine Z.widen (k := cells + 4) (n := slots + 24) (by omega) (by omega) ?_
    refine Z.lvw (lv' := [.ref b, .ref (adX 0), .ref (adM 0), .ref o, .int (iI k), .null, .null]) (fun i v9 h9 hne => lv7 i v9 h9 hne) ?_
    exact kk _ ⟨adX, adM, M, B, lo, ch, wt, sn, vo, mo, le, ln, od, fe, se, td, th, cnt, bw, bs, pl, tk, tc, sill, day, lau, hf, at_, wg, lf, cf, dy, ti, bh, ln2, tcK x1, _, rfl, rfl, r, rfl⟩
  · obtain ⟨le1, ln1, od1, fe1, se1, tk1, rfl⟩ := hu
    refine Z.aload_n C dL_law_957 rfl ?_
    refine Z.aload_n C dL_law_958 rfl ?_
    refine Z.iload C dL_law_959 rfl ?_
    refine Z.iconst C dL_law_961 ?_
    refine Z.iadd C dL_law_962 ?_
    refine Z.sld C hX hbl hbA (by omega) (by omega) hL dL_law_963 ?_
    rw [e1]
    refine Z.aload_n C dL_law_964 rfl ?_
    refine Z.iload C dL_law_965 rfl ?_
    refine Z.iconst C dL_law_967 ?_
    refine Z.iadd C dL_law_968 ?_
    refine Z.sld C hX hbl hbA (by omega) (by omega) hL dL_law_969 ?_
    rw [e2]
    refine Z.ifeq C 977 dL_law_970 (by decide) hx2 (fun _ => ?_) (fun h => absurd hb h)
    refine Z.iconst C dL_law_977 ?_
    refine Z.swap ?_
    refine Z.cVIf (R := room_1) C (wr := (o, oE cL v1) :: wX adX cI cJ M B lo ch wt sn vo mo le1 ln1 od1 fe1 se1 td th cnt bw bs pl tk1 tc sill day lau) (wc := wM adM cI hf at_ wg lf cf dy ti bh ln2 thr cnt pl tc sill day lau) 0 2 (m_plankOf l D cI cJ cL adM hf at_ wg lf cf dy ti bh ln2 thr cnt pl tc sill day lau M r.hM r.rh r.p0 r.p1 x1 0 hx1 (Or.inl rfl)) rfl rfl gL_law_X7_plankOf rfl rfl rfl (by decide +kernel) ⟨Nat.le_of_ble_eq_true rfl, Nat.le_of_ble_eq_true rfl⟩ rfl rfl (Nat.le_of_ble_eq_true rfl) ⟨by show cells + 1 ≤ 601024; omega, by show slots + 6 ≤ 7293034; omega⟩ dL_law_978 (fun r2 w2 h2 => ?_)
    refine Z.istore C dL_law_981 (by decide) ?_
    obtain ⟨hz, hr2, lf1, cf1, rfl⟩ := h2.resolve_left (fun h => h.1 hq)
    refine Z.aload_n C dL_law_983 rfl ?_
    refine Z.cVIf (R := room_1) C (wr := (o, oE cL v1) :: wX adX cI cJ M B lo ch wt sn vo mo le1 ln1 od1 fe1 se1 td th cnt bw bs pl tk1 tc sill day lau) (wc := wM adM cI hf at_ wg lf1 cf1 dy ti bh ln2 0 cnt pl tc sill day lau) 0 0 (m_thrown l D cI cJ cL adM hf at_ wg lf1 cf1 dy ti bh ln2 0 cnt pl tc sill day lau) rfl rfl gL_law_X7_thrown rfl rfl rfl (by decide +kernel) ⟨Nat.le_of_ble_eq_true rfl, Nat.le_of_ble_eq_true rfl⟩ rfl rfl (Nat.le_of_ble_eq_true rfl) ⟨by show cells + 1 ≤ 601024; omega, by show slots + 6 ≤ 7293034; omega⟩ dL_law_984 (fun r3 w3 h3 => ?_)
    obtain ⟨rfl, rfl⟩ := h3
    refine Z.iload C dL_law_987 rfl ?_
    refine Z.icmpeq C 994 dL_law_989 (by decide) ⟨by omega, by omega⟩ ⟨by omega, by omega⟩ (fun hcmp => ?_) (fun hcmp => absurd (by omega) hcmp)
    refine Z.iload C dL_law_994 rfl ?_
    refine Z.ifne C 1011 dL_law_996 (by decide) ⟨by omega, by omega⟩ (fun hcmp => absurd rfl hcmp) (fun hcmp => ?_)
    refine Z.aload_n C dL_law_999 rfl ?_
    refine Z.iconst C dL_law_1000 ?_
    refine Z.laldO C 0 rfl dL_law_1001 ?_
    refine Z.iload C dL_law_1002 rfl ?_
    refine Z.i2l C dL_law_1004 ?_
    rw [hv, hr2]
    refine Z.lcmpE C dL_law_1005 ?_
    refine Z.ifeq C 1011 dL_law_1006 (by decide) ⟨by decide, by decide⟩ (fun hcmp => ?_) (fun hcmp => absurd rfl hcmp)
    refine Z.goto C 1264 dL_law_1011 (by decide) ?_
    refine Z.swap ?_
    refine Z.widen (k := cells + 4) (n := slots + 24) (by omega) (by omega) ?_
    refine Z.lvw (lv' := [.ref b, .ref (adX 0), .ref (adM 0), .ref o, .int (iI k), .null, .null]) (fun i v9 h9 hne => lv7 i v9 h9 hne) ?_
    exact kk _ ⟨adX, adM, M, B, lo, ch, wt, sn, vo, mo, le1, ln1, od1, fe1, se1, td, th, cnt, bw, bs, pl, tk1, tc, sill, day, lau, hf, at_, wg, lf1, cf1, dy, ti, bh, ln2, 0, _, rfl, rfl, ⟨r.rh, r.hM, r.hB, r.c0, r.c1, r.en, r.wa, r.w0, r.gb, r.ab, r.wk, r.b0, r.b1, r.s0, r.s1, r.el, r.p0, r.p1, r.et, r.t0, r.t1, r.ta, r.hu, r.td0, r.dy0, r.th0, r.ti0, r.es, r.l0, r.l1, r.ed, r.d0, r.d1, r.ei, r.i0⟩, rfl⟩
set_option maxHeartbeats 4000000 in
set_option maxRecDepth 100000 in
theorem arm_plankOf1 (C : Cx p s m args meth c 7 A D cI cJ cL cL_law wsL_law RL) (hl0 : l.stackTraces = false) (hX : va_X b L xs s s.heap) (hbl : b < s.heap.size) (hbA : ¬ A b) (hL : L ≤ 2048) (k0 : 0 ≤ k) (k1 : k + 4 ≤ L) (hc : cells + 4 ≤ 601024) (hs : slots + 24 ≤ 7293034) (hW : LWp fb mdl o cI cJ cL ws) (kk : ∀ ws' : va_W, LWp fb mdl o cI cJ cL ws' → Z p l e room_1 s m args below meth c 7 A D Q (cells + 4) (slots + 24) ws' [.ref b, .ref fb, .ref mdl, .ref o, .int (iI k), .null, .null] 1264 []) (hb : (xs (k + 2).toNat).toInt ≠ 0) : Z p l e room_1 s m args below meth c 7 A D Q cells slots ws [.ref b, .ref fb, .ref mdl, .ref o, .int (iI k), .null, .null] 930 [] := by
  obtain ⟨adX, adM, M, B, lo, ch, wt, sn, vo, mo, le, ln, od, fe, se, td, th, cnt, bw, bs, pl, tk, tc, sill, day, lau, hf, at_, wg, lf, cf, dy, ti, bh, ln2, thr, v, rfl, rfl, r, rfl⟩ := hW
  obtain ⟨x1, hx1, e1⟩ : ∃ x : Int, inr x ∧ (xs (k + 1).toNat).toInt = x := ⟨_, inr_of _, rfl⟩
  obtain ⟨x2, hx2, e2⟩ : ∃ x : Int, inr x ∧ (xs (k + 2).toNat).toInt = x := ⟨_, inr_of _, rfl⟩
  rw [e2] at hb
  have htc : 0 ≤ tcK x1 ∧ tcK x1 ≤ 3 := by unfold tcK; (repeat' split) <;> omega
  refine Z.aload_n C dL_law_930 rfl ?_
  refine Z.aload_n C dL_law_931 rfl ?_
  refine Z.iload C dL_law_932 rfl ?_
  refine Z.iconst C dL_law_934 ?_
  refine Z.iadd C dL_law_935 ?_
  refine Z.sld C hX hbl hbA (by omega) (by omega) hL dL_law_936 ?_
  rw [e1]
  refine Z.aload_n C dL_law_937 rfl ?_
  refine Z.iload C dL_law_938 rfl ?_
  refine Z.iconst C dL_law_940 ?_
  refine Z.iadd C dL_law_941 ?_
  refine Z.sld C hX hbl hbA (by omega) (by omega) hL dL_law_942 ?_
  rw [e2]
  refine Z.ifeq C 950 dL_law_943 (by decide) hx2 (fun h => absurd h hb) (fun _ => ?_)
  refine Z.iconst C dL_law_946 ?_
  refine Z.goto C 951 dL_law_947 (by decide) ?_
  refine Z.aload_n C dL_law_951 rfl ?_
  refine Z.xSXIf (R := room_1) C (wr := wM adM cI hf at_ wg lf cf dy ti bh ln2 thr cnt pl tc sill day lau) 4 (h_plankOf l D cI cJ cL adX M B lo ch wt sn vo mo le ln od fe se td th cnt bw bs pl tk tc sill day lau hl0 r.hM r.p0 r.p1 x1 1 hx1 (Or.inr rfl) o v) gL_law_L_plankOf rfl rfl rfl (by decide +kernel) ⟨Nat.le_of_ble_eq_true rfl, Nat.le_of_ble_eq_true rfl⟩ rfl rfl (Nat.le_of_ble_eq_true rfl) ⟨by show cells + 1 ≤ 601024; omega, by show slots + 6 ≤ 7293034; omega⟩ dL_law_952 (fun r1 w1 h1 => ?_) (fun E w1 hE => hE.elim)
  refine Z.istore C dL_law_955 (by decide) ?_
  rcases h1 with ⟨E, u, ⟨hu, hE⟩, hm, rfl⟩ | ⟨rfl, v1, u, ⟨hq, hv, hu⟩, rfl⟩
  · subst hu
    have hq := exX_r hE hm
    refine Z.aload_n C dL_law_957 rfl ?_
    refine Z.aload_n C dL_law_958 rfl ?_
    refine Z.iload C dL_law_959 rfl ?_
    refine Z.iconst C dL_law_961 ?_
    refine Z.iadd C dL_law_962 ?_
    refine Z.sld C hX hbl hbA (by omega) (by omega) hL dL_law_963 ?_
    rw [e1]
    refine Z.aload_n C dL_law_964 rfl ?_
    refine Z.iload C dL_law_965 rfl ?_
    refine Z.iconst C dL_law_967 ?_
    refine Z.iadd C dL_law_968 ?_
    refine Z.sld C hX hbl hbA (by omega) (by omega) hL dL_law_969 ?_
    rw [e2]
    refine Z.ifeq C 977 dL_law_970 (by decide) hx2 (fun h => absurd h hb) (fun _ => ?_)
    refine Z.iconst C dL_law_973 ?_
    refine Z.goto C 978 dL_law_974 (by decide) ?_
    refine Z.swap ?_
    refine Z.cVIf (R := room_1) C (wr := (o, oE cL v) :: wX adX cI cJ M B lo ch wt sn vo mo le ln od fe se td th cnt bw bs pl tk tc sill day lau) (wc := wM adM cI hf at_ wg lf cf dy ti bh ln2 thr cnt pl tc sill day lau) 0 2 (m_plankOf l D cI cJ cL adM hf at_ wg lf cf dy ti bh ln2 thr cnt pl tc sill day lau M r.hM r.rh r.p0 r.p1 x1 1 hx1 (Or.inr rfl)) rfl rfl gL_law_X7_plankOf rfl rfl rfl (by decide +kernel) ⟨Nat.le_of_ble_eq_true rfl, Nat.le_of_ble_eq_true rfl⟩ rfl rfl (Nat.le_of_ble_eq_true rfl) ⟨by show cells + 1 ≤ 601024; omega, by show slots + 6 ≤ 7293034; omega⟩ dL_law_978 (fun r2 w2 h2 => ?_)
    refine Z.istore C dL_law_981 (by decide) ?_
    obtain ⟨hz, rfl⟩ := h2.resolve_right (fun h => by have := h.1; omega)
    refine Z.aload_n C dL_law_983 rfl ?_
    refine Z.cVIf (R := room_1) C (wr := (o, oE cL v) :: wX adX cI cJ M B lo ch wt sn vo mo le ln od fe se td th cnt bw bs pl tk tc sill day lau) (wc := wM adM cI hf at_ wg lf cf dy ti bh ln2 (tcK x1) cnt pl tc sill day lau) 0 0 (m_thrown l D cI cJ cL adM hf at_ wg lf cf dy ti bh ln2 (tcK x1) cnt pl tc sill day lau) rfl rfl gL_law_X7_thrown rfl rfl rfl (by decide +kernel) ⟨Nat.le_of_ble_eq_true rfl, Nat.le_of_ble_eq_true rfl⟩ rfl rfl (Nat.le_of_ble_eq_true rfl) ⟨by show cells + 1 ≤ 601024; omega, by show slots + 6 ≤ 7293034; omega⟩ dL_law_984 (fun r3 w3 h3 => ?_)
    obtain ⟨rfl, rfl⟩ := h3
    refine Z.iload C dL_law_987 rfl ?_
    refine Z.icmpeq C 994 dL_law_989 (by decide) ⟨by omega, by omega⟩ ⟨by omega, by omega⟩ (fun hcmp => ?_) (fun hcmp => absurd (by omega) hcmp)
    refine Z.iload C dL_law_994 rfl ?_
    refine Z.ifne C 1011 dL_law_996 (by decide) ⟨by omega, by omega⟩ (fun hcmp => ?_) (fun hcmp => absurd hcmp (by omega))
    refine Z.goto C 1264 dL_law_1011 (by decide) ?_
    refine Z.swap ?_
    refine Z.widen (k := cells + 4) (n := slots + 24) (by omega) (by omega) ?_
    refine Z.lvw (lv' := [.ref b, .ref (adX 0), .ref (adM 0), .ref o, .int (iI k), .null, .null]) (fun i v9 h9 hne => lv7 i v9 h9 hne) ?_
    exact kk _ ⟨adX, adM, M, B, lo, ch, wt, sn, vo, mo, le, ln, od, fe, se, td, th, cnt, bw, bs, pl, tk, tc, sill, day, lau, hf, at_, wg, lf, cf, dy, ti, bh, ln2, tcK x1, _, rfl, rfl, r, rfl⟩
  · obtain ⟨le1, ln1, od1, fe1, se1, tk1, rfl⟩ := hu
    refine Z.aload_n C dL_law_957 rfl ?_
    refine Z.aload_n C dL_law_958 rfl ?_
    refine Z.iload C dL_law_959 rfl ?_
    refine Z.iconst C dL_law_961 ?_
    refine Z.iadd C dL_law_962 ?_
    refine Z.sld C hX hbl hbA (by omega) (by omega) hL dL_law_963 ?_
    rw [e1]
    refine Z.aload_n C dL_law_964 rfl ?_
    refine Z.iload C dL_law_965 rfl ?_
    refine Z.iconst C dL_law_967 ?_
    refine Z.iadd C dL_law_968 ?_
    refine Z.sld C hX hbl hbA (by omega) (by omega) hL dL_law_969 ?_
    rw [e2]
    refine Z.ifeq C 977 dL_law_970 (by decide) hx2 (fun h => absurd h hb) (fun _ => ?_)
    refine Z.iconst C dL_law_973 ?_
    refine Z.goto C 978 dL_law_974 (by decide) ?_
    refine Z.swap ?_
    refine Z.cVIf (R := room_1) C (wr := (o, oE cL v1) :: wX adX cI cJ M B lo ch wt sn vo mo le1 ln1 od1 fe1 se1 td th cnt bw bs pl tk1 tc sill day lau) (wc := wM adM cI hf at_ wg lf cf dy ti bh ln2 thr cnt pl tc sill day lau) 0 2 (m_plankOf l D cI cJ cL adM hf at_ wg lf cf dy ti bh ln2 thr cnt pl tc sill day lau M r.hM r.rh r.p0 r.p1 x1 1 hx1 (Or.inr rfl)) rfl rfl gL_law_X7_plankOf rfl rfl rfl (by decide +kernel) ⟨Nat.le_of_ble_eq_true rfl, Nat.le_of_ble_eq_true rfl⟩ rfl rfl (Nat.le_of_ble_eq_true rfl) ⟨by show cells + 1 ≤ 601024; omega, by show slots + 6 ≤ 7293034; omega⟩ dL_law_978 (fun r2 w2 h2 => ?_)
    refine Z.istore C dL_law_981 (by decide) ?_
    obtain ⟨hz, hr2, lf1, cf1, rfl⟩ := h2.resolve_left (fun h => h.1 hq)
    refine Z.aload_n C dL_law_983 rfl ?_
    refine Z.cVIf (R := room_1) C (wr := (o, oE cL v1) :: wX adX cI cJ M B lo ch wt sn vo mo le1 ln1 od1 fe1 se1 td th cnt bw bs pl tk1 tc sill day lau) (wc := wM adM cI hf at_ wg lf1 cf1 dy ti bh ln2 0 cnt pl tc sill day lau) 0 0 (m_thrown l D cI cJ cL adM hf at_ wg lf1 cf1 dy ti bh ln2 0 cnt pl tc sill day lau) rfl rfl gL_law_X7_thrown rfl rfl rfl (by decide +kernel) ⟨Nat.le_of_ble_eq_true rfl, Nat.le_of_ble_eq_true rfl⟩ rfl rfl (Nat.le_of_ble_eq_true rfl) ⟨by show cells + 1 ≤ 601024; omega, by show slots + 6 ≤ 7293034; omega⟩ dL_law_984 (fun r3 w3 h3 => ?_)
    obtain ⟨rfl, rfl⟩ := h3
    refine Z.iload C dL_law_987 rfl ?_
    refine Z.icmpeq C 994 dL_law_989 (by decide) ⟨by omega, by omega⟩ ⟨by omega, by omega⟩ (fun hcmp => ?_) (fun hcmp => absurd (by omega) hcmp)
    refine Z.iload C dL_law_994 rfl ?_
    refine Z.ifne C 1011 dL_law_996 (by decide) ⟨by omega, by omega⟩ (fun hcmp => absurd rfl hcmp) (fun hcmp => ?_)
    refine Z.aload_n C dL_law_999 rfl ?_
    refine Z.iconst C dL_law_1000 ?_
    refine Z.laldO C 0 rfl dL_law_1001 ?_
    refine Z.iload C dL_law_1002 rfl ?_
    refine Z.i2l C dL_law_1004 ?_
    rw [hv, hr2]
    refine Z.lcmpE C dL_law_1005 ?_
    refine Z.ifeq C 1011 dL_law_1006 (by decide) ⟨by decide, by decide⟩ (fun hcmp => ?_) (fun hcmp => absurd rfl hcmp)
    refine Z.goto C 1264 dL_law_1011 (by decide) ?_
    refine Z.swap ?_
    refine Z.widen (k := cells + 4) (n := slots + 24) (by omega) (by omega) ?_
    refine Z.lvw (lv' := [.ref b, .ref (adX 0), .ref (adM 0), .ref o, .int (iI k), .null, .null]) (fun i v9 h9 hne => lv7 i v9 h9 hne) ?_
    exact kk _ ⟨adX, adM, M, B, lo, ch, wt, sn, vo, mo, le1, ln1, od1, fe1, se1, td, th, cnt, bw, bs, pl, tk1, tc, sill, day, lau, hf, at_, wg, lf1, cf1, dy, ti, bh, ln2, 0, _, rfl, rfl, ⟨r.rh, r.hM, r.hB, r.c0, r.c1, r.en, r.wa, r.w0, r.gb, r.ab, r.wk, r.b0, r.b1, r.s0, r.s1, r.el, r.p0, r.p1, r.et, r.t0, r.t1, r.ta, r.hu, r.td0, r.dy0, r.th0, r.ti0, r.es, r.l0, r.l1, r.ed, r.d0, r.d1, r.ei, r.i0⟩, rfl⟩
end ARMS4
