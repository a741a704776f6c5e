/-! ===== the arms of the law ===== -/
def LWp (fb mdl o : Nat) (cI cJ cL : ClassId) (ws : va_W) : Prop := ∃ (adX adM : Nat → Nat) (M B : Int → Int → Int) (lo ch wt sn vo mo le ln od fe se td th : Int → Int) (cnt bw bs pl tk tc sill day lau : Int) (hf at_ wg lf cf dy ti bh ln2 : Int → Int) (thr v : Int), adX 0 = fb ∧ adM 0 = mdl ∧ RelS M B hf wt sn wg at_ td th dy ti cnt bw bs pl tc sill day lau cnt pl tc sill day lau ∧ ws = wM adM cI hf at_ wg lf cf dy ti bh ln2 thr cnt pl tc sill day lau ++ ((o, oE cL v) :: wX adX cI cJ M B lo ch wt sn vo mo le ln od fe se td th cnt bw bs pl tk tc sill day lau)
theorem lv7 {a b c d e f g : Value} (i : Nat) (v : Value) (h : [a, b, c, d, e, .null, .null][i]? = some v) (hne : v ≠ .null) : [a, b, c, d, e, f, g][i]? = some v := by
  match i, h with
  | 0, h => exact h
  | 1, h => exact h
  | 2, h => exact h
  | 3, h => exact h
  | 4, h => exact h
  | 5, h => exact absurd (Option.some.inj h).symm hne
  | 6, h => exact absurd (Option.some.inj h).symm hne
  | i + 7, h => simp at h
theorem exO_r {E : String} {t r : Int} (h : exO E t) (hm : (E, r) ∈ [(eIX, (1 : Int)), (eIA, 2), (eIS, 3)]) : r = t ∧ 1 ≤ t ∧ t ≤ 3 := by
  have n1 : eIX ≠ eIA := by decide +kernel
  have n2 : eIX ≠ eIS := by decide +kernel
  have n3 : eIA ≠ eIS := by decide +kernel
  simp only [List.mem_cons, Prod.mk.injEq, List.not_mem_nil, or_false] at hm
  rcases h with ⟨rfl, ht⟩ | ⟨rfl, ht⟩ | ⟨rfl, ht⟩ <;> rcases hm with ⟨q, hr⟩ | ⟨q, hr⟩ | ⟨q, hr⟩ <;> first | omega | exact absurd q n1 | exact absurd q n2 | exact absurd q n3 | exact absurd q.symm n1 | exact absurd q.symm n2 | exact absurd q.symm n3
theorem exO_r2 {E : String} {t r : Int} (h : exO E t) (hm : (E, r) ∈ [(eIX, (1 : Int)), (eIA, 2)]) : r = t ∧ 1 ≤ t ∧ t ≤ 3 := exO_r h (by rcases List.mem_cons.mp hm with q | q; exact List.mem_cons.mpr (Or.inl q); exact List.mem_cons_of_mem _ (List.mem_cons.mpr (Or.inl (List.mem_singleton.mp q))))
theorem exX_r {E : String} {t r : Int} (h : E = eIX ∧ t = 1) (hm : (E, r) ∈ [(eIX, (1 : Int))]) : r = t ∧ 1 ≤ t ∧ t ≤ 3 := exO_r (Or.inl h) (List.mem_cons.mpr (Or.inl (List.mem_singleton.mp hm)))
theorem exA_r {E : String} {t r : Int} (h : exA E t) (hm : (E, r) ∈ [(eIA, (1 : Int)), (eIS, 2)]) : r = t ∧ 1 ≤ t ∧ t ≤ 3 := by
  have n3 : eIA ≠ eIS := by decide +kernel
  simp only [List.mem_cons, Prod.mk.injEq, List.not_mem_nil, or_false] at hm
  rcases h with ⟨rfl, ht⟩ | ⟨rfl, ht⟩ <;> rcases hm with ⟨q, hr⟩ | ⟨q, hr⟩ <;> first | omega | exact absurd q n3 | exact absurd q.symm n3
theorem ex1_r {E E1 : String} {P : Prop} {r : Int} (h : E = E1 ∧ P) (hm : (E, r) ∈ [(E1, (1 : Int))]) : r = 1 ∧ P := ⟨(Prod.mk.inj (List.mem_singleton.mp hm)).2, h.2⟩
theorem slc_vol (M : Int → Int → Int) : ∀ n : Nat, slcZ M n = volZ M n 8
  | 0 => by simp [slcZ, volZ, areaZ]
  | n + 1 => by
    have ih := slc_vol M n
    simp only [slcZ, volZ, areaZ, wlaZ] at ih ⊢
    push_cast at ih ⊢
    omega
theorem hOK_row {M : Int → Int → Int} (hM : hOK M) {w : Int} {f : Int → Int} (hf : ∀ j : Int, 0 ≤ f j ∧ f j ≤ 200) : hOK (zrow M w f) := by
  intro i j
  by_cases e : i = w
  · subst e; rw [zrow_eq]; exact hf j
  · rw [zrow_ne _ _ e]; exact hM i j
theorem zset_bd {f : Int → Int} {a b x y : Int} (hf : ∀ j : Int, a ≤ f j ∧ f j ≤ b) (h0 : a ≤ y) (h1 : y ≤ b) : ∀ j : Int, a ≤ zset f x y j ∧ zset f x y j ≤ b := by
  intro j
  unfold zset
  split
  · exact ⟨h0, h1⟩
  · exact hf j
theorem RH_set {M : Int → Int → Int} {hf : Int → Int} (r : RH M hf) {w x y : Int} (w0 : 0 ≤ w) (w1 : w ≤ 5) (x0 : 0 ≤ x) (x1 : x ≤ 8) : RH (zrow M w (zset (M w) x y)) (zset hf (9 * w + x) y) := by
  intro v s v0 v1 s0 s1
  by_cases e : v = w
  · subst e
    rw [zrow_eq]
    by_cases e2 : s = x
    · subst e2; rw [zset_eq, zset_eq]
    · rw [zset_ne _ (by omega), zset_ne _ e2]; exact r v s v0 v1 s0 s1
  · rw [zrow_ne _ _ e, zset_ne _ (by omega)]; exact r v s v0 v1 s0 s1
theorem wOK_set {wt sn : Int → Int} (h : wOK wt sn) {q x y : Int} (x0 : 0 ≤ x) (x1 : x ≤ 999) (y0 : 0 ≤ y) (y1 : y ≤ 8) : wOK (zset wt q x) (zset sn q y) := by
  intro j
  by_cases e : j = q
  · subst e; rw [zset_eq, zset_eq]; exact ⟨x0, x1, y0, y1⟩
  · rw [zset_ne _ e, zset_ne _ e]; exact h j
section ARMS
variable {p : Program} {l : Launch} {e : Env} {s : State} {m : MethodId} {args : Array Value} {below : List Frame} {meth : Method} {c : Code} {A : Nat → Prop} {D : va_G} {Q : State → Prop} {cells slots : Nat} {ws : va_W} {cI cJ cL : ClassId} {b L fb mdl o : Nat} {xs : Nat → Int32} {k : Int}
set_option maxHeartbeats 4000000 in
set_option maxRecDepth 100000 in
theorem arm_offset (C : Cx p s m args meth c 7 A D cI cJ cL cL_law wsL_law RL) (hl0 : l.stackTraces = false) (hX : va_X b L xs s s.heap) (hbl : b < s.heap.size) (hbA : ¬ A b) (hL : L ≤ 2048) (k0 : 0 ≤ k) (k1 : k + 4 ≤ L) (hc : cells + 4 ≤ 601024) (hs : slots + 24 ≤ 7293034) (hW : LWp fb mdl o cI cJ cL ws) (kk : ∀ ws' : va_W, LWp fb mdl o cI cJ cL ws' → Z p l e room_1 s m args below meth c 7 A D Q (cells + 4) (slots + 24) ws' [.ref b, .ref fb, .ref mdl, .ref o, .int (iI k), .null, .null] 1264 []) : Z p l e room_1 s m args below meth c 7 A D Q cells slots ws [.ref b, .ref fb, .ref mdl, .ref o, .int (iI k), .null, .null] 136 [] := by
  obtain ⟨adX, adM, M, B, lo, ch, wt, sn, vo, mo, le, ln, od, fe, se, td, th, cnt, bw, bs, pl, tk, tc, sill, day, lau, hf, at_, wg, lf, cf, dy, ti, bh, ln2, thr, v, rfl, rfl, r, rfl⟩ := hW
  obtain ⟨x1, hx1, e1⟩ : ∃ x : Int, inr x ∧ (xs (k + 1).toNat).toInt = x := ⟨_, inr_of _, rfl⟩
  obtain ⟨x2, hx2, e2⟩ : ∃ x : Int, inr x ∧ (xs (k + 2).toNat).toInt = x := ⟨_, inr_of _, rfl⟩
  obtain ⟨x3, hx3, e3⟩ : ∃ x : Int, inr x ∧ (xs (k + 3).toNat).toInt = x := ⟨_, inr_of _, rfl⟩
  have htc : 0 ≤ tcOffset x1 x2 x3 lau ∧ tcOffset x1 x2 x3 lau ≤ 3 := by unfold tcOffset; (repeat' split) <;> omega
  refine Z.aload_n C dL_law_136 rfl ?_
  refine Z.aload_n C dL_law_137 rfl ?_
  refine Z.iload C dL_law_138 rfl ?_
  refine Z.iconst C dL_law_140 ?_
  refine Z.iadd C dL_law_141 ?_
  refine Z.sld C hX hbl hbA (by omega) (by omega) hL dL_law_142 ?_
  rw [e1]
  refine Z.aload_n C dL_law_143 rfl ?_
  refine Z.iload C dL_law_144 rfl ?_
  refine Z.iconst C dL_law_146 ?_
  refine Z.iadd C dL_law_147 ?_
  refine Z.sld C hX hbl hbA (by omega) (by omega) hL dL_law_148 ?_
  rw [e2]
  refine Z.aload_n C dL_law_149 rfl ?_
  refine Z.iload C dL_law_150 rfl ?_
  refine Z.iconst C dL_law_152 ?_
  refine Z.iadd C dL_law_153 ?_
  refine Z.sld C hX hbl hbA (by omega) (by omega) hL dL_law_154 ?_
  rw [e3]
  refine Z.aload_n C dL_law_155 rfl ?_
  refine Z.xSXIf (R := room_1) C (wr := wM adM cI hf at_ wg lf cf dy ti bh ln2 thr cnt pl tc sill day lau) 5 (h_offset l D cI cJ cL adX M B lo ch wt sn vo mo le ln od fe se td th cnt bw bs pl tk tc sill day lau hl0 r.i0 x1 x2 x3 hx1 hx2 hx3 o v) gL_law_L_offset rfl rfl rfl (by decide +kernel) ⟨Nat.le_of_ble_eq_true rfl, Nat.le_of_ble_eq_true rfl⟩ rfl rfl (Nat.le_of_ble_eq_true rfl) ⟨by show cells + 4 ≤ 601024; omega, by show slots + 24 ≤ 7293034; omega⟩ dL_law_156 (fun r1 w1 h1 => ?_) (fun E w1 hE => hE.elim)
  refine Z.istore C dL_law_159 (by decide) ?_
  rcases h1 with ⟨E, u, ⟨hu, hE⟩, hm, rfl⟩ | ⟨rfl, v1, u, ⟨hq, hv, hu⟩, rfl⟩
  · subst hu
    have hq := exO_r hE hm
    refine Z.aload_n C dL_law_161 rfl ?_
    refine Z.aload_n C dL_law_162 rfl ?_
    refine Z.iload C dL_law_163 rfl ?_
    refine Z.iconst C dL_law_165 ?_
    refine Z.iadd C dL_law_166 ?_
    refine Z.sld C hX hbl hbA (by omega) (by omega) hL dL_law_167 ?_
    rw [e1]
    refine Z.aload_n C dL_law_168 rfl ?_
    refine Z.iload C dL_law_169 rfl ?_
    refine Z.iconst C dL_law_171 ?_
    refine Z.iadd C dL_law_172 ?_
    refine Z.sld C hX hbl hbA (by omega) (by omega) hL dL_law_173 ?_
    rw [e2]
    refine Z.aload_n C dL_law_174 rfl ?_
    refine Z.iload C dL_law_175 rfl ?_
    refine Z.iconst C dL_law_177 ?_
    refine Z.iadd C dL_law_178 ?_
    refine Z.sld C hX hbl hbA (by omega) (by omega) hL dL_law_179 ?_
    rw [e3]
    refine Z.swap ?_
    refine Z.cVIf (R := room_1) C (wr := (o, oE cL v) :: wX adX cI cJ M B lo ch wt sn vo mo le ln od fe se td th cnt bw bs pl tk tc sill day lau) (wc := wM adM cI hf at_ wg lf cf dy ti bh ln2 thr cnt pl tc sill day lau) 0 3 (m_offset l D cI cJ cL adM hf at_ wg lf cf dy ti bh ln2 thr cnt pl tc sill day lau M r.rh r.i0 x1 x2 x3 hx1 hx2 hx3) rfl rfl gL_law_X7_offset rfl rfl rfl (by decide +kernel) ⟨Nat.le_of_ble_eq_true rfl, Nat.le_of_ble_eq_true rfl⟩ rfl rfl (Nat.le_of_ble_eq_true rfl) ⟨by show cells + 4 ≤ 601024; omega, by show slots + 24 ≤ 7293034; omega⟩ dL_law_180 (fun r2 w2 h2 => ?_)
    refine Z.istore C dL_law_183 (by decide) ?_
    obtain ⟨hz, rfl⟩ := h2.resolve_right (fun h => by have := h.1; omega)
    refine Z.aload_n C dL_law_185 rfl ?_
    refine Z.cVIf (R := room_1) C (wr := (o, oE cL v) :: wX adX cI cJ M B lo ch wt sn vo mo le ln od fe se td th cnt bw bs pl tk tc sill day lau) (wc := wM adM cI hf at_ wg lf cf dy ti bh ln2 (tcOffset x1 x2 x3 lau) cnt pl tc sill day lau) 0 0 (m_thrown l D cI cJ cL adM hf at_ wg lf cf dy ti bh ln2 (tcOffset x1 x2 x3 lau) cnt pl tc sill day lau) rfl rfl gL_law_X7_thrown rfl rfl rfl (by decide +kernel) ⟨Nat.le_of_ble_eq_true rfl, Nat.le_of_ble_eq_true rfl⟩ rfl rfl (Nat.le_of_ble_eq_true rfl) ⟨by show cells + 4 ≤ 601024; omega, by show slots + 24 ≤ 7293034; omega⟩ dL_law_186 (fun r3 w3 h3 => ?_)
    obtain ⟨rfl, rfl⟩ := h3
    refine Z.iload C dL_law_189 rfl ?_
    refine Z.icmpeq C 196 dL_law_191 (by decide) ⟨by omega, by omega⟩ ⟨by omega, by omega⟩ (fun hcmp => ?_) (fun hcmp => absurd (by omega) hcmp)
    refine Z.iload C dL_law_196 rfl ?_
    refine Z.ifne C 213 dL_law_198 (by decide) ⟨by omega, by omega⟩ (fun hcmp => ?_) (fun hcmp => absurd hcmp (by omega))
    refine Z.goto C 1264 dL_law_213 (by decide) ?_
    refine Z.swap ?_
    refine Z.widen (k := cells + 4) (n := slots + 24) (by omega) (by omega) ?_
    refine Z.lvw (lv' := [.ref b, .ref (adX 0), .ref (adM 0), .ref o, .int (iI k), .null, .null]) (fun i v9 h9 hne => lv7 i v9 h9 hne) ?_
    exact kk _ ⟨adX, adM, M, B, lo, ch, wt, sn, vo, mo, le, ln, od, fe, se, td, th, cnt, bw, bs, pl, tk, tc, sill, day, lau, hf, at_, wg, lf, cf, dy, ti, bh, ln2, tcOffset x1 x2 x3 lau, _, rfl, rfl, r, rfl⟩
  · subst hu
    have hbd : (0 ≤ x1 ∧ x1 ≤ 8) ∧ (0 ≤ x2 ∧ x2 ≤ 5) ∧ (0 ≤ x3 ∧ x3 ≤ 200) := by
      unfold tcOffset at hq
      (repeat' split at hq) <;> omega
    refine Z.aload_n C dL_law_161 rfl ?_
    refine Z.aload_n C dL_law_162 rfl ?_
    refine Z.iload C dL_law_163 rfl ?_
    refine Z.iconst C dL_law_165 ?_
    refine Z.iadd C dL_law_166 ?_
    refine Z.sld C hX hbl hbA (by omega) (by omega) hL dL_law_167 ?_
    rw [e1]
    refine Z.aload_n C dL_law_168 rfl ?_
    refine Z.iload C dL_law_169 rfl ?_
    refine Z.iconst C dL_law_171 ?_
    refine Z.iadd C dL_law_172 ?_
    refine Z.sld C hX hbl hbA (by omega) (by omega) hL dL_law_173 ?_
    rw [e2]
    refine Z.aload_n C dL_law_174 rfl ?_
    refine Z.iload C dL_law_175 rfl ?_
    refine Z.iconst C dL_law_177 ?_
    refine Z.iadd C dL_law_178 ?_
    refine Z.sld C hX hbl hbA (by omega) (by omega) hL dL_law_179 ?_
    rw [e3]
    refine Z.swap ?_
    refine Z.cVIf (R := room_1) C (wr := (o, oE cL v1) :: wX adX cI cJ (zrow M x2 (zset (M x2) x1 x3)) B lo ch wt sn vo mo le ln od fe se td th cnt bw bs pl tk tc sill day lau) (wc := wM adM cI hf at_ wg lf cf dy ti bh ln2 thr cnt pl tc sill day lau) 0 3 (m_offset l D cI cJ cL adM hf at_ wg lf cf dy ti bh ln2 thr cnt pl tc sill day lau M r.rh r.i0 x1 x2 x3 hx1 hx2 hx3) rfl rfl gL_law_X7_offset rfl rfl rfl (by decide +kernel) ⟨Nat.le_of_ble_eq_true rfl, Nat.le_of_ble_eq_true rfl⟩ rfl rfl (Nat.le_of_ble_eq_true rfl) ⟨by show cells + 4 ≤ 601024; omega, by show slots + 24 ≤ 7293034; omega⟩ dL_law_180 (fun r2 w2 h2 => ?_)
    refine Z.istore C dL_law_183 (by decide) ?_
    obtain ⟨hz, hr2, rfl⟩ := h2.resolve_left (fun h => h.1 hq)
    refine Z.aload_n C dL_law_185 rfl ?_
    refine Z.cVIf (R := room_1) C (wr := (o, oE cL v1) :: wX adX cI cJ (zrow M x2 (zset (M x2) x1 x3)) B lo ch wt sn vo mo le ln od fe se td th cnt bw bs pl tk tc sill day lau) (wc := wM adM cI (zset hf (9 * x2 + x1) x3) at_ wg lf cf dy ti bh ln2 0 cnt pl tc sill day lau) 0 0 (m_thrown l D cI cJ cL adM (zset hf (9 * x2 + x1) x3) at_ wg lf cf dy ti bh ln2 0 cnt pl tc sill day lau) rfl rfl gL_law_X7_thrown rfl rfl rfl (by decide +kernel) ⟨Nat.le_of_ble_eq_true rfl, Nat.le_of_ble_eq_true rfl⟩ rfl rfl (Nat.le_of_ble_eq_true rfl) ⟨by show cells + 4 ≤ 601024; omega, by show slots + 24 ≤ 7293034; omega⟩ dL_law_186 (fun r3 w3 h3 => ?_)
    obtain ⟨rfl, rfl⟩ := h3
    refine Z.iload C dL_law_189 rfl ?_
    refine Z.icmpeq C 196 dL_law_191 (by decide) ⟨by omega, by omega⟩ ⟨by omega, by omega⟩ (fun hcmp => ?_) (fun hcmp => absurd (by omega) hcmp)
    refine Z.iload C dL_law_196 rfl ?_
    refine Z.ifne C 213 dL_law_198 (by decide) ⟨by omega, by omega⟩ (fun hcmp => absurd rfl hcmp) (fun hcmp => ?_)
    refine Z.aload_n C dL_law_201 rfl ?_
    refine Z.iconst C dL_law_202 ?_
    refine Z.laldO C 0 rfl dL_law_203 ?_
    refine Z.iload C dL_law_204 rfl ?_
    refine Z.i2l C dL_law_206 ?_
    rw [hv, hr2]
    refine Z.lcmpE C dL_law_207 ?_
    refine Z.ifeq C 213 dL_law_208 (by decide) ⟨by decide, by decide⟩ (fun hcmp => ?_) (fun hcmp => absurd rfl hcmp)
    refine Z.goto C 1264 dL_law_213 (by decide) ?_
    refine Z.swap ?_
    refine Z.widen (k := cells + 4) (n := slots + 24) (by omega) (by omega) ?_
    refine Z.lvw (lv' := [.ref b, .ref (adX 0), .ref (adM 0), .ref o, .int (iI k), .null, .null]) (fun i v9 h9 hne => lv7 i v9 h9 hne) ?_
    exact kk _ ⟨adX, adM, zrow M x2 (zset (M x2) x1 x3), B, lo, ch, wt, sn, vo, mo, le, ln, od, fe, se, td, th, cnt, bw, bs, pl, tk, tc, sill, day, lau, zset hf (9 * x2 + x1) x3, at_, wg, lf, cf, dy, ti, bh, ln2, 0, _, rfl, rfl, ⟨RH_set r.rh hbd.2.1.1 hbd.2.1.2 hbd.1.1 hbd.1.2, hOK_row r.hM (zset_bd (r.hM x2) hbd.2.2.1 hbd.2.2.2), r.hB, r.c0, r.c1, r.en, r.wa, r.w0, r.gb, r.ab, r.wk, r.b0, r.b1, r.s0, r.s1, r.el, r.p0, r.p1, r.et, r.t0, r.t1, r.ta, r.hu, r.td0, r.dy0, r.th0, r.ti0, r.es, r.l0, r.l1, r.ed, r.d0, r.d1, r.ei, r.i0⟩, rfl⟩
set_option maxHeartbeats 4000000 in
set_option maxRecDepth 100000 in
theorem arm_half (C : Cx p s m args meth c 7 A D cI cJ cL cL_law wsL_law RL) (hl0 : l.stackTraces = false) (hX : va_X b L xs s s.heap) (hbl : b < s.heap.size) (hbA : ¬ A b) (hL : L ≤ 2048) (k0 : 0 ≤ k) (k1 : k + 4 ≤ L) (hc : cells + 4 ≤ 601024) (hs : slots + 24 ≤ 7293034) (hW : LWp fb mdl o cI cJ cL ws) (kk : ∀ ws' : va_W, LWp fb mdl o cI cJ cL ws' → Z p l e room_1 s m args below meth c 7 A D Q (cells + 4) (slots + 24) ws' [.ref b, .ref fb, .ref mdl, .ref o, .int (iI k), .null, .null] 1264 []) : Z p l e room_1 s m args below meth c 7 A D Q cells slots ws [.ref b, .ref fb, .ref mdl, .ref o, .int (iI k), .null, .null] 216 [] := by
  obtain ⟨adX, adM, M, B, lo, ch, wt, sn, vo, mo, le, ln, od, fe, se, td, th, cnt, bw, bs, pl, tk, tc, sill, day, lau, hf, at_, wg, lf, cf, dy, ti, bh, ln2, thr, v, rfl, rfl, r, rfl⟩ := hW
  obtain ⟨x1, hx1, e1⟩ : ∃ x : Int, inr x ∧ (xs (k + 1).toNat).toInt = x := ⟨_, inr_of _, rfl⟩
  obtain ⟨x2, hx2, e2⟩ : ∃ x : Int, inr x ∧ (xs (k + 2).toNat).toInt = x := ⟨_, inr_of _, rfl⟩
  have htc : 0 ≤ tcSW x1 x2 ∧ tcSW x1 x2 ≤ 3 := by unfold tcSW; (repeat' split) <;> omega
  refine Z.aload_n C dL_law_216 rfl ?_
  refine Z.aload_n C dL_law_217 rfl ?_
  refine Z.iload C dL_law_218 rfl ?_
  refine Z.iconst C dL_law_220 ?_
  refine Z.iadd C dL_law_221 ?_
  refine Z.sld C hX hbl hbA (by omega) (by omega) hL dL_law_222 ?_
  rw [e1]
  refine Z.aload_n C dL_law_223 rfl ?_
  refine Z.iload C dL_law_224 rfl ?_
  refine Z.iconst C dL_law_226 ?_
  refine Z.iadd C dL_law_227 ?_
  refine Z.sld C hX hbl hbA (by omega) (by omega) hL dL_law_228 ?_
  rw [e2]
  refine Z.aload_n C dL_law_229 rfl ?_
  refine Z.xSXIf (R := room_1) C (wr := wM adM cI hf at_ wg lf cf dy ti bh ln2 thr cnt pl tc sill day lau) 4 (h_half l D cI cJ cL adX M B lo ch wt sn vo mo le ln od fe se td th cnt bw bs pl tk tc sill day lau hl0 x1 x2 hx1 hx2 o v) gL_law_L_half rfl rfl rfl (by decide +kernel) ⟨Nat.le_of_ble_eq_true rfl, Nat.le_of_ble_eq_true rfl⟩ rfl rfl (Nat.le_of_ble_eq_true rfl) ⟨by show cells + 2 ≤ 601024; omega, by show slots + 12 ≤ 7293034; omega⟩ dL_law_230 (fun r1 w1 h1 => ?_) (fun E w1 hE => hE.elim)
  refine Z.istore C dL_law_233 (by decide) ?_
  rcases h1 with ⟨E, u, ⟨hu, hE⟩, hm, rfl⟩ | ⟨rfl, v1, u, ⟨hq, hv, hu⟩, rfl⟩
  · subst hu
    have hq := exX_r hE hm
    refine Z.aload_n C dL_law_235 rfl ?_
    refine Z.aload_n C dL_law_236 rfl ?_
    refine Z.iload C dL_law_237 rfl ?_
    refine Z.iconst C dL_law_239 ?_
    refine Z.iadd C dL_law_240 ?_
    refine Z.sld C hX hbl hbA (by omega) (by omega) hL dL_law_241 ?_
    rw [e1]
    refine Z.aload_n C dL_law_242 rfl ?_
    refine Z.iload C dL_law_243 rfl ?_
    refine Z.iconst C dL_law_245 ?_
    refine Z.iadd C dL_law_246 ?_
    refine Z.sld C hX hbl hbA (by omega) (by omega) hL dL_law_247 ?_
    rw [e2]
    refine Z.swap ?_
    refine Z.cVIf (R := room_1) C (wr := (o, oE cL v) :: wX adX cI cJ M B lo ch wt sn vo mo le ln od fe se td th cnt bw bs pl tk tc sill day lau) (wc := wM adM cI hf at_ wg lf cf dy ti bh ln2 thr cnt pl tc sill day lau) 0 2 (m_half l D cI cJ cL adM hf at_ wg lf cf dy ti bh ln2 thr cnt pl tc sill day lau M r.rh x1 x2 hx1 hx2) rfl rfl gL_law_X7_half rfl rfl rfl (by decide +kernel) ⟨Nat.le_of_ble_eq_true rfl, Nat.le_of_ble_eq_true rfl⟩ rfl rfl (Nat.le_of_ble_eq_true rfl) ⟨by show cells + 2 ≤ 601024; omega, by show slots + 12 ≤ 7293034; omega⟩ dL_law_248 (fun r2 w2 h2 => ?_)
    refine Z.istore C dL_law_251 (by decide) ?_
    obtain ⟨rfl, -⟩ := h2
    refine Z.aload_n C dL_law_253 rfl ?_
    refine Z.cVIf (R := room_1) C (wr := (o, oE cL v) :: wX adX cI cJ M B lo ch wt sn vo mo le ln od fe se td th cnt bw bs pl tk tc sill day lau) (wc := wM adM cI hf at_ wg lf cf dy ti bh ln2 (tcSW x1 x2) cnt pl tc sill day lau) 0 0 (m_thrown l D cI cJ cL adM hf at_ wg lf cf dy ti bh ln2 (tcSW x1 x2) cnt pl tc sill day lau) rfl rfl gL_law_X7_thrown rfl rfl rfl (by decide +kernel) ⟨Nat.le_of_ble_eq_true rfl, Nat.le_of_ble_eq_true rfl⟩ rfl rfl (Nat.le_of_ble_eq_true rfl) ⟨by show cells + 2 ≤ 601024; omega, by show slots + 12 ≤ 7293034; omega⟩ dL_law_254 (fun r3 w3 h3 => ?_)
    obtain ⟨rfl, rfl⟩ := h3
    refine Z.iload C dL_law_257 rfl ?_
    refine Z.icmpeq C 264 dL_law_259 (by decide) ⟨by omega, by omega⟩ ⟨by omega, by omega⟩ (fun hcmp => ?_) (fun hcmp => absurd (by omega) hcmp)
    refine Z.iload C dL_law_264 rfl ?_
    refine Z.ifne C 281 dL_law_266 (by decide) ⟨by omega, by omega⟩ (fun hcmp => ?_) (fun hcmp => absurd hcmp (by omega))
    refine Z.goto C 1264 dL_law_281 (by decide) ?_
    refine Z.swap ?_
    refine Z.widen (k := cells + 4) (n := slots + 24) (by omega) (by omega) ?_
    refine Z.lvw (lv' := [.ref b, .ref (adX 0), .ref (adM 0), .ref o, .int (iI k), .null, .null]) (fun i v9 h9 hne => lv7 i v9 h9 hne) ?_
    exact kk _ ⟨adX, adM, M, B, lo, ch, wt, sn, vo, mo, le, ln, od, fe, se, td, th, cnt, bw, bs, pl, tk, tc, sill, day, lau, hf, at_, wg, lf, cf, dy, ti, bh, ln2, tcSW x1 x2, _, rfl, rfl, r, rfl⟩
  · subst hu
    refine Z.aload_n C dL_law_235 rfl ?_
    refine Z.aload_n C dL_law_236 rfl ?_
    refine Z.iload C dL_law_237 rfl ?_
    refine Z.iconst C dL_law_239 ?_
    refine Z.iadd C dL_law_240 ?_
    refine Z.sld C hX hbl hbA (by omega) (by omega) hL dL_law_241 ?_
    rw [e1]
    refine Z.aload_n C dL_law_242 rfl ?_
    refine Z.iload C dL_law_243 rfl ?_
    refine Z.iconst C dL_law_245 ?_
    refine Z.iadd C dL_law_246 ?_
    refine Z.sld C hX hbl hbA (by omega) (by omega) hL dL_law_247 ?_
    rw [e2]
    refine Z.swap ?_
    refine Z.cVIf (R := room_1) C (wr := (o, oE cL v1) :: wX adX cI cJ M B lo ch wt sn vo mo le ln od fe se td th cnt bw bs pl tk tc sill day lau) (wc := wM adM cI hf at_ wg lf cf dy ti bh ln2 thr cnt pl tc sill day lau) 0 2 (m_half l D cI cJ cL adM hf at_ wg lf cf dy ti bh ln2 thr cnt pl tc sill day lau M r.rh x1 x2 hx1 hx2) rfl rfl gL_law_X7_half rfl rfl rfl (by decide +kernel) ⟨Nat.le_of_ble_eq_true rfl, Nat.le_of_ble_eq_true rfl⟩ rfl rfl (Nat.le_of_ble_eq_true rfl) ⟨by show cells + 2 ≤ 601024; omega, by show slots + 12 ≤ 7293034; omega⟩ dL_law_248 (fun r2 w2 h2 => ?_)
    refine Z.istore C dL_law_251 (by decide) ?_
    obtain ⟨rfl, h2⟩ := h2
    have hr2 := h2 hq
    refine Z.aload_n C dL_law_253 rfl ?_
    refine Z.cVIf (R := room_1) C (wr := (o, oE cL v1) :: wX adX cI cJ M B lo ch wt sn vo mo le ln od fe se td th cnt bw bs pl tk tc sill day lau) (wc := wM adM cI hf at_ wg lf cf dy ti bh ln2 (tcSW x1 x2) cnt pl tc sill day lau) 0 0 (m_thrown l D cI cJ cL adM hf at_ wg lf cf dy ti bh ln2 (tcSW x1 x2) cnt pl tc sill day lau) rfl rfl gL_law_X7_thrown rfl rfl rfl (by decide +kernel) ⟨Nat.le_of_ble_eq_true rfl, Nat.le_of_ble_eq_true rfl⟩ rfl rfl (Nat.le_of_ble_eq_true rfl) ⟨by show cells + 2 ≤ 601024; omega, by show slots + 12 ≤ 7293034; omega⟩ dL_law_254 (fun r3 w3 h3 => ?_)
    obtain ⟨rfl, rfl⟩ := h3
    refine Z.iload C dL_law_257 rfl ?_
    refine Z.icmpeq C 264 dL_law_259 (by decide) ⟨by omega, by omega⟩ ⟨by omega, by omega⟩ (fun hcmp => ?_) (fun hcmp => absurd (by omega) hcmp)
    refine Z.iload C dL_law_264 rfl ?_
    refine Z.ifne C 281 dL_law_266 (by decide) ⟨by omega, by omega⟩ (fun hcmp => absurd rfl hcmp) (fun hcmp => ?_)
    refine Z.aload_n C dL_law_269 rfl ?_
    refine Z.iconst C dL_law_270 ?_
    refine Z.laldO C 0 rfl dL_law_271 ?_
    refine Z.iload C dL_law_272 rfl ?_
    refine Z.i2l C dL_law_274 ?_
    rw [hv, hr2]
    refine Z.lcmpE C dL_law_275 ?_
    refine Z.ifeq C 281 dL_law_276 (by decide) ⟨by decide, by decide⟩ (fun hcmp => ?_) (fun hcmp => absurd rfl hcmp)
    refine Z.goto C 1264 dL_law_281 (by decide) ?_
    refine Z.swap ?_
    refine Z.widen (k := cells + 4) (n := slots + 24) (by omega) (by omega) ?_
    refine Z.lvw (lv' := [.ref b, .ref (adX 0), .ref (adM 0), .ref o, .int (iI k), .null, .null]) (fun i v9 h9 hne => lv7 i v9 h9 hne) ?_
    exact kk _ ⟨adX, adM, M, B, lo, ch, wt, sn, vo, mo, le, ln, od, fe, se, td, th, cnt, bw, bs, pl, tk, tc, sill, day, lau, hf, at_, wg, lf, cf, dy, ti, bh, ln2, tcSW x1 x2, _, rfl, rfl, ⟨r.rh, r.hM, r.hB, r.c0, r.c1, r.en, r.wa, r.w0, r.gb, r.ab, r.wk, r.b0, r.b1, r.s0, r.s1, r.el, r.p0, r.p1, r.et, r.t0, r.t1, r.ta, r.hu, r.td0, r.dy0, r.th0, r.ti0, r.es, r.l0, r.l1, r.ed, r.d0, r.d1, r.ei, r.i0⟩, rfl⟩
set_option maxHeartbeats 4000000 in
set_option maxRecDepth 100000 in
theorem arm_bend (C : Cx p s m args meth c 7 A D cI cJ cL cL_law wsL_law RL) (hl0 : l.stackTraces = false) (hX : va_X b L xs s s.heap) (hbl : b < s.heap.size) (hbA : ¬ A b) (hL : L ≤ 2048) (k0 : 0 ≤ k) (k1 : k + 4 ≤ L) (hc : cells + 4 ≤ 601024) (hs : slots + 24 ≤ 7293034) (hW : LWp fb mdl o cI cJ cL ws) (kk : ∀ ws' : va_W, LWp fb mdl o cI cJ cL ws' → Z p l e room_1 s m args below meth c 7 A D Q (cells + 4) (slots + 24) ws' [.ref b, .ref fb, .ref mdl, .ref o, .int (iI k), .null, .null] 1264 []) : Z p l e room_1 s m args below meth c 7 A D Q cells slots ws [.ref b, .ref fb, .ref mdl, .ref o, .int (iI k), .null, .null] 284 [] := by
  obtain ⟨adX, adM, M, B, lo, ch, wt, sn, vo, mo, le, ln, od, fe, se, td, th, cnt, bw, bs, pl, tk, tc, sill, day, lau, hf, at_, wg, lf, cf, dy, ti, bh, ln2, thr, v, rfl, rfl, r, rfl⟩ := hW
  obtain ⟨x1, hx1, e1⟩ : ∃ x : Int, inr x ∧ (xs (k + 1).toNat).toInt = x := ⟨_, inr_of _, rfl⟩
  have htc : 0 ≤ tcW x1 ∧ tcW x1 ≤ 3 := by unfold tcW; (repeat' split) <;> omega
  refine Z.aload_n C dL_law_284 rfl ?_
  refine Z.aload_n C dL_law_285 rfl ?_
  refine Z.iload C dL_law_286 rfl ?_
  refine Z.iconst C dL_law_288 ?_
  refine Z.iadd C dL_law_289 ?_
  refine Z.sld C hX hbl hbA (by omega) (by omega) hL dL_law_290 ?_
  rw [e1]
  refine Z.aload_n C dL_law_291 rfl ?_
  refine Z.xSXIf (R := room_1) C (wr := wM adM cI hf at_ wg lf cf dy ti bh ln2 thr cnt pl tc sill day lau) 3 (h_bend l D cI cJ cL adX M B lo ch wt sn vo mo le ln od fe se td th cnt bw bs pl tk tc sill day lau hl0 x1 hx1 o v) gL_law_L_bend rfl rfl rfl (by decide +kernel) ⟨Nat.le_of_ble_eq_true rfl, Nat.le_of_ble_eq_true rfl⟩ rfl rfl (Nat.le_of_ble_eq_true rfl) ⟨by show cells + 1 ≤ 601024; omega, by show slots + 6 ≤ 7293034; omega⟩ dL_law_292 (fun r1 w1 h1 => ?_) (fun E w1 hE => hE.elim)
  refine Z.istore C dL_law_295 (by decide) ?_
  rcases h1 with ⟨E, u, ⟨hu, hE⟩, hm, rfl⟩ | ⟨rfl, v1, u, ⟨hq, hv, hu⟩, rfl⟩
  · subst hu
    have hq := exX_r hE hm
    refine Z.aload_n C dL_law_297 rfl ?_
    refine Z.aload_n C dL_law_298 rfl ?_
    refine Z.iload C dL_law_299 rfl ?_
    refine Z.iconst C dL_law_301 ?_
    refine Z.iadd C dL_law_302 ?_
    refine Z.sld C hX hbl hbA (by omega) (by omega) hL dL_law_303 ?_
    rw [e1]
    refine Z.swap ?_
    refine Z.cVIf (R := room_1) C (wr := (o, oE cL v) :: wX adX cI cJ M B lo ch wt sn vo mo le ln od fe se td th cnt bw bs pl tk tc sill day lau) (wc := wM adM cI hf at_ wg lf cf dy ti bh ln2 thr cnt pl tc sill day lau) 0 1 (m_bend l D cI cJ cL adM hf at_ wg lf cf dy ti bh ln2 thr cnt pl tc sill day lau M r.rh x1 hx1) rfl rfl gL_law_X7_bend rfl rfl rfl (by decide +kernel) ⟨Nat.le_of_ble_eq_true rfl, Nat.le_of_ble_eq_true rfl⟩ rfl rfl (Nat.le_of_ble_eq_true rfl) ⟨by show cells + 1 ≤ 601024; omega, by show slots + 6 ≤ 7293034; omega⟩ dL_law_304 (fun r2 w2 h2 => ?_)
    refine Z.istore C dL_law_307 (by decide) ?_
    obtain ⟨rfl, -⟩ := h2
    refine Z.aload_n C dL_law_309 rfl ?_
    refine Z.cVIf (R := room_1) C (wr := (o, oE cL v) :: wX adX cI cJ M B lo ch wt sn vo mo le ln od fe se td th cnt bw bs pl tk tc sill day lau) (wc := wM adM cI hf at_ wg lf cf dy ti bh ln2 (tcW x1) cnt pl tc sill day lau) 0 0 (m_thrown l D cI cJ cL adM hf at_ wg lf cf dy ti bh ln2 (tcW x1) cnt pl tc sill day lau) rfl rfl gL_law_X7_thrown rfl rfl rfl (by decide +kernel) ⟨Nat.le_of_ble_eq_true rfl, Nat.le_of_ble_eq_true rfl⟩ rfl rfl (Nat.le_of_ble_eq_true rfl) ⟨by show cells + 1 ≤ 601024; omega, by show slots + 6 ≤ 7293034; omega⟩ dL_law_310 (fun r3 w3 h3 => ?_)
    obtain ⟨rfl, rfl⟩ := h3
    refine Z.iload C dL_law_313 rfl ?_
    refine Z.icmpeq C 320 dL_law_315 (by decide) ⟨by omega, by omega⟩ ⟨by omega, by omega⟩ (fun hcmp => ?_) (fun hcmp => absurd (by omega) hcmp)
    refine Z.iload C dL_law_320 rfl ?_
    refine Z.ifne C 337 dL_law_322 (by decide) ⟨by omega, by omega⟩ (fun hcmp => ?_) (fun hcmp => absurd hcmp (by omega))
    refine Z.goto C 1264 dL_law_337 (by decide) ?_
    refine Z.swap ?_
    refine Z.widen (k := cells + 4) (n := slots + 24) (by omega) (by omega) ?_
    refine Z.lvw (lv' := [.ref b, .ref (adX 0), .ref (adM 0), .ref o, .int (iI k), .null, .null]) (fun i v9 h9 hne => lv7 i v9 h9 hne) ?_
    exact kk _ ⟨adX, adM, M, B, lo, ch, wt, sn, vo, mo, le, ln, od, fe, se, td, th, cnt, bw, bs, pl, tk, tc, sill, day, lau, hf, at_, wg, lf, cf, dy, ti, bh, ln2, tcW x1, _, rfl, rfl, r, rfl⟩
  · subst hu
    refine Z.aload_n C dL_law_297 rfl ?_
    refine Z.aload_n C dL_law_298 rfl ?_
    refine Z.iload C dL_law_299 rfl ?_
    refine Z.iconst C dL_law_301 ?_
    refine Z.iadd C dL_law_302 ?_
    refine Z.sld C hX hbl hbA (by omega) (by omega) hL dL_law_303 ?_
    rw [e1]
    refine Z.swap ?_
    refine Z.cVIf (R := room_1) C (wr := (o, oE cL v1) :: wX adX cI cJ M B lo ch wt sn vo mo le ln od fe se td th cnt bw bs pl tk tc sill day lau) (wc := wM adM cI hf at_ wg lf cf dy ti bh ln2 thr cnt pl tc sill day lau) 0 1 (m_bend l D cI cJ cL adM hf at_ wg lf cf dy ti bh ln2 thr cnt pl tc sill day lau M r.rh x1 hx1) rfl rfl gL_law_X7_bend rfl rfl rfl (by decide +kernel) ⟨Nat.le_of_ble_eq_true rfl, Nat.le_of_ble_eq_true rfl⟩ rfl rfl (Nat.le_of_ble_eq_true rfl) ⟨by show cells + 1 ≤ 601024; omega, by show slots + 6 ≤ 7293034; omega⟩ dL_law_304 (fun r2 w2 h2 => ?_)
    refine Z.istore C dL_law_307 (by decide) ?_
    obtain ⟨rfl, h2⟩ := h2
    have hr2 := h2 hq
    refine Z.aload_n C dL_law_309 rfl ?_
    refine Z.cVIf (R := room_1) C (wr := (o, oE cL v1) :: wX adX cI cJ M B lo ch wt sn vo mo le ln od fe se td th cnt bw bs pl tk tc sill day lau) (wc := wM adM cI hf at_ wg lf cf dy ti bh ln2 (tcW x1) cnt pl tc sill day lau) 0 0 (m_thrown l D cI cJ cL adM hf at_ wg lf cf dy ti bh ln2 (tcW x1) cnt pl tc sill day lau) rfl rfl gL_law_X7_thrown rfl rfl rfl (by decide +kernel) ⟨Nat.le_of_ble_eq_true rfl, Nat.le_of_ble_eq_true rfl⟩ rfl rfl (Nat.le_of_ble_eq_true rfl) ⟨by show cells + 1 ≤ 601024; omega, by show slots + 6 ≤ 7293034; omega⟩ dL_law_310 (fun r3 w3 h3 => ?_)
    obtain ⟨rfl, rfl⟩ := h3
    refine Z.iload C dL_law_313 rfl ?_
    refine Z.icmpeq C 320 dL_law_315 (by decide) ⟨by omega, by omega⟩ ⟨by omega, by omega⟩ (fun hcmp => ?_) (fun hcmp => absurd (by omega) hcmp)
    refine Z.iload C dL_law_320 rfl ?_
    refine Z.ifne C 337 dL_law_322 (by decide) ⟨by omega, by omega⟩ (fun hcmp => absurd rfl hcmp) (fun hcmp => ?_)
    refine Z.aload_n C dL_law_325 rfl ?_
    refine Z.iconst C dL_law_326 ?_
    refine Z.laldO C 0 rfl dL_law_327 ?_
    refine Z.iload C dL_law_328 rfl ?_
    refine Z.i2l C dL_law_330 ?_
    rw [hv, hr2]
    refine Z.lcmpE C dL_law_331 ?_
    refine Z.ifeq C 337 dL_law_332 (by decide) ⟨by decide, by decide⟩ (fun hcmp => ?_) (fun hcmp => absurd rfl hcmp)
    refine Z.goto C 1264 dL_law_337 (by decide) ?_
    refine Z.swap ?_
    refine Z.widen (k := cells + 4) (n := slots + 24) (by omega) (by omega) ?_
    refine Z.lvw (lv' := [.ref b, .ref (adX 0), .ref (adM 0), .ref o, .int (iI k), .null, .null]) (fun i v9 h9 hne => lv7 i v9 h9 hne) ?_
    exact kk _ ⟨adX, adM, M, B, lo, ch, wt, sn, vo, mo, le, ln, od, fe, se, td, th, cnt, bw, bs, pl, tk, tc, sill, day, lau, hf, at_, wg, lf, cf, dy, ti, bh, ln2, tcW x1, _, rfl, rfl, ⟨r.rh, r.hM, r.hB, r.c0, r.c1, r.en, r.wa, r.w0, r.gb, r.ab, r.wk, r.b0, r.b1, r.s0, r.s1, r.el, r.p0, r.p1, r.et, r.t0, r.t1, r.ta, r.hu, r.td0, r.dy0, r.th0, r.ti0, r.es, r.l0, r.l1, r.ed, r.d0, r.d1, r.ei, r.i0⟩, rfl⟩
set_option maxHeartbeats 4000000 in
set_option maxRecDepth 100000 in
theorem arm_area (C : Cx p s m args meth c 7 A D cI cJ cL cL_law wsL_law RL) (hl0 : l.stackTraces = false) (hX : va_X b L xs s s.heap) (hbl : b < s.heap.size) (hbA : ¬ A b) (hL : L ≤ 2048) (k0 : 0 ≤ k) (k1 : k + 4 ≤ L) (hc : cells + 4 ≤ 601024) (hs : slots + 24 ≤ 7293034) (hW : LWp fb mdl o cI cJ cL ws) (kk : ∀ ws' : va_W, LWp fb mdl o cI cJ cL ws' → Z p l e room_1 s m args below meth c 7 A D Q (cells + 4) (slots + 24) ws' [.ref b, .ref fb, .ref mdl, .ref o, .int (iI k), .null, .null] 1264 []) : Z p l e room_1 s m args below meth c 7 A D Q cells slots ws [.ref b, .ref fb, .ref mdl, .ref o, .int (iI k), .null, .null] 408 [] := by
  obtain ⟨adX, adM, M, B, lo, ch, wt, sn, vo, mo, le, ln, od, fe, se, td, th, cnt, bw, bs, pl, tk, tc, sill, day, lau, hf, at_, wg, lf, cf, dy, ti, bh, ln2, thr, v, rfl, rfl, r, rfl⟩ := hW
  obtain ⟨x1, hx1, e1⟩ : ∃ x : Int, inr x ∧ (xs (k + 1).toNat).toInt = x := ⟨_, inr_of _, rfl⟩
  obtain ⟨x2, hx2, e2⟩ : ∃ x : Int, inr x ∧ (xs (k + 2).toNat).toInt = x := ⟨_, inr_of _, rfl⟩
  have htc : 0 ≤ tcSW x1 x2 ∧ tcSW x1 x2 ≤ 3 := by unfold tcSW; (repeat' split) <;> omega
  refine Z.aload_n C dL_law_408 rfl ?_
  refine Z.aload_n C dL_law_409 rfl ?_
  refine Z.iload C dL_law_410 rfl ?_
  refine Z.iconst C dL_law_412 ?_
  refine Z.iadd C dL_law_413 ?_
  refine Z.sld C hX hbl hbA (by omega) (by omega) hL dL_law_414 ?_
  rw [e1]
  refine Z.aload_n C dL_law_415 rfl ?_
  refine Z.iload C dL_law_416 rfl ?_
  refine Z.iconst C dL_law_418 ?_
  refine Z.iadd C dL_law_419 ?_
  refine Z.sld C hX hbl hbA (by omega) (by omega) hL dL_law_420 ?_
  rw [e2]
  refine Z.aload_n C dL_law_421 rfl ?_
  refine Z.xSXIf (R := room_1) C (wr := wM adM cI hf at_ wg lf cf dy ti bh ln2 thr cnt pl tc sill day lau) 4 (h_area l D cI cJ cL adX M B lo ch wt sn vo mo le ln od fe se td th cnt bw bs pl tk tc sill day lau hl0 x1 x2 hx1 hx2 o v) gL_law_L_area rfl rfl rfl (by decide +kernel) ⟨Nat.le_of_ble_eq_true rfl, Nat.le_of_ble_eq_true rfl⟩ rfl rfl (Nat.le_of_ble_eq_true rfl) ⟨by show cells + 2 ≤ 601024; omega, by show slots + 12 ≤ 7293034; omega⟩ dL_law_422 (fun r1 w1 h1 => ?_) (fun E w1 hE => hE.elim)
  refine Z.istore C dL_law_425 (by decide) ?_
  rcases h1 with ⟨E, u, ⟨hu, hE⟩, hm, rfl⟩ | ⟨rfl, v1, u, ⟨hq, hv, hu⟩, rfl⟩
  · subst hu
    have hq := exX_r hE hm
    refine Z.aload_n C dL_law_427 rfl ?_
    refine Z.aload_n C dL_law_428 rfl ?_
    refine Z.iload C dL_law_429 rfl ?_
    refine Z.iconst C dL_law_431 ?_
    refine Z.iadd C dL_law_432 ?_
    refine Z.sld C hX hbl hbA (by omega) (by omega) hL dL_law_433 ?_
    rw [e1]
    refine Z.aload_n C dL_law_434 rfl ?_
    refine Z.iload C dL_law_435 rfl ?_
    refine Z.iconst C dL_law_437 ?_
    refine Z.iadd C dL_law_438 ?_
    refine Z.sld C hX hbl hbA (by omega) (by omega) hL dL_law_439 ?_
    rw [e2]
    refine Z.swap ?_
    refine Z.cVIf (R := room_1) C (wr := (o, oE cL v) :: wX adX cI cJ M B lo ch wt sn vo mo le ln od fe se td th cnt bw bs pl tk tc sill day lau) (wc := wM adM cI hf at_ wg lf cf dy ti bh ln2 thr cnt pl tc sill day lau) 0 2 (m_area l D cI cJ cL adM hf at_ wg lf cf dy ti bh ln2 thr cnt pl tc sill day lau M r.rh x1 x2 hx1 hx2) rfl rfl gL_law_X7_area rfl rfl rfl (by decide +kernel) ⟨Nat.le_of_ble_eq_true rfl, Nat.le_of_ble_eq_true rfl⟩ rfl rfl (Nat.le_of_ble_eq_true rfl) ⟨by show cells + 2 ≤ 601024; omega, by show slots + 12 ≤ 7293034; omega⟩ dL_law_440 (fun r2 w2 h2 => ?_)
    refine Z.istore C dL_law_443 (by decide) ?_
    obtain ⟨rfl, -⟩ := h2
    refine Z.aload_n C dL_law_445 rfl ?_
    refine Z.cVIf (R := room_1) C (wr := (o, oE cL v) :: wX adX cI cJ M B lo ch wt sn vo mo le ln od fe se td th cnt bw bs pl tk tc sill day lau) (wc := wM adM cI hf at_ wg lf cf dy ti bh ln2 (tcSW x1 x2) cnt pl tc sill day lau) 0 0 (m_thrown l D cI cJ cL adM hf at_ wg lf cf dy ti bh ln2 (tcSW x1 x2) cnt pl tc sill day lau) rfl rfl gL_law_X7_thrown rfl rfl rfl (by decide +kernel) ⟨Nat.le_of_ble_eq_true rfl, Nat.le_of_ble_eq_true rfl⟩ rfl rfl (Nat.le_of_ble_eq_true rfl) ⟨by show cells + 2 ≤ 601024; omega, by show slots + 12 ≤ 7293034; omega⟩ dL_law_446 (fun r3 w3 h3 => ?_)
    obtain ⟨rfl, rfl⟩ := h3
    refine Z.iload C dL_law_449 rfl ?_
    refine Z.icmpeq C 456 dL_law_451 (by decide) ⟨by omega, by omega⟩ ⟨by omega, by omega⟩ (fun hcmp => ?_) (fun hcmp => absurd (by omega) hcmp)
    refine Z.iload C dL_law_456 rfl ?_
    refine Z.ifne C 473 dL_law_458 (by decide) ⟨by omega, by omega⟩ (fun hcmp => ?_) (fun hcmp => absurd hcmp (by omega))
    refine Z.goto C 1264 dL_law_473 (by decide) ?_
    refine Z.swap ?_
    refine Z.widen (k := cells + 4) (n := slots + 24) (by omega) (by omega) ?_
    refine Z.lvw (lv' := [.ref b, .ref (adX 0), .ref (adM 0), .ref o, .int (iI k), .null, .null]) (fun i v9 h9 hne => lv7 i v9 h9 hne) ?_
    exact kk _ ⟨adX, adM, M, B, lo, ch, wt, sn, vo, mo, le, ln, od, fe, se, td, th, cnt, bw, bs, pl, tk, tc, sill, day, lau, hf, at_, wg, lf, cf, dy, ti, bh, ln2, tcSW x1 x2, _, rfl, rfl, r, rfl⟩
  · subst hu
    refine Z.aload_n C dL_law_427 rfl ?_
    refine Z.aload_n C dL_law_428 rfl ?_
    refine Z.iload C dL_law_429 rfl ?_
    refine Z.iconst C dL_law_431 ?_
    refine Z.iadd C dL_law_432 ?_
    refine Z.sld C hX hbl hbA (by omega) (by omega) hL dL_law_433 ?_
    rw [e1]
    refine Z.aload_n C dL_law_434 rfl ?_
    refine Z.iload C dL_law_435 rfl ?_
    refine Z.iconst C dL_law_437 ?_
    refine Z.iadd C dL_law_438 ?_
    refine Z.sld C hX hbl hbA (by omega) (by omega) hL dL_law_439 ?_
    rw [e2]
    refine Z.swap ?_
    refine Z.cVIf (R := room_1) C (wr := (o, oE cL v1) :: wX adX cI cJ M B lo ch wt sn vo mo le ln od fe se td th cnt bw bs pl tk tc sill day lau) (wc := wM adM cI hf at_ wg lf cf dy ti bh ln2 thr cnt pl tc sill day lau) 0 2 (m_area l D cI cJ cL adM hf at_ wg lf cf dy ti bh ln2 thr cnt pl tc sill day lau M r.rh x1 x2 hx1 hx2) rfl rfl gL_law_X7_area rfl rfl rfl (by decide +kernel) ⟨Nat.le_of_ble_eq_true rfl, Nat.le_of_ble_eq_true rfl⟩ rfl rfl (Nat.le_of_ble_eq_true rfl) ⟨by show cells + 2 ≤ 601024; omega, by show slots + 12 ≤ 7293034; omega⟩ dL_law_440 (fun r2 w2 h2 => ?_)
    refine Z.istore C dL_law_443 (by decide) ?_
    obtain ⟨rfl, h2⟩ := h2
    have hr2 := h2 hq
    refine Z.aload_n C dL_law_445 rfl ?_
    refine Z.cVIf (R := room_1) C (wr := (o, oE cL v1) :: wX adX cI cJ M B lo ch wt sn vo mo le ln od fe se td th cnt bw bs pl tk tc sill day lau) (wc := wM adM cI hf at_ wg lf cf dy ti bh ln2 (tcSW x1 x2) cnt pl tc sill day lau) 0 0 (m_thrown l D cI cJ cL adM hf at_ wg lf cf dy ti bh ln2 (tcSW x1 x2) cnt pl tc sill day lau) rfl rfl gL_law_X7_thrown rfl rfl rfl (by decide +kernel) ⟨Nat.le_of_ble_eq_true rfl, Nat.le_of_ble_eq_true rfl⟩ rfl rfl (Nat.le_of_ble_eq_true rfl) ⟨by show cells + 2 ≤ 601024; omega, by show slots + 12 ≤ 7293034; omega⟩ dL_law_446 (fun r3 w3 h3 => ?_)
    obtain ⟨rfl, rfl⟩ := h3
    refine Z.iload C dL_law_449 rfl ?_
    refine Z.icmpeq C 456 dL_law_451 (by decide) ⟨by omega, by omega⟩ ⟨by omega, by omega⟩ (fun hcmp => ?_) (fun hcmp => absurd (by omega) hcmp)
    refine Z.iload C dL_law_456 rfl ?_
    refine Z.ifne C 473 dL_law_458 (by decide) ⟨by omega, by omega⟩ (fun hcmp => absurd rfl hcmp) (fun hcmp => ?_)
    refine Z.aload_n C dL_law_461 rfl ?_
    refine Z.iconst C dL_law_462 ?_
    refine Z.laldO C 0 rfl dL_law_463 ?_
    refine Z.iload C dL_law_464 rfl ?_
    refine Z.i2l C dL_law_466 ?_
    rw [hv, hr2]
    refine Z.lcmpE C dL_law_467 ?_
    refine Z.ifeq C 473 dL_law_468 (by decide) ⟨by decide, by decide⟩ (fun hcmp => ?_) (fun hcmp => absurd rfl hcmp)
    refine Z.goto C 1264 dL_law_473 (by decide) ?_
    refine Z.swap ?_
    refine Z.widen (k := cells + 4) (n := slots + 24) (by omega) (by omega) ?_
    refine Z.lvw (lv' := [.ref b, .ref (adX 0), .ref (adM 0), .ref o, .int (iI k), .null, .null]) (fun i v9 h9 hne => lv7 i v9 h9 hne) ?_
    exact kk _ ⟨adX, adM, M, B, lo, ch, wt, sn, vo, mo, le, ln, od, fe, se, td, th, cnt, bw, bs, pl, tk, tc, sill, day, lau, hf, at_, wg, lf, cf, dy, ti, bh, ln2, tcSW x1 x2, _, rfl, rfl, ⟨r.rh, r.hM, r.hB, r.c0, r.c1, r.en, r.wa, r.w0, r.gb, r.ab, r.wk, r.b0, r.b1, r.s0, r.s1, r.el, r.p0, r.p1, r.et, r.t0, r.t1, r.ta, r.hu, r.td0, r.dy0, r.th0, r.ti0, r.es, r.l0, r.l1, r.ed, r.d0, r.d1, r.ei, r.i0⟩, rfl⟩
set_option maxHeartbeats 4000000 in
set_option maxRecDepth 100000 in
theorem arm_volume (C : Cx p s m args meth c 7 A D cI cJ cL cL_law wsL_law RL) (hl0 : l.stackTraces = false) (hX : va_X b L xs s s.heap) (hbl : b < s.heap.size) (hbA : ¬ A b) (hL : L ≤ 2048) (k0 : 0 ≤ k) (k1 : k + 4 ≤ L) (hc : cells + 4 ≤ 601024) (hs : slots + 24 ≤ 7293034) (hW : LWp fb mdl o cI cJ cL ws) (kk : ∀ ws' : va_W, LWp fb mdl o cI cJ cL ws' → Z p l e room_1 s m args below meth c 7 A D Q (cells + 4) (slots + 24) ws' [.ref b, .ref fb, .ref mdl, .ref o, .int (iI k), .null, .null] 1264 []) : Z p l e room_1 s m args below meth c 7 A D Q cells slots ws [.ref b, .ref fb, .ref mdl, .ref o, .int (iI k), .null, .null] 476 [] := by
  obtain ⟨adX, adM, M, B, lo, ch, wt, sn, vo, mo, le, ln, od, fe, se, td, th, cnt, bw, bs, pl, tk, tc, sill, day, lau, hf, at_, wg, lf, cf, dy, ti, bh, ln2, thr, v, rfl, rfl, r, rfl⟩ := hW
  obtain ⟨x1, hx1, e1⟩ : ∃ x : Int, inr x ∧ (xs (k + 1).toNat).toInt = x := ⟨_, inr_of _, rfl⟩
  have htc : 0 ≤ tcW x1 ∧ tcW x1 ≤ 3 := by unfold tcW; (repeat' split) <;> omega
  refine Z.aload_n C dL_law_476 rfl ?_
  refine Z.aload_n C dL_law_477 rfl ?_
  refine Z.iload C dL_law_478 rfl ?_
  refine Z.iconst C dL_law_480 ?_
  refine Z.iadd C dL_law_481 ?_
  refine Z.sld C hX hbl hbA (by omega) (by omega) hL dL_law_482 ?_
  rw [e1]
  refine Z.aload_n C dL_law_483 rfl ?_
  refine Z.xSXIf (R := room_1) C (wr := wM adM cI hf at_ wg lf cf dy ti bh ln2 thr cnt pl tc sill day lau) 3 (h_volume l D cI cJ cL adX M B lo ch wt sn vo mo le ln od fe se td th cnt bw bs pl tk tc sill day lau hl0 x1 hx1 o v) gL_law_L_volume rfl rfl rfl (by decide +kernel) ⟨Nat.le_of_ble_eq_true rfl, Nat.le_of_ble_eq_true rfl⟩ rfl rfl (Nat.le_of_ble_eq_true rfl) ⟨by show cells + 1 ≤ 601024; omega, by show slots + 6 ≤ 7293034; omega⟩ dL_law_484 (fun r1 w1 h1 => ?_) (fun E w1 hE => hE.elim)
  refine Z.istore C dL_law_487 (by decide) ?_
  rcases h1 with ⟨E, u, ⟨hu, hE⟩, hm, rfl⟩ | ⟨rfl, v1, u, ⟨hq, hv, hu⟩, rfl⟩
  · subst hu
    have hq := exX_r hE hm
    refine Z.aload_n C dL_law_489 rfl ?_
    refine Z.aload_n C dL_law_490 rfl ?_
    refine Z.iload C dL_law_491 rfl ?_
    refine Z.iconst C dL_law_493 ?_
    refine Z.iadd C dL_law_494 ?_
    refine Z.sld C hX hbl hbA (by omega) (by omega) hL dL_law_495 ?_
    rw [e1]
    refine Z.swap ?_
    refine Z.cVIf (R := room_1) C (wr := (o, oE cL v) :: wX adX cI cJ M B lo ch wt sn vo mo le ln od fe se td th cnt bw bs pl tk tc sill day lau) (wc := wM adM cI hf at_ wg lf cf dy ti bh ln2 thr cnt pl tc sill day lau) 0 1 (m_volume l D cI cJ cL adM hf at_ wg lf cf dy ti bh ln2 thr cnt pl tc sill day lau M r.rh x1 hx1) rfl rfl gL_law_X7_volume rfl rfl rfl (by decide +kernel) ⟨Nat.le_of_ble_eq_true rfl, Nat.le_of_ble_eq_true rfl⟩ rfl rfl (Nat.le_of_ble_eq_true rfl) ⟨by show cells + 1 ≤ 601024; omega, by show slots + 6 ≤ 7293034; omega⟩ dL_law_496 (fun r2 w2 h2 => ?_)
    refine Z.istore C dL_law_499 (by decide) ?_
    obtain ⟨rfl, -⟩ := h2
    refine Z.aload_n C dL_law_501 rfl ?_
    refine Z.cVIf (R := room_1) C (wr := (o, oE cL v) :: wX adX cI cJ M B lo ch wt sn vo mo le ln od fe se td th cnt bw bs pl tk tc sill day lau) (wc := wM adM cI hf at_ wg lf cf dy ti bh ln2 (tcW x1) cnt pl tc sill day lau) 0 0 (m_thrown l D cI cJ cL adM hf at_ wg lf cf dy ti bh ln2 (tcW x1) cnt pl tc sill day lau) rfl rfl gL_law_X7_thrown rfl rfl rfl (by decide +kernel) ⟨Nat.le_of_ble_eq_true rfl, Nat.le_of_ble_eq_true rfl⟩ rfl rfl (Nat.le_of_ble_eq_true rfl) ⟨by show cells + 1 ≤ 601024; omega, by show slots + 6 ≤ 7293034; omega⟩ dL_law_502 (fun r3 w3 h3 => ?_)
    obtain ⟨rfl, rfl⟩ := h3
    refine Z.iload C dL_law_505 rfl ?_
    refine Z.icmpeq C 512 dL_law_507 (by decide) ⟨by omega, by omega⟩ ⟨by omega, by omega⟩ (fun hcmp => ?_) (fun hcmp => absurd (by omega) hcmp)
    refine Z.iload C dL_law_512 rfl ?_
    refine Z.ifne C 529 dL_law_514 (by decide) ⟨by omega, by omega⟩ (fun hcmp => ?_) (fun hcmp => absurd hcmp (by omega))
    refine Z.goto C 1264 dL_law_529 (by decide) ?_
    refine Z.swap ?_
    refine Z.widen (k := cells + 4) (n := slots + 24) (by omega) (by omega) ?_
    refine Z.lvw (lv' := [.ref b, .ref (adX 0), .ref (adM 0), .ref o, .int (iI k), .null, .null]) (fun i v9 h9 hne => lv7 i v9 h9 hne) ?_
    exact kk _ ⟨adX, adM, M, B, lo, ch, wt, sn, vo, mo, le, ln, od, fe, se, td, th, cnt, bw, bs, pl, tk, tc, sill, day, lau, hf, at_, wg, lf, cf, dy, ti, bh, ln2, tcW x1, _, rfl, rfl, r, rfl⟩
  · subst hu
    refine Z.aload_n C dL_law_489 rfl ?_
    refine Z.aload_n C dL_law_490 rfl ?_
    refine Z.iload C dL_law_491 rfl ?_
    refine Z.iconst C dL_law_493 ?_
    refine Z.iadd C dL_law_494 ?_
    refine Z.sld C hX hbl hbA (by omega) (by omega) hL dL_law_495 ?_
    rw [e1]
    refine Z.swap ?_
    refine Z.cVIf (R := room_1) C (wr := (o, oE cL v1) :: wX adX cI cJ M B lo ch wt sn vo mo le ln od fe se td th cnt bw bs pl tk tc sill day lau) (wc := wM adM cI hf at_ wg lf cf dy ti bh ln2 thr cnt pl tc sill day lau) 0 1 (m_volume l D cI cJ cL adM hf at_ wg lf cf dy ti bh ln2 thr cnt pl tc sill day lau M r.rh x1 hx1) rfl rfl gL_law_X7_volume rfl rfl rfl (by decide +kernel) ⟨Nat.le_of_ble_eq_true rfl, Nat.le_of_ble_eq_true rfl⟩ rfl rfl (Nat.le_of_ble_eq_true rfl) ⟨by show cells + 1 ≤ 601024; omega, by show slots + 6 ≤ 7293034; omega⟩ dL_law_496 (fun r2 w2 h2 => ?_)
    refine Z.istore C dL_law_499 (by decide) ?_
    obtain ⟨rfl, h2⟩ := h2
    have hr2 := h2 hq
    refine Z.aload_n C dL_law_501 rfl ?_
    refine Z.cVIf (R := room_1) C (wr := (o, oE cL v1) :: wX adX cI cJ M B lo ch wt sn vo mo le ln od fe se td th cnt bw bs pl tk tc sill day lau) (wc := wM adM cI hf at_ wg lf cf dy ti bh ln2 (tcW x1) cnt pl tc sill day lau) 0 0 (m_thrown l D cI cJ cL adM hf at_ wg lf cf dy ti bh ln2 (tcW x1) cnt pl tc sill day lau) rfl rfl gL_law_X7_thrown rfl rfl rfl (by decide +kernel) ⟨Nat.le_of_ble_eq_true rfl, Nat.le_of_ble_eq_true rfl⟩ rfl rfl (Nat.le_of_ble_eq_true rfl) ⟨by show cells + 1 ≤ 601024; omega, by show slots + 6 ≤ 7293034; omega⟩ dL_law_502 (fun r3 w3 h3 => ?_)
    obtain ⟨rfl, rfl⟩ := h3
    refine Z.iload C dL_law_505 rfl ?_
    refine Z.icmpeq C 512 dL_law_507 (by decide) ⟨by omega, by omega⟩ ⟨by omega, by omega⟩ (fun hcmp => ?_) (fun hcmp => absurd (by omega) hcmp)
    refine Z.iload C dL_law_512 rfl ?_
    refine Z.ifne C 529 dL_law_514 (by decide) ⟨by omega, by omega⟩ (fun hcmp => absurd rfl hcmp) (fun hcmp => ?_)
    refine Z.aload_n C dL_law_517 rfl ?_
    refine Z.iconst C dL_law_518 ?_
    refine Z.laldO C 0 rfl dL_law_519 ?_
    refine Z.iload C dL_law_520 rfl ?_
    refine Z.i2l C dL_law_522 ?_
    rw [hv, hr2]
    refine Z.lcmpE C dL_law_523 ?_
    refine Z.ifeq C 529 dL_law_524 (by decide) ⟨by decide, by decide⟩ (fun hcmp => ?_) (fun hcmp => absurd rfl hcmp)
    refine Z.goto C 1264 dL_law_529 (by decide) ?_
    refine Z.swap ?_
    refine Z.widen (k := cells + 4) (n := slots + 24) (by omega) (by omega) ?_
    refine Z.lvw (lv' := [.ref b, .ref (adX 0), .ref (adM 0), .ref o, .int (iI k), .null, .null]) (fun i v9 h9 hne => lv7 i v9 h9 hne) ?_
    exact kk _ ⟨adX, adM, M, B, lo, ch, wt, sn, vo, mo, le, ln, od, fe, se, td, th, cnt, bw, bs, pl, tk, tc, sill, day, lau, hf, at_, wg, lf, cf, dy, ti, bh, ln2, tcW x1, _, rfl, rfl, ⟨r.rh, r.hM, r.hB, r.c0, r.c1, r.en, r.wa, r.w0, r.gb, r.ab, r.wk, r.b0, r.b1, r.s0, r.s1, r.el, r.p0, r.p1, r.et, r.t0, r.t1, r.ta, r.hu, r.td0, r.dy0, r.th0, r.ti0, r.es, r.l0, r.l1, r.ed, r.d0, r.d1, r.ei, r.i0⟩, rfl⟩
set_option maxHeartbeats 4000000 in
set_option maxRecDepth 100000 in
theorem arm_volumeAnew (C : Cx p s m args meth c 7 A D cI cJ cL cL_law wsL_law RL) (hl0 : l.stackTraces = false) (hX : va_X b L xs s s.heap) (hbl : b < s.heap.size) (hbA : ¬ A b) (hL : L ≤ 2048) (k0 : 0 ≤ k) (k1 : k + 4 ≤ L) (hc : cells + 4 ≤ 601024) (hs : slots + 24 ≤ 7293034) (hW : LWp fb mdl o cI cJ cL ws) (kk : ∀ ws' : va_W, LWp fb mdl o cI cJ cL ws' → Z p l e room_1 s m args below meth c 7 A D Q (cells + 4) (slots + 24) ws' [.ref b, .ref fb, .ref mdl, .ref o, .int (iI k), .null, .null] 1264 []) : Z p l e room_1 s m args below meth c 7 A D Q cells slots ws [.ref b, .ref fb, .ref mdl, .ref o, .int (iI k), .null, .null] 532 [] := by
  obtain ⟨adX, adM, M, B, lo, ch, wt, sn, vo, mo, le, ln, od, fe, se, td, th, cnt, bw, bs, pl, tk, tc, sill, day, lau, hf, at_, wg, lf, cf, dy, ti, bh, ln2, thr, v, rfl, rfl, r, rfl⟩ := hW
  obtain ⟨x1, hx1, e1⟩ : ∃ x : Int, inr x ∧ (xs (k + 1).toNat).toInt = x := ⟨_, inr_of _, rfl⟩
  have htc : 0 ≤ tcW x1 ∧ tcW x1 ≤ 3 := by unfold tcW; (repeat' split) <;> omega
  refine Z.aload_n C dL_law_532 rfl ?_
  refine Z.aload_n C dL_law_533 rfl ?_
  refine Z.iload C dL_law_534 rfl ?_
  refine Z.iconst C dL_law_536 ?_
  refine Z.iadd C dL_law_537 ?_
  refine Z.sld C hX hbl hbA (by omega) (by omega) hL dL_law_538 ?_
  rw [e1]
  refine Z.aload_n C dL_law_539 rfl ?_
  refine Z.xSXIf (R := room_1) C (wr := wM adM cI hf at_ wg lf cf dy ti bh ln2 thr cnt pl tc sill day lau) 3 (h_volumeAnew l D cI cJ cL adX M B lo ch wt sn vo mo le ln od fe se td th cnt bw bs pl tk tc sill day lau hl0 x1 hx1 o v) gL_law_L_volumeAnew rfl rfl rfl (by decide +kernel) ⟨Nat.le_of_ble_eq_true rfl, Nat.le_of_ble_eq_true rfl⟩ rfl rfl (Nat.le_of_ble_eq_true rfl) ⟨by show cells + 1 ≤ 601024; omega, by show slots + 6 ≤ 7293034; omega⟩ dL_law_540 (fun r1 w1 h1 => ?_) (fun E w1 hE => hE.elim)
  refine Z.istore C dL_law_543 (by decide) ?_
  rcases h1 with ⟨E, u, ⟨hu, hE⟩, hm, rfl⟩ | ⟨rfl, v1, u, ⟨hq, hv, hu⟩, rfl⟩
  · subst hu
    have hq := exX_r hE hm
    refine Z.aload_n C dL_law_545 rfl ?_
    refine Z.aload_n C dL_law_546 rfl ?_
    refine Z.iload C dL_law_547 rfl ?_
    refine Z.iconst C dL_law_549 ?_
    refine Z.iadd C dL_law_550 ?_
    refine Z.sld C hX hbl hbA (by omega) (by omega) hL dL_law_551 ?_
    rw [e1]
    refine Z.swap ?_
    refine Z.cVIf (R := room_1) C (wr := (o, oE cL v) :: wX adX cI cJ M B lo ch wt sn vo mo le ln od fe se td th cnt bw bs pl tk tc sill day lau) (wc := wM adM cI hf at_ wg lf cf dy ti bh ln2 thr cnt pl tc sill day lau) 0 1 (m_volumeAnew l D cI cJ cL adM hf at_ wg lf cf dy ti bh ln2 thr cnt pl tc sill day lau M r.rh x1 hx1) rfl rfl gL_law_X7_volumeAnew rfl rfl rfl (by decide +kernel) ⟨Nat.le_of_ble_eq_true rfl, Nat.le_of_ble_eq_true rfl⟩ rfl rfl (Nat.le_of_ble_eq_true rfl) ⟨by show cells + 1 ≤ 601024; omega, by show slots + 6 ≤ 7293034; omega⟩ dL_law_552 (fun r2 w2 h2 => ?_)
    refine Z.istore C dL_law_555 (by decide) ?_
    obtain ⟨rfl, -⟩ := h2
    refine Z.aload_n C dL_law_557 rfl ?_
    refine Z.cVIf (R := room_1) C (wr := (o, oE cL v) :: wX adX cI cJ M B lo ch wt sn vo mo le ln od fe se td th cnt bw bs pl tk tc sill day lau) (wc := wM adM cI hf at_ wg lf cf dy ti bh ln2 (tcW x1) cnt pl tc sill day lau) 0 0 (m_thrown l D cI cJ cL adM hf at_ wg lf cf dy ti bh ln2 (tcW x1) cnt pl tc sill day lau) rfl rfl gL_law_X7_thrown rfl rfl rfl (by decide +kernel) ⟨Nat.le_of_ble_eq_true rfl, Nat.le_of_ble_eq_true rfl⟩ rfl rfl (Nat.le_of_ble_eq_true rfl) ⟨by show cells + 1 ≤ 601024; omega, by show slots + 6 ≤ 7293034; omega⟩ dL_law_558 (fun r3 w3 h3 => ?_)
    obtain ⟨rfl, rfl⟩ := h3
    refine Z.iload C dL_law_561 rfl ?_
    refine Z.icmpeq C 568 dL_law_563 (by decide) ⟨by omega, by omega⟩ ⟨by omega, by omega⟩ (fun hcmp => ?_) (fun hcmp => absurd (by omega) hcmp)
    refine Z.iload C dL_law_568 rfl ?_
    refine Z.ifne C 585 dL_law_570 (by decide) ⟨by omega, by omega⟩ (fun hcmp => ?_) (fun hcmp => absurd hcmp (by omega))
    refine Z.goto C 1264 dL_law_585 (by decide) ?_
    refine Z.swap ?_
    refine Z.widen (k := cells + 4) (n := slots + 24) (by omega) (by omega) ?_
    refine Z.lvw (lv' := [.ref b, .ref (adX 0), .ref (adM 0), .ref o, .int (iI k), .null, .null]) (fun i v9 h9 hne => lv7 i v9 h9 hne) ?_
    exact kk _ ⟨adX, adM, M, B, lo, ch, wt, sn, vo, mo, le, ln, od, fe, se, td, th, cnt, bw, bs, pl, tk, tc, sill, day, lau, hf, at_, wg, lf, cf, dy, ti, bh, ln2, tcW x1, _, rfl, rfl, r, rfl⟩
  · subst hu
    refine Z.aload_n C dL_law_545 rfl ?_
    refine Z.aload_n C dL_law_546 rfl ?_
    refine Z.iload C dL_law_547 rfl ?_
    refine Z.iconst C dL_law_549 ?_
    refine Z.iadd C dL_law_550 ?_
    refine Z.sld C hX hbl hbA (by omega) (by omega) hL dL_law_551 ?_
    rw [e1]
    refine Z.swap ?_
    refine Z.cVIf (R := room_1) C (wr := (o, oE cL v1) :: wX adX cI cJ M B lo ch wt sn vo mo le ln od fe se td th cnt bw bs pl tk tc sill day lau) (wc := wM adM cI hf at_ wg lf cf dy ti bh ln2 thr cnt pl tc sill day lau) 0 1 (m_volumeAnew l D cI cJ cL adM hf at_ wg lf cf dy ti bh ln2 thr cnt pl tc sill day lau M r.rh x1 hx1) rfl rfl gL_law_X7_volumeAnew rfl rfl rfl (by decide +kernel) ⟨Nat.le_of_ble_eq_true rfl, Nat.le_of_ble_eq_true rfl⟩ rfl rfl (Nat.le_of_ble_eq_true rfl) ⟨by show cells + 1 ≤ 601024; omega, by show slots + 6 ≤ 7293034; omega⟩ dL_law_552 (fun r2 w2 h2 => ?_)
    refine Z.istore C dL_law_555 (by decide) ?_
    obtain ⟨rfl, h2⟩ := h2
    have hr2 := h2 hq
    refine Z.aload_n C dL_law_557 rfl ?_
    refine Z.cVIf (R := room_1) C (wr := (o, oE cL v1) :: wX adX cI cJ M B lo ch wt sn vo mo le ln od fe se td th cnt bw bs pl tk tc sill day lau) (wc := wM adM cI hf at_ wg lf cf dy ti bh ln2 (tcW x1) cnt pl tc sill day lau) 0 0 (m_thrown l D cI cJ cL adM hf at_ wg lf cf dy ti bh ln2 (tcW x1) cnt pl tc sill day lau) rfl rfl gL_law_X7_thrown rfl rfl rfl (by decide +kernel) ⟨Nat.le_of_ble_eq_true rfl, Nat.le_of_ble_eq_true rfl⟩ rfl rfl (Nat.le_of_ble_eq_true rfl) ⟨by show cells + 1 ≤ 601024; omega, by show slots + 6 ≤ 7293034; omega⟩ dL_law_558 (fun r3 w3 h3 => ?_)
    obtain ⟨rfl, rfl⟩ := h3
    refine Z.iload C dL_law_561 rfl ?_
    refine Z.icmpeq C 568 dL_law_563 (by decide) ⟨by omega, by omega⟩ ⟨by omega, by omega⟩ (fun hcmp => ?_) (fun hcmp => absurd (by omega) hcmp)
    refine Z.iload C dL_law_568 rfl ?_
    refine Z.ifne C 585 dL_law_570 (by decide) ⟨by omega, by omega⟩ (fun hcmp => absurd rfl hcmp) (fun hcmp => ?_)
    refine Z.aload_n C dL_law_573 rfl ?_
    refine Z.iconst C dL_law_574 ?_
    refine Z.laldO C 0 rfl dL_law_575 ?_
    refine Z.iload C dL_law_576 rfl ?_
    refine Z.i2l C dL_law_578 ?_
    rw [hv, hr2, slc_vol]
    refine Z.lcmpE C dL_law_579 ?_
    refine Z.ifeq C 585 dL_law_580 (by decide) ⟨by decide, by decide⟩ (fun hcmp => ?_) (fun hcmp => absurd rfl hcmp)
    refine Z.goto C 1264 dL_law_585 (by decide) ?_
    refine Z.swap ?_
    refine Z.widen (k := cells + 4) (n := slots + 24) (by omega) (by omega) ?_
    refine Z.lvw (lv' := [.ref b, .ref (adX 0), .ref (adM 0), .ref o, .int (iI k), .null, .null]) (fun i v9 h9 hne => lv7 i v9 h9 hne) ?_
    exact kk _ ⟨adX, adM, M, B, lo, ch, wt, sn, vo, mo, le, ln, od, fe, se, td, th, cnt, bw, bs, pl, tk, tc, sill, day, lau, hf, at_, wg, lf, cf, dy, ti, bh, ln2, tcW x1, _, rfl, rfl, ⟨r.rh, r.hM, r.hB, r.c0, r.c1, r.en, r.wa, r.w0, r.gb, r.ab, r.wk, r.b0, r.b1, r.s0, r.s1, r.el, r.p0, r.p1, r.et, r.t0, r.t1, r.ta, r.hu, r.td0, r.dy0, r.th0, r.ti0, r.es, r.l0, r.l1, r.ed, r.d0, r.d1, r.ei, r.i0⟩, rfl⟩
set_option maxHeartbeats 4000000 in
set_option maxRecDepth 100000 in
theorem arm_strake (C : Cx p s m args meth c 7 A D cI cJ cL cL_law wsL_law RL) (hl0 : l.stackTraces = false) (hX : va_X b L xs s s.heap) (hbl : b < s.heap.size) (hbA : ¬ A b) (hL : L ≤ 2048) (k0 : 0 ≤ k) (k1 : k + 4 ≤ L) (hc : cells + 4 ≤ 601024) (hs : slots + 24 ≤ 7293034) (hW : LWp fb mdl o cI cJ cL ws) (kk : ∀ ws' : va_W, LWp fb mdl o cI cJ cL ws' → Z p l e room_1 s m args below meth c 7 A D Q (cells + 4) (slots + 24) ws' [.ref b, .ref fb, .ref mdl, .ref o, .int (iI k), .null, .null] 1264 []) : Z p l e room_1 s m args below meth c 7 A D Q cells slots ws [.ref b, .ref fb, .ref mdl, .ref o, .int (iI k), .null, .null] 818 [] := by
  obtain ⟨adX, adM, M, B, lo, ch, wt, sn, vo, mo, le, ln, od, fe, se, td, th, cnt, bw, bs, pl, tk, tc, sill, day, lau, hf, at_, wg, lf, cf, dy, ti, bh, ln2, thr, v, rfl, rfl, r, rfl⟩ := hW
  obtain ⟨x1, hx1, e1⟩ : ∃ x : Int, inr x ∧ (xs (k + 1).toNat).toInt = x := ⟨_, inr_of _, rfl⟩
  have htc : 0 ≤ tcK x1 ∧ tcK x1 ≤ 3 := by unfold tcK; (repeat' split) <;> omega
  refine Z.aload_n C dL_law_818 rfl ?_
  refine Z.aload_n C dL_law_819 rfl ?_
  refine Z.iload C dL_law_820 rfl ?_
  refine Z.iconst C dL_law_822 ?_
  refine Z.iadd C dL_law_823 ?_
  refine Z.sld C hX hbl hbA (by omega) (by omega) hL dL_law_824 ?_
  rw [e1]
  refine Z.aload_n C dL_law_825 rfl ?_
  refine Z.xSXIf (R := room_1) C (wr := wM adM cI hf at_ wg lf cf dy ti bh ln2 thr cnt pl tc sill day lau) 3 (h_strake l D cI cJ cL adX M B lo ch wt sn vo mo le ln od fe se td th cnt bw bs pl tk tc sill day lau hl0 r.hM x1 hx1 o v) gL_law_L_strake rfl rfl rfl (by decide +kernel) ⟨Nat.le_of_ble_eq_true rfl, Nat.le_of_ble_eq_true rfl⟩ rfl rfl (Nat.le_of_ble_eq_true rfl) ⟨by show cells + 1 ≤ 601024; omega, by show slots + 6 ≤ 7293034; omega⟩ dL_law_826 (fun r1 w1 h1 => ?_) (fun E w1 hE => hE.elim)
  refine Z.istore C dL_law_829 (by decide) ?_
  rcases h1 with ⟨E, u, ⟨hu, hE⟩, hm, rfl⟩ | ⟨rfl, v1, u, ⟨hq, hv, hu⟩, rfl⟩
  · subst hu
    have hq := exX_r hE hm
    refine Z.aload_n C dL_law_831 rfl ?_
    refine Z.aload_n C dL_law_832 rfl ?_
    refine Z.iload C dL_law_833 rfl ?_
    refine Z.iconst C dL_law_835 ?_
    refine Z.iadd C dL_law_836 ?_
    refine Z.sld C hX hbl hbA (by omega) (by omega) hL dL_law_837 ?_
    rw [e1]
    refine Z.swap ?_
    refine Z.cVIf (R := room_1) C (wr := (o, oE cL v) :: wX adX cI cJ M B lo ch wt sn vo mo le ln od fe se td th cnt bw bs pl tk tc sill day lau) (wc := wM adM cI hf at_ wg lf cf dy ti bh ln2 thr cnt pl tc sill day lau) 0 1 (m_strake l D cI cJ cL adM hf at_ wg lf cf dy ti bh ln2 thr cnt pl tc sill day lau M r.hM r.rh x1 hx1) rfl rfl gL_law_X7_strake rfl rfl rfl (by decide +kernel) ⟨Nat.le_of_ble_eq_true rfl, Nat.le_of_ble_eq_true rfl⟩ rfl rfl (Nat.le_of_ble_eq_true rfl) ⟨by show cells + 1 ≤ 601024; omega, by show slots + 6 ≤ 7293034; omega⟩ dL_law_838 (fun r2 w2 h2 => ?_)
    refine Z.istore C dL_law_841 (by decide) ?_
    obtain ⟨rfl, -⟩ := h2
    refine Z.aload_n C dL_law_843 rfl ?_
    refine Z.cVIf (R := room_1) C (wr := (o, oE cL v) :: wX adX cI cJ M B lo ch wt sn vo mo le ln od fe se td th cnt bw bs pl tk tc sill day lau) (wc := wM adM cI hf at_ wg lf cf dy ti bh ln2 (tcK x1) cnt pl tc sill day lau) 0 0 (m_thrown l D cI cJ cL adM hf at_ wg lf cf dy ti bh ln2 (tcK x1) cnt pl tc sill day lau) rfl rfl gL_law_X7_thrown rfl rfl rfl (by decide +kernel) ⟨Nat.le_of_ble_eq_true rfl, Nat.le_of_ble_eq_true rfl⟩ rfl rfl (Nat.le_of_ble_eq_true rfl) ⟨by show cells + 1 ≤ 601024; omega, by show slots + 6 ≤ 7293034; omega⟩ dL_law_844 (fun r3 w3 h3 => ?_)
    obtain ⟨rfl, rfl⟩ := h3
    refine Z.iload C dL_law_847 rfl ?_
    refine Z.icmpeq C 854 dL_law_849 (by decide) ⟨by omega, by omega⟩ ⟨by omega, by omega⟩ (fun hcmp => ?_) (fun hcmp => absurd (by omega) hcmp)
    refine Z.iload C dL_law_854 rfl ?_
    refine Z.ifne C 871 dL_law_856 (by decide) ⟨by omega, by omega⟩ (fun hcmp => ?_) (fun hcmp => absurd hcmp (by omega))
    refine Z.goto C 1264 dL_law_871 (by decide) ?_
    refine Z.swap ?_
    refine Z.widen (k := cells + 4) (n := slots + 24) (by omega) (by omega) ?_
    refine Z.lvw (lv' := [.ref b, .ref (adX 0), .ref (adM 0), .ref o, .int (iI k), .null, .null]) (fun i v9 h9 hne => lv7 i v9 h9 hne) ?_
    exact kk _ ⟨adX, adM, M, B, lo, ch, wt, sn, vo, mo, le, ln, od, fe, se, td, th, cnt, bw, bs, pl, tk, tc, sill, day, lau, hf, at_, wg, lf, cf, dy, ti, bh, ln2, tcK x1, _, rfl, rfl, r, rfl⟩
  · subst hu
    refine Z.aload_n C dL_law_831 rfl ?_
    refine Z.aload_n C dL_law_832 rfl ?_
    refine Z.iload C dL_law_833 rfl ?_
    refine Z.iconst C dL_law_835 ?_
    refine Z.iadd C dL_law_836 ?_
    refine Z.sld C hX hbl hbA (by omega) (by omega) hL dL_law_837 ?_
    rw [e1]
    refine Z.swap ?_
    refine Z.cVIf (R := room_1) C (wr := (o, oE cL v1) :: wX adX cI cJ M B lo ch wt sn vo mo le ln od fe se td th cnt bw bs pl tk tc sill day lau) (wc := wM adM cI hf at_ wg lf cf dy ti bh ln2 thr cnt pl tc sill day lau) 0 1 (m_strake l D cI cJ cL adM hf at_ wg lf cf dy ti bh ln2 thr cnt pl tc sill day lau M r.hM r.rh x1 hx1) rfl rfl gL_law_X7_strake rfl rfl rfl (by decide +kernel) ⟨Nat.le_of_ble_eq_true rfl, Nat.le_of_ble_eq_true rfl⟩ rfl rfl (Nat.le_of_ble_eq_true rfl) ⟨by show cells + 1 ≤ 601024; omega, by show slots + 6 ≤ 7293034; omega⟩ dL_law_838 (fun r2 w2 h2 => ?_)
    refine Z.istore C dL_law_841 (by decide) ?_
    obtain ⟨rfl, h2⟩ := h2
    have hr2 := h2 hq
    refine Z.aload_n C dL_law_843 rfl ?_
    refine Z.cVIf (R := room_1) C (wr := (o, oE cL v1) :: wX adX cI cJ M B lo ch wt sn vo mo le ln od fe se td th cnt bw bs pl tk tc sill day lau) (wc := wM adM cI hf at_ wg lf cf dy ti bh ln2 (tcK x1) cnt pl tc sill day lau) 0 0 (m_thrown l D cI cJ cL adM hf at_ wg lf cf dy ti bh ln2 (tcK x1) cnt pl tc sill day lau) rfl rfl gL_law_X7_thrown rfl rfl rfl (by decide +kernel) ⟨Nat.le_of_ble_eq_true rfl, Nat.le_of_ble_eq_true rfl⟩ rfl rfl (Nat.le_of_ble_eq_true rfl) ⟨by show cells + 1 ≤ 601024; omega, by show slots + 6 ≤ 7293034; omega⟩ dL_law_844 (fun r3 w3 h3 => ?_)
    obtain ⟨rfl, rfl⟩ := h3
    refine Z.iload C dL_law_847 rfl ?_
    refine Z.icmpeq C 854 dL_law_849 (by decide) ⟨by omega, by omega⟩ ⟨by omega, by omega⟩ (fun hcmp => ?_) (fun hcmp => absurd (by omega) hcmp)
    refine Z.iload C dL_law_854 rfl ?_
    refine Z.ifne C 871 dL_law_856 (by decide) ⟨by omega, by omega⟩ (fun hcmp => absurd rfl hcmp) (fun hcmp => ?_)
    refine Z.aload_n C dL_law_859 rfl ?_
    refine Z.iconst C dL_law_860 ?_
    refine Z.laldO C 0 rfl dL_law_861 ?_
    refine Z.iload C dL_law_862 rfl ?_
    refine Z.i2l C dL_law_864 ?_
    rw [hv, hr2]
    refine Z.lcmpE C dL_law_865 ?_
    refine Z.ifeq C 871 dL_law_866 (by decide) ⟨by decide, by decide⟩ (fun hcmp => ?_) (fun hcmp => absurd rfl hcmp)
    refine Z.goto C 1264 dL_law_871 (by decide) ?_
    refine Z.swap ?_
    refine Z.widen (k := cells + 4) (n := slots + 24) (by omega) (by omega) ?_
    refine Z.lvw (lv' := [.ref b, .ref (adX 0), .ref (adM 0), .ref o, .int (iI k), .null, .null]) (fun i v9 h9 hne => lv7 i v9 h9 hne) ?_
    exact kk _ ⟨adX, adM, M, B, lo, ch, wt, sn, vo, mo, le, ln, od, fe, se, td, th, cnt, bw, bs, pl, tk, tc, sill, day, lau, hf, at_, wg, lf, cf, dy, ti, bh, ln2, tcK x1, _, rfl, rfl, ⟨r.rh, r.hM, r.hB, r.c0, r.c1, r.en, r.wa, r.w0, r.gb, r.ab, r.wk, r.b0, r.b1, r.s0, r.s1, r.el, r.p0, r.p1, r.et, r.t0, r.t1, r.ta, r.hu, r.td0, r.dy0, r.th0, r.ti0, r.es, r.l0, r.l1, r.ed, r.d0, r.d1, r.ei, r.i0⟩, rfl⟩
set_option maxHeartbeats 4000000 in
set_option maxRecDepth 100000 in
theorem arm_pass (C : Cx p s m args meth c 7 A D cI cJ cL cL_law wsL_law RL) (hl0 : l.stackTraces = false) (hX : va_X b L xs s s.heap) (hbl : b < s.heap.size) (hbA : ¬ A b) (hL : L ≤ 2048) (k0 : 0 ≤ k) (k1 : k + 4 ≤ L) (hc : cells + 4 ≤ 601024) (hs : slots + 24 ≤ 7293034) (hW : LWp fb mdl o cI cJ cL ws) (kk : ∀ ws' : va_W, LWp fb mdl o cI cJ cL ws' → Z p l e room_1 s m args below meth c 7 A D Q (cells + 4) (slots + 24) ws' [.ref b, .ref fb, .ref mdl, .ref o, .int (iI k), .null, .null] 1264 []) : Z p l e room_1 s m args below meth c 7 A D Q cells slots ws [.ref b, .ref fb, .ref mdl, .ref o, .int (iI k), .null, .null] 1208 [] := by
  obtain ⟨adX, adM, M, B, lo, ch, wt, sn, vo, mo, le, ln, od, fe, se, td, th, cnt, bw, bs, pl, tk, tc, sill, day, lau, hf, at_, wg, lf, cf, dy, ti, bh, ln2, thr, v, rfl, rfl, r, rfl⟩ := hW
  obtain ⟨x1, hx1, e1⟩ : ∃ x : Int, inr x ∧ (xs (k + 1).toNat).toInt = x := ⟨_, inr_of _, rfl⟩
  have htc : 0 ≤ tcPass x1 day ∧ tcPass x1 day ≤ 3 := by unfold tcPass; (repeat' split) <;> omega
  refine Z.aload_n C dL_law_1208 rfl ?_
  refine Z.aload_n C dL_law_1209 rfl ?_
  refine Z.iload C dL_law_1210 rfl ?_
  refine Z.iconst C dL_law_1212 ?_
  refine Z.iadd C dL_law_1213 ?_
  refine Z.sld C hX hbl hbA (by omega) (by omega) hL dL_law_1214 ?_
  rw [e1]
  refine Z.aload_n C dL_law_1215 rfl ?_
  refine Z.xSXIf (R := room_1) C (wr := wM adM cI hf at_ wg lf cf dy ti bh ln2 thr cnt pl tc sill day lau) 3 (h_pass l D cI cJ cL adX M B lo ch wt sn vo mo le ln od fe se td th cnt bw bs pl tk tc sill day lau hl0 r.d0 r.d1 x1 hx1 o v) gL_law_L_pass rfl rfl rfl (by decide +kernel) ⟨Nat.le_of_ble_eq_true rfl, Nat.le_of_ble_eq_true rfl⟩ rfl rfl (Nat.le_of_ble_eq_true rfl) ⟨by show cells + 2 ≤ 601024; omega, by show slots + 12 ≤ 7293034; omega⟩ dL_law_1216 (fun r1 w1 h1 => ?_) (fun E w1 hE => hE.elim)
  refine Z.istore C dL_law_1219 (by decide) ?_
  rcases h1 with ⟨E, u, ⟨hu, hE⟩, hm, rfl⟩ | ⟨rfl, v1, u, ⟨hq, hv, hu⟩, rfl⟩
  · subst hu
    have hq := exA_r hE hm
    refine Z.aload_n C dL_law_1221 rfl ?_
    refine Z.aload_n C dL_law_1222 rfl ?_
    refine Z.iload C dL_law_1223 rfl ?_
    refine Z.iconst C dL_law_1225 ?_
    refine Z.iadd C dL_law_1226 ?_
    refine Z.sld C hX hbl hbA (by omega) (by omega) hL dL_law_1227 ?_
    rw [e1]
    refine Z.swap ?_
    refine Z.cVIf (R := room_1) C (wr := (o, oE cL v) :: wX adX cI cJ M B lo ch wt sn vo mo le ln od fe se td th cnt bw bs pl tk tc sill day lau) (wc := wM adM cI hf at_ wg lf cf dy ti bh ln2 thr cnt pl tc sill day lau) 0 1 (m_pass l D cI cJ cL adM hf at_ wg lf cf dy ti bh ln2 thr cnt pl tc sill day lau r.d0 r.d1 x1 hx1) rfl rfl gL_law_X7_pass rfl rfl rfl (by decide +kernel) ⟨Nat.le_of_ble_eq_true rfl, Nat.le_of_ble_eq_true rfl⟩ rfl rfl (Nat.le_of_ble_eq_true rfl) ⟨by show cells + 2 ≤ 601024; omega, by show slots + 12 ≤ 7293034; omega⟩ dL_law_1228 (fun r2 w2 h2 => ?_)
    refine Z.istore C dL_law_1231 (by decide) ?_
    obtain ⟨hz, rfl⟩ := h2.resolve_right (fun h => by have := h.1; omega)
    refine Z.aload_n C dL_law_1233 rfl ?_
    refine Z.cVIf (R := room_1) C (wr := (o, oE cL v) :: wX adX cI cJ M B lo ch wt sn vo mo le ln od fe se td th cnt bw bs pl tk tc sill day lau) (wc := wM adM cI hf at_ wg lf cf dy ti bh ln2 (tcPass x1 day) cnt pl tc sill day lau) 0 0 (m_thrown l D cI cJ cL adM hf at_ wg lf cf dy ti bh ln2 (tcPass x1 day) cnt pl tc sill day lau) rfl rfl gL_law_X7_thrown rfl rfl rfl (by decide +kernel) ⟨Nat.le_of_ble_eq_true rfl, Nat.le_of_ble_eq_true rfl⟩ rfl rfl (Nat.le_of_ble_eq_true rfl) ⟨by show cells + 2 ≤ 601024; omega, by show slots + 12 ≤ 7293034; omega⟩ dL_law_1234 (fun r3 w3 h3 => ?_)
    obtain ⟨rfl, rfl⟩ := h3
    refine Z.iload C dL_law_1237 rfl ?_
    refine Z.icmpeq C 1244 dL_law_1239 (by decide) ⟨by omega, by omega⟩ ⟨by omega, by omega⟩ (fun hcmp => ?_) (fun hcmp => absurd (by omega) hcmp)
    refine Z.iload C dL_law_1244 rfl ?_
    refine Z.ifne C 1261 dL_law_1246 (by decide) ⟨by omega, by omega⟩ (fun hcmp => ?_) (fun hcmp => absurd hcmp (by omega))
    refine Z.goto C 1264 dL_law_1261 (by decide) ?_
    refine Z.swap ?_
    refine Z.widen (k := cells + 4) (n := slots + 24) (by omega) (by omega) ?_
    refine Z.lvw (lv' := [.ref b, .ref (adX 0), .ref (adM 0), .ref o, .int (iI k), .null, .null]) (fun i v9 h9 hne => lv7 i v9 h9 hne) ?_
    exact kk _ ⟨adX, adM, M, B, lo, ch, wt, sn, vo, mo, le, ln, od, fe, se, td, th, cnt, bw, bs, pl, tk, tc, sill, day, lau, hf, at_, wg, lf, cf, dy, ti, bh, ln2, tcPass x1 day, _, rfl, rfl, r, rfl⟩
  · subst hu
    have d0 := r.d0
    have hbd : 0 ≤ day + x1 ∧ day + x1 ≤ 9000 := by
      unfold tcPass at hq
      (repeat' split at hq) <;> omega
    refine Z.aload_n C dL_law_1221 rfl ?_
    refine Z.aload_n C dL_law_1222 rfl ?_
    refine Z.iload C dL_law_1223 rfl ?_
    refine Z.iconst C dL_law_1225 ?_
    refine Z.iadd C dL_law_1226 ?_
    refine Z.sld C hX hbl hbA (by omega) (by omega) hL dL_law_1227 ?_
    rw [e1]
    refine Z.swap ?_
    refine Z.cVIf (R := room_1) C (wr := (o, oE cL v1) :: wX adX cI cJ M B lo ch wt sn vo mo le ln od fe se td th cnt bw bs pl tk tc sill (day + x1) lau) (wc := wM adM cI hf at_ wg lf cf dy ti bh ln2 thr cnt pl tc sill day lau) 0 1 (m_pass l D cI cJ cL adM hf at_ wg lf cf dy ti bh ln2 thr cnt pl tc sill day lau r.d0 r.d1 x1 hx1) rfl rfl gL_law_X7_pass rfl rfl rfl (by decide +kernel) ⟨Nat.le_of_ble_eq_true rfl, Nat.le_of_ble_eq_true rfl⟩ rfl rfl (Nat.le_of_ble_eq_true rfl) ⟨by show cells + 2 ≤ 601024; omega, by show slots + 12 ≤ 7293034; omega⟩ dL_law_1228 (fun r2 w2 h2 => ?_)
    refine Z.istore C dL_law_1231 (by decide) ?_
    obtain ⟨hz, hr2, rfl⟩ := h2.resolve_left (fun h => h.1 hq)
    refine Z.aload_n C dL_law_1233 rfl ?_
    refine Z.cVIf (R := room_1) C (wr := (o, oE cL v1) :: wX adX cI cJ M B lo ch wt sn vo mo le ln od fe se td th cnt bw bs pl tk tc sill (day + x1) lau) (wc := wM adM cI hf at_ wg lf cf dy ti bh ln2 0 cnt pl tc sill (day + x1) lau) 0 0 (m_thrown l D cI cJ cL adM hf at_ wg lf cf dy ti bh ln2 0 cnt pl tc sill (day + x1) lau) rfl rfl gL_law_X7_thrown rfl rfl rfl (by decide +kernel) ⟨Nat.le_of_ble_eq_true rfl, Nat.le_of_ble_eq_true rfl⟩ rfl rfl (Nat.le_of_ble_eq_true rfl) ⟨by show cells + 2 ≤ 601024; omega, by show slots + 12 ≤ 7293034; omega⟩ dL_law_1234 (fun r3 w3 h3 => ?_)
    obtain ⟨rfl, rfl⟩ := h3
    refine Z.iload C dL_law_1237 rfl ?_
    refine Z.icmpeq C 1244 dL_law_1239 (by decide) ⟨by omega, by omega⟩ ⟨by omega, by omega⟩ (fun hcmp => ?_) (fun hcmp => absurd (by omega) hcmp)
    refine Z.iload C dL_law_1244 rfl ?_
    refine Z.ifne C 1261 dL_law_1246 (by decide) ⟨by omega, by omega⟩ (fun hcmp => absurd rfl hcmp) (fun hcmp => ?_)
    refine Z.aload_n C dL_law_1249 rfl ?_
    refine Z.iconst C dL_law_1250 ?_
    refine Z.laldO C 0 rfl dL_law_1251 ?_
    refine Z.iload C dL_law_1252 rfl ?_
    refine Z.i2l C dL_law_1254 ?_
    rw [hv, hr2]
    refine Z.lcmpE C dL_law_1255 ?_
    refine Z.ifeq C 1261 dL_law_1256 (by decide) ⟨by decide, by decide⟩ (fun hcmp => ?_) (fun hcmp => absurd rfl hcmp)
    refine Z.goto C 1264 dL_law_1261 (by decide) ?_
    refine Z.swap ?_
    refine Z.widen (k := cells + 4) (n := slots + 24) (by omega) (by omega) ?_
    refine Z.lvw (lv' := [.ref b, .ref (adX 0), .ref (adM 0), .ref o, .int (iI k), .null, .null]) (fun i v9 h9 hne => lv7 i v9 h9 hne) ?_
    exact kk _ ⟨adX, adM, M, B, lo, ch, wt, sn, vo, mo, le, ln, od, fe, se, td, th, cnt, bw, bs, pl, tk, tc, sill, day + x1, lau, hf, at_, wg, lf, cf, dy, ti, bh, ln2, 0, _, rfl, rfl, ⟨r.rh, r.hM, r.hB, r.c0, r.c1, r.en, r.wa, r.w0, r.gb, r.ab, r.wk, r.b0, r.b1, r.s0, r.s1, r.el, r.p0, r.p1, r.et, r.t0, r.t1, r.ta, r.hu, r.td0, r.dy0, r.th0, r.ti0, r.es, r.l0, r.l1, rfl, hbd.1, hbd.2, r.ei, r.i0⟩, rfl⟩
set_option maxHeartbeats 4000000 in
set_option maxRecDepth 100000 in
theorem arm_weigh (C : Cx p s m args meth c 7 A D cI cJ cL cL_law wsL_law RL) (hl0 : l.stackTraces = false) (hX : va_X b L xs s s.heap) (hbl : b < s.heap.size) (hbA : ¬ A b) (hL : L ≤ 2048) (k0 : 0 ≤ k) (k1 : k + 4 ≤ L) (hc : cells + 4 ≤ 601024) (hs : slots + 24 ≤ 7293034) (hW : LWp fb mdl o cI cJ cL ws) (kk : ∀ ws' : va_W, LWp fb mdl o cI cJ cL ws' → Z p l e room_1 s m args below meth c 7 A D Q (cells + 4) (slots + 24) ws' [.ref b, .ref fb, .ref mdl, .ref o, .int (iI k), .null, .null] 1264 []) : Z p l e room_1 s m args below meth c 7 A D Q cells slots ws [.ref b, .ref fb, .ref mdl, .ref o, .int (iI k), .null, .null] 588 [] := by
  obtain ⟨adX, adM, M, B, lo, ch, wt, sn, vo, mo, le, ln, od, fe, se, td, th, cnt, bw, bs, pl, tk, tc, sill, day, lau, hf, at_, wg, lf, cf, dy, ti, bh, ln2, thr, v, rfl, rfl, r, rfl⟩ := hW
  obtain ⟨x1, hx1, e1⟩ : ∃ x : Int, inr x ∧ (xs (k + 1).toNat).toInt = x := ⟨_, inr_of _, rfl⟩
  obtain ⟨x2, hx2, e2⟩ : ∃ x : Int, inr x ∧ (xs (k + 2).toNat).toInt = x := ⟨_, inr_of _, rfl⟩
  have htc : 0 ≤ tcWeigh x1 x2 cnt ∧ tcWeigh x1 x2 cnt ≤ 3 := by unfold tcWeigh; (repeat' split) <;> omega
  refine Z.aload_n C dL_law_588 rfl ?_
  refine Z.aload_n C dL_law_589 rfl ?_
  refine Z.iload C dL_law_590 rfl ?_
  refine Z.iconst C dL_law_592 ?_
  refine Z.iadd C dL_law_593 ?_
  refine Z.sld C hX hbl hbA (by omega) (by omega) hL dL_law_594 ?_
  rw [e1]
  refine Z.aload_n C dL_law_595 rfl ?_
  refine Z.iload C dL_law_596 rfl ?_
  refine Z.iconst C dL_law_598 ?_
  refine Z.iadd C dL_law_599 ?_
  refine Z.sld C hX hbl hbA (by omega) (by omega) hL dL_law_600 ?_
  rw [e2]
  refine Z.aload_n C dL_law_601 rfl ?_
  refine Z.xSXIf (R := room_1) C (wr := wM adM cI hf at_ wg lf cf dy ti bh ln2 thr cnt pl tc sill day lau) 4 (h_weigh l D cI cJ cL adX M B lo ch wt sn vo mo le ln od fe se td th cnt bw bs pl tk tc sill day lau hl0 r.c0 r.c1 x1 x2 hx1 hx2 o v) gL_law_L_weigh rfl rfl rfl (by decide +kernel) ⟨Nat.le_of_ble_eq_true rfl, Nat.le_of_ble_eq_true rfl⟩ rfl rfl (Nat.le_of_ble_eq_true rfl) ⟨by show cells + 3 ≤ 601024; omega, by show slots + 18 ≤ 7293034; omega⟩ dL_law_602 (fun r1 w1 h1 => ?_) (fun E w1 hE => hE.elim)
  refine Z.istore C dL_law_605 (by decide) ?_
  rcases h1 with ⟨E, u, ⟨hu, hE⟩, hm, rfl⟩ | ⟨rfl, v1, u, ⟨hq, hv, hu⟩, rfl⟩
  · subst hu
    have hq := exO_r hE hm
    refine Z.aload_n C dL_law_607 rfl ?_
    refine Z.aload_n C dL_law_608 rfl ?_
    refine Z.iload C dL_law_609 rfl ?_
    refine Z.iconst C dL_law_611 ?_
    refine Z.iadd C dL_law_612 ?_
    refine Z.sld C hX hbl hbA (by omega) (by omega) hL dL_law_613 ?_
    rw [e1]
    refine Z.aload_n C dL_law_614 rfl ?_
    refine Z.iload C dL_law_615 rfl ?_
    refine Z.iconst C dL_law_617 ?_
    refine Z.iadd C dL_law_618 ?_
    refine Z.sld C hX hbl hbA (by omega) (by omega) hL dL_law_619 ?_
    rw [e2]
    refine Z.swap ?_
    refine Z.cVIf (R := room_1) C (wr := (o, oE cL v) :: wX adX cI cJ M B lo ch wt sn vo mo le ln od fe se td th cnt bw bs pl tk tc sill day lau) (wc := wM adM cI hf at_ wg lf cf dy ti bh ln2 thr cnt pl tc sill day lau) 0 2 (m_weigh l D cI cJ cL adM hf at_ wg lf cf dy ti bh ln2 thr cnt pl tc sill day lau r.c0 r.c1 x1 x2 hx1 hx2) rfl rfl gL_law_X7_weigh rfl rfl rfl (by decide +kernel) ⟨Nat.le_of_ble_eq_true rfl, Nat.le_of_ble_eq_true rfl⟩ rfl rfl (Nat.le_of_ble_eq_true rfl) ⟨by show cells + 3 ≤ 601024; omega, by show slots + 18 ≤ 7293034; omega⟩ dL_law_620 (fun r2 w2 h2 => ?_)
    refine Z.istore C dL_law_623 (by decide) ?_
    obtain ⟨hz, rfl⟩ := h2.resolve_right (fun h => by have := h.1; omega)
    refine Z.aload_n C dL_law_625 rfl ?_
    refine Z.cVIf (R := room_1) C (wr := (o, oE cL v) :: wX adX cI cJ M B lo ch wt sn vo mo le ln od fe se td th cnt bw bs pl tk tc sill day lau) (wc := wM adM cI hf at_ wg lf cf dy ti bh ln2 (tcWeigh x1 x2 cnt) cnt pl tc sill day lau) 0 0 (m_thrown l D cI cJ cL adM hf at_ wg lf cf dy ti bh ln2 (tcWeigh x1 x2 cnt) cnt pl tc sill day lau) rfl rfl gL_law_X7_thrown rfl rfl rfl (by decide +kernel) ⟨Nat.le_of_ble_eq_true rfl, Nat.le_of_ble_eq_true rfl⟩ rfl rfl (Nat.le_of_ble_eq_true rfl) ⟨by show cells + 3 ≤ 601024; omega, by show slots + 18 ≤ 7293034; omega⟩ dL_law_626 (fun r3 w3 h3 => ?_)
    obtain ⟨rfl, rfl⟩ := h3
    refine Z.iload C dL_law_629 rfl ?_
    refine Z.icmpeq C 636 dL_law_631 (by decide) ⟨by omega, by omega⟩ ⟨by omega, by omega⟩ (fun hcmp => ?_) (fun hcmp => absurd (by omega) hcmp)
    refine Z.iload C dL_law_636 rfl ?_
    refine Z.ifne C 653 dL_law_638 (by decide) ⟨by omega, by omega⟩ (fun hcmp => ?_) (fun hcmp => absurd hcmp (by omega))
    refine Z.goto C 1264 dL_law_653 (by decide) ?_
    refine Z.swap ?_
    refine Z.widen (k := cells + 4) (n := slots + 24) (by omega) (by omega) ?_
    refine Z.lvw (lv' := [.ref b, .ref (adX 0), .ref (adM 0), .ref o, .int (iI k), .null, .null]) (fun i v9 h9 hne => lv7 i v9 h9 hne) ?_
    exact kk _ ⟨adX, adM, M, B, lo, ch, wt, sn, vo, mo, le, ln, od, fe, se, td, th, cnt, bw, bs, pl, tk, tc, sill, day, lau, hf, at_, wg, lf, cf, dy, ti, bh, ln2, tcWeigh x1 x2 cnt, _, rfl, rfl, r, rfl⟩
  · subst hu
    have c0 := r.c0
    have c1 := r.c1
    have hbd : (0 ≤ x1 ∧ x1 ≤ 8) ∧ (0 ≤ x2 ∧ x2 ≤ 999) ∧ cnt ≠ 16 := by
      unfold tcWeigh at hq
      (repeat' split at hq) <;> omega
    have hwa : ∀ j : Int, 0 ≤ j → j < cnt + 1 → zset wg cnt x2 j = zset wt cnt x2 j ∧ zset at_ cnt x1 j = zset sn cnt x1 j := by
      intro j h1 h2
      by_cases e9 : j = cnt
      · subst e9; rw [zset_eq, zset_eq, zset_eq, zset_eq]; exact ⟨rfl, rfl⟩
      · rw [zset_ne _ e9, zset_ne _ e9, zset_ne _ e9, zset_ne _ e9]; exact r.wa j h1 (by omega)
    have hwk : wOK (zset wt cnt x2) (zset sn cnt x1) := wOK_set r.wk hbd.2.1.1 hbd.2.1.2 hbd.1.1 hbd.1.2
    refine Z.aload_n C dL_law_607 rfl ?_
    refine Z.aload_n C dL_law_608 rfl ?_
    refine Z.iload C dL_law_609 rfl ?_
    refine Z.iconst C dL_law_611 ?_
    refine Z.iadd C dL_law_612 ?_
    refine Z.sld C hX hbl hbA (by omega) (by omega) hL dL_law_613 ?_
    rw [e1]
    refine Z.aload_n C dL_law_614 rfl ?_
    refine Z.iload C dL_law_615 rfl ?_
    refine Z.iconst C dL_law_617 ?_
    refine Z.iadd C dL_law_618 ?_
    refine Z.sld C hX hbl hbA (by omega) (by omega) hL dL_law_619 ?_
    rw [e2]
    refine Z.swap ?_
    refine Z.cVIf (R := room_1) C (wr := (o, oE cL v1) :: wX adX cI cJ M B lo ch (zset wt cnt x2) (zset sn cnt x1) vo mo le ln od fe se td th (cnt + 1) bw bs pl tk tc sill day lau) (wc := wM adM cI hf at_ wg lf cf dy ti bh ln2 thr cnt pl tc sill day lau) 0 2 (m_weigh l D cI cJ cL adM hf at_ wg lf cf dy ti bh ln2 thr cnt pl tc sill day lau r.c0 r.c1 x1 x2 hx1 hx2) rfl rfl gL_law_X7_weigh rfl rfl rfl (by decide +kernel) ⟨Nat.le_of_ble_eq_true rfl, Nat.le_of_ble_eq_true rfl⟩ rfl rfl (Nat.le_of_ble_eq_true rfl) ⟨by show cells + 3 ≤ 601024; omega, by show slots + 18 ≤ 7293034; omega⟩ dL_law_620 (fun r2 w2 h2 => ?_)
    refine Z.istore C dL_law_623 (by decide) ?_
    obtain ⟨hz, hr2, rfl⟩ := h2.resolve_left (fun h => h.1 hq)
    refine Z.aload_n C dL_law_625 rfl ?_
    refine Z.cVIf (R := room_1) C (wr := (o, oE cL v1) :: wX adX cI cJ M B lo ch (zset wt cnt x2) (zset sn cnt x1) vo mo le ln od fe se td th (cnt + 1) bw bs pl tk tc sill day lau) (wc := wM adM cI hf (zset at_ cnt x1) (zset wg cnt x2) lf cf dy ti bh ln2 0 (cnt + 1) pl tc sill day lau) 0 0 (m_thrown l D cI cJ cL adM hf (zset at_ cnt x1) (zset wg cnt x2) lf cf dy ti bh ln2 0 (cnt + 1) pl tc sill day lau) rfl rfl gL_law_X7_thrown rfl rfl rfl (by decide +kernel) ⟨Nat.le_of_ble_eq_true rfl, Nat.le_of_ble_eq_true rfl⟩ rfl rfl (Nat.le_of_ble_eq_true rfl) ⟨by show cells + 3 ≤ 601024; omega, by show slots + 18 ≤ 7293034; omega⟩ dL_law_626 (fun r3 w3 h3 => ?_)
    obtain ⟨rfl, rfl⟩ := h3
    refine Z.iload C dL_law_629 rfl ?_
    refine Z.icmpeq C 636 dL_law_631 (by decide) ⟨by omega, by omega⟩ ⟨by omega, by omega⟩ (fun hcmp => ?_) (fun hcmp => absurd (by omega) hcmp)
    refine Z.iload C dL_law_636 rfl ?_
    refine Z.ifne C 653 dL_law_638 (by decide) ⟨by omega, by omega⟩ (fun hcmp => absurd rfl hcmp) (fun hcmp => ?_)
    refine Z.aload_n C dL_law_641 rfl ?_
    refine Z.iconst C dL_law_642 ?_
    refine Z.laldO C 0 rfl dL_law_643 ?_
    refine Z.iload C dL_law_644 rfl ?_
    refine Z.i2l C dL_law_646 ?_
    rw [hv, hr2]
    refine Z.lcmpE C dL_law_647 ?_
    refine Z.ifeq C 653 dL_law_648 (by decide) ⟨by decide, by decide⟩ (fun hcmp => ?_) (fun hcmp => absurd rfl hcmp)
    refine Z.goto C 1264 dL_law_653 (by decide) ?_
    refine Z.swap ?_
    refine Z.widen (k := cells + 4) (n := slots + 24) (by omega) (by omega) ?_
    refine Z.lvw (lv' := [.ref b, .ref (adX 0), .ref (adM 0), .ref o, .int (iI k), .null, .null]) (fun i v9 h9 hne => lv7 i v9 h9 hne) ?_
    exact kk _ ⟨adX, adM, M, B, lo, ch, zset wt cnt x2, zset sn cnt x1, vo, mo, le, ln, od, fe, se, td, th, cnt + 1, bw, bs, pl, tk, tc, sill, day, lau, hf, zset at_ cnt x1, zset wg cnt x2, lf, cf, dy, ti, bh, ln2, 0, _, rfl, rfl, ⟨r.rh, r.hM, r.hB, (by omega), (by omega), rfl, hwa, (fun j h1 h2 => by rw [zset_ne _ (by omega)]; exact r.w0 j (by omega) h2), (by rw [zset_ne _ (by omega)]; exact r.gb), (by rw [zset_ne _ (by omega)]; exact r.ab), hwk, r.b0, r.b1, r.s0, r.s1, r.el, r.p0, r.p1, r.et, r.t0, r.t1, r.ta, r.hu, r.td0, r.dy0, r.th0, r.ti0, r.es, r.l0, r.l1, r.ed, r.d0, r.d1, r.ei, r.i0⟩, rfl⟩
set_option maxHeartbeats 4000000 in
set_option maxRecDepth 100000 in
theorem arm_change (C : Cx p s m args meth c 7 A D cI cJ cL cL_law wsL_law RL) (hl0 : l.stackTraces = false) (hX : va_X b L xs s s.heap) (hbl : b < s.heap.size) (hbA : ¬ A b) (hL : L ≤ 2048) (k0 : 0 ≤ k) (k1 : k + 4 ≤ L) (hc : cells + 4 ≤ 601024) (hs : slots + 24 ≤ 7293034) (hW : LWp fb mdl o cI cJ cL ws) (kk : ∀ ws' : va_W, LWp fb mdl o cI cJ cL ws' → Z p l e room_1 s m args below meth c 7 A D Q (cells + 4) (slots + 24) ws' [.ref b, .ref fb, .ref mdl, .ref o, .int (iI k), .null, .null] 1264 []) : Z p l e room_1 s m args below meth c 7 A D Q cells slots ws [.ref b, .ref fb, .ref mdl, .ref o, .int (iI k), .null, .null] 656 [] := by
  obtain ⟨adX, adM, M, B, lo, ch, wt, sn, vo, mo, le, ln, od, fe, se, td, th, cnt, bw, bs, pl, tk, tc, sill, day, lau, hf, at_, wg, lf, cf, dy, ti, bh, ln2, thr, v, rfl, rfl, r, rfl⟩ := hW
  obtain ⟨x1, hx1, e1⟩ : ∃ x : Int, inr x ∧ (xs (k + 1).toNat).toInt = x := ⟨_, inr_of _, rfl⟩
  obtain ⟨x2, hx2, e2⟩ : ∃ x : Int, inr x ∧ (xs (k + 2).toNat).toInt = x := ⟨_, inr_of _, rfl⟩
  obtain ⟨x3, hx3, e3⟩ : ∃ x : Int, inr x ∧ (xs (k + 3).toNat).toInt = x := ⟨_, inr_of _, rfl⟩
  have htc : 0 ≤ tcChange x1 x2 x3 cnt ∧ tcChange x1 x2 x3 cnt ≤ 3 := by unfold tcChange; (repeat' split) <;> omega
  refine Z.aload_n C dL_law_656 rfl ?_
  refine Z.aload_n C dL_law_657 rfl ?_
  refine Z.iload C dL_law_658 rfl ?_
  refine Z.iconst C dL_law_660 ?_
  refine Z.iadd C dL_law_661 ?_
  refine Z.sld C hX hbl hbA (by omega) (by omega) hL dL_law_662 ?_
  rw [e1]
  refine Z.aload_n C dL_law_663 rfl ?_
  refine Z.iload C dL_law_664 rfl ?_
  refine Z.iconst C dL_law_666 ?_
  refine Z.iadd C dL_law_667 ?_
  refine Z.sld C hX hbl hbA (by omega) (by omega) hL dL_law_668 ?_
  rw [e2]
  refine Z.aload_n C dL_law_669 rfl ?_
  refine Z.iload C dL_law_670 rfl ?_
  refine Z.iconst C dL_law_672 ?_
  refine Z.iadd C dL_law_673 ?_
  refine Z.sld C hX hbl hbA (by omega) (by omega) hL dL_law_674 ?_
  rw [e3]
  refine Z.aload_n C dL_law_675 rfl ?_
  refine Z.xSXIf (R := room_1) C (wr := wM adM cI hf at_ wg lf cf dy ti bh ln2 thr cnt pl tc sill day lau) 5 (h_change l D cI cJ cL adX M B lo ch wt sn vo mo le ln od fe se td th cnt bw bs pl tk tc sill day lau hl0 r.c0 r.c1 x1 x2 x3 hx1 hx2 hx3 o v) gL_law_L_change rfl rfl rfl (by decide +kernel) ⟨Nat.le_of_ble_eq_true rfl, Nat.le_of_ble_eq_true rfl⟩ rfl rfl (Nat.le_of_ble_eq_true rfl) ⟨by show cells + 3 ≤ 601024; omega, by show slots + 18 ≤ 7293034; omega⟩ dL_law_676 (fun r1 w1 h1 => ?_) (fun E w1 hE => hE.elim)
  refine Z.istore C dL_law_679 (by decide) ?_
  rcases h1 with ⟨E, u, ⟨hu, hE⟩, hm, rfl⟩ | ⟨rfl, v1, u, ⟨hq, hv, hu⟩, rfl⟩
  · subst hu
    have hq := exO_r2 hE hm
    refine Z.aload_n C dL_law_681 rfl ?_
    refine Z.aload_n C dL_law_682 rfl ?_
    refine Z.iload C dL_law_683 rfl ?_
    refine Z.iconst C dL_law_685 ?_
    refine Z.iadd C dL_law_686 ?_
    refine Z.sld C hX hbl hbA (by omega) (by omega) hL dL_law_687 ?_
    rw [e1]
    refine Z.aload_n C dL_law_688 rfl ?_
    refine Z.iload C dL_law_689 rfl ?_
    refine Z.iconst C dL_law_691 ?_
    refine Z.iadd C dL_law_692 ?_
    refine Z.sld C hX hbl hbA (by omega) (by omega) hL dL_law_693 ?_
    rw [e2]
    refine Z.aload_n C dL_law_694 rfl ?_
    refine Z.iload C dL_law_695 rfl ?_
    refine Z.iconst C dL_law_697 ?_
    refine Z.iadd C dL_law_698 ?_
    refine Z.sld C hX hbl hbA (by omega) (by omega) hL dL_law_699 ?_
    rw [e3]
    refine Z.swap ?_
    refine Z.cVIf (R := room_1) C (wr := (o, oE cL v) :: wX adX cI cJ M B lo ch wt sn vo mo le ln od fe se td th cnt bw bs pl tk tc sill day lau) (wc := wM adM cI hf at_ wg lf cf dy ti bh ln2 thr cnt pl tc sill day lau) 0 3 (m_change l D cI cJ cL adM hf at_ wg lf cf dy ti bh ln2 thr cnt pl tc sill day lau r.c0 r.c1 x1 x2 x3 hx1 hx2 hx3) rfl rfl gL_law_X7_change rfl rfl rfl (by decide +kernel) ⟨Nat.le_of_ble_eq_true rfl, Nat.le_of_ble_eq_true rfl⟩ rfl rfl (Nat.le_of_ble_eq_true rfl) ⟨by show cells + 3 ≤ 601024; omega, by show slots + 18 ≤ 7293034; omega⟩ dL_law_700 (fun r2 w2 h2 => ?_)
    refine Z.istore C dL_law_703 (by decide) ?_
    obtain ⟨hz, rfl⟩ := h2.resolve_right (fun h => by have := h.1; omega)
    refine Z.aload_n C dL_law_705 rfl ?_
    refine Z.cVIf (R := room_1) C (wr := (o, oE cL v) :: wX adX cI cJ M B lo ch wt sn vo mo le ln od fe se td th cnt bw bs pl tk tc sill day lau) (wc := wM adM cI hf at_ wg lf cf dy ti bh ln2 (tcChange x1 x2 x3 cnt) cnt pl tc sill day lau) 0 0 (m_thrown l D cI cJ cL adM hf at_ wg lf cf dy ti bh ln2 (tcChange x1 x2 x3 cnt) cnt pl tc sill day lau) rfl rfl gL_law_X7_thrown rfl rfl rfl (by decide +kernel) ⟨Nat.le_of_ble_eq_true rfl, Nat.le_of_ble_eq_true rfl⟩ rfl rfl (Nat.le_of_ble_eq_true rfl) ⟨by show cells + 3 ≤ 601024; omega, by show slots + 18 ≤ 7293034; omega⟩ dL_law_706 (fun r3 w3 h3 => ?_)
    obtain ⟨rfl, rfl⟩ := h3
    refine Z.iload C dL_law_709 rfl ?_
    refine Z.icmpeq C 716 dL_law_711 (by decide) ⟨by omega, by omega⟩ ⟨by omega, by omega⟩ (fun hcmp => ?_) (fun hcmp => absurd (by omega) hcmp)
    refine Z.iload C dL_law_716 rfl ?_
    refine Z.ifne C 733 dL_law_718 (by decide) ⟨by omega, by omega⟩ (fun hcmp => ?_) (fun hcmp => absurd hcmp (by omega))
    refine Z.goto C 1264 dL_law_733 (by decide) ?_
    refine Z.swap ?_
    refine Z.widen (k := cells + 4) (n := slots + 24) (by omega) (by omega) ?_
    refine Z.lvw (lv' := [.ref b, .ref (adX 0), .ref (adM 0), .ref o, .int (iI k), .null, .null]) (fun i v9 h9 hne => lv7 i v9 h9 hne) ?_
    exact kk _ ⟨adX, adM, M, B, lo, ch, wt, sn, vo, mo, le, ln, od, fe, se, td, th, cnt, bw, bs, pl, tk, tc, sill, day, lau, hf, at_, wg, lf, cf, dy, ti, bh, ln2, tcChange x1 x2 x3 cnt, _, rfl, rfl, r, rfl⟩
  · subst hu
    have c1 := r.c1
    have hbd : (0 ≤ x1 ∧ x1 ≤ cnt - 1) ∧ (0 ≤ x2 ∧ x2 ≤ 8) ∧ (0 ≤ x3 ∧ x3 ≤ 999) := by
      unfold tcChange at hq
      (repeat' split at hq) <;> omega
    have hwa : ∀ j : Int, 0 ≤ j → j < cnt → zset wg x1 x3 j = zset wt x1 x3 j ∧ zset at_ x1 x2 j = zset sn x1 x2 j := by
      intro j h1 h2
      by_cases e9 : j = x1
      · subst e9; rw [zset_eq, zset_eq, zset_eq, zset_eq]; exact ⟨rfl, rfl⟩
      · rw [zset_ne _ e9, zset_ne _ e9, zset_ne _ e9, zset_ne _ e9]; exact r.wa j h1 h2
    have hwk : wOK (zset wt x1 x3) (zset sn x1 x2) := wOK_set r.wk hbd.2.2.1 hbd.2.2.2 hbd.2.1.1 hbd.2.1.2
    have hv9 := r.wa x1 hbd.1.1 (by omega)
    rw [← hv9.1, ← hv9.2] at hv
    refine Z.aload_n C dL_law_681 rfl ?_
    refine Z.aload_n C dL_law_682 rfl ?_
    refine Z.iload C dL_law_683 rfl ?_
    refine Z.iconst C dL_law_685 ?_
    refine Z.iadd C dL_law_686 ?_
    refine Z.sld C hX hbl hbA (by omega) (by omega) hL dL_law_687 ?_
    rw [e1]
    refine Z.aload_n C dL_law_688 rfl ?_
    refine Z.iload C dL_law_689 rfl ?_
    refine Z.iconst C dL_law_691 ?_
    refine Z.iadd C dL_law_692 ?_
    refine Z.sld C hX hbl hbA (by omega) (by omega) hL dL_law_693 ?_
    rw [e2]
    refine Z.aload_n C dL_law_694 rfl ?_
    refine Z.iload C dL_law_695 rfl ?_
    refine Z.iconst C dL_law_697 ?_
    refine Z.iadd C dL_law_698 ?_
    refine Z.sld C hX hbl hbA (by omega) (by omega) hL dL_law_699 ?_
    rw [e3]
    refine Z.swap ?_
    refine Z.cVIf (R := room_1) C (wr := (o, oE cL v1) :: wX adX cI cJ M B lo ch (zset wt x1 x3) (zset sn x1 x2) vo mo le ln od fe se td th cnt bw bs pl tk tc sill day lau) (wc := wM adM cI hf at_ wg lf cf dy ti bh ln2 thr cnt pl tc sill day lau) 0 3 (m_change l D cI cJ cL adM hf at_ wg lf cf dy ti bh ln2 thr cnt pl tc sill day lau r.c0 r.c1 x1 x2 x3 hx1 hx2 hx3) rfl rfl gL_law_X7_change rfl rfl rfl (by decide +kernel) ⟨Nat.le_of_ble_eq_true rfl, Nat.le_of_ble_eq_true rfl⟩ rfl rfl (Nat.le_of_ble_eq_true rfl) ⟨by show cells + 3 ≤ 601024; omega, by show slots + 18 ≤ 7293034; omega⟩ dL_law_700 (fun r2 w2 h2 => ?_)
    refine Z.istore C dL_law_703 (by decide) ?_
    obtain ⟨hz, hr2, rfl⟩ := h2.resolve_left (fun h => h.1 hq)
    refine Z.aload_n C dL_law_705 rfl ?_
    refine Z.cVIf (R := room_1) C (wr := (o, oE cL v1) :: wX adX cI cJ M B lo ch (zset wt x1 x3) (zset sn x1 x2) vo mo le ln od fe se td th cnt bw bs pl tk tc sill day lau) (wc := wM adM cI hf (zset at_ x1 x2) (zset wg x1 x3) lf cf dy ti bh ln2 0 cnt pl tc sill day lau) 0 0 (m_thrown l D cI cJ cL adM hf (zset at_ x1 x2) (zset wg x1 x3) lf cf dy ti bh ln2 0 cnt pl tc sill day lau) rfl rfl gL_law_X7_thrown rfl rfl rfl (by decide +kernel) ⟨Nat.le_of_ble_eq_true rfl, Nat.le_of_ble_eq_true rfl⟩ rfl rfl (Nat.le_of_ble_eq_true rfl) ⟨by show cells + 3 ≤ 601024; omega, by show slots + 18 ≤ 7293034; omega⟩ dL_law_706 (fun r3 w3 h3 => ?_)
    obtain ⟨rfl, rfl⟩ := h3
    refine Z.iload C dL_law_709 rfl ?_
    refine Z.icmpeq C 716 dL_law_711 (by decide) ⟨by omega, by omega⟩ ⟨by omega, by omega⟩ (fun hcmp => ?_) (fun hcmp => absurd (by omega) hcmp)
    refine Z.iload C dL_law_716 rfl ?_
    refine Z.ifne C 733 dL_law_718 (by decide) ⟨by omega, by omega⟩ (fun hcmp => absurd rfl hcmp) (fun hcmp => ?_)
    refine Z.aload_n C dL_law_721 rfl ?_
    refine Z.iconst C dL_law_722 ?_
    refine Z.laldO C 0 rfl dL_law_723 ?_
    refine Z.iload C dL_law_724 rfl ?_
    refine Z.i2l C dL_law_726 ?_
    rw [hv, hr2]
    refine Z.lcmpE C dL_law_727 ?_
    refine Z.ifeq C 733 dL_law_728 (by decide) ⟨by decide, by decide⟩ (fun hcmp => ?_) (fun hcmp => absurd rfl hcmp)
    refine Z.goto C 1264 dL_law_733 (by decide) ?_
    refine Z.swap ?_
    refine Z.widen (k := cells + 4) (n := slots + 24) (by omega) (by omega) ?_
    refine Z.lvw (lv' := [.ref b, .ref (adX 0), .ref (adM 0), .ref o, .int (iI k), .null, .null]) (fun i v9 h9 hne => lv7 i v9 h9 hne) ?_
    exact kk _ ⟨adX, adM, M, B, lo, ch, zset wt x1 x3, zset sn x1 x2, vo, mo, le, ln, od, fe, se, td, th, cnt, bw, bs, pl, tk, tc, sill, day, lau, hf, zset at_ x1 x2, zset wg x1 x3, lf, cf, dy, ti, bh, ln2, 0, _, rfl, rfl, ⟨r.rh, r.hM, r.hB, r.c0, r.c1, r.en, hwa, (fun j h1 h2 => by rw [zset_ne _ (by omega)]; exact r.w0 j h1 h2), (by rw [zset_ne _ (by omega)]; exact r.gb), (by rw [zset_ne _ (by omega)]; exact r.ab), hwk, r.b0, r.b1, r.s0, r.s1, r.el, r.p0, r.p1, r.et, r.t0, r.t1, r.ta, r.hu, r.td0, r.dy0, r.th0, r.ti0, r.es, r.l0, r.l1, r.ed, r.d0, r.d1, r.ei, r.i0⟩, rfl⟩
end ARMS
