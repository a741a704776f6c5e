/-! ===== the arms of the law, 3 ===== -/
section ARMS3
variable {p : Program} {l : Launch} {e : Env} {s : State} {m : MethodId} {args : Array Value} {below : List Frame} {meth : Method} {c : Code} {A : Nat → Prop} {D : va_G} {Q : State → Prop} {cells slots : Nat} {ws : va_W} {cI cJ cL : ClassId} {b L fb mdl o : Nat} {xs : Nat → Int32} {k : Int}
set_option maxHeartbeats 4000000 in
set_option maxRecDepth 100000 in
theorem arm_draught (C : Cx p s m args meth c 7 A D cI cJ cL cL_law wsL_law RL) (hl0 : l.stackTraces = false) (hX : va_X b L xs s s.heap) (hbl : b < s.heap.size) (hbA : ¬ A b) (hL : L ≤ 2048) (k0 : 0 ≤ k) (k1 : k + 4 ≤ L) (hc : cells + 4 ≤ 601024) (hs : slots + 24 ≤ 7293034) (hW : LWp fb mdl o cI cJ cL ws) (kk : ∀ ws' : va_W, LWp fb mdl o cI cJ cL ws' → Z p l e room_1 s m args below meth c 7 A D Q (cells + 4) (slots + 24) ws' [.ref b, .ref fb, .ref mdl, .ref o, .int (iI k), .null, .null] 1264 []) : Z p l e room_1 s m args below meth c 7 A D Q cells slots ws [.ref b, .ref fb, .ref mdl, .ref o, .int (iI k), .null, .null] 792 [] := by
  obtain ⟨adX, adM, M, B, lo, ch, wt, sn, vo, mo, le, ln, od, fe, se, td, th, cnt, bw, bs, pl, tk, tc, sill, day, lau, hf, at_, wg, lf, cf, dy, ti, bh, ln2, thr, v, rfl, rfl, r, rfl⟩ := hW
  have hin : inr (drZ (VM M) (10 * sumZ wt cnt.toNat + 10 * bw)) := by
    have := drZ_bd (VM M) (10 * sumZ wt cnt.toNat + 10 * bw)
    exact ⟨by omega, by omega⟩
  refine Z.aload_n C dL_law_792 rfl ?_
  refine Z.eqw (ws' := (wM adM cI hf at_ wg lf cf dy ti bh ln2 thr cnt pl tc sill day lau ++ [(o, oE cL v)]) ++ wX adX cI cJ M B lo ch wt sn vo mo le ln od fe se td th cnt bw bs pl tk tc sill day lau) rfl ?_
  refine Z.cVIf (R := room_1) C (wr := wM adM cI hf at_ wg lf cf dy ti bh ln2 thr cnt pl tc sill day lau ++ [(o, oE cL v)]) (wc := wX adX cI cJ M B lo ch wt sn vo mo le ln od fe se td th cnt bw bs pl tk tc sill day lau) 0 0 (c_draught l D cI cJ cL adX M B lo ch wt sn vo mo le ln od fe se td th cnt bw bs pl tk tc sill day lau r.hM r.c0 r.c1 (10 * sumZ wt cnt.toNat + 10 * bw) (msZ wt sn cnt.toNat + bw * 20 * bs) rfl rfl (by have := r.bds; have := r.b0; omega) (by have := r.bds; have := r.b1; omega) (by have := r.bds; omega) (by have := r.bds; omega)) rfl rfl gL_law_X6_draught rfl rfl rfl (by decide +kernel) ⟨Nat.le_of_ble_eq_true rfl, Nat.le_of_ble_eq_true rfl⟩ rfl rfl (Nat.le_of_ble_eq_true rfl) ⟨by show cells ≤ 601024; omega, by show slots ≤ 7293034; omega⟩ dL_law_793 (fun r1 w1 h1 => ?_)
  obtain ⟨vo1, mo1, rfl, rfl⟩ := h1
  refine Z.aload_n C dL_law_796 rfl ?_
  refine Z.eqw (ws' := wM adM cI hf at_ wg lf cf dy ti bh ln2 thr cnt pl tc sill day lau ++ ((o, oE cL v) :: wX adX cI cJ M B lo ch wt sn vo1 mo1 le ln od fe se td th cnt bw bs pl tk tc sill day lau)) rfl ?_
  refine Z.swap ?_
  refine Z.cVIf (R := room_1) C (wr := (o, oE cL v) :: wX adX cI cJ M B lo ch wt sn vo1 mo1 le ln od fe se td th cnt bw bs pl tk tc sill day lau) (wc := wM adM cI hf at_ wg lf cf dy ti bh ln2 thr cnt pl tc sill day lau) 0 0 (m_draught l D cI cJ cL adM hf at_ wg lf cf dy ti bh ln2 thr cnt pl tc sill day lau M r.hM r.rh (10 * sumZ wt cnt.toNat + 10 * bw) r.L17 (by have := r.bds; have := r.b0; omega) (by have := r.bds; have := r.b1; omega)) rfl rfl gL_law_X7_draught rfl rfl rfl (by decide +kernel) ⟨Nat.le_of_ble_eq_true rfl, Nat.le_of_ble_eq_true rfl⟩ rfl rfl (Nat.le_of_ble_eq_true rfl) ⟨by show cells ≤ 601024; omega, by show slots ≤ 7293034; omega⟩ dL_law_797 (fun r2 w2 h2 => ?_)
  obtain ⟨rfl, rfl⟩ := h2
  refine Z.icmpeq C 1264 dL_law_800 (by decide) hin hin (fun hcmp => ?_) (fun hcmp => absurd rfl hcmp)
  refine Z.swap ?_
  refine Z.widen (k := cells + 4) (n := slots + 24) (by omega) (by omega) ?_
  exact kk _ ⟨adX, adM, M, B, lo, ch, wt, sn, vo1, mo1, le, ln, od, fe, se, td, th, cnt, bw, bs, pl, tk, tc, sill, day, lau, hf, at_, wg, lf, cf, dy, ti, bh, ln2, 0, _, rfl, rfl, r, rfl⟩
set_option maxHeartbeats 4000000 in
set_option maxRecDepth 100000 in
theorem arm_trim (C : Cx p s m args meth c 7 A D cI cJ cL cL_law wsL_law RL) (hl0 : l.stackTraces = false) (hX : va_X b L xs s s.heap) (hbl : b < s.heap.size) (hbA : ¬ A b) (hL : L ≤ 2048) (k0 : 0 ≤ k) (k1 : k + 4 ≤ L) (hc : cells + 4 ≤ 601024) (hs : slots + 24 ≤ 7293034) (hW : LWp fb mdl o cI cJ cL ws) (kk : ∀ ws' : va_W, LWp fb mdl o cI cJ cL ws' → Z p l e room_1 s m args below meth c 7 A D Q (cells + 4) (slots + 24) ws' [.ref b, .ref fb, .ref mdl, .ref o, .int (iI k), .null, .null] 1264 []) : Z p l e room_1 s m args below meth c 7 A D Q cells slots ws [.ref b, .ref fb, .ref mdl, .ref o, .int (iI k), .null, .null] 805 [] := by
  obtain ⟨adX, adM, M, B, lo, ch, wt, sn, vo, mo, le, ln, od, fe, se, td, th, cnt, bw, bs, pl, tk, tc, sill, day, lau, hf, at_, wg, lf, cf, dy, ti, bh, ln2, thr, v, rfl, rfl, r, rfl⟩ := hW
  have hin : inr (tmZ M (10 * sumZ wt cnt.toNat + 10 * bw) (msZ wt sn cnt.toNat + bw * 20 * bs)) := by
    have := tmZ_bd r.hM (load := (10 * sumZ wt cnt.toNat + 10 * bw)) (mo := (msZ wt sn cnt.toNat + bw * 20 * bs)) (by have := r.bds; omega) (by have := r.bds; have := r.b0; omega) (by have := r.bds; omega)
    exact ⟨by omega, by omega⟩
  refine Z.aload_n C dL_law_805 rfl ?_
  refine Z.eqw (ws' := (wM adM cI hf at_ wg lf cf dy ti bh ln2 thr cnt pl tc sill day lau ++ [(o, oE cL v)]) ++ wX adX cI cJ M B lo ch wt sn vo mo le ln od fe se td th cnt bw bs pl tk tc sill day lau) rfl ?_
  refine Z.cVIf (R := room_1) C (wr := wM adM cI hf at_ wg lf cf dy ti bh ln2 thr cnt pl tc sill day lau ++ [(o, oE cL v)]) (wc := wX adX cI cJ M B lo ch wt sn vo mo le ln od fe se td th cnt bw bs pl tk tc sill day lau) 0 0 (c_trim l D cI cJ cL adX M B lo ch wt sn vo mo le ln od fe se td th cnt bw bs pl tk tc sill day lau r.hM r.c0 r.c1 (10 * sumZ wt cnt.toNat + 10 * bw) (msZ wt sn cnt.toNat + bw * 20 * bs) rfl rfl (by have := r.bds; have := r.b0; omega) (by have := r.bds; have := r.b1; omega) (by have := r.bds; omega) (by have := r.bds; omega)) rfl rfl gL_law_X6_trim rfl rfl rfl (by decide +kernel) ⟨Nat.le_of_ble_eq_true rfl, Nat.le_of_ble_eq_true rfl⟩ rfl rfl (Nat.le_of_ble_eq_true rfl) ⟨by show cells ≤ 601024; omega, by show slots ≤ 7293034; omega⟩ dL_law_806 (fun r1 w1 h1 => ?_)
  obtain ⟨vo1, mo1, rfl, rfl⟩ := h1
  refine Z.aload_n C dL_law_809 rfl ?_
  refine Z.eqw (ws' := wM adM cI hf at_ wg lf cf dy ti bh ln2 thr cnt pl tc sill day lau ++ ((o, oE cL v) :: wX adX cI cJ M B lo ch wt sn vo1 mo1 le ln od fe se td th cnt bw bs pl tk tc sill day lau)) rfl ?_
  refine Z.swap ?_
  refine Z.cVIf (R := room_1) C (wr := (o, oE cL v) :: wX adX cI cJ M B lo ch wt sn vo1 mo1 le ln od fe se td th cnt bw bs pl tk tc sill day lau) (wc := wM adM cI hf at_ wg lf cf dy ti bh ln2 thr cnt pl tc sill day lau) 0 0 (m_trim l D cI cJ cL adM hf at_ wg lf cf dy ti bh ln2 thr cnt pl tc sill day lau M r.hM r.rh (10 * sumZ wt cnt.toNat + 10 * bw) (msZ wt sn cnt.toNat + bw * 20 * bs) r.L17 r.M17 (by have := r.bds; have := r.b0; omega) (by have := r.bds; have := r.b1; omega) (by have := r.bds; omega) (by have := r.bds; omega)) rfl rfl gL_law_X7_trim rfl rfl rfl (by decide +kernel) ⟨Nat.le_of_ble_eq_true rfl, Nat.le_of_ble_eq_true rfl⟩ rfl rfl (Nat.le_of_ble_eq_true rfl) ⟨by show cells ≤ 601024; omega, by show slots ≤ 7293034; omega⟩ dL_law_810 (fun r2 w2 h2 => ?_)
  obtain ⟨rfl, rfl⟩ := h2
  refine Z.icmpeq C 1264 dL_law_813 (by decide) hin hin (fun hcmp => ?_) (fun hcmp => absurd rfl hcmp)
  refine Z.swap ?_
  refine Z.widen (k := cells + 4) (n := slots + 24) (by omega) (by omega) ?_
  exact kk _ ⟨adX, adM, M, B, lo, ch, wt, sn, vo1, mo1, le, ln, od, fe, se, td, th, cnt, bw, bs, pl, tk, tc, sill, day, lau, hf, at_, wg, lf, cf, dy, ti, bh, ln2, 0, _, rfl, rfl, r, rfl⟩
set_option maxHeartbeats 4000000 in
set_option maxRecDepth 100000 in
theorem arm_needed (C : Cx p s m args meth c 7 A D cI cJ cL cL_law wsL_law RL) (hl0 : l.stackTraces = false) (hX : va_X b L xs s s.heap) (hbl : b < s.heap.size) (hbA : ¬ A b) (hL : L ≤ 2048) (k0 : 0 ≤ k) (k1 : k + 4 ≤ L) (hc : cells + 4 ≤ 601024) (hs : slots + 24 ≤ 7293034) (hW : LWp fb mdl o cI cJ cL ws) (kk : ∀ ws' : va_W, LWp fb mdl o cI cJ cL ws' → Z p l e room_1 s m args below meth c 7 A D Q (cells + 4) (slots + 24) ws' [.ref b, .ref fb, .ref mdl, .ref o, .int (iI k), .null, .null] 1264 []) : Z p l e room_1 s m args below meth c 7 A D Q cells slots ws [.ref b, .ref fb, .ref mdl, .ref o, .int (iI k), .null, .null] 1138 [] := by
  obtain ⟨adX, adM, M, B, lo, ch, wt, sn, vo, mo, le, ln, od, fe, se, td, th, cnt, bw, bs, pl, tk, tc, sill, day, lau, hf, at_, wg, lf, cf, dy, ti, bh, ln2, thr, v, rfl, rfl, r, rfl⟩ := hW
  have hin : inr (ndZ M (10 * sumZ wt cnt.toNat + 10 * bw) (msZ wt sn cnt.toNat + bw * 20 * bs) sill) := by
    have := ndZ_bd r.hM (load := (10 * sumZ wt cnt.toNat + 10 * bw)) (mo := (msZ wt sn cnt.toNat + bw * 20 * bs)) (by have := r.bds; omega) (by have := r.bds; have := r.b0; omega) (by have := r.bds; omega) r.l0 r.l1
    exact ⟨by omega, by omega⟩
  refine Z.aload_n C dL_law_1138 rfl ?_
  refine Z.eqw (ws' := (wM adM cI hf at_ wg lf cf dy ti bh ln2 thr cnt pl tc sill day lau ++ [(o, oE cL v)]) ++ wX adX cI cJ M B lo ch wt sn vo mo le ln od fe se td th cnt bw bs pl tk tc sill day lau) rfl ?_
  refine Z.cVIf (R := room_1) C (wr := wM adM cI hf at_ wg lf cf dy ti bh ln2 thr cnt pl tc sill day lau ++ [(o, oE cL v)]) (wc := wX adX cI cJ M B lo ch wt sn vo mo le ln od fe se td th cnt bw bs pl tk tc sill day lau) 0 0 (c_needed l D cI cJ cL adX M B lo ch wt sn vo mo le ln od fe se td th cnt bw bs pl tk tc sill day lau r.hM r.c0 r.c1 (10 * sumZ wt cnt.toNat + 10 * bw) (msZ wt sn cnt.toNat + bw * 20 * bs) rfl rfl (by have := r.bds; have := r.b0; omega) (by have := r.bds; have := r.b1; omega) (by have := r.bds; omega) (by have := r.bds; omega)) rfl rfl gL_law_X6_needed rfl rfl rfl (by decide +kernel) ⟨Nat.le_of_ble_eq_true rfl, Nat.le_of_ble_eq_true rfl⟩ rfl rfl (Nat.le_of_ble_eq_true rfl) ⟨by show cells ≤ 601024; omega, by show slots ≤ 7293034; omega⟩ dL_law_1139 (fun r1 w1 h1 => ?_)
  obtain ⟨vo1, mo1, rfl, rfl⟩ := h1
  refine Z.aload_n C dL_law_1142 rfl ?_
  refine Z.eqw (ws' := wM adM cI hf at_ wg lf cf dy ti bh ln2 thr cnt pl tc sill day lau ++ ((o, oE cL v) :: wX adX cI cJ M B lo ch wt sn vo1 mo1 le ln od fe se td th cnt bw bs pl tk tc sill day lau)) rfl ?_
  refine Z.swap ?_
  refine Z.cVIf (R := room_1) C (wr := (o, oE cL v) :: wX adX cI cJ M B lo ch wt sn vo1 mo1 le ln od fe se td th cnt bw bs pl tk tc sill day lau) (wc := wM adM cI hf at_ wg lf cf dy ti bh ln2 thr cnt pl tc sill day lau) 0 0 (m_needed l D cI cJ cL adM hf at_ wg lf cf dy ti bh ln2 thr cnt pl tc sill day lau M r.hM r.rh (10 * sumZ wt cnt.toNat + 10 * bw) (msZ wt sn cnt.toNat + bw * 20 * bs) r.L17 r.M17 (by have := r.bds; have := r.b0; omega) (by have := r.bds; have := r.b1; omega) (by have := r.bds; omega) (by have := r.bds; omega)) rfl rfl gL_law_X7_needed rfl rfl rfl (by decide +kernel) ⟨Nat.le_of_ble_eq_true rfl, Nat.le_of_ble_eq_true rfl⟩ rfl rfl (Nat.le_of_ble_eq_true rfl) ⟨by show cells ≤ 601024; omega, by show slots ≤ 7293034; omega⟩ dL_law_1143 (fun r2 w2 h2 => ?_)
  obtain ⟨rfl, rfl⟩ := h2
  refine Z.icmpeq C 1264 dL_law_1146 (by decide) hin hin (fun hcmp => ?_) (fun hcmp => absurd rfl hcmp)
  refine Z.swap ?_
  refine Z.widen (k := cells + 4) (n := slots + 24) (by omega) (by omega) ?_
  exact kk _ ⟨adX, adM, M, B, lo, ch, wt, sn, vo1, mo1, le, ln, od, fe, se, td, th, cnt, bw, bs, pl, tk, tc, sill, day, lau, hf, at_, wg, lf, cf, dy, ti, bh, ln2, 0, _, rfl, rfl, r, rfl⟩
set_option maxHeartbeats 4000000 in
set_option maxRecDepth 100000 in
theorem arm_day (C : Cx p s m args meth c 7 A D cI cJ cL cL_law wsL_law RL) (hl0 : l.stackTraces = false) (hX : va_X b L xs s s.heap) (hbl : b < s.heap.size) (hbA : ¬ A b) (hL : L ≤ 2048) (k0 : 0 ≤ k) (k1 : k + 4 ≤ L) (hc : cells + 4 ≤ 601024) (hs : slots + 24 ≤ 7293034) (hW : LWp fb mdl o cI cJ cL ws) (kk : ∀ ws' : va_W, LWp fb mdl o cI cJ cL ws' → Z p l e room_1 s m args below meth c 7 A D Q (cells + 4) (slots + 24) ws' [.ref b, .ref fb, .ref mdl, .ref o, .int (iI k), .null, .null] 1264 []) : Z p l e room_1 s m args below meth c 7 A D Q cells slots ws [.ref b, .ref fb, .ref mdl, .ref o, .int (iI k), .null, .null] 1151 [] := by
  obtain ⟨adX, adM, M, B, lo, ch, wt, sn, vo, mo, le, ln, od, fe, se, td, th, cnt, bw, bs, pl, tk, tc, sill, day, lau, hf, at_, wg, lf, cf, dy, ti, bh, ln2, thr, v, rfl, rfl, r, rfl⟩ := hW
  have hin : inr (if ndZ M (10 * sumZ wt cnt.toNat + 10 * bw) (msZ wt sn cnt.toNat + bw * 20 * bs) sill = -1 ∨ lau = 1 then -1 else daD (fun d => tdZ td th d tc.toNat) (ndZ M (10 * sumZ wt cnt.toNat + 10 * bw) (msZ wt sn cnt.toNat + bw * 20 * bs) sill) day 100) := by
    have := daD_bd (T := fun d => tdZ td th d tc.toNat) (need := ndZ M (10 * sumZ wt cnt.toNat + 10 * bw) (msZ wt sn cnt.toNat + bw * 20 * bs) sill) r.d0 100
    have := r.d1
    split <;> exact ⟨by omega, by omega⟩
  refine Z.aload_n C dL_law_1151 rfl ?_
  refine Z.eqw (ws' := (wM adM cI hf at_ wg lf cf dy ti bh ln2 thr cnt pl tc sill day lau ++ [(o, oE cL v)]) ++ wX adX cI cJ M B lo ch wt sn vo mo le ln od fe se td th cnt bw bs pl tk tc sill day lau) rfl ?_
  refine Z.cVIf (R := room_1) C (wr := wM adM cI hf at_ wg lf cf dy ti bh ln2 thr cnt pl tc sill day lau ++ [(o, oE cL v)]) (wc := wX adX cI cJ M B lo ch wt sn vo mo le ln od fe se td th cnt bw bs pl tk tc sill day lau) 0 0 (c_day l D cI cJ cL adX M B lo ch wt sn vo mo le ln od fe se td th cnt bw bs pl tk tc sill day lau r.hM r.c0 r.c1 r.i0 r.l0 r.l1 r.d0 r.d1 r.t0 r.t1 r.hu r.td0 r.th0 (10 * sumZ wt cnt.toNat + 10 * bw) (msZ wt sn cnt.toNat + bw * 20 * bs) rfl rfl (by have := r.bds; have := r.b0; omega) (by have := r.bds; have := r.b1; omega) (by have := r.bds; omega) (by have := r.bds; omega)) rfl rfl gL_law_X6_day rfl rfl rfl (by decide +kernel) ⟨Nat.le_of_ble_eq_true rfl, Nat.le_of_ble_eq_true rfl⟩ rfl rfl (Nat.le_of_ble_eq_true rfl) ⟨by show cells ≤ 601024; omega, by show slots ≤ 7293034; omega⟩ dL_law_1152 (fun r1 w1 h1 => ?_)
  obtain ⟨vo1, mo1, rfl, rfl⟩ := h1
  refine Z.aload_n C dL_law_1155 rfl ?_
  refine Z.eqw (ws' := wM adM cI hf at_ wg lf cf dy ti bh ln2 thr cnt pl tc sill day lau ++ ((o, oE cL v) :: wX adX cI cJ M B lo ch wt sn vo1 mo1 le ln od fe se td th cnt bw bs pl tk tc sill day lau)) rfl ?_
  refine Z.swap ?_
  refine Z.cVIf (R := room_1) C (wr := (o, oE cL v) :: wX adX cI cJ M B lo ch wt sn vo1 mo1 le ln od fe se td th cnt bw bs pl tk tc sill day lau) (wc := wM adM cI hf at_ wg lf cf dy ti bh ln2 thr cnt pl tc sill day lau) 0 0 (m_day l D cI cJ cL adM hf at_ wg lf cf dy ti bh ln2 thr cnt pl tc sill day lau M r.hM r.rh (10 * sumZ wt cnt.toNat + 10 * bw) (msZ wt sn cnt.toNat + bw * 20 * bs) r.L17 r.M17 (by have := r.bds; have := r.b0; omega) (by have := r.bds; have := r.b1; omega) (by have := r.bds; omega) (by have := r.bds; omega) r.l0 r.l1 r.t0 r.t1 r.dy0 r.ti0 r.d0 r.d1 r.i0) rfl rfl gL_law_X7_day rfl rfl rfl (by decide +kernel) ⟨Nat.le_of_ble_eq_true rfl, Nat.le_of_ble_eq_true rfl⟩ rfl rfl (Nat.le_of_ble_eq_true rfl) ⟨by show cells ≤ 601024; omega, by show slots ≤ 7293034; omega⟩ dL_law_1156 (fun r2 w2 h2 => ?_)
  rw [show (fun d : Int => tdZ dy ti d tc.toNat) = (fun d : Int => tdZ td th d tc.toNat) from funext r.tdE] at h2
  obtain ⟨rfl, rfl⟩ := h2
  refine Z.icmpeq C 1264 dL_law_1159 (by decide) hin hin (fun hcmp => ?_) (fun hcmp => absurd rfl hcmp)
  refine Z.swap ?_
  refine Z.widen (k := cells + 4) (n := slots + 24) (by omega) (by omega) ?_
  exact kk _ ⟨adX, adM, M, B, lo, ch, wt, sn, vo1, mo1, le, ln, od, fe, se, td, th, cnt, bw, bs, pl, tk, tc, sill, day, lau, hf, at_, wg, lf, cf, dy, ti, bh, ln2, 0, _, rfl, rfl, r, rfl⟩
end ARMS3
