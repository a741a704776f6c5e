/-! ===== the law from its entry ===== -/
set_option maxRecDepth 20000 in
theorem lw_i6 : (Cond.classLink RL 9 RX6 ∈ wsL_law ∧ Cond.instantiable RX6 9 ∈ wsL_law ∧ Cond.initialized RX6 ∈ wsL_law) ∧ (Cond.methodLink RL 148 yX6_init ∈ wsL_law ∧ Cond.initialized yX6_init.cls ∈ wsL_law ∧ Cond.instanceMethod yX6_init ∈ wsL_law) ∧ Cond.arrayClass .int ∈ wsL_law := by decide +kernel
set_option maxHeartbeats 4000000 in
set_option maxRecDepth 100000 in
theorem law_Z {p : Program} {e : Env} {s : State} {m : MethodId} {below : List Frame} {meth : Method} {c : Code} {l : Launch} (hl0 : l.stackTraces = false) {b L : Nat} {xs : Nat → Int32} (hL : L ≤ 260) {D : va_G} {cI cJ cL : ClassId} (C : Cx p s m #[Value.ref b] meth c 30 (va_A [] s.heap.size) D cI cJ cL cL_law wsL_law RL) (hAO : va_AOA .int s) (hr : meth.sig.returnType = ret) (hX : va_X b L xs s s.heap) (hbl : b < s.heap.size) : Z p l e room_1 s m #[Value.ref b] below meth c 30 (va_A [] s.heap.size) D (lw_Z below #[Value.ref b] s) 0 0 [] [.ref b, .null, .null, .null, .null, .null, .null, .null, .null, .null, .null, .null, .null, .null, .null, .null, .null, .null, .null, .null, .null, .null, .null, .null, .null, .null, .null, .null, .null, .null] 0 [] := by
  have hbA : ¬ va_A [] s.heap.size b := va_A_old hbl
  have hend : ∀ (cells slots : Nat) (ws : va_W) (lv : List Value), cells ≤ 600130 → slots ≤ 7301080 → Z p l e room_1 s m #[Value.ref b] below meth c 30 (va_A [] s.heap.size) D (lw_Z below #[Value.ref b] s) cells slots ws lv 1377 [.int (iI 1)] := by
    intro cells slots ws lv h1 h2
    intro H locs ls hP hD hS hl
    refine va_forget (fun q hq => ?_) (W.widen h1 h2 ?_)
    · rcases hS.2.2 q hq with ⟨k, e9, h⟩ | h
      · simp at h
      · exact h
    · exact lw_ret C.1.1 C.1.2.1 hr C.2.2.2.1 dL_law_1377
  refine Z.newc (ci := 6) (Cn := RX6) (T := TX6) (N := 9) (fs := [.null, .null, .null, .null, .null, .null, .int (iI 0), .int (iI 0), .int (iI 0)]) C inlX6 tyX6 tyX6_ok lw_i6.1.1 lw_i6.1.2.1 lw_i6.1.2.2 rfl (fun j hj => by rcases (show j = 0 ∨ j = 1 ∨ j = 2 ∨ j = 3 ∨ j = 4 ∨ j = 5 ∨ j = 6 ∨ j = 7 ∨ j = 8 by omega) with rfl | rfl | rfl | rfl | rfl | rfl | rfl | rfl | rfl <;> rfl) (Nat.le_of_ble_eq_true rfl) (Nat.le_of_ble_eq_true rfl) dL_law_0 (fun q0 => ?_)
  refine Z.dup C dL_law_3 rfl ?_
  refine Z.cIP (R := room_1) C hAO (wr := []) (c_X6_init l D cI cJ cL q0) gL_law_X6_init lw_i6.2.1.1 lw_i6.2.1.2.1 lw_i6.2.1.2.2 rfl rfl rfl rfl (by decide +kernel) ⟨Nat.le_of_ble_eq_true rfl, Nat.le_of_ble_eq_true rfl⟩ (Nat.le_of_ble_eq_true rfl) ⟨Nat.le_of_ble_eq_true rfl, Nat.le_of_ble_eq_true rfl⟩ dL_law_4 (fun w1 hw1 => ?_)
  obtain ⟨adX, rfl, rfl⟩ := hw1
  refine Z.eqw (ws' := wX adX cI cJ (fun _ => zz) (fun _ => zz) zz zz zz zz zz zz zz zz zz zz zz zz zz 0 0 4 1000 0 0 0 0 0) rfl ?_
  refine Z.astore_n C dL_law_7 (by decide) ?_
  refine Z.bipush C dL_law_8 (by decide) ?_
  refine Z.newa C lw_i6.2.2 54 rfl (by decide) (Nat.le_of_ble_eq_true rfl) (Nat.le_of_ble_eq_true rfl) dL_law_10 (fun q2 => ?_)
  refine Z.astore_n C dL_law_12 (by decide) ?_
  refine Z.bipush C dL_law_13 (by decide) ?_
  refine Z.newa C lw_i6.2.2 17 rfl (by decide) (Nat.le_of_ble_eq_true rfl) (Nat.le_of_ble_eq_true rfl) dL_law_15 (fun q3 => ?_)
  refine Z.astore_n C dL_law_17 (by decide) ?_
  refine Z.bipush C dL_law_18 (by decide) ?_
  refine Z.newa C lw_i6.2.2 17 rfl (by decide) (Nat.le_of_ble_eq_true rfl) (Nat.le_of_ble_eq_true rfl) dL_law_20 (fun q4 => ?_)
  refine Z.astore C dL_law_22 (by decide) ?_
  refine Z.bipush C dL_law_24 (by decide) ?_
  refine Z.newa C lw_i6.2.2 40 rfl (by decide) (Nat.le_of_ble_eq_true rfl) (Nat.le_of_ble_eq_true rfl) dL_law_26 (fun q5 => ?_)
  refine Z.astore C dL_law_28 (by decide) ?_
  refine Z.bipush C dL_law_30 (by decide) ?_
  refine Z.newa C lw_i6.2.2 40 rfl (by decide) (Nat.le_of_ble_eq_true rfl) (Nat.le_of_ble_eq_true rfl) dL_law_32 (fun q6 => ?_)
  refine Z.astore C dL_law_34 (by decide) ?_
  refine Z.bipush C dL_law_36 (by decide) ?_
  refine Z.newa C lw_i6.2.2 6 rfl (by decide) (Nat.le_of_ble_eq_true rfl) (Nat.le_of_ble_eq_true rfl) dL_law_38 (fun q7 => ?_)
  refine Z.astore C dL_law_40 (by decide) ?_
  refine Z.eqw (ws' := wX adX cI cJ (fun _ => zz) (fun _ => zz) zz zz zz zz zz zz zz zz zz zz zz zz zz 0 0 4 1000 0 0 0 0 0 ++ wA (adL [q2, q3, q4, q5, q6, q7]) cI zz zz zz zz zz zz) rfl ?_
  refine Z.swap ?_
  refine Z.widen (k := 42) (n := 804) (Nat.le_of_ble_eq_true rfl) (Nat.le_of_ble_eq_true rfl) ?_
  refine Z.aload_n C dL_law_42 rfl ?_
  refine Z.bipush C dL_law_43 (by decide) ?_
  refine Z.iconst C dL_law_45 ?_
  refine Z.iast C 1 rfl (by omega) (by omega) (by decide) dL_law_46 wL_a1 ?_
  refine Z.aload C dL_law_47 rfl ?_
  refine Z.iconst C dL_law_49 ?_
  refine Z.sipush C dL_law_50 (by decide) ?_
  refine Z.iast C 5 rfl (by omega) (by omega) (by decide) dL_law_53 wL_a5 ?_
  refine Z.iconst C dL_law_54 ?_
  refine Z.istore C dL_law_55 (by decide) ?_
  exact law_init (aq := adL [q2, q3, q4, q5, q6, q7]) C hl0 hX hbl hbA (Nat.le_trans hL (by decide)) (fun M hf rr => law_loop (aq := adL [q2, q3, q4, q5, q6, q7]) C hl0 hX hbl hbA (Nat.le_trans hL (by decide)) hend 110 0 _ rfl ⟨_, _, _, _, _, _, _, _, _, _, _, _, _, _, _, _, _, _, _, _, _, _, _, _, _, _, _, _, _, _, rr, rfl⟩)
theorem whole_start {p : Program} {e : Env} {s : State} {m : MethodId} {below : List Frame} {meth : Method} {c : Code} (l : Launch) (hflags : l.flags = flags0) {b L : Nat} {xs : Nat → Int32} (hL : L ≤ 260) (C0 : lw_At p s m meth c b L xs) : W p l e room_1 s m #[Value.ref b] below meth c s.heap [] 0 0 (lw_Z below #[Value.ref b] s) (entryFrame m ([Value.ref b] : List Value).toArray 30) := by
  have hl0 : l.stackTraces = false := by
    unfold Launch.stackTraces
    rw [hflags]
    decide +kernel
  obtain ⟨D, cI, cJ, cL, C, hAO⟩ := lw_ctx C0
  obtain ⟨hx, hb, hr, hml, hown, hts, hX, hbl, hlocks, hgv⟩ := C0
  rw [lg_entry_eq]
  exact law_Z hl0 hL C hAO hr hX hbl s.heap [] _ (fun k q h => by simp at h) ⟨fun i j p9 q9 h => by simp at h, fun k q h => by simp at h⟩ va_S.rf (lvl_start (k := 29) rfl (Nat.le_of_ble_eq_true rfl))
