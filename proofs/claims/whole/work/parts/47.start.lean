/-! ===== the law from its entry ===== -/
section ZST
variable {p : Program} {l : Launch} {e : Env} {R : Room} {s : State} {m : MethodId} {args : Array Value} {below : List Frame} {meth : Method} {c : Code} {nL : Nat} {A : Nat → Prop} {D : va_G} {Q : State → Prop} {cells slots : Nat} {ws : va_W} {lv : List Value} {pc : Nat} {st : List Value} {cI cJ cL : ClassId} {cc : ByteArray} {Ts : List Cond} {own : String}
theorem Z.newL (C : Cx p s m args meth c nL A D cI cJ cL cc Ts own) (harr : Cond.arrayClass .long ∈ Ts) (hcells : cells + 1 ≤ R.cells) (hslots : slots + 1 ≤ R.slots) (hd : decode cc pc = .ok (.newarray .long, 2)) (k : ∀ q : Nat, Z p l e R s m args below meth c nL A D Q (cells + 1) (slots + 1) (ws ++ [(q, oE cL 0)]) lv (pc + 2) (.ref q :: st)) : Z p l e R s m args below meth c nL A D Q cells slots ws lv pc (.int (iI 1) :: st) := by
  intro H locs ls hP hD hS hl
  refine va_newa (D := D) (atype := .long) (ty := .long) (a0 := (1, .inr (.inl (fun _ => jL 0)))) C.1.1 C.1.2.1 (C.1.2.2.2.2 _ harr) rfl C.2.1 hP hD hS C.2.2.1 (fun _ => rfl) (by decide) rfl (by decide) hcells hslots hd (fun q cA H1 hK1 hP1 hD1 hS1 => ?_)
  have e1 : s.vm.findClass ("[" ++ FieldType.long.toString) = some cA := (hK1.2 3 (cA, .long) rfl).2
  have e2 : s.vm.findClass ("[" ++ FieldType.long.toString) = some cL := (C.2.1.2 2 (cL, .long) rfl).2
  cases e1.symm.trans e2
  exact k q H1 locs ls hP1 hD1 hS1 hl
end ZST
theorem zb (c9 : Int) (h : 0 ≤ c9) (j : Int) : 0 ≤ zz j ∧ zz j ≤ c9 := ⟨Int.le_refl 0, h⟩
theorem rel_start : RelS (fun _ => zz) (fun _ => zz) zz zz zz zz (zset zz 16 4) zz zz zz zz 0 0 4 1000 0 0 0 0 0 1000 0 0 0 0 := by
  have z0 : ∀ j : Int, 0 ≤ zz j ∧ zz j ≤ 9999 := zb 9999 (by decide)
  have z1 : ∀ j : Int, 0 ≤ zz j ∧ zz j ≤ 99 := zb 99 (by decide)
  exact ⟨fun _ _ _ _ _ _ => rfl, fun _ j => zb 200 (by decide) j, fun _ => rfl, by decide, by decide, rfl, fun j h1 h2 => by omega, fun _ _ _ => rfl, rfl, rfl, fun j => ⟨(zb 999 (by decide) j).1, (zb 999 (by decide) j).2, (zb 8 (by decide) j).1, (zb 8 (by decide) j).2⟩, by decide, by decide, by decide, by decide, rfl, by decide, by decide, rfl, by decide, by decide, fun j h1 h2 => by omega, fun i j h1 h2 _ _ _ => by omega, z0, z0, z1, z1, rfl, by decide, by decide, rfl, by decide, by decide, rfl, Or.inl rfl⟩
set_option maxRecDepth 20000 in
theorem lw_i6 : (Cond.classLink RL 8 RX6 ∈ wsL_law ∧ Cond.instantiable RX6 9 ∈ wsL_law ∧ Cond.initialized RX6 ∈ wsL_law) ∧ (Cond.methodLink RL 71 yX6_init ∈ wsL_law ∧ Cond.initialized yX6_init.cls ∈ wsL_law ∧ Cond.instanceMethod yX6_init ∈ wsL_law) := by decide +kernel
set_option maxRecDepth 20000 in
theorem lw_i7 : (Cond.classLink RL 72 RX7 ∈ wsL_law ∧ Cond.instantiable RX7 16 ∈ wsL_law ∧ Cond.initialized RX7 ∈ wsL_law) ∧ (Cond.methodLink RL 74 yX7_init ∈ wsL_law ∧ Cond.initialized yX7_init.cls ∈ wsL_law ∧ Cond.instanceMethod yX7_init ∈ wsL_law) ∧ Cond.arrayClass .long ∈ wsL_law := by decide +kernel
set_option maxHeartbeats 4000000 in
set_option maxRecDepth 100000 in
theorem law_Z {p : Program} {e : Env} {s : State} {m : MethodId} {below : List Frame} {meth : Method} {c : Code} {l : Launch} (hl0 : l.stackTraces = false) {b L : Nat} {xs : Nat → Int32} (hL : L ≤ 2048) {D : va_G} {cI cJ cL : ClassId} (C : Cx p s m #[Value.ref b] meth c 7 (va_A [] s.heap.size) D cI cJ cL cL_law wsL_law RL) (hAO : va_AOA .int s) (hr : meth.sig.returnType = ret) (hX : va_X b L xs s s.heap) (hbl : b < s.heap.size) : Z p l e room_1 s m #[Value.ref b] below meth c 7 (va_A [] s.heap.size) D (lw_Z below #[Value.ref b] s) 0 0 [] [.ref b, .null, .null, .null, .null, .null, .null] 0 [] := by
  have hbA : ¬ va_A [] s.heap.size b := fun h => by
    rcases h with ⟨k, e9, h⟩ | h
    · simp at h
    · omega
  have hend : ∀ (cells slots : Nat) (ws : va_W) (lv : List Value), cells ≤ 601024 → slots ≤ 7293034 → Z p l e room_1 s m #[Value.ref b] below meth c 7 (va_A [] s.heap.size) D (lw_Z below #[Value.ref b] s) cells slots ws lv 1270 [] := by
    intro cells slots ws lv h1 h2
    refine Z.iconst C dL_law_1270 ?_
    intro H locs ls hP hD hS hl
    refine va_forget (fun q hq => ?_) (W.widen h1 h2 ?_)
    · rcases hS.2.2 q hq with ⟨k, e9, h⟩ | h
      · simp at h
      · exact h
    · exact lw_ret C.1.1 C.1.2.1 hr C.2.2.2.1 dL_law_1271
  refine Z.newc (ci := 6) (Cn := RX6) (T := TX6) (N := 9) (fs := [.null, .null, .null, .null, .null, .null, .int (iI 0), .int (iI 0), .int (iI 0)]) C inlX6 tyX6 tyX6_ok lw_i6.1.1 lw_i6.1.2.1 lw_i6.1.2.2 rfl (fun j hj => by rcases (show j = 0 ∨ j = 1 ∨ j = 2 ∨ j = 3 ∨ j = 4 ∨ j = 5 ∨ j = 6 ∨ j = 7 ∨ j = 8 by omega) with rfl | rfl | rfl | rfl | rfl | rfl | rfl | rfl | rfl <;> rfl) (Nat.le_of_ble_eq_true rfl) (Nat.le_of_ble_eq_true rfl) dL_law_0 (fun q0 => ?_)
  refine Z.dup C dL_law_3 rfl ?_
  refine Z.cIP (R := room_1) C hAO (wr := []) (c_X6_init l D cI cJ cL q0) gL_law_X6_init lw_i6.2.1 lw_i6.2.2.1 lw_i6.2.2.2 rfl rfl rfl rfl (by decide +kernel) ⟨Nat.le_of_ble_eq_true rfl, Nat.le_of_ble_eq_true rfl⟩ (Nat.le_of_ble_eq_true rfl) ⟨Nat.le_of_ble_eq_true rfl, Nat.le_of_ble_eq_true rfl⟩ dL_law_4 (fun w1 hw1 => ?_)
  obtain ⟨adX, rfl, rfl⟩ := hw1
  refine Z.eqw (ws' := wX adX cI cJ (fun _ => zz) (fun _ => zz) zz zz zz zz zz zz zz zz zz zz zz zz zz 0 0 4 1000 0 0 0 0 0) rfl ?_
  refine Z.astore_n C dL_law_7 (by decide) ?_
  refine Z.newc (ci := 7) (Cn := RX7) (T := TX7) (N := 16) (fs := [.int (iI 0), .null, .int (iI 0), .null, .null, .int (iI 0), .null, .null, .int (iI 0), .null, .null, .int (iI 0), .int (iI 0), .int (iI 0), .null, .null]) C inlX7 tyX7 tyX7_ok lw_i7.1.1 lw_i7.1.2.1 lw_i7.1.2.2 rfl (fun j hj => by rcases (show j = 0 ∨ j = 1 ∨ j = 2 ∨ j = 3 ∨ j = 4 ∨ j = 5 ∨ j = 6 ∨ j = 7 ∨ j = 8 ∨ j = 9 ∨ j = 10 ∨ j = 11 ∨ j = 12 ∨ j = 13 ∨ j = 14 ∨ j = 15 by omega) with rfl | rfl | rfl | rfl | rfl | rfl | rfl | rfl | rfl | rfl | rfl | rfl | rfl | rfl | rfl | rfl <;> rfl) (Nat.le_of_ble_eq_true rfl) (Nat.le_of_ble_eq_true rfl) dL_law_8 (fun q1 => ?_)
  refine Z.dup C dL_law_11 rfl ?_
  refine Z.cIP (R := room_1) C hAO (wr := wX adX cI cJ (fun _ => zz) (fun _ => zz) zz zz zz zz zz zz zz zz zz zz zz zz zz 0 0 4 1000 0 0 0 0 0) (c_X7_init l D cI cJ cL q1) gL_law_X7_init lw_i7.2.1.1 lw_i7.2.1.2.1 lw_i7.2.1.2.2 rfl rfl rfl rfl (by decide +kernel) ⟨Nat.le_of_ble_eq_true rfl, Nat.le_of_ble_eq_true rfl⟩ (Nat.le_of_ble_eq_true rfl) ⟨Nat.le_of_ble_eq_true rfl, Nat.le_of_ble_eq_true rfl⟩ dL_law_12 (fun w2 hw2 => ?_)
  obtain ⟨adM, rfl, rfl⟩ := hw2
  refine Z.astore_n C dL_law_15 (by decide) ?_
  refine Z.iconst C dL_law_16 ?_
  refine Z.newL C lw_i7.2.2 (Nat.le_of_ble_eq_true rfl) (Nat.le_of_ble_eq_true rfl) dL_law_17 (fun q2 => ?_)
  refine Z.astore_n C dL_law_19 (by decide) ?_
  refine Z.iconst C dL_law_20 ?_
  refine Z.istore C dL_law_21 (by decide) ?_
  refine Z.eqw (ws' := wX adX cI cJ (fun _ => zz) (fun _ => zz) zz zz zz zz zz zz zz zz zz zz zz zz zz 0 0 4 1000 0 0 0 0 0 ++ (wM adM cI zz (zset zz 16 4) zz zz zz zz zz zz zz 0 0 1000 0 0 0 0 ++ [(q2, oE cL 0)])) rfl ?_
  refine Z.swap ?_
  refine Z.eqw (ws' := wM adM cI zz (zset zz 16 4) zz zz zz zz zz zz zz 0 0 1000 0 0 0 0 ++ ((q2, oE cL 0) :: wX adX cI cJ (fun _ => zz) (fun _ => zz) zz zz zz zz zz zz zz zz zz zz zz zz zz 0 0 4 1000 0 0 0 0 0)) rfl ?_
  exact law_loop C hl0 hX hbl hbA hL hend (L + 1) 0 _ _ 0 _ (by omega) rfl (Nat.le_of_ble_eq_true rfl) (Nat.le_of_ble_eq_true rfl) (by omega) ⟨adX, adM, _, _, _, _, _, _, _, _, _, _, _, _, _, _, _, _, _, _, _, _, _, _, _, _, _, _, _, _, _, _, _, _, _, _, _, rfl, rfl, rel_start, rfl⟩
theorem whole_start {p : Program} {e : Env} {s : State} {m : MethodId} {below : List Frame} {meth : Method} {c : Code} (l : Launch) (hflags : l.flags = flags0) {b L : Nat} {xs : Nat → Int32} (hL : L ≤ 2048) (C0 : lw_At p s m meth c b L xs) : W p l e room_1 s m #[Value.ref b] below meth c s.heap [] 0 0 (lw_Z below #[Value.ref b] s) (entryFrame m ([Value.ref b] : List Value).toArray 7) := by
  have hl0 : l.stackTraces = false := by
    unfold Launch.stackTraces
    rw [hflags]
    decide +kernel
  obtain ⟨D, cI, cJ, cL, C, hAO⟩ := lw_ctx C0
  obtain ⟨hx, hb, hr, hml, hown, hts, hX, hbl, hlocks, hgv⟩ := C0
  rw [lg_entry_eq]
  exact law_Z hl0 hL C hAO hr hX hbl s.heap [] _ (fun k q h => by simp at h) ⟨fun i j p9 q9 h => by simp at h, fun k q h => by simp at h⟩ va_S.rf (lvl_start (k := 6) rfl (Nat.le_of_ble_eq_true rfl))
