/-! ===== what holds at the law's entry ===== -/
theorem lw_arr {s : State} {args : Array Value} {ty : FieldType} (h : (Cond.arrayClass ty).before args s = true) : ∃ cA : ClassId, ArrOfT s cA ty ∧ s.vm.findClass ("[" ++ ty.toString) = some cA := by
  obtain ⟨cA, kA, comp, h1, h2, h3⟩ := Cond.arrayClass_spec h
  exact ⟨cA, fun n z => ⟨fun k h => (by cases h), kA, h2, comp, h3⟩, h1⟩
theorem lw_arr2 {s : State} (h : va_AOA .int s) : ∃ cA : ClassId, ArrOfT s cA (.array .int) ∧ s.vm.findClass ("[" ++ (FieldType.array .int).toString) = some cA := by
  obtain ⟨comp, c9, k, h1, h2, h3, h4, h5⟩ := Jvm.Stand.arrayOver_specB h
  exact ⟨c9, fun n z => ⟨fun k h => (by cases h), k, h3, comp, h4⟩, h5⟩
set_option maxRecDepth 20000 in
theorem lw_NM : ∀ q ∈ zNM, Cond.methodLinkNest q.1 q.2.1 q.2.2.1 q.2.2.2 ∈ lw_tbl := by decide +kernel
set_option maxRecDepth 20000 in
theorem lw_NF : ∀ q ∈ zNF, Cond.fieldLinkNest q.1 q.2.1 q.2.2.1 q.2.2.2.1 q.2.2.2.2.1 q.2.2.2.2.2 ∈ lw_tbl := by decide +kernel
set_option maxRecDepth 20000 in
theorem lw_NS : ∀ q ∈ zNS, Cond.stringRef q.1 q.2.1 q.2.2 ∈ lw_tbl := by decide +kernel
set_option maxRecDepth 20000 in
theorem lw_NE : ∀ q ∈ zNS, Cond.exactly (.string q.1 q.2.1) "java/lang/String" ∈ flatC (Jvm.Cond.and given_1 narrow_1) := by decide +kernel
set_option maxRecDepth 20000 in
theorem lw_Cs : ∀ E ∈ zEx, Cond.castable E E ∈ lw_tbl := by decide +kernel
set_option maxRecDepth 20000 in
theorem lw_Nc : ∀ E ∈ zEx, ∀ T ∈ zEx, E ≠ T → Cond.not (.castable E T) ∈ flatC (Jvm.Cond.and given_1 narrow_1) := by decide +kernel
set_option maxRecDepth 20000 in
theorem lw_De : ∀ y ∈ zDe, Cond.declares y ∈ lw_tbl := by decide +kernel
set_option maxRecDepth 20000 in
theorem lw_AO : Cond.arrayOver (.array .int) ∈ lw_tbl := by decide +kernel
set_option maxRecDepth 20000 in
theorem lw_AI : Cond.arrayClass .int ∈ lw_tbl := by decide +kernel
set_option maxRecDepth 20000 in
theorem lw_AL : Cond.arrayClass .long ∈ lw_tbl := by decide +kernel
set_option maxRecDepth 20000 in
theorem lw_S1 : Cond.laysStatic Bundle.tN "UNASSIGNED_STACK" Bundle.steD ∈ lw_tbl ∧ Cond.laysStatic Bundle.tN "SUPPRESSED_SENTINEL" Bundle.listD ∈ lw_tbl ∧ Cond.initialized Bundle.tN ∈ lw_tbl := by decide +kernel
set_option maxRecDepth 20000 in
theorem lw_S2 : Cond.isRef (.static Bundle.tN "UNASSIGNED_STACK" Bundle.steD) ∈ flatC (Jvm.Cond.and given_1 narrow_1) ∧ Cond.isRef (.static Bundle.tN "SUPPRESSED_SENTINEL" Bundle.listD) ∈ flatC (Jvm.Cond.and given_1 narrow_1) := by decide +kernel
set_option maxRecDepth 20000 in
theorem lw_In : Cond.instantiable RX0 3 ∈ lw_tbl ∧ Cond.instantiable RX1 3 ∈ lw_tbl ∧ Cond.instantiable RX2 2 ∈ lw_tbl ∧ Cond.instantiable RX3 5 ∈ lw_tbl ∧ Cond.instantiable RX4 1 ∈ lw_tbl ∧ Cond.instantiable RX5 7 ∈ lw_tbl ∧ Cond.instantiable RX6 9 ∈ lw_tbl := by decide +kernel
theorem lw_N {s : State} {A : Array Value} (hts : ∀ w ∈ lw_tbl, w.before A s = true) (hng : ∀ w ∈ flatC (Jvm.Cond.and given_1 narrow_1), w.before A s = true) : zN s := by
  refine ⟨fun q hq => va_Nw.of rfl (hts _ (lw_NM q hq)), fun q hq => va_Nw.of rfl (hts _ (lw_NF q hq)), fun q hq => ?_, fun E hE => va_Nw.of rfl (hts _ (lw_Cs E hE)), fun E hE T hT hne => va_Nc.of (hng _ (lw_Nc E hE T hT hne)), fun y hy => va_Nw.of rfl (hts _ (lw_De y hy))⟩
  obtain ⟨a, c, cell, k, h1, -⟩ := Cond.exactly_spec (hng _ (lw_NE q hq))
  exact ⟨a, vk_R.of (hts _ (lw_NS q hq)) h1⟩
theorem lw_ctx {p : Program} {s : State} {m : MethodId} {meth : Method} {c : Code} {b L : Nat} {xs : Nat → Int32} (C0 : lw_At p s m meth c b L xs) : ∃ (D : va_G) (cI cJ cL : ClassId), Cx p s m #[Value.ref b] meth c 30 (va_A [] s.heap.size) D cI cJ cL cL_law wsL_law RL ∧ va_AOA .int s := by
  obtain ⟨hx, hb, hr, hml, hown, hts, hX, hbl, hlocks, hgv⟩ := C0
  have hw : ∀ w ∈ wsL_law, w.before #[Value.ref b] s = true := fun w h => hts w (wsL_law_in w h)
  have hng := flat_of_before _ hgv
  have hAO : va_AOA .int s := hts _ lw_AO
  obtain ⟨i0, i1, i2, i3, i4, i5, i6⟩ := lw_In
  obtain ⟨c0, f0, k0⟩ := u_known (C := RX0) (T := TX0) (N := 3) (n := 3) hw inlX0 (hts _ i0)
  obtain ⟨c1, f1, k1⟩ := u_known (C := RX1) (T := TX1) (N := 3) (n := 3) hw inlX1 (hts _ i1)
  obtain ⟨c2, f2, k2⟩ := u_known (C := RX2) (T := TX2) (N := 2) (n := 2) hw inlX2 (hts _ i2)
  obtain ⟨c3, f3, k3⟩ := u_known (C := RX3) (T := TX3) (N := 5) (n := 5) hw inlX3 (hts _ i3)
  obtain ⟨c4, f4, k4⟩ := u_known (C := RX4) (T := TX4) (N := 1) (n := 1) hw inlX4 (hts _ i4)
  obtain ⟨c5, f5, k5⟩ := u_known (C := RX5) (T := TX5) (N := 7) (n := 7) hw inlX5 (hts _ i5)
  obtain ⟨c6, f6, k6⟩ := u_known (C := RX6) (T := TX6) (N := 9) (n := 9) hw inlX6 (hts _ i6)
  obtain ⟨cI, aI1, aI2⟩ := lw_arr (hts _ lw_AI)
  obtain ⟨cL, aL1, aL2⟩ := lw_arr (hts _ lw_AL)
  obtain ⟨cJ, aJ1, aJ2⟩ := lw_arr2 hAO
  have hA : ∀ a : Nat, a < s.heap.size → ¬ va_A [] s.heap.size a := fun a ha h => by
    rcases h with ⟨k, e, h⟩ | h
    · simp at h
    · omega
  refine ⟨(fun k => [c0, c1, c2, c3, c4, c5, c6].getD k c0, fun k => [f0, f1, f2, f3, f4, f5, f6].getD k f0), cI, cJ, cL, ⟨⟨hx, hb, hml, hown, hw⟩, ⟨fun k q hq => ?_, fun k q hq => ?_⟩, fun q h => Or.inr h, hlocks, lw_N hts hng, vx_Zqof (hts _ lw_S1.1) (hts _ lw_S1.2.2) (hng _ lw_S2.1) hA, vx_Zqof (hts _ lw_S1.2.1) (hts _ lw_S1.2.2) (hng _ lw_S2.2) hA⟩, hAO⟩
  · match k, hq with
    | 0, hq => cases hq; exact k0
    | 1, hq => cases hq; exact k1
    | 2, hq => cases hq; exact k2
    | 3, hq => cases hq; exact k3
    | 4, hq => cases hq; exact k4
    | 5, hq => cases hq; exact k5
    | 6, hq => cases hq; exact k6
    | k + 7, hq => simp [vwCl] at hq
  · match k, hq with
    | 0, hq => cases hq; exact ⟨aI1, aI2⟩
    | 1, hq => cases hq; exact ⟨aJ1, aJ2⟩
    | 2, hq => cases hq; exact ⟨aL1, aL2⟩
    | k + 3, hq => simp [zty] at hq
