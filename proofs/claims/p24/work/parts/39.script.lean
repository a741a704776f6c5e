/-! ===== the law's script, read by a method of its own ===== -/
def PUs (D : va_G) (cI cJ cL : ClassId) (b L : Nat) (xs : Nat → Int32) (sz : Nat) (U : State) : Prop := PU D cI cJ cL [] sz U ∧ va_X b L xs U U.heap
theorem PUs.blind {D : va_G} {cI cJ cL : ClassId} {b L : Nat} {xs : Nat → Int32} {sz : Nat} {av : List Value} : FrameBlind (va_Pc av (PUs D cI cJ cL b L xs sz)) := by
  intro a U g mk h
  obtain ⟨q0, ⟨q1, q2, q3, q4, q5, q6⟩, q7⟩ := h
  exact ⟨q0, ⟨q1, q2, va_K.moved (u := U) (U := U.calling g mk a) (Vm.Alike.refl U.vm) q3, q4.calls, q5, zQ.moved (u := U) (U := U.calling g mk a) (Vm.Alike.refl U.vm) q6⟩, va_X.moved (u := U) (U := U.calling g mk a) (Vm.Alike.refl U.vm) q7⟩
def CS (l : Launch) (y : MethodName) (w : List Cond) (rm : Room) (av : List Value) (D : va_G) (cI cJ cL : ClassId) (b L : Nat) (xs : Nat → Int32) (post : Int → va_W → Prop) : Prop :=
  ∀ sz : Nat, Met l y w rm (va_Pc av (PUs D cI cJ cL b L xs sz)) (va_Qi (fun (r' : Int32) (w' : va_W) => ∃ r : Int, r' = iI r ∧ post r w') (fun w' t => va_P D vwCl w' t.heap ∧ va_D (va_A [] sz) w') (va_A [] sz)) 0 0 (va_A [] sz)
theorem va_A_old {sz b : Nat} (h : b < sz) : ¬ va_A [] sz b := fun q => by
  rcases q with ⟨k, e9, q⟩ | q
  · simp at q
  · omega
theorem va_X.lt {b L : Nat} {xs : Nat → Int32} {U : State} {H : Heap} (h : va_X b L xs U H) : b < H.size := by
  obtain ⟨c, h1, -⟩ := h
  exact (Array.getElem?_eq_some_iff.mp h1).1
section ZSM
variable {l : Launch} {y : MethodName} {w w' : List Cond} {rm : Room} {av : List Value} {D : va_G} {cI cJ cL : ClassId} {cc : ByteArray} {maxL : Nat} {own : String} {b L : Nat} {xs : Nat → Int32}
theorem CS.of {post : Int → va_W → Prop} {ret : Option FieldType} (lv0 : List Value) (k : Nat) (hy : plainName y.cls = true) (hw : w = Cond.code y cc maxL ret :: w') (hown : y.cls = own) (hc1 : zc1 av = true) (hn : av.length ≤ maxL) (hlv : av ++ List.replicate k Value.null = lv0)
    (body : ∀ (sz : Nat) (p : Program) (e : Env) (s : State) (m : MethodId) (args : Array Value) (below : List Frame) (meth : Method) (c : Code), Cx p s m args meth c maxL (va_A [] sz) D cI cJ cL cc w own → meth.sig.returnType = ret → va_X b L xs s s.heap → b < s.heap.size → ¬ va_A [] sz b →
      Z p l e rm s m args below meth c maxL (va_A [] sz) D (QI below args s D [] sz post) 0 0 [] lv0 0 []) : CS l y w rm av D cI cJ cL b L xs post := by
  intro sz
  subst hlv
  refine Met.ofW (cc := cc) (maxL := maxL) (ret := ret) hy hw ?_
  intro p e s m args below meth c s₁ B hml hv
  obtain ⟨rfl, ⟨hsz, hP, hK, hN, hD0, hQ⟩, hX⟩ := hv
  have hts := atoms_spec (ws := w) B.pre
  have hf : s.vm.findClass own = some m.cls := hown ▸ findClass_of_methodNamed B.named
  have hA : ∀ q, s.heap.size ≤ q → va_A [] sz q := fun q h => Or.inr (hsz ▸ h)
  rw [lg_entry_eq]
  exact body sz p e s m av.toArray below meth c ⟨⟨B.exec, B.bytes, hml, hf, hts⟩, hK, hA, B.notSynchronized, hN, hQ⟩ B.returns hX hX.lt (va_A_old (hsz ▸ hX.lt)) s.heap [] _ hP hD0.self va_S.rf (lvl_start hc1 hn)
end ZSM
section ZSW
variable {p : Program} {l : Launch} {e : Env} {R : Room} {s : State} {m : MethodId} {args : Array Value} {below : List Frame} {meth : Method} {c : Code} {nL : Nat} {A : Nat → Prop} {D : va_G} {Q : State → Prop} {cells slots : Nat} {ws : va_W} {lv : List Value} {pc : Nat} {st : List Value} {cI cJ cL : ClassId} {cc : ByteArray} {Ts : List Cond} {own : String}
theorem Z.cSs (C : Cx p s m args meth c nL A D cI cJ cL cc Ts own) {b L : Nat} {xs : Nat → Int32} (hX : va_X b L xs s s.heap) (hbl : b < s.heap.size) (hbA : ¬ A b) {rm : Room} {y : MethodName} {w w9 : List Cond} {bytes : ByteArray} {maxL i : Nat} {ret : Option FieldType} {As rest : List Value} {P : Int → Prop} (n : Nat) (hM : CS l y w rm As D cI cJ cL b L xs (fun r w' => P r ∧ w' = [])) (hT : GoodIn Ts (va_wsS own i y w)) (hw : w = Cond.code y bytes maxL ret :: w9) (hrc : rm.cells = 0) (hrs : rm.slots = 0) (hdy : y.cls ≠ "java/lang/invoke/MethodHandle" ∧ y.cls ≠ "java/lang/invoke/VarHandle" ∧ (parseMethodDescriptor y.desc).map (fun d => d.parameters.length) = some n) (hR : rm.frames + 1 ≤ R.frames ∧ 8 + (maxL + 11) + rm.locals ≤ R.locals) (hn : As.length = n) (hst : st = As.reverse ++ rest) (hcat : (rest.map fun v => v.category).sum ≤ 8) (hcr : cells ≤ R.cells ∧ slots ≤ R.slots) (hd : decode cc pc = .ok (.invokestatic i, 3)) (k : ∀ r : Int, P r → Z p l e R s m args below meth c nL A D Q cells slots ws lv (pc + 3) (.int (iI r) :: rest)) : Z p l e R s m args below meth c nL A D Q cells slots ws lv pc st := by
  subst hst
  have key : Z p l e R s m args below meth c nL A D Q cells slots (ws ++ []) lv pc (As.reverse ++ rest) := by
    intro H locs ls hP hD hS hl
    have hF := zfree hD hS C.2.2.1
    have hpu := Z.pu C hP hD hS
    have hx : ∀ U : State, U.heap = H → s.WarmedH U.vm → PUs D cI cJ cL b L xs H.size U := fun U hU hW => ⟨hpu U hU hW, by rw [hU]; exact (va_X.moved hW.alike hX).kept (hS.2.1 b hbl hbA)⟩
    refine va_calli (va_runS C.1 (hM H.size) (va_cwS n C.1.2.2.2.2 hT hw hrc hrs hdy hR) ⟨PUs.blind, fun U hU hW => ⟨rfl, hx U hU hW⟩⟩ rfl hn hl.1 rfl (lv_room hcat) hd hcr) hS (fun q _ h => hF q h) hF (fun r u t H1 locs1 ht hvm hw hB hz1 hk1 hS1 => ?_)
    obtain ⟨r0, rfl, hp, rfl⟩ := hw
    obtain ⟨hP1, hD1⟩ := hB
    rw [ht] at hP1
    obtain ⟨hP2, hD2⟩ := zjoin hP hD hk1 hF hP1 hD1
    rw [List.append_nil] at hP2 hD2
    exact k r0 hp H1 locs1 ls hP2 hD2 hS1 hl
  rw [List.append_nil] at key
  exact key
end ZSW
abbrev rmL_cell : Room := { frames := 0, cells := 0, slots := 0, locals := 0 }
set_option maxHeartbeats 4000000 in
set_option maxRecDepth 100000 in
theorem q_cell (l : Launch) (D : va_G) (cI cJ cL : ClassId) (b L : Nat) (xs : Nat → Int32) (hL : L ≤ 2048) (k : Int) (k0 : 0 ≤ k) (k1 : k ≤ 100000) : CS l yL_cell wsL_cell rmL_cell [.ref b, .int (iI k)] D cI cJ cL b L xs (fun r w' => inr r ∧ w' = []) := by
  refine CS.of (cc := cL_cell) (maxL := 2) (ret := some .int) (own := RL) _ 0 (by decide +kernel) rfl rfl rfl (Nat.le_of_ble_eq_true rfl) rfl (fun sz9 p9 e9 s9 m9 a9 b9 h9 c9 C hr hX hbl hbA => ?_)
  refine Z.iload_n C dL_cell_0 rfl ?_
  refine Z.aload_n C dL_cell_1 rfl ?_
  refine Z.slen C hX hbl hbA dL_cell_2 ?_
  refine Z.icmpge C 12 dL_cell_3 (by decide) (⟨by omega, by omega⟩) (⟨by omega, by omega⟩) (fun h => ?_) (fun h => ?_)
  · refine Z.ldc C (v := iI (1205587467)) (1205587467) (by decide +kernel) rfl dL_cell_12 ?_
    refine Z.iload_n C dL_cell_14 rfl ?_
    refine Z.bipush C dL_cell_15 (by decide) ?_
    refine Z.iadd C dL_cell_17 ?_
    refine Z.imul C dL_cell_18 ?_
    refine Z.as (congrArg Value.int (iI_of _)) ?_
    exact Z.iret C hr dL_cell_19 (⟨inr_of _, rfl⟩)
  · refine Z.aload_n C dL_cell_6 rfl ?_
    refine Z.iload_n C dL_cell_7 rfl ?_
    refine Z.sld C hX hbl hbA k0 (by omega) hL dL_cell_8 ?_
    refine Z.goto C 19 dL_cell_9 (by decide) ?_
    exact Z.iret C hr dL_cell_19 (⟨inr_of _, rfl⟩)
