/-! ===== the law's helpers: the one long that they hand out, the tables of what is caught ===== -/
def jL (x : Int) : Int64 := (iI x).toInt64
def oE (cL : ClassId) (v : Int) : va_E := .inl (cL, 1, .inr (.inl (fun _ => jL v)))
section ZHM
variable {l : Launch} {y : MethodName} {w w' : List Cond} {rm : Room} {av : List Value} {D : va_G} {cI cJ cL : ClassId} {ws : va_W} {cc : ByteArray} {maxL : Nat} {own : String} {mc ms : Nat} {px : String → va_W → Prop}
theorem XI.ofH {post : Int → va_W → Prop} {ret : Option FieldType} {hh : List (Nat × Nat × Nat × Nat)} (lv0 : List Value) (k : Nat) (hy : plainName y.cls = true) (hw : w = Cond.codeWith y cc maxL ret hh :: w') (hown : y.cls = own) (hc1 : zc1 av = true) (hn : av.length ≤ maxL) (hlv : av ++ List.replicate k Value.null = lv0)
    (body : ∀ (sz : Nat) (p : Program) (e : Env) (s : State) (m : MethodId) (args : Array Value) (below : List Frame) (meth : Method) (c : Code), Cx p s m args meth c maxL (va_A ws sz) D cI cJ cL cc w own → meth.sig.returnType = ret → c.exceptionTable.toList = tableOf hh →
      Z p l e rm s m args below meth c maxL (va_A ws sz) D (QXI below args s D ws sz mc ms post px) 0 0 ws lv0 0 []) : XI l y w rm av D cI cJ cL ws mc ms post px := by
  intro sz
  subst hlv
  refine vx_ofWH (cc := cc) (maxL := maxL) (ret := ret) (hh := hh) hy hw ?_
  intro p e s m args below meth c s₁ B hml hv
  obtain ⟨rfl, hsz, hP, hK, hN, hD0, hQ⟩ := hv
  have hts := atoms_spec (ws := w) B.pre
  have hf : s.vm.findClass own = some m.cls := hown ▸ findClass_of_methodNamed B.named
  have hA : ∀ q, s.heap.size ≤ q → va_A ws sz q := fun q h => Or.inr (hsz ▸ h)
  have htb : c.exceptionTable.toList = tableOf hh  := vx_table (x := y) B (hts _ (by rw [hw]; exact List.mem_cons_self))
  rw [lg_entry_eq]
  exact body sz p e s m av.toArray below meth c ⟨⟨B.exec, B.bytes, hml, hf, hts⟩, hK, hA, B.notSynchronized, hN, hQ⟩ B.returns htb s.heap [] _ hP hD0.self va_S.rf (lvl_start hc1 hn)
end ZHM
section ZHW
variable {p : Program} {l : Launch} {e : Env} {R : Room} {s : State} {m : MethodId} {args : Array Value} {below : List Frame} {meth : Method} {c : Code} {nL : Nat} {A : Nat → Prop} {D : va_G} {Q : State → Prop} {cells slots : Nat} {ws : va_W} {lv : List Value} {pc : Nat} {st : List Value} {cI cJ cL : ClassId} {cc : ByteArray} {Ts : List Cond} {own : String}
theorem ZX.catch (C : Cx p s m args meth c nL A D cI cJ cL cc Ts own) {E : String} (pre : List (Nat × Nat × Nat × Nat)) (x : Nat × Nat × Nat × Nat) (suf : List (Nat × Nat × Nat × Nat)) (hsplit : c.exceptionTable.toList = tableOf (pre ++ x :: suf))
    (hpass : ∀ z ∈ pre, z.2.2.2 ≠ 0 ∧ ∃ nm : String, Cond.classLink own z.2.2.2 nm ∈ Ts ∧ nm ∈ zEx ∧ E ≠ nm) (hE : E ∈ zEx) (hx1 : x.1 ≤ pc) (hx2 : pc < x.2.1) (h0 : x.2.2.2 ≠ 0) (hlink : Cond.classLink own x.2.2.2 E ∈ Ts)
    (k : ∀ q : Nat, Z p l e R s m args below meth c nL A D Q cells slots ws lv x.2.2.1 [.ref q]) : ZX p l e R s m args below meth c nL A D Q cells slots ws lv pc st E := by
  intro H locs ls q ce hP hD hS hl hce hv hcl
  refine vx_catch (own := own) (name := E) C.1.2.2.2.1 (tableOf pre) ⟨x.1, x.2.1, x.2.2.1, x.2.2.2⟩ (tableOf suf) (by rw [hsplit]; unfold tableOf; rw [List.map_append]; rfl) (fun z hz => ?_) ?_ h0 (C.1.2.2.2.2 _ hlink) (va_Nw.use rfl (C.2.2.2.2.1.2.2.2.1 _ hE)) hce hv hcl (k q H locs ls hP hD hS hl)
  · obtain ⟨z0, hz0, rfl⟩ := List.mem_map.mp hz
    obtain ⟨g1, nm, g2, g3, g4⟩ := hpass z0 hz0
    exact Or.inr ⟨g1, nm, C.1.2.2.2.2 _ g2, C.2.2.2.2.1.2.2.2.2.1 _ hE _ g3 g4⟩
  · simp [covers, hx1, hx2]
theorem Z.i2l (C : Cx p s m args meth c nL A D cI cJ cL cc Ts own) {r : Int} (hd : decode cc pc = .ok (.i2l, 1)) (k : Z p l e R s m args below meth c nL A D Q cells slots ws lv (pc + 1) (.long (jL r) :: st)) : Z p l e R s m args below meth c nL A D Q cells slots ws lv pc (.int (iI r) :: st) := by
  intro H locs ls hP hD hS hl
  exact lv_i2l C.1.1 C.1.2.1 hd rfl (k H locs ls hP hD hS hl)
theorem Z.lcmpE (C : Cx p s m args meth c nL A D cI cJ cL cc Ts own) {v : Int64} (hd : decode cc pc = .ok (.lcmp, 1)) (k : Z p l e R s m args below meth c nL A D Q cells slots ws lv (pc + 1) (.int (iI 0) :: st)) : Z p l e R s m args below meth c nL A D Q cells slots ws lv pc (.long v :: .long v :: st) := by
  intro H locs ls hP hD hS hl
  refine W.lcmp C.1.1 C.1.2.1 hd ?_
  have e : lg_cmp v v = iI 0 := by simp [lg_cmp, iI]
  rw [e]
  exact k H locs ls hP hD hS hl
theorem Z.lastO (C : Cx p s m args meth c nL A D cI cJ cL cc Ts own) (q0 : Nat) {a : Nat} {v0 r : Int} (he : ws[q0]? = some (a, oE cL v0)) (hd : decode cc pc = .ok (.lastore, 1)) (k : Z p l e R s m args below meth c nL A D Q cells slots (ws.set q0 (a, oE cL r)) lv (pc + 1) st) : Z p l e R s m args below meth c nL A D Q cells slots ws lv pc (.long (jL r) :: .int (iI 0) :: .ref a :: st) := by
  intro H locs ls hP hD hS hl
  refine va_last (D := D) C.1.1 C.1.2.1 C.2.1 hP hD hS q0 2 he rfl (iI_in (by decide) (by decide) (by decide)) hd (fun H1 locs1 hP1 hD1 hS1 => ?_)
  refine Z.setE (ws := ws.set q0 (a, .inl (cL, 1, .inr (.inl (vp_updL (fun _ => jL v0) (iI 0).toNatClampNeg (jL r)))))) q0 (a := a) (en := .inl (cL, 1, .inr (.inl (vp_updL (fun _ => jL v0) (iI 0).toNatClampNeg (jL r))))) (en' := oE cL r) (List.getElem?_set_self (List.getElem?_eq_some_iff.mp he).1) (fun H9 h9 => ?_) (by rw [List.set_set]; exact k) H1 locs1 ls hP1 hD1 hS1 hl
  have e : vp_cell cL (1, .inr (.inl (vp_updL (fun _ => jL v0) (iI 0).toNatClampNeg (jL r)))) = vp_cell cL (1, .inr (.inl (fun _ => jL r))) := by
    rw [vp_cell_l, vp_cell_l]
    unfold arrV
    congr 1
  show H9[a]? = some (vp_cell _ _)
  rw [← e]
  exact h9
theorem Z.laldO (C : Cx p s m args meth c nL A D cI cJ cL cc Ts own) (q0 : Nat) {a : Nat} {v0 : Int} (he : ws[q0]? = some (a, oE cL v0)) (hd : decode cc pc = .ok (.laload, 1)) (k : Z p l e R s m args below meth c nL A D Q cells slots ws lv (pc + 1) (.long (jL v0) :: st)) : Z p l e R s m args below meth c nL A D Q cells slots ws lv pc (.int (iI 0) :: .ref a :: st) := by
  intro H locs ls hP hD hS hl
  exact va_lald (D := D) C.1.1 C.1.2.1 C.2.1 hP q0 2 he rfl (iI_in (by decide) (by decide) (by decide)) hd (k H locs ls hP hD hS hl)
end ZHW
/-- what a helper leaves: a number for what was caught, or 0 and the answer in the one long -/
def hpost (px : String → va_W → Prop) (post : Int → va_W → Prop) (L : List (String × Int)) (o : Nat) (cL : ClassId) (v0 : Int) : Int → va_W → Prop := fun r w' => (∃ (E : String) (u : va_W), px E u ∧ (E, r) ∈ L ∧ w' = (o, oE cL v0) :: u) ∨ (r = 0 ∧ ∃ (v : Int) (u : va_W), post v u ∧ w' = (o, oE cL v) :: u)
