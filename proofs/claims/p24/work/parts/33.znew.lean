/-! ===== making objects and arrays; the constructors' contracts ===== -/
theorem va_AOA.warm {t : FieldType} {s U : State} (hW : s.vm.Alike U.vm) (h : va_AOA t s) : va_AOA t U := Jvm.Stand.arrayOver_alikeB hW h
def PUa (D : va_G) (cI cJ cL : ClassId) (ws : va_W) (sz : Nat) (U : State) : Prop := PU D cI cJ cL ws sz U ∧ va_AOA .int U
theorem PUa.blind {D : va_G} {cI cJ cL : ClassId} {ws : va_W} {sz : Nat} {av : List Value} : FrameBlind (va_Pc av (PUa D cI cJ cL ws sz)) := by
  intro a U g mk h
  obtain ⟨q0, ⟨q1, q2, q3, q4, q5, q6⟩, q7⟩ := h
  exact ⟨q0, ⟨q1, q2, va_K.moved (u := U) (U := U.calling g mk a) (Vm.Alike.refl U.vm) q3, q4.calls, q5, zQ.moved (u := U) (U := U.calling g mk a) (Vm.Alike.refl U.vm) q6⟩, va_AOA.warm (s := U) (U := U.calling g mk a) (Vm.Alike.refl U.vm) q7⟩
def GV (l : Launch) (y : MethodName) (w : List Cond) (rm : Room) (av : List Value) (D : va_G) (cI cJ cL : ClassId) (ws : va_W) (mc ms : Nat) (post : va_W → Prop) : Prop :=
  ∀ sz : Nat, Met l y w rm (va_Pc av (PUa D cI cJ cL ws sz)) (va_Qv (fun (w' : va_W) => post w') (fun w' t => va_P D vwCl w' t.heap ∧ va_D (va_A ws sz) w') (va_A ws sz)) mc ms (va_A ws sz)
def QG (below : List Frame) (args : Array Value) (s : State) (D : va_G) (ws : va_W) (sz mc ms : Nat) (post : va_W → Prop) : State → Prop := MQ below (va_Qv (fun (w' : va_W) => post w') (fun w' t => va_P D vwCl w' t.heap ∧ va_D (va_A ws sz) w') (va_A ws sz)) args s mc ms (va_A ws sz)
section ZGM
variable {l : Launch} {y : MethodName} {w w' : List Cond} {rm : Room} {av : List Value} {D : va_G} {cI cJ cL : ClassId} {ws : va_W} {cc : ByteArray} {maxL mc ms : Nat} {own : String}
theorem GV.of {post : va_W → Prop} (lv0 : List Value) (k : Nat) (hy : plainName y.cls = true) (hw : w = Cond.code y cc maxL none :: w') (hown : y.cls = own) (hc1 : zc1 av = true) (hn : av.length ≤ maxL) (hlv : av ++ List.replicate k Value.null = lv0)
    (body : ∀ (sz : Nat) (p : Program) (e : Env) (s : State) (m : MethodId) (args : Array Value) (below : List Frame) (meth : Method) (c : Code), Cx p s m args meth c maxL (va_A ws sz) D cI cJ cL cc w own → meth.sig.returnType = none → meth.name = y.name → va_AOA .int s →
      Z p l e rm s m args below meth c maxL (va_A ws sz) D (QG below args s D ws sz mc ms post) 0 0 ws lv0 0 []) : GV l y w rm av D cI cJ cL ws mc ms post := by
  intro sz
  subst hlv
  refine Met.ofW (cc := cc) (maxL := maxL) (ret := none) hy hw ?_
  intro p e s m args below meth c s₁ B hml hv
  obtain ⟨rfl, ⟨hsz, hP, hK, hN, hD0, hQ⟩, hAO⟩ := hv
  have hts := atoms_spec (ws := w) B.pre
  have hf : s.vm.findClass own = some m.cls := hown ▸ findClass_of_methodNamed B.named
  have hA : ∀ q, s.heap.size ≤ q → va_A ws sz q := fun q h => Or.inr (hsz ▸ h)
  rw [lg_entry_eq]
  exact body sz p e s m av.toArray below meth c ⟨⟨B.exec, B.bytes, hml, hf, hts⟩, hK, hA, B.notSynchronized, hN, hQ⟩ B.returns (name_of_methodNamed B.named B.method).1 hAO s.heap [] _ hP hD0.self va_S.rf (lvl_start hc1 hn)
end ZGM
section ZGW
variable {p : Program} {l : Launch} {e : Env} {R : Room} {s : State} {m : MethodId} {args : Array Value} {below : List Frame} {meth : Method} {c : Code} {nL : Nat} {A : Nat → Prop} {D : va_G} {Q : State → Prop} {cells slots : Nat} {ws : va_W} {lv : List Value} {pc : Nat} {st : List Value} {cI cJ cL : ClassId} {cc : ByteArray} {Ts : List Cond} {own : String}
theorem Z.retG {sz mc ms : Nat} {ws0 : va_W} {post : va_W → Prop} (C : Cx p s m args meth c nL (va_A ws0 sz) D cI cJ cL cc Ts own) (hr : meth.sig.returnType = none) (hc : cells ≤ mc) (hs : slots ≤ ms) (hd : decode cc pc = .ok (.return_, 1)) (hp : post ws) : Z p l e R s m args below meth c nL (va_A ws0 sz) D (QG below args s D ws0 sz mc ms post) cells slots ws lv pc [] := by
  intro H locs ls hP hD hS hl
  refine W.widen hc hs ?_
  exact W.vret C.1.1 C.1.2.1 hr (fun t ht hW => ⟨⟨ws, rfl, hp, by rw [ht]; exact hP, hD⟩, hS.F ht⟩) hS.2.2 hd C.2.2.2.1
/-- another entry that says as much -/
theorem Z.setE (p0 : Nat) {a : Nat} {en en' : va_E} (he : ws[p0]? = some (a, en)) (hv : ∀ H : Heap, va_at D vwCl (a, en) H → va_at D vwCl (a, en') H) (k : Z p l e R s m args below meth c nL A D Q cells slots (ws.set p0 (a, en')) lv pc st) : Z p l e R s m args below meth c nL A D Q cells slots ws lv pc st := by
  intro H locs ls hP hD hS hl
  have hx : ∀ (j : Nat) (q : Nat × va_E), (ws.set p0 (a, en'))[j]? = some q → (j = p0 ∧ q = (a, en')) ∨ (j ≠ p0 ∧ ws[j]? = some q) := by
    intro j q hq
    by_cases h : j = p0
    · subst h
      rw [List.getElem?_set_self (List.getElem?_eq_some_iff.mp he).1] at hq
      exact Or.inl ⟨rfl, (Option.some.inj hq).symm⟩
    · rw [List.getElem?_set_ne (fun q => h q.symm)] at hq
      exact Or.inr ⟨h, hq⟩
  have hy : ∀ (j : Nat) (q : Nat × va_E), (ws.set p0 (a, en'))[j]? = some q → ∃ q0, ws[j]? = some q0 ∧ q0.1 = q.1 := by
    intro j q hq
    rcases hx j q hq with ⟨rfl, rfl⟩ | ⟨-, h⟩
    · exact ⟨_, he, rfl⟩
    · exact ⟨_, h, rfl⟩
  refine k H locs ls (fun j q hq => ?_) ⟨fun i j x z hi hj e9 => ?_, fun j q hq => ?_⟩ hS hl
  · rcases hx j q hq with ⟨rfl, rfl⟩ | ⟨-, h⟩
    · exact hv H (hP _ _ he)
    · exact hP j q h
  · obtain ⟨x0, hx0, ex⟩ := hy i x hi
    obtain ⟨z0, hz0, ez⟩ := hy j z hj
    exact hD.1 i j x0 z0 hx0 hz0 (by rw [ex, ez, e9])
  · obtain ⟨q0, h0, e0⟩ := hy j q hq
    rw [← e0]
    exact hD.2 j q0 h0
/-- the world in another order -/
theorem Z.re {ws' : va_W} (is : List Nat) (hn : va_nd is = true) (h1 : is.filterMap (fun i => ws[i]?) = ws') (h2 : is.map (fun i => ws[i]?) = ws'.map some) (k : Z p l e R s m args below meth c nL A D Q cells slots ws' lv pc st) : Z p l e R s m args below meth c nL A D Q cells slots ws lv pc st := by
  intro H locs ls hP hD hS hl
  exact k H locs ls (hP.sub is h1) (hD.sub is hn h2) hS hl
theorem aR_cong (cA : ClassId) (N : Nat) {f : Nat → Option Nat} {g : Nat → Nat} (h : ∀ j : Nat, j < N → f j = some (g j)) (a : Nat) (H : Heap) : va_at D vwCl (a, .inl (cA, N, .inr (.inr (.inr (.inr f))))) H → va_at D vwCl (a, aR cA N g) H := by
  intro q
  have e : vp_cell cA (N, .inr (.inr (.inr (.inr f)))) = vp_cell cA (N, .inr (.inr (.inr (.inr (fun j => some (g j)))))) := by
    rw [vp_cell_q, vp_cell_q]
    unfold arrV
    congr 1
    exact congrArg Array.ofFn (funext fun j => by show va_rf (f j.1) = va_rf (some (g j.1)); rw [h j.1 j.2])
  show H[a]? = some (vp_cell _ _)
  rw [← e]
  exact q
theorem Z.newc (C : Cx p s m args meth c nL A D cI cJ cL cc Ts own) {Cn : String} {T : u_T} {N ci i : Nat} {fs : List Value} (hin : ∀ w ∈ u_ws Cn T N, w ∈ Ts) (ty0 : Nat → FieldType) (hty : ∀ k, k < N → parseFieldDescriptor (T k).2.2.1 = some (ty0 k)) (hcl : Cond.classLink own i Cn ∈ Ts) (hinst : Cond.instantiable Cn N ∈ Ts) (hini : Cond.initialized Cn ∈ Ts) (hc : vwCl[ci]? = some (Cn, T, N)) (hfs : ∀ j, j < N → defaultValue (ty0 j) = vp_V fs j) (hcells : cells + 1 ≤ R.cells) (hslots : slots + N ≤ R.slots) (hd : decode cc pc = .ok (.new i, 3)) (k : ∀ q : Nat, Z p l e R s m args below meth c nL A D Q (cells + 1) (slots + N) (ws ++ [(q, .inr (ci, fs))]) lv (pc + 3) (.ref q :: st)) : Z p l e R s m args below meth c nL A D Q cells slots ws lv pc st := by
  intro H locs ls hP hD hS hl
  exact va_new (D := D) C.1.1 C.1.2.1 C.1.2.2.2.2 hin ty0 hty C.1.2.2.2.1 (C.1.2.2.2.2 _ hcl) (C.1.2.2.2.2 _ hinst) (C.1.2.2.2.2 _ hini) C.2.1 hP hD hS C.2.2.1 hc hfs hcells hslots hd (fun q H1 hP1 hD1 hS1 => k q H1 locs ls hP1 hD1 hS1 hl)
theorem Z.newa (C : Cx p s m args meth c nL A D cI cJ cL cc Ts own) (harr : Cond.arrayClass .int ∈ Ts) {n : Int} (N : Nat) (hN : n = N) (hb : N * 4 ≤ 536870912) (hcells : cells + 1 ≤ R.cells) (hslots : slots + N ≤ R.slots) (hd : decode cc pc = .ok (.newarray .int, 2)) (k : ∀ q : Nat, Z p l e R s m args below meth c nL A D Q (cells + 1) (slots + N) (ws ++ [(q, aI cI N (fun _ => 0))]) lv (pc + 2) (.ref q :: st)) : Z p l e R s m args below meth c nL A D Q cells slots ws lv pc (.int (iI n) :: st) := by
  intro H locs ls hP hD hS hl
  subst hN
  refine va_newa (D := D) (atype := .int) (ty := .int) (a0 := (N, .inl (fun _ => iI 0))) C.1.1 C.1.2.1 (C.1.2.2.2.2 _ harr) rfl C.2.1 hP hD hS C.2.2.1 (fun _ => rfl) ?_ (by rw [iI_clampN (by omega) (by omega)]; omega) hb hcells hslots hd (fun q cA H1 hK1 hP1 hD1 hS1 => ?_)
  · rw [show (0 : Int32) = iI 0 from rfl, iI_lt ⟨by omega, by omega⟩ ⟨by omega, by omega⟩]
    omega
  · have e1 : s.vm.findClass ("[" ++ FieldType.int.toString) = some cA := (hK1.2 3 (cA, .int) rfl).2
    have e2 : s.vm.findClass ("[" ++ FieldType.int.toString) = some cI := (C.2.1.2 0 (cI, .int) rfl).2
    cases e1.symm.trans e2
    exact k q H1 locs ls hP1 hD1 hS1 hl
theorem Z.mna (C : Cx p s m args meth c nL A D cI cJ cL cc Ts own) (hAO : va_AOA .int s) {i : Nat} (hcl : Cond.classLink own i "[[I" ∈ Ts) (harr : Cond.arrayClass .int ∈ Ts) {n k0 : Int} (N K : Nat) (hN : n = N) (hK0 : k0 = K) (hb1 : N * 4 ≤ 536870912) (hb2 : K * 4 ≤ 536870912) (hcells : cells + (1 + N) ≤ R.cells) (hslots : slots + (N + N * K) ≤ R.slots) (hd : decode cc pc = .ok (.multianewarray i 2, 4)) (k : ∀ (q : Nat) (r : Nat → Nat), Z p l e R s m args below meth c nL A D Q (cells + 1 + N) (slots + N + N * K) ((ws ++ [(q, aR cJ N r)]) ++ (List.range N).map (fun i => (r i, aI cI K (fun _ => 0)))) lv (pc + 4) (.ref q :: st)) : Z p l e R s m args below meth c nL A D Q cells slots ws lv pc (.int (iI k0) :: .int (iI n) :: st) := by
  intro H locs ls hP hD hS hl
  subst hN
  subst hK0
  have nn : ∀ M : Nat, M * 4 ≤ 536870912 → ¬ iI (M : Int) < 0 := fun M hM => by
    rw [show (0 : Int32) = iI 0 from rfl, iI_lt ⟨by omega, by omega⟩ ⟨by omega, by omega⟩]
    omega
  have e2 : s.vm.findClass ("[" ++ FieldType.int.toString) = some cI := (C.2.1.2 0 (cI, .int) rfl).2
  have e3 : s.vm.findClass ("[" ++ (FieldType.array .int).toString) = some cJ := (C.2.1.2 1 (cJ, .array .int) rfl).2
  refine va_mna (D := D) (L := []) (f := fun _ => aI cI 0 (fun _ => 0)) (X := ws) (ty := .int) (cy := cI) (z := (K, .inl (fun _ => iI 0))) C.1.1 C.1.2.1 C.1.2.2.2.1 (C.1.2.2.2.2 _ hcl) hAO (C.1.2.2.2.2 _ harr) e2 C.2.1 (by rw [show va_pl [] (fun _ => aI cI 0 (fun _ => 0)) = [] from rfl, List.append_nil]; exact hP) (by rw [show va_pl [] (fun _ => aI cI 0 (fun _ => 0)) = [] from rfl, List.append_nil]; exact hD) hS C.2.2.1 (nn N hb1) (nn K hb2) (by rw [iI_clampN (by omega) (by omega)]; omega) (by rw [iI_clampN (by omega) (by omega)]; omega) hb1 hb2 (by omega) rfl rfl hcells hslots ?_ hd (fun q r cA H1 hri hrl hK1 hP1 hD1 hS1 => ?_)
  · intro c9
    exact arrV_new c9 K (defaultValue .int)
  · have e1 : s.vm.findClass ("[" ++ (FieldType.array .int).toString) = some cA := (hK1.2 3 (cA, .array .int) rfl).2
    cases e1.symm.trans e3
    have er : va_pl ([] ++ (List.range N).map r) (vr_up (fun _ => aI cI 0 (fun _ => 0)) ((List.range N).map r) (.inl (cI, (K, .inl (fun _ => iI 0))))) = (List.range N).map (fun i => (r i, aI cI K (fun _ => 0))) := by
      unfold va_pl
      rw [List.nil_append, List.map_map]
      refine List.map_congr_left (fun i hi => ?_)
      show (r i, vr_up _ _ _ (r i)) = _
      rw [vr_up_in (List.mem_map.mpr ⟨i, hi, rfl⟩)]
      rfl
    rw [er] at hP1 hD1
    have hz : Z p l e R s m args below meth c nL A D Q (cells + 1 + N) (slots + N + N * K) ((ws ++ [(q, .inl (cJ, N, .inr (.inr (.inr (.inr (fun i => if i < N then some (r i) else none))))))]) ++ (List.range N).map (fun i => (r i, aI cI K (fun _ => 0)))) lv (pc + 4) (.ref q :: st) := by
      have hpl : ∀ en : va_E, ((ws ++ [(q, en)]) ++ (List.range N).map (fun i => (r i, aI cI K (fun _ => 0))))[ws.length]? = some (q, en) := fun en => by
        rw [List.append_assoc, List.getElem?_append_right (Nat.le_refl _), Nat.sub_self]
        rfl
      have hset : ∀ en en' : va_E, ((ws ++ [(q, en)]) ++ (List.range N).map (fun i => (r i, aI cI K (fun _ => 0)))).set ws.length (q, en') = (ws ++ [(q, en')]) ++ (List.range N).map (fun i => (r i, aI cI K (fun _ => 0))) := fun en en' => by
        rw [List.append_assoc, List.append_assoc, List.set_append_right _ _ (Nat.le_refl _), Nat.sub_self]
        rfl
      refine Z.setE ws.length (hpl _) (fun H9 => aR_cong cJ N (g := r) (fun j hj => if_pos hj) q H9) ?_
      rw [hset]
      exact k q r
    exact hz H1 locs ls hP1 hD1 hS1 hl
theorem Z.puA (C : Cx p s m args meth c nL A D cI cJ cL cc Ts own) (hAO : va_AOA .int s) {wr wc : va_W} {H : Heap} {locs : List Loc} (hP : va_P D vwCl (wr ++ wc) H) (hD : va_D A (wr ++ wc)) (hS : va_S A s.heap H locs) : ∀ U : State, U.heap = H → s.WarmedH U.vm → PUa D cI cJ cL wc H.size U := fun U hU hW => ⟨Z.pu C hP hD hS U hU hW, va_AOA.warm hW.alike hAO⟩
theorem Z.coreG (C : Cx p s m args meth c nL A D cI cJ cL cc Ts own) (hAO : va_AOA .int s) {wr wc : va_W} {post : va_W → Prop} {a : Array Value} {rest : List Value} {mc ms : Nat}
    (hr : ∀ (H : Heap) (locs : List Loc) (ls : Array Slot), va_P D vwCl (wr ++ wc) H → ls.size = nL → (∀ U : State, U.heap = H → s.WarmedH U.vm → PUa D cI cJ cL wc H.size U) → va_Run p l e R s m args below meth c H locs cells slots mc ms (F0 m pc ls st) rest (va_Qv (fun (w' : va_W) => post w') (fun w' t => va_P D vwCl w' t.heap ∧ va_D (va_A wc H.size) w') (va_A wc H.size) a) (va_A wc H.size))
    (k : ∀ (w' : va_W), post w' → Z p l e R s m args below meth c nL A D Q (cells + mc) (slots + ms) (wr ++ w') lv (pc + 3) rest) : Z p l e R s m args below meth c nL A D Q cells slots (wr ++ wc) lv pc st := by
  intro H locs ls hP hD hS hl
  have hF := zfree hD hS C.2.2.1
  refine va_callv (hr H locs ls hP hl.1 (Z.puA C hAO hP hD hS)) hS (fun q _ h => hF q h) hF (fun u t H1 locs1 ht hvm hw hB hz1 hk1 hS1 => ?_)
  obtain ⟨hP1, hD1⟩ := hB
  rw [ht] at hP1
  obtain ⟨hP2, hD2⟩ := zjoin hP hD hk1 hF hP1 hD1
  exact k u hw H1 locs1 ls hP2 hD2 hS1 hl
theorem Z.cIN (C : Cx p s m args meth c nL A D cI cJ cL cc Ts own) (hAO : va_AOA .int s) {rm : Room} {y : MethodName} {w w9 : List Cond} {bytes : ByteArray} {maxL i mc ms : Nat} {rest : List Value} {wr wc : va_W} {post : va_W → Prop} {b : Nat} {host : String} (hM : GV l y w rm [.ref b] D cI cJ cL wc mc ms post) (hT : GoodIn Ts w) (hnest : (own, i, y, host) ∈ zNM) (hini : Cond.initialized y.cls ∈ Ts) (hinst : Cond.instanceMethod y ∈ Ts) (hyn : y.name = "<init>") (hw : w = Cond.code y bytes maxL none :: w9) (hrc : rm.cells = mc) (hrs : rm.slots = ms) (hdy : y.cls ≠ "java/lang/invoke/MethodHandle" ∧ y.cls ≠ "java/lang/invoke/VarHandle" ∧ (parseMethodDescriptor y.desc).map (fun d => d.parameters.length) = some 0) (hR : rm.frames + 1 ≤ R.frames ∧ 8 + (maxL + 11) + rm.locals ≤ R.locals) (hcat : (rest.map fun v => v.category).sum ≤ 8) (hcr : cells + mc ≤ R.cells ∧ slots + ms ≤ R.slots) (hd : decode cc pc = .ok (.invokespecial i, 3)) (k : ∀ (w' : va_W), post w' → Z p l e R s m args below meth c nL A D Q (cells + mc) (slots + ms) (wr ++ w') lv (pc + 3) rest) : Z p l e R s m args below meth c nL A D Q cells slots (wr ++ wc) lv pc (.ref b :: rest) := by
  refine Z.coreG C hAO (a := (Value.ref b :: []).toArray) (fun H locs ls hP hsz hpu => ?_) k
  exact va_runIN C.1 (hM H.size) ⟨va_cnB 0 C.1.2.2.2.2 hT hw hrc hrs (C.2.2.2.2.1.1 _ hnest) (C.1.2.2.2.2 _ hini) hdy hR, hyn, C.1.2.2.2.2 _ hinst⟩ ⟨PUa.blind, fun U hU hW => ⟨rfl, hpu U hU hW⟩⟩ rfl rfl hsz rfl (lv_room hcat) hd hcr
theorem Z.cIP (C : Cx p s m args meth c nL A D cI cJ cL cc Ts own) (hAO : va_AOA .int s) {rm : Room} {y : MethodName} {w w9 : List Cond} {bytes : ByteArray} {maxL i mc ms : Nat} {rest : List Value} {wr wc : va_W} {post : va_W → Prop} {b : Nat} (hM : GV l y w rm [.ref b] D cI cJ cL wc mc ms post) (hT : GoodIn Ts w) (hlink : Cond.methodLink own i y ∈ Ts) (hini : Cond.initialized y.cls ∈ Ts) (hinst : Cond.instanceMethod y ∈ Ts) (hyn : y.name = "<init>") (hw : w = Cond.code y bytes maxL none :: w9) (hrc : rm.cells = mc) (hrs : rm.slots = ms) (hdy : y.cls ≠ "java/lang/invoke/MethodHandle" ∧ y.cls ≠ "java/lang/invoke/VarHandle" ∧ (parseMethodDescriptor y.desc).map (fun d => d.parameters.length) = some 0) (hR : rm.frames + 1 ≤ R.frames ∧ 8 + (maxL + 11) + rm.locals ≤ R.locals) (hcat : (rest.map fun v => v.category).sum ≤ 8) (hcr : cells + mc ≤ R.cells ∧ slots + ms ≤ R.slots) (hd : decode cc pc = .ok (.invokespecial i, 3)) (k : ∀ (w' : va_W), post w' → Z p l e R s m args below meth c nL A D Q (cells + mc) (slots + ms) (wr ++ w') lv (pc + 3) rest) : Z p l e R s m args below meth c nL A D Q cells slots (wr ++ wc) lv pc (.ref b :: rest) := by
  refine Z.coreG C hAO (a := (Value.ref b :: []).toArray) (fun H locs ls hP hsz hpu => ?_) k
  exact va_runI C.1 (hM H.size) (cwI 0 C.1.2.2.2.2 hT hw hrc hrs (C.1.2.2.2.2 _ hini) (C.1.2.2.2.2 _ hlink) (C.1.2.2.2.2 _ hinst) hyn hdy hR) ⟨PUa.blind, fun U hU hW => ⟨rfl, hpu U hU hW⟩⟩ rfl rfl hsz rfl (lv_room hcat) hd hcr
theorem Z.oinit (C : Cx p s m args meth c nL A D cI cJ cL cc Ts own) {i a : Nat} (hlink : Cond.methodLink own i Lib.objectInit ∈ Ts) (hinst : Cond.instanceMethod Lib.objectInit ∈ Ts) (hcode : Cond.code Lib.objectInit ⟨#[0xb1]⟩ 1 none ∈ Ts) (hf : 1 ≤ R.frames) (hlo : (st.map fun v => v.category).sum + 12 ≤ R.locals) (hd : decode cc pc = .ok (.invokespecial i, 3)) (k : Z p l e R s m args below meth c nL A D Q cells slots ws lv (pc + 3) st) : Z p l e R s m args below meth c nL A D Q cells slots ws lv pc (.ref a :: st) := by
  intro H locs ls hP hD hS hl
  refine W.objInit C.1.1 C.1.2.1 C.1.2.2.2.1 (C.1.2.2.2.2 _ hlink) (C.1.2.2.2.2 _ hinst) (C.1.2.2.2.2 _ hcode) rfl (hl.1.trans C.1.2.2.1.symm) rfl hd hf ?_ ?_
  · show 2 * 0 + _ + 12 ≤ _
    omega
  · exact W.eq (g2 := F0 m (pc + 3) ls st) rfl (k H locs ls hP hD hS hl)
end ZGW
