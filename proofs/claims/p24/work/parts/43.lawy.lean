/-! ===== the same rows, beside one long among the locals ===== -/
def lgA (ls : Array Slot) (jl : Nat × Int) : Prop := ls[jl.1]? = some (.val (.long (lI jl.2)))
def Y (p : Program) (l : Launch) (e : Env) (R : Room) (s : State) (m : MethodId) (args : Array Value) (below : List Frame) (meth : Method) (c : Code) (nL : Nat) (A : Nat → Prop) (D : va_G) (Q : State → Prop) (cells slots : Nat) (jl : Nat × Int) (ws : va_W) (lv : List Value) (pc : Nat) (st : List Value) : Prop :=
  ∀ (H : Heap) (locs : List Loc) (ls : Array Slot), va_P D vwCl ws H → va_D A ws → va_S A s.heap H locs → lvl ls nL lv → lgA ls jl → W p l e R s m args below meth c H locs cells slots Q (F0 m pc ls st)
theorem lvj_has {ls : Array Slot} {nL : Nat} {lv : List Value} {jl : Nat × Int} (h : lvl ls nL lv) (hj : lgA ls jl) : lv_has ls nL (lvE lv ++ [(jl.1, Value.long (lI jl.2))]) :=
  ⟨h.1, h.2.1, fun q hq => (List.mem_append.mp hq).elim (fun z => (lvl_has h).2.2 q z) (fun z => by rw [List.mem_singleton.mp z]; exact hj)⟩
theorem lvj_set {ls ls' : Array Slot} {nL : Nat} {lv : List Value} {jl : Nat × Int} {i : Nat} {x : Value} (h : lvl ls nL lv) (hx : x.category = 1) (h1 : i ≠ jl.1) (h2 : i ≠ jl.1 + 1)
    (h' : lv_has ls' nL ((i, x) :: (lvE lv ++ [(jl.1, Value.long (lI jl.2))]).filter (fun q => !(q.1 == i) && !(q.1 + 1 == i && q.2.category == 2)))) : lvl ls' nL (lv.set i x) ∧ lgA ls' jl := by
  rw [List.filter_append] at h'
  refine ⟨lvl_set h hx ⟨h'.1, h'.2.1, fun q hq => h'.2.2 q ?_⟩, h'.2.2 (jl.1, _) ?_⟩
  · rcases List.mem_cons.mp hq with rfl | hq
    · exact List.mem_cons_self
    · exact List.mem_cons_of_mem _ (List.mem_append_left _ hq)
  · refine List.mem_cons_of_mem _ (List.mem_append_right _ (List.mem_filter.mpr ⟨List.mem_singleton.mpr rfl, ?_⟩))
    have e1 : (jl.1 == i) = false := by simpa using fun q => h1 q.symm
    have e2 : (jl.1 + 1 == i) = false := by simpa using fun q => h2 q.symm
    simp [e1, e2]
section ZYR
variable {p : Program} {l : Launch} {e : Env} {R : Room} {s : State} {m : MethodId} {args : Array Value} {below : List Frame} {meth : Method} {c : Code} {nL : Nat} {A : Nat → Prop} {D : va_G} {Q : State → Prop} {cells slots : Nat} {ws : va_W} {lv : List Value} {pc : Nat} {st : List Value} {cI cJ cL : ClassId} {cc : ByteArray} {Ts : List Cond} {own : String} {jl : Nat × Int}
theorem Y.iconst (C : Cx p s m args meth c nL A D cI cJ cL cc Ts own) {n : Int} (hd : decode cc pc = .ok (.iconst n, 1)) (k : Y p l e R s m args below meth c nL A D Q cells slots jl ws lv (pc + 1) (.int (iI n) :: st)) : Y p l e R s m args below meth c nL A D Q cells slots jl ws lv pc st := by
  intro H locs ls hP hD hS hl hj
  exact lv_iconst (v := iI n) C.1.1 C.1.2.1 hd rfl (k H locs ls hP hD hS hl hj)
theorem Y.bipush (C : Cx p s m args meth c nL A D cI cJ cL cc Ts own) {n : Int} (hd : decode cc pc = .ok (.bipush n, 2)) (hv : (Int8.ofInt n).toInt32 = iI n) (k : Y p l e R s m args below meth c nL A D Q cells slots jl ws lv (pc + 2) (.int (iI n) :: st)) : Y p l e R s m args below meth c nL A D Q cells slots jl ws lv pc st := by
  intro H locs ls hP hD hS hl hj
  exact lv_bipush (v := iI n) C.1.1 C.1.2.1 hd hv (k H locs ls hP hD hS hl hj)
theorem Y.sipush (C : Cx p s m args meth c nL A D cI cJ cL cc Ts own) {n : Int} (hd : decode cc pc = .ok (.sipush n, 3)) (hv : (Int16.ofInt n).toInt32 = iI n) (k : Y p l e R s m args below meth c nL A D Q cells slots jl ws lv (pc + 3) (.int (iI n) :: st)) : Y p l e R s m args below meth c nL A D Q cells slots jl ws lv pc st := by
  intro H locs ls hP hD hS hl hj
  exact lv_sipush (v := iI n) C.1.1 C.1.2.1 hd hv (k H locs ls hP hD hS hl hj)
theorem Y.ldc (C : Cx p s m args meth c nL A D cI cJ cL cc Ts own) {i : Nat} {v : Int32} (n : Int) (hc : Cond.constant own i v ∈ Ts) (hv : v = iI n) (hd : decode cc pc = .ok (.ldc i, 2)) (k : Y p l e R s m args below meth c nL A D Q cells slots jl ws lv (pc + 2) (.int (iI n) :: st)) : Y p l e R s m args below meth c nL A D Q cells slots jl ws lv pc st := by
  intro H locs ls hP hD hS hl hj
  subst hv
  exact lv_ldc C.1.1 C.1.2.1 C.1.2.2.2.1 (C.1.2.2.2.2 _ hc) hd (k H locs ls hP hD hS hl hj)
theorem Y.iload_n (C : Cx p s m args meth c nL A D cI cJ cL cc Ts own) {k0 : Fin 4} {x : Int32} (hd : decode cc pc = .ok (.iload_n k0, 1)) (hx : lv[(k0 : Nat)]? = some (.int x)) (k : Y p l e R s m args below meth c nL A D Q cells slots jl ws lv (pc + 1) (.int x :: st)) : Y p l e R s m args below meth c nL A D Q cells slots jl ws lv pc st := by
  intro H locs ls hP hD hS hl hj
  exact lv_iload_n C.1.1 C.1.2.1 hd rfl (lvl_at hl hx (by intro h; cases h)) (k H locs ls hP hD hS hl hj)
theorem Y.iload (C : Cx p s m args meth c nL A D cI cJ cL cc Ts own) {i : Nat} {x : Int32} (hd : decode cc pc = .ok (.iload i, 2)) (hx : lv[i]? = some (.int x)) (k : Y p l e R s m args below meth c nL A D Q cells slots jl ws lv (pc + 2) (.int x :: st)) : Y p l e R s m args below meth c nL A D Q cells slots jl ws lv pc st := by
  intro H locs ls hP hD hS hl hj
  exact lv_iload C.1.1 C.1.2.1 hd (lvl_at hl hx (by intro h; cases h)) (k H locs ls hP hD hS hl hj)
theorem Y.aload_n (C : Cx p s m args meth c nL A D cI cJ cL cc Ts own) {k0 : Fin 4} {x : Nat} (hd : decode cc pc = .ok (.aload_n k0, 1)) (hx : lv[(k0 : Nat)]? = some (.ref x)) (k : Y p l e R s m args below meth c nL A D Q cells slots jl ws lv (pc + 1) (.ref x :: st)) : Y p l e R s m args below meth c nL A D Q cells slots jl ws lv pc st := by
  intro H locs ls hP hD hS hl hj
  exact lv_aload_n C.1.1 C.1.2.1 hd rfl (lvl_at hl hx (by intro h; cases h)) (k H locs ls hP hD hS hl hj)
theorem Y.aload (C : Cx p s m args meth c nL A D cI cJ cL cc Ts own) {i : Nat} {x : Nat} (hd : decode cc pc = .ok (.aload i, 2)) (hx : lv[i]? = some (.ref x)) (k : Y p l e R s m args below meth c nL A D Q cells slots jl ws lv (pc + 2) (.ref x :: st)) : Y p l e R s m args below meth c nL A D Q cells slots jl ws lv pc st := by
  intro H locs ls hP hD hS hl hj
  exact lv_aload C.1.1 C.1.2.1 hd (lvl_at hl hx (by intro h; cases h)) (k H locs ls hP hD hS hl hj)
theorem Y.iadd (C : Cx p s m args meth c nL A D cI cJ cL cc Ts own) {a b : Int} (hd : decode cc pc = .ok (.iadd, 1)) (k : Y p l e R s m args below meth c nL A D Q cells slots jl ws lv (pc + 1) (.int (iI (a + b)) :: st)) : Y p l e R s m args below meth c nL A D Q cells slots jl ws lv pc (.int (iI b) :: .int (iI a) :: st) := by
  intro H locs ls hP hD hS hl hj
  refine lv_iadd C.1.1 C.1.2.1 hd ?_
  rw [iI_add]
  exact k H locs ls hP hD hS hl hj
theorem Y.isub (C : Cx p s m args meth c nL A D cI cJ cL cc Ts own) {a b : Int} (hd : decode cc pc = .ok (.isub, 1)) (k : Y p l e R s m args below meth c nL A D Q cells slots jl ws lv (pc + 1) (.int (iI (a - b)) :: st)) : Y p l e R s m args below meth c nL A D Q cells slots jl ws lv pc (.int (iI b) :: .int (iI a) :: st) := by
  intro H locs ls hP hD hS hl hj
  refine lv_isub C.1.1 C.1.2.1 hd ?_
  rw [iI_sub]
  exact k H locs ls hP hD hS hl hj
theorem Y.imul (C : Cx p s m args meth c nL A D cI cJ cL cc Ts own) {a b : Int} (hd : decode cc pc = .ok (.imul, 1)) (k : Y p l e R s m args below meth c nL A D Q cells slots jl ws lv (pc + 1) (.int (iI (a * b)) :: st)) : Y p l e R s m args below meth c nL A D Q cells slots jl ws lv pc (.int (iI b) :: .int (iI a) :: st) := by
  intro H locs ls hP hD hS hl hj
  refine lv_imul C.1.1 C.1.2.1 hd ?_
  rw [iI_mul]
  exact k H locs ls hP hD hS hl hj
theorem Y.goto (C : Cx p s m args meth c nL A D cI cJ cL cc Ts own) {off : Int} (tgt : Nat) (hd : decode cc pc = .ok (.goto off, 3)) (ht : (pc : Int) + off = (tgt : Int)) (k : Y p l e R s m args below meth c nL A D Q cells slots jl ws lv tgt st) : Y p l e R s m args below meth c nL A D Q cells slots jl ws lv pc st := by
  intro H locs ls hP hD hS hl hj
  exact lv_goto C.1.1 C.1.2.1 hd ht (k H locs ls hP hD hS hl hj)
theorem Y.dup2 (C : Cx p s m args meth c nL A D cI cJ cL cc Ts own) {v u : Value} (hd : decode cc pc = .ok (.dup2, 1)) (hv : v.category = 1) (hu : u.category = 1) (k : Y p l e R s m args below meth c nL A D Q cells slots jl ws lv (pc + 1) (v :: u :: v :: u :: st)) : Y p l e R s m args below meth c nL A D Q cells slots jl ws lv pc (v :: u :: st) := by
  intro H locs ls hP hD hS hl hj
  exact lv_dup2_11 C.1.1 C.1.2.1 hd hv hu (k H locs ls hP hD hS hl hj)
theorem Y.icmpgt (C : Cx p s m args meth c nL A D cI cJ cL cc Ts own) {off : Int} {a b : Int} (tgt : Nat) (hd : decode cc pc = .ok (.if_icmp .gt off, 3)) (ht : (pc : Int) + off = (tgt : Int)) (ha : inr a) (hb : inr b) (kt : b < a → Y p l e R s m args below meth c nL A D Q cells slots jl ws lv tgt st) (kf : a ≤ b → Y p l e R s m args below meth c nL A D Q cells slots jl ws lv (pc + 3) st) : Y p l e R s m args below meth c nL A D Q cells slots jl ws lv pc (.int (iI b) :: .int (iI a) :: st) := by
  intro H locs ls hP hD hS hl hj
  exact lv_icmp_gt C.1.1 C.1.2.1 hd ht (fun h => kt ((iI_lt hb ha).mp h) H locs ls hP hD hS hl hj) (fun h => kf (Int.not_lt.mp (fun z => h ((iI_lt hb ha).mpr (by omega)))) H locs ls hP hD hS hl hj)
theorem Y.icmpne (C : Cx p s m args meth c nL A D cI cJ cL cc Ts own) {off : Int} {a b : Int} (tgt : Nat) (hd : decode cc pc = .ok (.if_icmp .ne off, 3)) (ht : (pc : Int) + off = (tgt : Int)) (ha : inr a) (hb : inr b) (kt : a ≠ b → Y p l e R s m args below meth c nL A D Q cells slots jl ws lv tgt st) (kf : a = b → Y p l e R s m args below meth c nL A D Q cells slots jl ws lv (pc + 3) st) : Y p l e R s m args below meth c nL A D Q cells slots jl ws lv pc (.int (iI b) :: .int (iI a) :: st) := by
  intro H locs ls hP hD hS hl hj
  exact lv_icmp_ne C.1.1 C.1.2.1 hd ht (fun h => kt (fun q => h ((iI_eq ha hb).mpr q)) H locs ls hP hD hS hl hj) (fun h => kf ((iI_eq ha hb).mp h) H locs ls hP hD hS hl hj)
theorem Y.icmpge (C : Cx p s m args meth c nL A D cI cJ cL cc Ts own) {off : Int} {a b : Int} (tgt : Nat) (hd : decode cc pc = .ok (.if_icmp .ge off, 3)) (ht : (pc : Int) + off = (tgt : Int)) (ha : inr a) (hb : inr b) (kt : b ≤ a → Y p l e R s m args below meth c nL A D Q cells slots jl ws lv tgt st) (kf : a < b → Y p l e R s m args below meth c nL A D Q cells slots jl ws lv (pc + 3) st) : Y p l e R s m args below meth c nL A D Q cells slots jl ws lv pc (.int (iI b) :: .int (iI a) :: st) := by
  intro H locs ls hP hD hS hl hj
  exact lv_icmp_ge C.1.1 C.1.2.1 hd ht (fun h => kt ((iI_le hb ha).mp h) H locs ls hP hD hS hl hj) (fun h => kf (Int.not_lt.mp (fun z => h ((iI_le hb ha).mpr (by omega)))) H locs ls hP hD hS hl hj)
theorem Y.icmplt (C : Cx p s m args meth c nL A D cI cJ cL cc Ts own) {off : Int} {a b : Int} (tgt : Nat) (hd : decode cc pc = .ok (.if_icmp .lt off, 3)) (ht : (pc : Int) + off = (tgt : Int)) (ha : inr a) (hb : inr b) (kt : a < b → Y p l e R s m args below meth c nL A D Q cells slots jl ws lv tgt st) (kf : b ≤ a → Y p l e R s m args below meth c nL A D Q cells slots jl ws lv (pc + 3) st) : Y p l e R s m args below meth c nL A D Q cells slots jl ws lv pc (.int (iI b) :: .int (iI a) :: st) := by
  intro H locs ls hP hD hS hl hj
  exact lv_icmp_lt C.1.1 C.1.2.1 hd ht (fun h => kt ((iI_lt ha hb).mp h) H locs ls hP hD hS hl hj) (fun h => kf (Int.not_lt.mp (fun z => h ((iI_lt ha hb).mpr (by omega)))) H locs ls hP hD hS hl hj)
theorem Y.iflt (C : Cx p s m args meth c nL A D cI cJ cL cc Ts own) {off : Int} {a : Int} (tgt : Nat) (hd : decode cc pc = .ok (.ifCond .lt off, 3)) (ht : (pc : Int) + off = (tgt : Int)) (ha : inr a) (kt : a < 0 → Y p l e R s m args below meth c nL A D Q cells slots jl ws lv tgt st) (kf : 0 ≤ a → Y p l e R s m args below meth c nL A D Q cells slots jl ws lv (pc + 3) st) : Y p l e R s m args below meth c nL A D Q cells slots jl ws lv pc (.int (iI a) :: st) := by
  intro H locs ls hP hD hS hl hj
  have z0 : inr 0 := ⟨by decide, by decide⟩
  refine lv_if_lt C.1.1 C.1.2.1 hd ht ?_ ?_
  · rw [← iI_0]
    exact (fun h => kt ((iI_lt ha z0).mp h) H locs ls hP hD hS hl hj)
  · rw [← iI_0]
    exact (fun h => kf (Int.not_lt.mp (fun z => h ((iI_lt ha z0).mpr (by omega)))) H locs ls hP hD hS hl hj)
theorem Y.ifge (C : Cx p s m args meth c nL A D cI cJ cL cc Ts own) {off : Int} {a : Int} (tgt : Nat) (hd : decode cc pc = .ok (.ifCond .ge off, 3)) (ht : (pc : Int) + off = (tgt : Int)) (ha : inr a) (kt : 0 ≤ a → Y p l e R s m args below meth c nL A D Q cells slots jl ws lv tgt st) (kf : a < 0 → Y p l e R s m args below meth c nL A D Q cells slots jl ws lv (pc + 3) st) : Y p l e R s m args below meth c nL A D Q cells slots jl ws lv pc (.int (iI a) :: st) := by
  intro H locs ls hP hD hS hl hj
  have z0 : inr 0 := ⟨by decide, by decide⟩
  refine lv_if_ge C.1.1 C.1.2.1 hd ht ?_ ?_
  · rw [← iI_0]
    exact (fun h => kt ((iI_le z0 ha).mp h) H locs ls hP hD hS hl hj)
  · rw [← iI_0]
    exact (fun h => kf (Int.not_lt.mp (fun z => h ((iI_le z0 ha).mpr (by omega)))) H locs ls hP hD hS hl hj)
theorem Y.ifne (C : Cx p s m args meth c nL A D cI cJ cL cc Ts own) {off : Int} {a : Int} (tgt : Nat) (hd : decode cc pc = .ok (.ifCond .ne off, 3)) (ht : (pc : Int) + off = (tgt : Int)) (ha : inr a) (kt : a ≠ 0 → Y p l e R s m args below meth c nL A D Q cells slots jl ws lv tgt st) (kf : a = 0 → Y p l e R s m args below meth c nL A D Q cells slots jl ws lv (pc + 3) st) : Y p l e R s m args below meth c nL A D Q cells slots jl ws lv pc (.int (iI a) :: st) := by
  intro H locs ls hP hD hS hl hj
  have z0 : inr 0 := ⟨by decide, by decide⟩
  refine lv_if_ne C.1.1 C.1.2.1 hd ht ?_ ?_
  · rw [← iI_0]
    exact (fun h => kt (fun q => h ((iI_eq ha z0).mpr q)) H locs ls hP hD hS hl hj)
  · rw [← iI_0]
    exact (fun h => kf ((iI_eq ha z0).mp h) H locs ls hP hD hS hl hj)
theorem Y.ifeq (C : Cx p s m args meth c nL A D cI cJ cL cc Ts own) {off : Int} {a : Int} (tgt : Nat) (hd : decode cc pc = .ok (.ifCond .eq off, 3)) (ht : (pc : Int) + off = (tgt : Int)) (ha : inr a) (kt : a = 0 → Y p l e R s m args below meth c nL A D Q cells slots jl ws lv tgt st) (kf : a ≠ 0 → Y p l e R s m args below meth c nL A D Q cells slots jl ws lv (pc + 3) st) : Y p l e R s m args below meth c nL A D Q cells slots jl ws lv pc (.int (iI a) :: st) := by
  intro H locs ls hP hD hS hl hj
  have z0 : inr 0 := ⟨by decide, by decide⟩
  refine lv_if_eq C.1.1 C.1.2.1 hd ht ?_ ?_
  · rw [← iI_0]
    exact (fun h => kt ((iI_eq ha z0).mp h) H locs ls hP hD hS hl hj)
  · rw [← iI_0]
    exact (fun h => kf (fun q => h ((iI_eq ha z0).mpr q)) H locs ls hP hD hS hl hj)
theorem Y.idiv (C : Cx p s m args meth c nL A D cI cJ cL cc Ts own) {a b : Int} (hd : decode cc pc = .ok (.idiv, 1)) (ha : 0 ≤ a) (ha2 : a ≤ 2147483647) (hb : 0 < b) (hb2 : b ≤ 2147483647) (k : Y p l e R s m args below meth c nL A D Q cells slots jl ws lv (pc + 1) (.int (iI (a / b)) :: st)) : Y p l e R s m args below meth c nL A D Q cells slots jl ws lv pc (.int (iI b) :: .int (iI a) :: st) := by
  intro H locs ls hP hD hS hl hj
  refine lv_idiv C.1.1 C.1.2.1 hd (fun h => ?_) ?_
  · rw [← iI_0, iI_eq ⟨by omega, by omega⟩ ⟨by omega, by omega⟩] at h
    omega
  · rw [iI_div ha ha2 hb hb2]
    exact k H locs ls hP hD hS hl hj
theorem Y.irem (C : Cx p s m args meth c nL A D cI cJ cL cc Ts own) {a b : Int} (hd : decode cc pc = .ok (.irem, 1)) (ha : 0 ≤ a) (ha2 : a ≤ 2147483647) (hb : 0 < b) (hb2 : b ≤ 2147483647) (k : Y p l e R s m args below meth c nL A D Q cells slots jl ws lv (pc + 1) (.int (iI (a % b)) :: st)) : Y p l e R s m args below meth c nL A D Q cells slots jl ws lv pc (.int (iI b) :: .int (iI a) :: st) := by
  intro H locs ls hP hD hS hl hj
  refine lv_irem C.1.1 C.1.2.1 hd (fun h => ?_) ?_
  · rw [← iI_0, iI_eq ⟨by omega, by omega⟩ ⟨by omega, by omega⟩] at h
    omega
  · rw [iI_div ha ha2 hb hb2, iI_mul, iI_sub, show a - a / b * b = a % b from by rw [Int.emod_def, Int.mul_comm]]
    exact k H locs ls hP hD hS hl hj
theorem Y.iald (C : Cx p s m args meth c nL A D cI cJ cL cc Ts own) (q0 : Nat) {a n : Nat} {f : Int → Int} {i : Int} (he : ws[q0]? = some (a, aI cI n f)) (h0 : 0 ≤ i) (h1 : i < n) (hn : n ≤ 2147483647) (hd : decode cc pc = .ok (.iaload, 1)) (k : Y p l e R s m args below meth c nL A D Q cells slots jl ws lv (pc + 1) (.int (iI (f i)) :: st)) : Y p l e R s m args below meth c nL A D Q cells slots jl ws lv pc (.int (iI i) :: .ref a :: st) := by
  intro H locs ls hP hD hS hl hj
  refine va_iald (D := D) C.1.1 C.1.2.1 C.2.1 hP q0 0 he rfl (iI_in h0 h1 hn) hd ?_
  rw [iI_clamp h0 (by omega)]
  exact k H locs ls hP hD hS hl hj
theorem Y.iast (C : Cx p s m args meth c nL A D cI cJ cL cc Ts own) (q0 : Nat) {a n : Nat} {f : Int → Int} {i x : Int} {ws' : va_W} (he : ws[q0]? = some (a, aI cI n f)) (h0 : 0 ≤ i) (h1 : i < n) (hn : n ≤ 2147483647) (hd : decode cc pc = .ok (.iastore, 1)) (hws : ws.set q0 (a, aI cI n (zset f i x)) = ws') (k : Y p l e R s m args below meth c nL A D Q cells slots jl (ws') lv (pc + 1) st) : Y p l e R s m args below meth c nL A D Q cells slots jl ws lv pc (.int (iI x) :: .int (iI i) :: .ref a :: st) := by
  intro H locs ls hP hD hS hl hj
  subst hws
  refine va_iast (D := D) C.1.1 C.1.2.1 C.2.1 hP hD hS q0 0 he rfl (iI_in h0 h1 hn) hd (fun H1 locs1 hP1 hD1 hS1 => ?_)
  rw [aI_upd cI n f h0 (by omega)] at hP1 hD1
  exact k H1 locs1 ls hP1 hD1 hS1 hl hj
theorem Y.ladd (C : Cx p s m args meth c nL A D cI cJ cL cc Ts own) {a b : Int} (hd : decode cc pc = .ok (.ladd, 1)) (k : Y p l e R s m args below meth c nL A D Q cells slots jl ws lv (pc + 1) (.long (lI (a + b)) :: st)) : Y p l e R s m args below meth c nL A D Q cells slots jl ws lv pc (.long (lI b) :: .long (lI a) :: st) := by
  intro H locs ls hP hD hS hl hj
  refine lv_ladd C.1.1 C.1.2.1 hd ?_
  rw [lI_add]
  exact k H locs ls hP hD hS hl hj
theorem Y.lmul (C : Cx p s m args meth c nL A D cI cJ cL cc Ts own) {a b : Int} (hd : decode cc pc = .ok (.lmul, 1)) (k : Y p l e R s m args below meth c nL A D Q cells slots jl ws lv (pc + 1) (.long (lI (a * b)) :: st)) : Y p l e R s m args below meth c nL A D Q cells slots jl ws lv pc (.long (lI b) :: .long (lI a) :: st) := by
  intro H locs ls hP hD hS hl hj
  refine lv_lmul C.1.1 C.1.2.1 hd ?_
  rw [lI_mul]
  exact k H locs ls hP hD hS hl hj
theorem Y.ldiv (C : Cx p s m args meth c nL A D cI cJ cL cc Ts own) {a b : Int} (ha : 0 ≤ a) (ha2 : a ≤ 2147483647) (hb : 0 < b) (hb2 : b ≤ 2147483647) (hd : decode cc pc = .ok (.ldiv, 1)) (k : Y p l e R s m args below meth c nL A D Q cells slots jl ws lv (pc + 1) (.long (lI (a / b)) :: st)) : Y p l e R s m args below meth c nL A D Q cells slots jl ws lv pc (.long (lI b) :: .long (lI a) :: st) := by
  intro H locs ls hP hD hS hl hj
  refine lv_ldiv C.1.1 C.1.2.1 hd (lI_ne0 hb hb2) ?_
  rw [lI_div ha ha2 hb hb2]
  exact k H locs ls hP hD hS hl hj
theorem Y.lrem (C : Cx p s m args meth c nL A D cI cJ cL cc Ts own) {a b : Int} (ha : 0 ≤ a) (ha2 : a ≤ 2147483647) (hb : 0 < b) (hb2 : b ≤ 2147483647) (hd : decode cc pc = .ok (.lrem, 1)) (k : Y p l e R s m args below meth c nL A D Q cells slots jl ws lv (pc + 1) (.long (lI (a % b)) :: st)) : Y p l e R s m args below meth c nL A D Q cells slots jl ws lv pc (.long (lI b) :: .long (lI a) :: st) := by
  intro H locs ls hP hD hS hl hj
  refine lv_lrem C.1.1 C.1.2.1 hd (lI_ne0 hb hb2) ?_
  rw [lI_div ha ha2 hb hb2, lI_mul, lI_sub, show a - a / b * b = a % b by rw [Int.emod_def, Int.mul_comm b (a / b)]]
  exact k H locs ls hP hD hS hl hj
theorem Y.ldc2 (C : Cx p s m args meth c nL A D cI cJ cL cc Ts own) {i : Nat} {v : Int64} (n : Int) (hc : Cond.constantLong own i v ∈ Ts) (hv : v = lI n) (hd : decode cc pc = .ok (.ldc2_w i, 3)) (k : Y p l e R s m args below meth c nL A D Q cells slots jl ws lv (pc + 3) (.long (lI n) :: st)) : Y p l e R s m args below meth c nL A D Q cells slots jl ws lv pc st := by
  intro H locs ls hP hD hS hl hj
  subst hv
  exact lv_ldc2 C.1.1 C.1.2.1 C.1.2.2.2.1 (C.1.2.2.2.2 _ hc) hd (k H locs ls hP hD hS hl hj)
theorem Y.i2l (C : Cx p s m args meth c nL A D cI cJ cL cc Ts own) {r : Int} (h : inr r) (hd : decode cc pc = .ok (.i2l, 1)) (k : Y p l e R s m args below meth c nL A D Q cells slots jl ws lv (pc + 1) (.long (lI r) :: st)) : Y p l e R s m args below meth c nL A D Q cells slots jl ws lv pc (.int (iI r) :: st) := by
  intro H locs ls hP hD hS hl hj
  exact lv_i2l C.1.1 C.1.2.1 hd (lI_of r h) (k H locs ls hP hD hS hl hj)
theorem Y.l2i (C : Cx p s m args meth c nL A D cI cJ cL cc Ts own) {r : Int} (h : inr r) (hd : decode cc pc = .ok (.l2i, 1)) (k : Y p l e R s m args below meth c nL A D Q cells slots jl ws lv (pc + 1) (.int (iI r) :: st)) : Y p l e R s m args below meth c nL A D Q cells slots jl ws lv pc (.long (lI r) :: st) := by
  intro H locs ls hP hD hS hl hj
  exact lv_l2i C.1.1 C.1.2.1 hd (lI_l2i h) (k H locs ls hP hD hS hl hj)
theorem Y.lald (C : Cx p s m args meth c nL A D cI cJ cL cc Ts own) (q0 : Nat) {a n : Nat} {f : Int → Int} {i : Int} (he : ws[q0]? = some (a, aL cL n f)) (h0 : 0 ≤ i) (h1 : i < n) (hn : n ≤ 2147483647) (hd : decode cc pc = .ok (.laload, 1)) (k : Y p l e R s m args below meth c nL A D Q cells slots jl ws lv (pc + 1) (.long (lI (f i)) :: st)) : Y p l e R s m args below meth c nL A D Q cells slots jl ws lv pc (.int (iI i) :: .ref a :: st) := by
  intro H locs ls hP hD hS hl hj
  refine va_lald (D := D) C.1.1 C.1.2.1 C.2.1 hP q0 2 he rfl (iI_in h0 h1 hn) hd ?_
  rw [iI_clamp h0 (by omega)]
  exact k H locs ls hP hD hS hl hj
theorem Y.last (C : Cx p s m args meth c nL A D cI cJ cL cc Ts own) (q0 : Nat) {a n : Nat} {f : Int → Int} {i x : Int} {ws' : va_W} (he : ws[q0]? = some (a, aL cL n f)) (h0 : 0 ≤ i) (h1 : i < n) (hn : n ≤ 2147483647) (hd : decode cc pc = .ok (.lastore, 1)) (hws : ws.set q0 (a, aL cL n (zset f i x)) = ws') (k : Y p l e R s m args below meth c nL A D Q cells slots jl (ws') lv (pc + 1) st) : Y p l e R s m args below meth c nL A D Q cells slots jl ws lv pc (.long (lI x) :: .int (iI i) :: .ref a :: st) := by
  intro H locs ls hP hD hS hl hj
  subst hws
  refine va_last (D := D) C.1.1 C.1.2.1 C.2.1 hP hD hS q0 2 he rfl (iI_in h0 h1 hn) hd (fun H1 locs1 hP1 hD1 hS1 => ?_)
  rw [aL_upd cL n f h0 (by omega)] at hP1 hD1
  exact k H1 locs1 ls hP1 hD1 hS1 hl hj
theorem Y.lcmp (C : Cx p s m args meth c nL A D cI cJ cL cc Ts own) {a b : Int} (ha : inr a) (hb : inr b) (hd : decode cc pc = .ok (.lcmp, 1)) (k : Y p l e R s m args below meth c nL A D Q cells slots jl ws lv (pc + 1) (.int (iI (cmpZ a b)) :: st)) : Y p l e R s m args below meth c nL A D Q cells slots jl ws lv pc (.long (lI b) :: .long (lI a) :: st) := by
  intro H locs ls hP hD hS hl hj
  refine W.lcmp C.1.1 C.1.2.1 hd ?_
  rw [lI_cmp ha hb]
  exact k H locs ls hP hD hS hl hj
theorem Y.toZ (k : Z p l e R s m args below meth c nL A D Q cells slots ws lv pc st) : Y p l e R s m args below meth c nL A D Q cells slots jl ws lv pc st := fun H locs ls hP hD hS hl _ => k H locs ls hP hD hS hl
theorem Y.istore (C : Cx p s m args meth c nL A D cI cJ cL cc Ts own) {i : Nat} {x : Int32} (hd : decode cc pc = .ok (.istore i, 2)) (hn : i < nL) (hne : (decide (i ≠ jl.1) && decide (i ≠ jl.1 + 1)) = true) (k : Y p l e R s m args below meth c nL A D Q cells slots jl ws (lv.set i (.int x)) (pc + 2) st) : Y p l e R s m args below meth c nL A D Q cells slots jl ws lv pc (.int x :: st) := by
  intro H locs ls hP hD hS hl hj
  have h1 := (Bool.and_eq_true _ _ ▸ hne : decide (i ≠ jl.1) = true ∧ decide (i ≠ jl.1 + 1) = true)
  exact lv_istore C.1.1 C.1.2.1 hd (lvj_has hl hj) hn rfl (fun ls' h' => k H locs ls' hP hD hS (lvj_set hl rfl (of_decide_eq_true h1.1) (of_decide_eq_true h1.2) h').1 (lvj_set hl rfl (of_decide_eq_true h1.1) (of_decide_eq_true h1.2) h').2)
theorem Y.iinc (C : Cx p s m args meth c nL A D cI cJ cL cc Ts own) {i : Nat} {n a : Int} (hd : decode cc pc = .ok (.iinc i n, 3)) (hx : lv[i]? = some (.int (iI a))) (hn : i < nL) (hne : (decide (i ≠ jl.1) && decide (i ≠ jl.1 + 1)) = true) (k : Y p l e R s m args below meth c nL A D Q cells slots jl ws (lv.set i (.int (iI (a + n)))) (pc + 3) st) : Y p l e R s m args below meth c nL A D Q cells slots jl ws lv pc st := by
  intro H locs ls hP hD hS hl hj
  have h1 := (Bool.and_eq_true _ _ ▸ hne : decide (i ≠ jl.1) = true ∧ decide (i ≠ jl.1 + 1) = true)
  obtain ⟨k0, hk0⟩ := List.getElem?_of_mem (List.mem_append_left [(jl.1, Value.long (lI jl.2))] (lvE_mem.mpr ⟨hx, by intro h; cases h⟩))
  exact lv_iinc (v := iI (a + n)) C.1.1 C.1.2.1 hd (lvj_has hl hj) hk0 (iI_add a n) hn rfl (fun ls' h' => k H locs ls' hP hD hS (lvj_set hl rfl (of_decide_eq_true h1.1) (of_decide_eq_true h1.2) h').1 (lvj_set hl rfl (of_decide_eq_true h1.1) (of_decide_eq_true h1.2) h').2)
theorem Y.lload (C : Cx p s m args meth c nL A D cI cJ cL cc Ts own) {i : Nat} (hd : decode cc pc = .ok (.lload i, 2)) (hi : jl.1 = i) (k : Y p l e R s m args below meth c nL A D Q cells slots jl ws lv (pc + 2) (.long (lI jl.2) :: st)) : Y p l e R s m args below meth c nL A D Q cells slots jl ws lv pc st := by
  intro H locs ls hP hD hS hl hj
  exact lv_lload C.1.1 C.1.2.1 hd (hi ▸ hj) (k H locs ls hP hD hS hl hj)
theorem Z.lstore (C : Cx p s m args meth c nL A D cI cJ cL cc Ts own) {i : Nat} {x : Int} (hd : decode cc pc = .ok (.lstore i, 2)) (hn0 : lv[i]? = some .null) (hn1 : lv[i + 1]? = some .null) (hn : i + 1 < nL) (k : Y p l e R s m args below meth c nL A D Q cells slots (i, x) ws lv (pc + 2) st) : Z p l e R s m args below meth c nL A D Q cells slots ws lv pc (.long (lI x) :: st) := by
  intro H locs ls hP hD hS hl
  refine lv_lstore C.1.1 C.1.2.1 hd (lvl_has hl) hn rfl (fun ls' h' => k H locs ls' hP hD hS ⟨h'.1, h'.2.1, fun j v hv hne => ?_⟩ (h'.2.2 (i, _) List.mem_cons_self))
  have h0 := hl.2.2 j v hv hne
  refine ⟨h0.1, h'.2.2 (j, v) (List.mem_cons_of_mem _ (List.mem_filter.mpr ⟨lvE_mem.mpr ⟨hv, hne⟩, ?_⟩))⟩
  have a1 : j ≠ i := fun q => by rw [q, hn0] at hv; exact hne (Option.some.inj hv).symm
  have a2 : j ≠ i + 1 := fun q => by rw [q, hn1] at hv; exact hne (Option.some.inj hv).symm
  have e1 : (j == i) = false := by simpa using a1
  have e2 : (j == i + 1) = false := by simpa using a2
  simp [e1, e2, h0.1]
theorem Y.lstore (C : Cx p s m args meth c nL A D cI cJ cL cc Ts own) {i : Nat} {x : Int} (hd : decode cc pc = .ok (.lstore i, 2)) (hn0 : lv[i]? = some .null) (hn1 : lv[i + 1]? = some .null) (hn : i + 1 < nL) (k : Y p l e R s m args below meth c nL A D Q cells slots (i, x) ws lv (pc + 2) st) : Y p l e R s m args below meth c nL A D Q cells slots jl ws lv pc (.long (lI x) :: st) := Y.toZ (Z.lstore C hd hn0 hn1 hn k)
theorem Y.loop {α : Type} (J : α → Nat × Int) (F : α → va_W) (L : α → List Value) (inv : α → Prop) (μ : α → Nat) (x0 : α) (h0 : inv x0) (hj0 : jl = J x0) (hw : ws = F x0) (hl : lv = L x0)
    (body : ∀ x, inv x → (∀ y, inv y → μ y < μ x → Y p l e R s m args below meth c nL A D Q cells slots (J y) (F y) (L y) pc st) → Y p l e R s m args below meth c nL A D Q cells slots (J x) (F x) (L x) pc st) : Y p l e R s m args below meth c nL A D Q cells slots jl ws lv pc st := by
  have key : ∀ (n : Nat) (x : α), μ x < n → inv x → Y p l e R s m args below meth c nL A D Q cells slots (J x) (F x) (L x) pc st := by
    intro n
    induction n with
    | zero => intro x h; exact absurd h (Nat.not_lt_zero _)
    | succ n ih => intro x h hx; exact body x hx (fun y hy hlt => ih y (by omega) hy)
  rw [hj0, hw, hl]
  exact key (μ x0 + 1) x0 (Nat.lt_succ_self _) h0
end ZYR
theorem wF2_a0 {x y z : Nat × va_E} {w2 : va_W} : ([x, y] ++ w2).set 0 z = [z, y] ++ w2 := rfl
theorem wF2_a1 {x y z : Nat × va_E} {w2 : va_W} : ([x, y] ++ w2).set 1 z = [x, z] ++ w2 := rfl
theorem wF2_a2 {x y : Nat × va_E} {aq : Nat → Nat} {cI : ClassId} {hf at_ wg dy ti gg f : Int → Int} : ([x, y] ++ wA aq cI hf at_ wg dy ti gg).set 2 (aq 0, aI cI 54 f) = [x, y] ++ wA aq cI f at_ wg dy ti gg := rfl
theorem wF4_a2 {x y u v z : Nat × va_E} {w2 : va_W} : ([x, y, u, v] ++ w2).set 2 z = [x, y, z, v] ++ w2 := rfl
theorem wF4_a3 {x y u v z : Nat × va_E} {w2 : va_W} : ([x, y, u, v] ++ w2).set 3 z = [x, y, u, z] ++ w2 := rfl
