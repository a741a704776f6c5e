theorem iI_div {a b : Int} (ha : 0 ≤ a) (ha2 : a ≤ 2147483647) (hb : 0 < b) (hb2 : b ≤ 2147483647) : iI a / iI b = iI (a / b) := by
  apply Int32.toInt_inj.mp
  have h1 : (iI a).toInt = a := iI_toInt ⟨by omega, by omega⟩
  have h2 : (iI b).toInt = b := iI_toInt ⟨by omega, by omega⟩
  have hq0 : 0 ≤ a / b := Int.ediv_nonneg ha (by omega)
  have hq1 : a / b ≤ a := Int.ediv_le_self b ha
  rw [Int32.toInt_div_of_ne_right, h1, h2, iI_toInt ⟨by omega, by omega⟩, Int.tdiv_eq_ediv_of_nonneg ha]
  intro h
  have h3 : (iI b).toInt = (-1 : Int32).toInt := by rw [h]
  rw [h2] at h3
  have h4 : (-1 : Int32).toInt = -1 := by decide
  omega
/-! ===== what the tables say beside the words: nest mates, texts, casts ===== -/
def zNM : List (String × Nat × MethodName × String) := [("FairBatten", 9, ⟨"FairBatten$Hull", "<init>", "()V"⟩, "FairBatten"), ("FairBatten", 18, ⟨"FairBatten$Batten", "<init>", "()V"⟩, "FairBatten"), ("FairBatten", 25, ⟨"FairBatten$Cargo", "<init>", "()V"⟩, "FairBatten"), ("FairBatten", 32, ⟨"FairBatten$Buoyancy", "<init>", "()V"⟩, "FairBatten"), ("FairBatten", 39, ⟨"FairBatten$Nest", "<init>", "()V"⟩, "FairBatten"), ("FairBatten", 46, ⟨"FairBatten$Almanac", "<init>", "()V"⟩, "FairBatten"), ("FairBatten", 84, ⟨"FairBatten$Batten", "straighten", "([II)V"⟩, "FairBatten"), ("FairBatten$Batten", 45, ⟨"FairBatten", "squareOfBend", "(III)I"⟩, "FairBatten"), ("FairBatten", 99, ⟨"FairBatten$Cargo", "isFull", "()Z"⟩, "FairBatten"), ("FairBatten", 110, ⟨"FairBatten$Cargo", "add", "(II)I"⟩, "FairBatten"), ("FairBatten", 116, ⟨"FairBatten$Cargo", "replace", "(III)I"⟩, "FairBatten"), ("FairBatten", 120, ⟨"FairBatten$Buoyancy", "measure", "(LFairBatten$Hull;)V"⟩, "FairBatten"), ("FairBatten$Buoyancy", 18, ⟨"FairBatten$Hull", "volumeUpTo", "(I)I"⟩, "FairBatten"), ("FairBatten$Buoyancy", 24, ⟨"FairBatten$Hull", "momentUpTo", "(I)I"⟩, "FairBatten"), ("FairBatten", 124, ⟨"FairBatten$Buoyancy", "setBallast", "(LFairBatten$Cargo;I)V"⟩, "FairBatten"), ("FairBatten$Buoyancy", 39, ⟨"FairBatten$Cargo", "loadWithoutBallast", "()I"⟩, "FairBatten"), ("FairBatten$Buoyancy", 45, ⟨"FairBatten$Cargo", "momentWithoutBallast", "()I"⟩, "FairBatten"), ("FairBatten", 156, ⟨"FairBatten$Nest", "cutAll", "(LFairBatten$Hull;)V"⟩, "FairBatten"), ("FairBatten$Nest", 42, ⟨"FairBatten$Hull", "strakeLength", "(I)I"⟩, "FairBatten"), ("FairBatten", 169, ⟨"FairBatten$Almanac", "hasRoomFor", "(I)Z"⟩, "FairBatten"), ("FairBatten", 175, ⟨"FairBatten$Almanac", "heightOn", "(I)I"⟩, "FairBatten"), ("FairBatten", 178, ⟨"FairBatten$Almanac", "tell", "(II)V"⟩, "FairBatten"), ("FairBatten", 134, ⟨"FairBatten$Cargo", "wholeLoad", "()I"⟩, "FairBatten"), ("FairBatten", 138, ⟨"FairBatten$Buoyancy", "draughtUnder", "(I)I"⟩, "FairBatten"), ("FairBatten", 141, ⟨"FairBatten$Cargo", "wholeMoment", "()I"⟩, "FairBatten"), ("FairBatten", 144, ⟨"FairBatten$Buoyancy", "trimUnder", "(II)I"⟩, "FairBatten"), ("FairBatten", 88, ⟨"FairBatten$Hull", "areaUpTo", "(II)I"⟩, "FairBatten"), ("FairBatten", 92, ⟨"FairBatten$Hull", "volumeUpTo", "(I)I"⟩, "FairBatten"), ("FairBatten", 96, ⟨"FairBatten$Hull", "volumeBySlices", "(I)I"⟩, "FairBatten"), ("FairBatten", 150, ⟨"FairBatten$Hull", "strakeLength", "(I)I"⟩, "FairBatten")]
def zNF : List (String × Nat × String × String × String × String) := [("FairBatten", 76, "FairBatten$Hull", "lines", "[[I", "FairBatten"), ("FairBatten", 211, "FairBatten$Cargo", "count", "I", "FairBatten"), ("FairBatten$Buoyancy", 54, "FairBatten$Cargo", "ballastWeight", "I", "FairBatten"), ("FairBatten", 128, "FairBatten$Cargo", "ballastWeight", "I", "FairBatten"), ("FairBatten$Buoyancy", 58, "FairBatten$Cargo", "ballastStation", "I", "FairBatten"), ("FairBatten", 131, "FairBatten$Cargo", "ballastStation", "I", "FairBatten"), ("FairBatten", 166, "FairBatten$Nest", "firstEnds", "[I", "FairBatten"), ("FairBatten", 162, "FairBatten$Nest", "secondEnds", "[I", "FairBatten"), ("FairBatten", 153, "FairBatten$Nest", "plankLength", "I", "FairBatten"), ("FairBatten", 159, "FairBatten$Nest", "taken", "I", "FairBatten")]
def zNS : List (String × Nat × String) := [("FairBatten", 204, "there is no such station"), ("FairBatten", 207, "there is no such waterline"), ("FairBatten", 218, "out of range"), ("FairBatten", 221, "the hull is launched"), ("FairBatten", 105, "there are 16 weights"), ("FairBatten", 214, "there is no such weight"), ("FairBatten", 173, "tides of 40 other days are told"), ("FairBatten", 196, "there is no draught"), ("FairBatten", 198, "the tide is less than needed"), ("FairBatten", 200, "today would be above 9000"), ("FairBatten", 209, "there is no such strake")]
def zEx : List String := ["java/lang/IndexOutOfBoundsException", "java/lang/IllegalArgumentException", "java/lang/IllegalStateException"]
def zDe : List MethodName := [⟨"java/lang/RuntimeException", "<init>", "(Ljava/lang/String;)V"⟩, ⟨"java/lang/Exception", "<init>", "(Ljava/lang/String;)V"⟩, ⟨"java/lang/Throwable", "<init>", "(Ljava/lang/String;)V"⟩]
def zN (U : State) : Prop := (∀ q ∈ zNM, va_Nw (.methodLinkNest q.1 q.2.1 q.2.2.1 q.2.2.2) U) ∧ (∀ q ∈ zNF, va_Nw (.fieldLinkNest q.1 q.2.1 q.2.2.1 q.2.2.2.1 q.2.2.2.2.1 q.2.2.2.2.2) U) ∧ (∀ q ∈ zNS, ∃ a, vk_R q.1 q.2.1 q.2.2 a U) ∧ (∀ E ∈ zEx, va_Nw (.castable E E) U) ∧ (∀ E ∈ zEx, ∀ T ∈ zEx, E ≠ T → va_Nc E T U) ∧ (∀ y ∈ zDe, va_Nw (.declares y) U)
theorem zN.warm {s U : State} (hW : s.WarmedH U.vm) (h : zN s) : zN U :=
  ⟨fun q hq => va_Nw.warmM hW (h.1 q hq), fun q hq => va_Nw.warmF hW (h.2.1 q hq), fun q hq => let ⟨a, ha⟩ := h.2.2.1 q hq; ⟨a, vk_R.warm hW ha⟩, fun E hE => va_Nw.warmC hW (h.2.2.2.1 E hE), fun E hE T hT hne => va_Nc.moved hW.alike (h.2.2.2.2.1 E hE T hT hne), fun y hy => va_Nw.warmD hW (h.2.2.2.2.2 y hy)⟩
theorem va_Nc.calls {C T : String} {U : State} {g : JFrame} {mk : MethodId} {a : Array Value} (h : va_Nc C T U) : va_Nc C T (U.calling g mk a) := va_Nc.moved (u := U) (U := U.calling g mk a) (Vm.Alike.refl U.vm) h
theorem zN.calls {U : State} {g : JFrame} {mk : MethodId} {a : Array Value} (h : zN U) : zN (U.calling g mk a) :=
  ⟨fun q hq => va_Nw.same rfl rfl (h.1 q hq), fun q hq => va_Nw.same rfl rfl (h.2.1 q hq), fun q hq => let ⟨x, hx⟩ := h.2.2.1 q hq; ⟨x, vk_R.same rfl hx⟩, fun E hE => va_Nw.same rfl rfl (h.2.2.2.1 E hE), fun E hE T hT hne => va_Nc.calls (h.2.2.2.2.1 E hE T hT hne), fun y hy => va_Nw.same rfl rfl (h.2.2.2.2.2 y hy)⟩
def zQ (A : Nat → Prop) (U : State) (H : Heap) : Prop := vx_Zq Bundle.tN "UNASSIGNED_STACK" Bundle.steD A U H ∧ vx_Zq Bundle.tN "SUPPRESSED_SENTINEL" Bundle.listD A U H
theorem zQ.moved {A : Nat → Prop} {u U : State} {H : Heap} (hvm : u.vm.Alike U.vm) (h : zQ A u H) : zQ A U H := ⟨h.1.moved hvm, h.2.moved hvm⟩
theorem zQ.kept {A : Nat → Prop} {U : State} {H H1 : Heap} (h : zQ A U H) (hq : ∀ a : Nat, a < H.size → ¬ A a → H1[a]? = H[a]?) : zQ A U H1 := ⟨h.1.kept hq, h.2.kept hq⟩
theorem zQ.narrow {A B : Nat → Prop} {U : State} {H : Heap} (h : zQ A U H) (hAB : ∀ q, B q → A q) : zQ B U H := ⟨h.1.narrow hAB, h.2.narrow hAB⟩
def zty (cI cJ cL : ClassId) : List (ClassId × FieldType) := [(cI, .int), (cJ, .array .int), (cL, .long)]
/-- what a method asks of its world and of the tables -/
def PU (D : va_G) (cI cJ cL : ClassId) (ws : va_W) (sz : Nat) (U : State) : Prop := U.heap.size = sz ∧ va_P D vwCl ws U.heap ∧ va_K D vwCl (zty cI cJ cL) U ∧ zN U ∧ va_D (fun _ => True) ws ∧ zQ (va_A ws sz) U U.heap
theorem PU.blind {D : va_G} {cI cJ cL : ClassId} {ws : va_W} {sz : Nat} {av : List Value} : FrameBlind (va_Pc av (PU D cI cJ cL ws sz)) := by
  intro a U g mk h
  obtain ⟨q0, q1, q2, q3, q4, q5, q6⟩ := h
  exact ⟨q0, q1, q2, va_K.moved (u := U) (U := U.calling g mk a) (Vm.Alike.refl U.vm) q3, q4.calls, q5, zQ.moved (u := U) (U := U.calling g mk a) (Vm.Alike.refl U.vm) q6⟩
/-- the walk's goal, over any heap that holds the world -/
def Z (p : Program) (l : Launch) (e : Env) (R : Room) (s : State) (m : MethodId) (args : Array Value) (below : List Frame) (meth : Method) (c : Code) (nL : Nat) (A : Nat → Prop) (D : va_G) (Q : State → Prop) (cells slots : Nat) (ws : va_W) (lv : List Value) (pc : Nat) (st : List Value) : Prop :=
  ∀ (H : Heap) (locs : List Loc) (ls : Array Slot), va_P D vwCl ws H → va_D A ws → va_S A s.heap H locs → lvl ls nL lv → W p l e R s m args below meth c H locs cells slots Q (F0 m pc ls st)
/-- what holds all through a method's walk -/
def Cx (p : Program) (s : State) (m : MethodId) (args : Array Value) (meth : Method) (c : Code) (nL : Nat) (A : Nat → Prop) (D : va_G) (cI cJ cL : ClassId) (cc : ByteArray) (Ts : List Cond) (own : String) : Prop :=
  CallFix p m c cc nL s args Ts own ∧ va_K D vwCl (zty cI cJ cL) s ∧ (∀ q, s.heap.size ≤ q → A q) ∧ meth.locks = false ∧ zN s ∧ zQ A s s.heap
theorem zsplit {D : va_G} {wr wc : va_W} {H : Heap} (h : va_P D vwCl (wr ++ wc) H) : va_P D vwCl wr H ∧ va_P D vwCl wc H := by
  refine ⟨fun k q hk => h k q ?_, fun k q hk => h (wr.length + k) q ?_⟩
  · rw [List.getElem?_append_left (List.getElem?_eq_some_iff.mp hk).1]
    exact hk
  · rw [List.getElem?_append_right (by omega), Nat.add_sub_cancel_left]
    exact hk
theorem zsplitD {A : Nat → Prop} {wr wc : va_W} (h : va_D A (wr ++ wc)) : va_D A wr ∧ va_D A wc := by
  have hl : ∀ (k : Nat) (q : Nat × va_E), wr[k]? = some q → (wr ++ wc)[k]? = some q := fun k q hk => by
    rw [List.getElem?_append_left (List.getElem?_eq_some_iff.mp hk).1]; exact hk
  have hr : ∀ (k : Nat) (q : Nat × va_E), wc[k]? = some q → (wr ++ wc)[wr.length + k]? = some q := fun k q hk => by
    rw [List.getElem?_append_right (by omega), Nat.add_sub_cancel_left]; exact hk
  refine ⟨⟨fun i j p q hi hj e => h.1 i j p q (hl i p hi) (hl j q hj) e, fun k q hk => h.2 k q (hl k q hk)⟩, ⟨fun i j p q hi hj e => ?_, fun k q hk => h.2 _ q (hr k q hk)⟩⟩
  have := h.1 _ _ p q (hr i p hi) (hr j q hj) e
  omega
theorem zapart {A : Nat → Prop} {wr wc : va_W} (h : va_D A (wr ++ wc)) {i j : Nat} {p q : Nat × va_E} (hi : wr[i]? = some p) (hj : wc[j]? = some q) : p.1 ≠ q.1 := by
  intro e
  have hl : i < wr.length := (List.getElem?_eq_some_iff.mp hi).1
  have h1 : (wr ++ wc)[i]? = some p := by rw [List.getElem?_append_left hl]; exact hi
  have h2 : (wr ++ wc)[wr.length + j]? = some q := by rw [List.getElem?_append_right (by omega), Nat.add_sub_cancel_left]; exact hj
  have := h.1 _ _ p q h1 h2 e
  omega
theorem zjoin {D : va_G} {A0 : Nat → Prop} {wr wc w1 : va_W} {H H1 : Heap} (hP : va_P D vwCl (wr ++ wc) H) (hD : va_D A0 (wr ++ wc)) (hk : ∀ q : Nat, q < H.size → ¬ va_A wc H.size q → H1[q]? = H[q]?) (hF : ∀ q, va_A wc H.size q → A0 q) (hP1 : va_P D vwCl w1 H1) (hD1 : va_D (va_A wc H.size) w1) : va_P D vwCl (wr ++ w1) H1 ∧ va_D A0 (wr ++ w1) := by
  have off : ∀ (k : Nat) (q : Nat × va_E), wr[k]? = some q → q.1 < H.size ∧ ¬ va_A wc H.size q.1 := by
    intro k q hq
    have hl := ((zsplit hP).1 k q hq).lt
    refine ⟨hl, fun h => ?_⟩
    rcases h with ⟨k2, e, h⟩ | h
    · exact zapart hD hq h rfl
    · omega
  refine ⟨va_P.app (fun k q hq => ?_) hP1, va_D.app (zsplitD hD).1 (hD1.weaken (fun k q _ h => hF q.1 h)) (fun i j x y hx hy hxy => ?_)⟩
  · obtain ⟨g1, g2⟩ := off k q hq
    exact ((zsplit hP).1 k q hq).kept (hk q.1 g1 g2)
  · exact (off i x hx).2 (by rw [hxy]; exact hD1.2 j y hy)
theorem zfree {A0 : Nat → Prop} {wr wc : va_W} {H0 H : Heap} {locs : List Loc} (hD : va_D A0 (wr ++ wc)) (hS : va_S A0 H0 H locs) (hA : ∀ q, H0.size ≤ q → A0 q) : ∀ q, va_A wc H.size q → A0 q := by
  intro q h
  rcases h with ⟨k, e, h⟩ | h
  · exact (zsplitD hD).2.2 k (q, e) h
  · exact hA q (Nat.le_trans hS.1 h)
/-! the contracts: an int is answered, or nothing -/
def CI (l : Launch) (y : MethodName) (w : List Cond) (rm : Room) (av : List Value) (D : va_G) (cI cJ cL : ClassId) (ws : va_W) (post : Int → va_W → Prop) : Prop :=
  ∀ sz : Nat, Met l y w rm (va_Pc av (PU D cI cJ cL ws sz)) (va_Qi (fun (r' : Int32) (w' : va_W) => ∃ r : Int, r' = iI r ∧ post r w') (fun w' t => va_P D vwCl w' t.heap ∧ va_D (va_A ws sz) w') (va_A ws sz)) 0 0 (va_A ws sz)
def CV (l : Launch) (y : MethodName) (w : List Cond) (rm : Room) (av : List Value) (D : va_G) (cI cJ cL : ClassId) (ws : va_W) (post : va_W → Prop) : Prop :=
  ∀ sz : Nat, Met l y w rm (va_Pc av (PU D cI cJ cL ws sz)) (va_Qv (fun (w' : va_W) => post w') (fun w' t => va_P D vwCl w' t.heap ∧ va_D (va_A ws sz) w') (va_A ws sz)) 0 0 (va_A ws sz)
def QI (below : List Frame) (args : Array Value) (s : State) (D : va_G) (ws : va_W) (sz : Nat) (post : Int → va_W → Prop) : State → Prop := MQ below (va_Qi (fun (r' : Int32) (w' : va_W) => ∃ r : Int, r' = iI r ∧ post r w') (fun w' t => va_P D vwCl w' t.heap ∧ va_D (va_A ws sz) w') (va_A ws sz)) args s 0 0 (va_A ws sz)
def QV (below : List Frame) (args : Array Value) (s : State) (D : va_G) (ws : va_W) (sz : Nat) (post : va_W → Prop) : State → Prop := MQ below (va_Qv (fun (w' : va_W) => post w') (fun w' t => va_P D vwCl w' t.heap ∧ va_D (va_A ws sz) w') (va_A ws sz)) args s 0 0 (va_A ws sz)
theorem lv_args1 : ∀ (vs : List Value) (n : Nat), (∀ v ∈ vs, v.category = 1) → ∀ (i : Nat) (v : Value), vs[i]? = some v → (n + i, v) ∈ lv_args n vs
  | [], n, _, i, v, h => by simp at h
  | a :: vs, n, hc, i, v, h => by
    have ha : ¬ a.category = 2 := by rw [hc a List.mem_cons_self]; decide
    unfold lv_args
    rw [if_neg ha]
    cases i with
    | zero =>
      rw [List.getElem?_cons_zero] at h
      cases h
      exact List.mem_cons_self
    | succ i =>
      rw [List.getElem?_cons_succ] at h
      have := lv_args1 vs (n + 1) (fun v hv => hc v (List.mem_cons_of_mem _ hv)) i v h
      rw [show n + 1 + i = n + (i + 1) by omega] at this
      exact List.mem_cons_of_mem _ this
theorem lg_sl1 : ∀ (vs : List Value), (∀ v ∈ vs, v.category = 1) → (lg_sl vs).length = vs.length
  | [], _ => rfl
  | a :: vs, hc => by
    have ih := lg_sl1 vs (fun v hv => hc v (List.mem_cons_of_mem _ hv))
    have ha := hc a List.mem_cons_self
    simp [lg_sl] at ih ⊢
    simp [ih, ha]
    omega
def zc1 (vs : List Value) : Bool := vs.all (fun v => v.category == 1)
theorem zc1_mem {vs : List Value} (h : zc1 vs = true) : ∀ v ∈ vs, v.category = 1 := fun v hv => by
  have := List.all_eq_true.mp h v hv
  simpa using this
theorem lvl_start {av : List Value} {n k : Nat} (h : zc1 av = true) (hn : av.length ≤ n) : lvl ((lg_sl av ++ List.replicate (n - (lg_sl av).length) Slot.unset).toArray) n (av ++ List.replicate k Value.null) := by
  refine lvl_entry (by rw [lg_sl1 av (zc1_mem h)]; exact hn) (fun i v hi hnull => ?_)
  by_cases hl : i < av.length
  · rw [List.getElem?_append_left hl] at hi
    exact ⟨zc1_mem h v (List.mem_of_getElem? hi), by simpa using lv_args1 av 0 (zc1_mem h) i v hi⟩
  · rw [List.getElem?_append_right (by omega)] at hi
    have := List.mem_of_getElem? hi
    exact absurd (List.mem_replicate.mp this).2 hnull
section ZM
variable {l : Launch} {y : MethodName} {w w' : List Cond} {rm : Room} {av : List Value} {D : va_G} {cI cJ cL : ClassId} {ws : va_W} {cc : ByteArray} {maxL : Nat} {own : String}
theorem CI.of {post : Int → va_W → Prop} {ret : Option FieldType} (lv0 : List Value) (k : Nat) (hy : plainName y.cls = true) (hw : w = Cond.code y cc maxL ret :: w') (hown : y.cls = own) (hc1 : zc1 av = true) (hn : av.length ≤ maxL) (hlv : av ++ List.replicate k Value.null = lv0)
    (body : ∀ (sz : Nat) (p : Program) (e : Env) (s : State) (m : MethodId) (args : Array Value) (below : List Frame) (meth : Method) (c : Code), Cx p s m args meth c maxL (va_A ws sz) D cI cJ cL cc w own → meth.sig.returnType = ret →
      Z p l e rm s m args below meth c maxL (va_A ws sz) D (QI below args s D ws sz post) 0 0 ws lv0 0 []) : CI l y w rm av D cI cJ cL ws post := by
  intro sz
  subst hlv
  refine Met.ofW (cc := cc) (maxL := maxL) (ret := ret) hy hw ?_
  intro p e s m args below meth c s₁ B hml hv
  obtain ⟨rfl, hsz, hP, hK, hN, hD0, hQ⟩ := hv
  have hts := atoms_spec (ws := w) B.pre
  have hf : s.vm.findClass own = some m.cls := hown ▸ findClass_of_methodNamed B.named
  have hA : ∀ q, s.heap.size ≤ q → va_A ws sz q := fun q h => Or.inr (hsz ▸ h)
  rw [lg_entry_eq]
  exact body sz p e s m av.toArray below meth c ⟨⟨B.exec, B.bytes, hml, hf, hts⟩, hK, hA, B.notSynchronized, hN, hQ⟩ B.returns s.heap [] _ hP hD0.self va_S.rf (lvl_start hc1 hn)
theorem CV.of {post : va_W → Prop} {ret : Option FieldType} (lv0 : List Value) (k : Nat) (hy : plainName y.cls = true) (hw : w = Cond.code y cc maxL ret :: w') (hown : y.cls = own) (hc1 : zc1 av = true) (hn : av.length ≤ maxL) (hlv : av ++ List.replicate k Value.null = lv0)
    (body : ∀ (sz : Nat) (p : Program) (e : Env) (s : State) (m : MethodId) (args : Array Value) (below : List Frame) (meth : Method) (c : Code), Cx p s m args meth c maxL (va_A ws sz) D cI cJ cL cc w own → meth.sig.returnType = ret →
      Z p l e rm s m args below meth c maxL (va_A ws sz) D (QV below args s D ws sz post) 0 0 ws lv0 0 []) : CV l y w rm av D cI cJ cL ws post := by
  intro sz
  subst hlv
  refine Met.ofW (cc := cc) (maxL := maxL) (ret := ret) hy hw ?_
  intro p e s m args below meth c s₁ B hml hv
  obtain ⟨rfl, hsz, hP, hK, hN, hD0, hQ⟩ := hv
  have hts := atoms_spec (ws := w) B.pre
  have hf : s.vm.findClass own = some m.cls := hown ▸ findClass_of_methodNamed B.named
  have hA : ∀ q, s.heap.size ≤ q → va_A ws sz q := fun q h => Or.inr (hsz ▸ h)
  rw [lg_entry_eq]
  exact body sz p e s m av.toArray below meth c ⟨⟨B.exec, B.bytes, hml, hf, hts⟩, hK, hA, B.notSynchronized, hN, hQ⟩ B.returns s.heap [] _ hP hD0.self va_S.rf (lvl_start hc1 hn)
end ZM

section ZR
variable {p : Program} {l : Launch} {e : Env} {R : Room} {s : State} {m : MethodId} {args : Array Value} {below : List Frame} {meth : Method} {c : Code} {nL : Nat} {A : Nat → Prop} {D : va_G} {Q : State → Prop} {cells slots : Nat} {ws : va_W} {lv : List Value} {pc : Nat} {st : List Value} {cI cJ cL : ClassId} {cc : ByteArray} {Ts : List Cond} {own : String}
theorem Z.iconst (C : Cx p s m args meth c nL A D cI cJ cL cc Ts own) {n : Int} (hd : decode cc pc = .ok (.iconst n, 1)) (k : Z p l e R s m args below meth c nL A D Q cells slots ws lv (pc + 1) (.int (iI n) :: st)) : Z p l e R s m args below meth c nL A D Q cells slots ws lv pc st := by
  intro H locs ls hP hD hS hl
  exact lv_iconst (v := iI n) C.1.1 C.1.2.1 hd rfl (k H locs ls hP hD hS hl)
theorem Z.bipush (C : Cx p s m args meth c nL A D cI cJ cL cc Ts own) {n : Int} (hd : decode cc pc = .ok (.bipush n, 2)) (hv : (Int8.ofInt n).toInt32 = iI n) (k : Z p l e R s m args below meth c nL A D Q cells slots ws lv (pc + 2) (.int (iI n) :: st)) : Z p l e R s m args below meth c nL A D Q cells slots ws lv pc st := by
  intro H locs ls hP hD hS hl
  exact lv_bipush (v := iI n) C.1.1 C.1.2.1 hd hv (k H locs ls hP hD hS hl)
theorem Z.sipush (C : Cx p s m args meth c nL A D cI cJ cL cc Ts own) {n : Int} (hd : decode cc pc = .ok (.sipush n, 3)) (hv : (Int16.ofInt n).toInt32 = iI n) (k : Z p l e R s m args below meth c nL A D Q cells slots ws lv (pc + 3) (.int (iI n) :: st)) : Z p l e R s m args below meth c nL A D Q cells slots ws lv pc st := by
  intro H locs ls hP hD hS hl
  exact lv_sipush (v := iI n) C.1.1 C.1.2.1 hd hv (k H locs ls hP hD hS hl)
theorem Z.ldc (C : Cx p s m args meth c nL A D cI cJ cL cc Ts own) {i : Nat} {v : Int32} (n : Int) (hc : Cond.constant own i v ∈ Ts) (hv : v = iI n) (hd : decode cc pc = .ok (.ldc i, 2)) (k : Z p l e R s m args below meth c nL A D Q cells slots ws lv (pc + 2) (.int (iI n) :: st)) : Z p l e R s m args below meth c nL A D Q cells slots ws lv pc st := by
  intro H locs ls hP hD hS hl
  subst hv
  exact lv_ldc C.1.1 C.1.2.1 C.1.2.2.2.1 (C.1.2.2.2.2 _ hc) hd (k H locs ls hP hD hS hl)
theorem Z.iload_n (C : Cx p s m args meth c nL A D cI cJ cL cc Ts own) {k0 : Fin 4} {x : Int32} (hd : decode cc pc = .ok (.iload_n k0, 1)) (hx : lv[(k0 : Nat)]? = some (.int x)) (k : Z p l e R s m args below meth c nL A D Q cells slots ws lv (pc + 1) (.int x :: st)) : Z p l e R s m args below meth c nL A D Q cells slots ws lv pc st := by
  intro H locs ls hP hD hS hl
  exact lv_iload_n C.1.1 C.1.2.1 hd rfl (lvl_at hl hx (by intro h; cases h)) (k H locs ls hP hD hS hl)
theorem Z.iload (C : Cx p s m args meth c nL A D cI cJ cL cc Ts own) {i : Nat} {x : Int32} (hd : decode cc pc = .ok (.iload i, 2)) (hx : lv[i]? = some (.int x)) (k : Z p l e R s m args below meth c nL A D Q cells slots ws lv (pc + 2) (.int x :: st)) : Z p l e R s m args below meth c nL A D Q cells slots ws lv pc st := by
  intro H locs ls hP hD hS hl
  exact lv_iload C.1.1 C.1.2.1 hd (lvl_at hl hx (by intro h; cases h)) (k H locs ls hP hD hS hl)
theorem Z.aload_n (C : Cx p s m args meth c nL A D cI cJ cL cc Ts own) {k0 : Fin 4} {x : Nat} (hd : decode cc pc = .ok (.aload_n k0, 1)) (hx : lv[(k0 : Nat)]? = some (.ref x)) (k : Z p l e R s m args below meth c nL A D Q cells slots ws lv (pc + 1) (.ref x :: st)) : Z p l e R s m args below meth c nL A D Q cells slots ws lv pc st := by
  intro H locs ls hP hD hS hl
  exact lv_aload_n C.1.1 C.1.2.1 hd rfl (lvl_at hl hx (by intro h; cases h)) (k H locs ls hP hD hS hl)
theorem Z.aload (C : Cx p s m args meth c nL A D cI cJ cL cc Ts own) {i : Nat} {x : Nat} (hd : decode cc pc = .ok (.aload i, 2)) (hx : lv[i]? = some (.ref x)) (k : Z p l e R s m args below meth c nL A D Q cells slots ws lv (pc + 2) (.ref x :: st)) : Z p l e R s m args below meth c nL A D Q cells slots ws lv pc st := by
  intro H locs ls hP hD hS hl
  exact lv_aload C.1.1 C.1.2.1 hd (lvl_at hl hx (by intro h; cases h)) (k H locs ls hP hD hS hl)
theorem Z.istore_n (C : Cx p s m args meth c nL A D cI cJ cL cc Ts own) {k0 : Fin 4} {x : Int32} (hd : decode cc pc = .ok (.istore_n k0, 1)) (hn : (k0 : Nat) < nL) (k : Z p l e R s m args below meth c nL A D Q cells slots ws (lv.set (k0 : Nat) (.int x)) (pc + 1) st) : Z p l e R s m args below meth c nL A D Q cells slots ws lv pc (.int x :: st) := by
  intro H locs ls hP hD hS hl
  exact lv_istore_n C.1.1 C.1.2.1 hd rfl (lvl_has hl) hn rfl (fun ls' h' => k H locs ls' hP hD hS (lvl_set hl rfl h'))
theorem Z.istore (C : Cx p s m args meth c nL A D cI cJ cL cc Ts own) {i : Nat} {x : Int32} (hd : decode cc pc = .ok (.istore i, 2)) (hn : i < nL) (k : Z p l e R s m args below meth c nL A D Q cells slots ws (lv.set i (.int x)) (pc + 2) st) : Z p l e R s m args below meth c nL A D Q cells slots ws lv pc (.int x :: st) := by
  intro H locs ls hP hD hS hl
  exact lv_istore C.1.1 C.1.2.1 hd (lvl_has hl) hn rfl (fun ls' h' => k H locs ls' hP hD hS (lvl_set hl rfl h'))
theorem Z.astore_n (C : Cx p s m args meth c nL A D cI cJ cL cc Ts own) {k0 : Fin 4} {x : Nat} (hd : decode cc pc = .ok (.astore_n k0, 1)) (hn : (k0 : Nat) < nL) (k : Z p l e R s m args below meth c nL A D Q cells slots ws (lv.set (k0 : Nat) (.ref x)) (pc + 1) st) : Z p l e R s m args below meth c nL A D Q cells slots ws lv pc (.ref x :: st) := by
  intro H locs ls hP hD hS hl
  exact lv_astore_n C.1.1 C.1.2.1 hd rfl (lvl_has hl) hn rfl (fun ls' h' => k H locs ls' hP hD hS (lvl_set hl rfl h'))
theorem Z.astore (C : Cx p s m args meth c nL A D cI cJ cL cc Ts own) {i : Nat} {x : Nat} (hd : decode cc pc = .ok (.astore i, 2)) (hn : i < nL) (k : Z p l e R s m args below meth c nL A D Q cells slots ws (lv.set i (.ref x)) (pc + 2) st) : Z p l e R s m args below meth c nL A D Q cells slots ws lv pc (.ref x :: st) := by
  intro H locs ls hP hD hS hl
  exact lv_astore C.1.1 C.1.2.1 hd (lvl_has hl) hn rfl (fun ls' h' => k H locs ls' hP hD hS (lvl_set hl rfl h'))
theorem Z.iinc (C : Cx p s m args meth c nL A D cI cJ cL cc Ts own) {i : Nat} {n a : Int} (hd : decode cc pc = .ok (.iinc i n, 3)) (hx : lv[i]? = some (.int (iI a))) (hn : i < nL) (k : Z p l e R s m args below meth c nL A D Q cells slots ws (lv.set i (.int (iI (a + n)))) (pc + 3) st) : Z p l e R s m args below meth c nL A D Q cells slots ws lv pc st := by
  intro H locs ls hP hD hS hl
  obtain ⟨j, hj⟩ := List.getElem?_of_mem (lvE_mem.mpr ⟨hx, by intro h; cases h⟩)
  exact lv_iinc (v := iI (a + n)) C.1.1 C.1.2.1 hd (lvl_has hl) hj (iI_add a n) hn rfl (fun ls' h' => k H locs ls' hP hD hS (lvl_set hl rfl h'))
theorem Z.iadd (C : Cx p s m args meth c nL A D cI cJ cL cc Ts own) {a b : Int} (hd : decode cc pc = .ok (.iadd, 1)) (k : Z p l e R s m args below meth c nL A D Q cells slots ws lv (pc + 1) (.int (iI (a + b)) :: st)) : Z p l e R s m args below meth c nL A D Q cells slots ws lv pc (.int (iI b) :: .int (iI a) :: st) := by
  intro H locs ls hP hD hS hl
  refine lv_iadd C.1.1 C.1.2.1 hd ?_
  rw [iI_add]
  exact k H locs ls hP hD hS hl
theorem Z.isub (C : Cx p s m args meth c nL A D cI cJ cL cc Ts own) {a b : Int} (hd : decode cc pc = .ok (.isub, 1)) (k : Z p l e R s m args below meth c nL A D Q cells slots ws lv (pc + 1) (.int (iI (a - b)) :: st)) : Z p l e R s m args below meth c nL A D Q cells slots ws lv pc (.int (iI b) :: .int (iI a) :: st) := by
  intro H locs ls hP hD hS hl
  refine lv_isub C.1.1 C.1.2.1 hd ?_
  rw [iI_sub]
  exact k H locs ls hP hD hS hl
theorem Z.imul (C : Cx p s m args meth c nL A D cI cJ cL cc Ts own) {a b : Int} (hd : decode cc pc = .ok (.imul, 1)) (k : Z p l e R s m args below meth c nL A D Q cells slots ws lv (pc + 1) (.int (iI (a * b)) :: st)) : Z p l e R s m args below meth c nL A D Q cells slots ws lv pc (.int (iI b) :: .int (iI a) :: st) := by
  intro H locs ls hP hD hS hl
  refine lv_imul C.1.1 C.1.2.1 hd ?_
  rw [iI_mul]
  exact k H locs ls hP hD hS hl
theorem Z.ineg (C : Cx p s m args meth c nL A D cI cJ cL cc Ts own) {a : Int} (hd : decode cc pc = .ok (.ineg, 1)) (k : Z p l e R s m args below meth c nL A D Q cells slots ws lv (pc + 1) (.int (iI (-a)) :: st)) : Z p l e R s m args below meth c nL A D Q cells slots ws lv pc (.int (iI a) :: st) := by
  intro H locs ls hP hD hS hl
  refine lv_ineg C.1.1 C.1.2.1 hd ?_
  first | rw [iI_neg] | rw [show (0 : Int32) - iI a = iI (-a) from by rw [← iI_0, iI_sub, Int.zero_sub]]
  exact k H locs ls hP hD hS hl
theorem Z.idiv (C : Cx p s m args meth c nL A D cI cJ cL cc Ts own) {a b : Int} (hd : decode cc pc = .ok (.idiv, 1)) (ha : 0 ≤ a) (ha2 : a ≤ 2147483647) (hb : 0 < b) (hb2 : b ≤ 2147483647) (k : Z p l e R s m args below meth c nL A D Q cells slots ws lv (pc + 1) (.int (iI (a / b)) :: st)) : Z p l e R s m args below meth c nL A D Q cells slots ws lv pc (.int (iI b) :: .int (iI a) :: st) := by
  intro H locs ls hP hD hS hl
  refine lv_idiv C.1.1 C.1.2.1 hd (fun h => ?_) ?_
  · rw [← iI_0, iI_eq ⟨by omega, by omega⟩ ⟨by omega, by omega⟩] at h
    omega
  · rw [iI_div ha ha2 hb hb2]
    exact k H locs ls hP hD hS hl
theorem Z.irem (C : Cx p s m args meth c nL A D cI cJ cL cc Ts own) {a b : Int} (hd : decode cc pc = .ok (.irem, 1)) (ha : 0 ≤ a) (ha2 : a ≤ 2147483647) (hb : 0 < b) (hb2 : b ≤ 2147483647) (k : Z p l e R s m args below meth c nL A D Q cells slots ws lv (pc + 1) (.int (iI (a % b)) :: st)) : Z p l e R s m args below meth c nL A D Q cells slots ws lv pc (.int (iI b) :: .int (iI a) :: st) := by
  intro H locs ls hP hD hS hl
  refine lv_irem C.1.1 C.1.2.1 hd (fun h => ?_) ?_
  · rw [← iI_0, iI_eq ⟨by omega, by omega⟩ ⟨by omega, by omega⟩] at h
    omega
  · rw [iI_div ha ha2 hb hb2, iI_mul, iI_sub, show a - a / b * b = a % b from by rw [Int.emod_def, Int.mul_comm]]
    exact k H locs ls hP hD hS hl
theorem Z.dup (C : Cx p s m args meth c nL A D cI cJ cL cc Ts own) {v : Value} (hd : decode cc pc = .ok (.dup, 1)) (hv : v.category = 1) (k : Z p l e R s m args below meth c nL A D Q cells slots ws lv (pc + 1) (v :: v :: st)) : Z p l e R s m args below meth c nL A D Q cells slots ws lv pc (v :: st) := by
  intro H locs ls hP hD hS hl
  exact lv_dup C.1.1 C.1.2.1 hd hv (k H locs ls hP hD hS hl)
theorem Z.pop (C : Cx p s m args meth c nL A D cI cJ cL cc Ts own) {v : Value} (hd : decode cc pc = .ok (.pop, 1)) (hv : v.category = 1) (k : Z p l e R s m args below meth c nL A D Q cells slots ws lv (pc + 1) st) : Z p l e R s m args below meth c nL A D Q cells slots ws lv pc (v :: st) := by
  intro H locs ls hP hD hS hl
  exact lv_pop C.1.1 C.1.2.1 hd hv (k H locs ls hP hD hS hl)
theorem Z.dup2 (C : Cx p s m args meth c nL A D cI cJ cL cc Ts own) {v u : Value} (hd : decode cc pc = .ok (.dup2, 1)) (hv : v.category = 1) (hu : u.category = 1) (k : Z p l e R s m args below meth c nL A D Q cells slots ws lv (pc + 1) (v :: u :: v :: u :: st)) : Z p l e R s m args below meth c nL A D Q cells slots ws lv pc (v :: u :: st) := by
  intro H locs ls hP hD hS hl
  exact lv_dup2_11 C.1.1 C.1.2.1 hd hv hu (k H locs ls hP hD hS hl)
theorem Z.goto (C : Cx p s m args meth c nL A D cI cJ cL cc Ts own) {off : Int} (tgt : Nat) (hd : decode cc pc = .ok (.goto off, 3)) (ht : (pc : Int) + off = (tgt : Int)) (k : Z p l e R s m args below meth c nL A D Q cells slots ws lv tgt st) : Z p l e R s m args below meth c nL A D Q cells slots ws lv pc st := by
  intro H locs ls hP hD hS hl
  exact lv_goto C.1.1 C.1.2.1 hd ht (k H locs ls hP hD hS hl)
theorem Z.icmpeq (C : Cx p s m args meth c nL A D cI cJ cL cc Ts own) {off : Int} {a b : Int} (tgt : Nat) (hd : decode cc pc = .ok (.if_icmp .eq off, 3)) (ht : (pc : Int) + off = (tgt : Int)) (ha : inr a) (hb : inr b) (kt : a = b → Z p l e R s m args below meth c nL A D Q cells slots ws lv tgt st) (kf : a ≠ b → Z p l e R s m args below meth c nL A D Q cells slots ws lv (pc + 3) st) : Z p l e R s m args below meth c nL A D Q cells slots ws lv pc (.int (iI b) :: .int (iI a) :: st) := by
  intro H locs ls hP hD hS hl
  exact lv_icmp_eq C.1.1 C.1.2.1 hd ht (fun h => kt ((iI_eq ha hb).mp h) H locs ls hP hD hS hl) (fun h => kf (fun q => h ((iI_eq ha hb).mpr q)) H locs ls hP hD hS hl)
theorem Z.ifeq (C : Cx p s m args meth c nL A D cI cJ cL cc Ts own) {off : Int} {a : Int} (tgt : Nat) (hd : decode cc pc = .ok (.ifCond .eq off, 3)) (ht : (pc : Int) + off = (tgt : Int)) (ha : inr a) (kt : a = 0 → Z p l e R s m args below meth c nL A D Q cells slots ws lv tgt st) (kf : a ≠ 0 → Z p l e R s m args below meth c nL A D Q cells slots ws lv (pc + 3) st) : Z p l e R s m args below meth c nL A D Q cells slots ws lv pc (.int (iI a) :: st) := by
  intro H locs ls hP hD hS hl
  have z0 : inr 0 := ⟨by decide, by decide⟩
  refine lv_if_eq C.1.1 C.1.2.1 hd ht ?_ ?_
  · rw [← iI_0]
    exact (fun h => kt ((iI_eq ha z0).mp h) H locs ls hP hD hS hl)
  · rw [← iI_0]
    exact (fun h => kf (fun q => h ((iI_eq ha z0).mpr q)) H locs ls hP hD hS hl)
theorem Z.icmpne (C : Cx p s m args meth c nL A D cI cJ cL cc Ts own) {off : Int} {a b : Int} (tgt : Nat) (hd : decode cc pc = .ok (.if_icmp .ne off, 3)) (ht : (pc : Int) + off = (tgt : Int)) (ha : inr a) (hb : inr b) (kt : a ≠ b → Z p l e R s m args below meth c nL A D Q cells slots ws lv tgt st) (kf : a = b → Z p l e R s m args below meth c nL A D Q cells slots ws lv (pc + 3) st) : Z p l e R s m args below meth c nL A D Q cells slots ws lv pc (.int (iI b) :: .int (iI a) :: st) := by
  intro H locs ls hP hD hS hl
  exact lv_icmp_ne C.1.1 C.1.2.1 hd ht (fun h => kt (fun q => h ((iI_eq ha hb).mpr q)) H locs ls hP hD hS hl) (fun h => kf ((iI_eq ha hb).mp h) H locs ls hP hD hS hl)
theorem Z.ifne (C : Cx p s m args meth c nL A D cI cJ cL cc Ts own) {off : Int} {a : Int} (tgt : Nat) (hd : decode cc pc = .ok (.ifCond .ne off, 3)) (ht : (pc : Int) + off = (tgt : Int)) (ha : inr a) (kt : a ≠ 0 → Z p l e R s m args below meth c nL A D Q cells slots ws lv tgt st) (kf : a = 0 → Z p l e R s m args below meth c nL A D Q cells slots ws lv (pc + 3) st) : Z p l e R s m args below meth c nL A D Q cells slots ws lv pc (.int (iI a) :: st) := by
  intro H locs ls hP hD hS hl
  have z0 : inr 0 := ⟨by decide, by decide⟩
  refine lv_if_ne C.1.1 C.1.2.1 hd ht ?_ ?_
  · rw [← iI_0]
    exact (fun h => kt (fun q => h ((iI_eq ha z0).mpr q)) H locs ls hP hD hS hl)
  · rw [← iI_0]
    exact (fun h => kf ((iI_eq ha z0).mp h) H locs ls hP hD hS hl)
theorem Z.icmplt (C : Cx p s m args meth c nL A D cI cJ cL cc Ts own) {off : Int} {a b : Int} (tgt : Nat) (hd : decode cc pc = .ok (.if_icmp .lt off, 3)) (ht : (pc : Int) + off = (tgt : Int)) (ha : inr a) (hb : inr b) (kt : a < b → Z p l e R s m args below meth c nL A D Q cells slots ws lv tgt st) (kf : b ≤ a → Z p l e R s m args below meth c nL A D Q cells slots ws lv (pc + 3) st) : Z p l e R s m args below meth c nL A D Q cells slots ws lv pc (.int (iI b) :: .int (iI a) :: st) := by
  intro H locs ls hP hD hS hl
  exact lv_icmp_lt C.1.1 C.1.2.1 hd ht (fun h => kt ((iI_lt ha hb).mp h) H locs ls hP hD hS hl) (fun h => kf (Int.not_lt.mp (fun z => h ((iI_lt ha hb).mpr (by omega)))) H locs ls hP hD hS hl)
theorem Z.iflt (C : Cx p s m args meth c nL A D cI cJ cL cc Ts own) {off : Int} {a : Int} (tgt : Nat) (hd : decode cc pc = .ok (.ifCond .lt off, 3)) (ht : (pc : Int) + off = (tgt : Int)) (ha : inr a) (kt : a < 0 → Z p l e R s m args below meth c nL A D Q cells slots ws lv tgt st) (kf : 0 ≤ a → Z p l e R s m args below meth c nL A D Q cells slots ws lv (pc + 3) st) : Z p l e R s m args below meth c nL A D Q cells slots ws lv pc (.int (iI a) :: st) := by
  intro H locs ls hP hD hS hl
  have z0 : inr 0 := ⟨by decide, by decide⟩
  refine lv_if_lt C.1.1 C.1.2.1 hd ht ?_ ?_
  · rw [← iI_0]
    exact (fun h => kt ((iI_lt ha z0).mp h) H locs ls hP hD hS hl)
  · rw [← iI_0]
    exact (fun h => kf (Int.not_lt.mp (fun z => h ((iI_lt ha z0).mpr (by omega)))) H locs ls hP hD hS hl)
theorem Z.icmpge (C : Cx p s m args meth c nL A D cI cJ cL cc Ts own) {off : Int} {a b : Int} (tgt : Nat) (hd : decode cc pc = .ok (.if_icmp .ge off, 3)) (ht : (pc : Int) + off = (tgt : Int)) (ha : inr a) (hb : inr b) (kt : b ≤ a → Z p l e R s m args below meth c nL A D Q cells slots ws lv tgt st) (kf : a < b → Z p l e R s m args below meth c nL A D Q cells slots ws lv (pc + 3) st) : Z p l e R s m args below meth c nL A D Q cells slots ws lv pc (.int (iI b) :: .int (iI a) :: st) := by
  intro H locs ls hP hD hS hl
  exact lv_icmp_ge C.1.1 C.1.2.1 hd ht (fun h => kt ((iI_le hb ha).mp h) H locs ls hP hD hS hl) (fun h => kf (Int.not_lt.mp (fun z => h ((iI_le hb ha).mpr (by omega)))) H locs ls hP hD hS hl)
theorem Z.ifge (C : Cx p s m args meth c nL A D cI cJ cL cc Ts own) {off : Int} {a : Int} (tgt : Nat) (hd : decode cc pc = .ok (.ifCond .ge off, 3)) (ht : (pc : Int) + off = (tgt : Int)) (ha : inr a) (kt : 0 ≤ a → Z p l e R s m args below meth c nL A D Q cells slots ws lv tgt st) (kf : a < 0 → Z p l e R s m args below meth c nL A D Q cells slots ws lv (pc + 3) st) : Z p l e R s m args below meth c nL A D Q cells slots ws lv pc (.int (iI a) :: st) := by
  intro H locs ls hP hD hS hl
  have z0 : inr 0 := ⟨by decide, by decide⟩
  refine lv_if_ge C.1.1 C.1.2.1 hd ht ?_ ?_
  · rw [← iI_0]
    exact (fun h => kt ((iI_le z0 ha).mp h) H locs ls hP hD hS hl)
  · rw [← iI_0]
    exact (fun h => kf (Int.not_lt.mp (fun z => h ((iI_le z0 ha).mpr (by omega)))) H locs ls hP hD hS hl)
theorem Z.icmpgt (C : Cx p s m args meth c nL A D cI cJ cL cc Ts own) {off : Int} {a b : Int} (tgt : Nat) (hd : decode cc pc = .ok (.if_icmp .gt off, 3)) (ht : (pc : Int) + off = (tgt : Int)) (ha : inr a) (hb : inr b) (kt : b < a → Z p l e R s m args below meth c nL A D Q cells slots ws lv tgt st) (kf : a ≤ b → Z p l e R s m args below meth c nL A D Q cells slots ws lv (pc + 3) st) : Z p l e R s m args below meth c nL A D Q cells slots ws lv pc (.int (iI b) :: .int (iI a) :: st) := by
  intro H locs ls hP hD hS hl
  exact lv_icmp_gt C.1.1 C.1.2.1 hd ht (fun h => kt ((iI_lt hb ha).mp h) H locs ls hP hD hS hl) (fun h => kf (Int.not_lt.mp (fun z => h ((iI_lt hb ha).mpr (by omega)))) H locs ls hP hD hS hl)
theorem Z.ifgt (C : Cx p s m args meth c nL A D cI cJ cL cc Ts own) {off : Int} {a : Int} (tgt : Nat) (hd : decode cc pc = .ok (.ifCond .gt off, 3)) (ht : (pc : Int) + off = (tgt : Int)) (ha : inr a) (kt : 0 < a → Z p l e R s m args below meth c nL A D Q cells slots ws lv tgt st) (kf : a ≤ 0 → Z p l e R s m args below meth c nL A D Q cells slots ws lv (pc + 3) st) : Z p l e R s m args below meth c nL A D Q cells slots ws lv pc (.int (iI a) :: st) := by
  intro H locs ls hP hD hS hl
  have z0 : inr 0 := ⟨by decide, by decide⟩
  refine lv_if_gt C.1.1 C.1.2.1 hd ht ?_ ?_
  · rw [← iI_0]
    exact (fun h => kt ((iI_lt z0 ha).mp h) H locs ls hP hD hS hl)
  · rw [← iI_0]
    exact (fun h => kf (Int.not_lt.mp (fun z => h ((iI_lt z0 ha).mpr (by omega)))) H locs ls hP hD hS hl)
theorem Z.icmple (C : Cx p s m args meth c nL A D cI cJ cL cc Ts own) {off : Int} {a b : Int} (tgt : Nat) (hd : decode cc pc = .ok (.if_icmp .le off, 3)) (ht : (pc : Int) + off = (tgt : Int)) (ha : inr a) (hb : inr b) (kt : a ≤ b → Z p l e R s m args below meth c nL A D Q cells slots ws lv tgt st) (kf : b < a → Z p l e R s m args below meth c nL A D Q cells slots ws lv (pc + 3) st) : Z p l e R s m args below meth c nL A D Q cells slots ws lv pc (.int (iI b) :: .int (iI a) :: st) := by
  intro H locs ls hP hD hS hl
  exact lv_icmp_le C.1.1 C.1.2.1 hd ht (fun h => kt ((iI_le ha hb).mp h) H locs ls hP hD hS hl) (fun h => kf (Int.not_lt.mp (fun z => h ((iI_le ha hb).mpr (by omega)))) H locs ls hP hD hS hl)
theorem Z.ifle (C : Cx p s m args meth c nL A D cI cJ cL cc Ts own) {off : Int} {a : Int} (tgt : Nat) (hd : decode cc pc = .ok (.ifCond .le off, 3)) (ht : (pc : Int) + off = (tgt : Int)) (ha : inr a) (kt : a ≤ 0 → Z p l e R s m args below meth c nL A D Q cells slots ws lv tgt st) (kf : 0 < a → Z p l e R s m args below meth c nL A D Q cells slots ws lv (pc + 3) st) : Z p l e R s m args below meth c nL A D Q cells slots ws lv pc (.int (iI a) :: st) := by
  intro H locs ls hP hD hS hl
  have z0 : inr 0 := ⟨by decide, by decide⟩
  refine lv_if_le C.1.1 C.1.2.1 hd ht ?_ ?_
  · rw [← iI_0]
    exact (fun h => kt ((iI_le ha z0).mp h) H locs ls hP hD hS hl)
  · rw [← iI_0]
    exact (fun h => kf (Int.not_lt.mp (fun z => h ((iI_le ha z0).mpr (by omega)))) H locs ls hP hD hS hl)
theorem Z.getf (C : Cx p s m args meth c nL A D cI cJ cL cc Ts own) (q0 k0 : Nat) {Cn : String} {T : u_T} {N ci i : Nat} {a : Nat} {fs : List Value} (hin : ∀ w ∈ u_ws Cn T N, w ∈ Ts) (he : ws[q0]? = some (a, .inr (ci, fs))) (hc : vwCl[ci]? = some (Cn, T, N)) (hk : k0 < N) (hlink : Cond.fieldLink own i (T k0).1 (T k0).2.1 (T k0).2.2.1 ∈ Ts) {v : Value} (hv : fs[k0]? = some v) (hd : decode cc pc = .ok (.getfield i, 3)) (k : Z p l e R s m args below meth c nL A D Q cells slots ws lv (pc + 3) (v :: st)) : Z p l e R s m args below meth c nL A D Q cells slots ws lv pc (.ref a :: st) := by
  intro H locs ls hP hD hS hl
  exact va_get (D := D) C.1.1 C.1.2.1 C.1.2.2.2.2 hin C.1.2.2.2.1 C.2.1 hP q0 he hc k0 hk (C.1.2.2.2.2 _ hlink) (fun _ h9 => h9) hv hd (k H locs ls hP hD hS hl)
theorem Z.getfN (C : Cx p s m args meth c nL A D cI cJ cL cc Ts own) (q0 k0 : Nat) {Cn : String} {T : u_T} {N ci i : Nat} {a : Nat} {fs : List Value} (hin : ∀ w ∈ u_ws Cn T N, w ∈ Ts) (he : ws[q0]? = some (a, .inr (ci, fs))) (hc : vwCl[ci]? = some (Cn, T, N)) (hk : k0 < N) {host : String} (hlink : (own, i, (T k0).1, (T k0).2.1, (T k0).2.2.1, host) ∈ zNF) {v : Value} (hv : fs[k0]? = some v) (hd : decode cc pc = .ok (.getfield i, 3)) (k : Z p l e R s m args below meth c nL A D Q cells slots ws lv (pc + 3) (v :: st)) : Z p l e R s m args below meth c nL A D Q cells slots ws lv pc (.ref a :: st) := by
  intro H locs ls hP hD hS hl
  exact va_getN (D := D) C.1.1 C.1.2.1 C.1.2.2.2.2 hin C.1.2.2.2.1 C.2.1 hP q0 he hc k0 hk (va_Nw.use rfl (C.2.2.2.2.1.2.1 _ hlink)) (fun _ h9 => h9) hv hd (k H locs ls hP hD hS hl)
theorem Z.putf (C : Cx p s m args meth c nL A D cI cJ cL cc Ts own) (q0 k0 : Nat) {Cn : String} {T : u_T} {N ci i : Nat} {a : Nat} {fs : List Value} {ws' : va_W} (hin : ∀ w ∈ u_ws Cn T N, w ∈ Ts) (he : ws[q0]? = some (a, .inr (ci, fs))) (hc : vwCl[ci]? = some (Cn, T, N)) (hk : k0 < N) (ty0 : Nat → FieldType) (hty : ∀ k, k < N → parseFieldDescriptor (T k).2.2.1 = some (ty0 k)) (hnm : ∀ a, a < N → ∀ b, b < N → a ≠ b → (T a).2.1 ≠ (T b).2.1) (hlink : Cond.fieldLink own i (T k0).1 (T k0).2.1 (T k0).2.2.1 ∈ Ts) (hfin : (T k0).2.2.2 = false) {ty : FieldType} {v : Value} (hdd : parseFieldDescriptor (T k0).2.2.1 = some ty) (hn : narrow ty v = v) (hfit : fits ty v = true) (hl0 : k0 < fs.length) (hd : decode cc pc = .ok (.putfield i, 3)) (hws : ws.set q0 (a, .inr (ci, fs.set k0 v)) = ws') (k : Z p l e R s m args below meth c nL A D Q cells slots (ws') lv (pc + 3) st) : Z p l e R s m args below meth c nL A D Q cells slots ws lv pc (v :: .ref a :: st) := by
  intro H locs ls hP hD hS hl
  subst hws
  exact va_put (D := D) C.1.1 C.1.2.1 C.1.2.2.2.2 hin ty0 hty hnm C.1.2.2.2.1 C.2.1 hP hD hS q0 he hc k0 hk (C.1.2.2.2.2 _ hlink) (fun _ h9 => h9) hfin hdd hn hfit hl0 hd (fun H1 locs1 hP1 hD1 hS1 => k H1 locs1 ls hP1 hD1 hS1 hl)
theorem Z.putfN (C : Cx p s m args meth c nL A D cI cJ cL cc Ts own) (q0 k0 : Nat) {Cn : String} {T : u_T} {N ci i : Nat} {a : Nat} {fs : List Value} {ws' : va_W} (hin : ∀ w ∈ u_ws Cn T N, w ∈ Ts) (he : ws[q0]? = some (a, .inr (ci, fs))) (hc : vwCl[ci]? = some (Cn, T, N)) (hk : k0 < N) (ty0 : Nat → FieldType) (hty : ∀ k, k < N → parseFieldDescriptor (T k).2.2.1 = some (ty0 k)) (hnm : ∀ a, a < N → ∀ b, b < N → a ≠ b → (T a).2.1 ≠ (T b).2.1) {host : String} (hlink : (own, i, (T k0).1, (T k0).2.1, (T k0).2.2.1, host) ∈ zNF) (hfin : (T k0).2.2.2 = false) {ty : FieldType} {v : Value} (hdd : parseFieldDescriptor (T k0).2.2.1 = some ty) (hn : narrow ty v = v) (hfit : fits ty v = true) (hl0 : k0 < fs.length) (hd : decode cc pc = .ok (.putfield i, 3)) (hws : ws.set q0 (a, .inr (ci, fs.set k0 v)) = ws') (k : Z p l e R s m args below meth c nL A D Q cells slots (ws') lv (pc + 3) st) : Z p l e R s m args below meth c nL A D Q cells slots ws lv pc (v :: .ref a :: st) := by
  intro H locs ls hP hD hS hl
  subst hws
  exact va_putN (D := D) C.1.1 C.1.2.1 C.1.2.2.2.2 hin ty0 hty hnm C.1.2.2.2.1 C.2.1 hP hD hS q0 he hc k0 hk (va_Nw.use rfl (C.2.2.2.2.1.2.1 _ hlink)) (fun _ h9 => h9) hfin hdd hn hfit hl0 hd (fun H1 locs1 hP1 hD1 hS1 => k H1 locs1 ls hP1 hD1 hS1 hl)
theorem Z.putfF (C : Cx p s m args meth c nL A D cI cJ cL cc Ts own) (q0 k0 : Nat) {Cn : String} {T : u_T} {N ci i : Nat} {a : Nat} {fs : List Value} {ws' : va_W} (hin : ∀ w ∈ u_ws Cn T N, w ∈ Ts) (he : ws[q0]? = some (a, .inr (ci, fs))) (hc : vwCl[ci]? = some (Cn, T, N)) (hk : k0 < N) (ty0 : Nat → FieldType) (hty : ∀ k, k < N → parseFieldDescriptor (T k).2.2.1 = some (ty0 k)) (hnm : ∀ a, a < N → ∀ b, b < N → a ≠ b → (T a).2.1 ≠ (T b).2.1) (hlink : Cond.fieldLink own i (T k0).1 (T k0).2.1 (T k0).2.2.1 ∈ Ts) (hfin : (T k0).2.2.2 = true) (hin2 : meth.name = "<init>") (hdecl : (T k0).1 = own) {ty : FieldType} {v : Value} (hdd : parseFieldDescriptor (T k0).2.2.1 = some ty) (hn : narrow ty v = v) (hfit : fits ty v = true) (hl0 : k0 < fs.length) (hd : decode cc pc = .ok (.putfield i, 3)) (hws : ws.set q0 (a, .inr (ci, fs.set k0 v)) = ws') (k : Z p l e R s m args below meth c nL A D Q cells slots (ws') lv (pc + 3) st) : Z p l e R s m args below meth c nL A D Q cells slots ws lv pc (v :: .ref a :: st) := by
  intro H locs ls hP hD hS hl
  subst hws
  exact va_putF (D := D) C.1.1 C.1.2.1 C.1.2.2.2.2 hin ty0 hty hnm C.1.2.2.2.1 C.2.1 hP hD hS q0 he hc k0 hk (C.1.2.2.2.2 _ hlink) (fun _ h9 => h9) hfin hin2 hdecl hdd hn hfit hl0 hd (fun H1 locs1 hP1 hD1 hS1 => k H1 locs1 ls hP1 hD1 hS1 hl)
theorem Z.iald (C : Cx p s m args meth c nL A D cI cJ cL cc Ts own) (q0 : Nat) {a n : Nat} {f : Int → Int} {i : Int} (he : ws[q0]? = some (a, aI cI n f)) (h0 : 0 ≤ i) (h1 : i < n) (hn : n ≤ 2147483647) (hd : decode cc pc = .ok (.iaload, 1)) (k : Z p l e R s m args below meth c nL A D Q cells slots ws lv (pc + 1) (.int (iI (f i)) :: st)) : Z p l e R s m args below meth c nL A D Q cells slots ws lv pc (.int (iI i) :: .ref a :: st) := by
  intro H locs ls hP hD hS hl
  refine va_iald (D := D) C.1.1 C.1.2.1 C.2.1 hP q0 0 he rfl (iI_in h0 h1 hn) hd ?_
  rw [iI_clamp h0 (by omega)]
  exact k H locs ls hP hD hS hl
theorem Z.iast (C : Cx p s m args meth c nL A D cI cJ cL cc Ts own) (q0 : Nat) {a n : Nat} {f : Int → Int} {i x : Int} {ws' : va_W} (he : ws[q0]? = some (a, aI cI n f)) (h0 : 0 ≤ i) (h1 : i < n) (hn : n ≤ 2147483647) (hd : decode cc pc = .ok (.iastore, 1)) (hws : ws.set q0 (a, aI cI n (zset f i x)) = ws') (k : Z p l e R s m args below meth c nL A D Q cells slots (ws') lv (pc + 1) st) : Z p l e R s m args below meth c nL A D Q cells slots ws lv pc (.int (iI x) :: .int (iI i) :: .ref a :: st) := by
  intro H locs ls hP hD hS hl
  subst hws
  refine va_iast (D := D) C.1.1 C.1.2.1 C.2.1 hP hD hS q0 0 he rfl (iI_in h0 h1 hn) hd (fun H1 locs1 hP1 hD1 hS1 => ?_)
  rw [aI_upd cI n f h0 (by omega)] at hP1 hD1
  exact k H1 locs1 ls hP1 hD1 hS1 hl
theorem Z.aald (C : Cx p s m args meth c nL A D cI cJ cL cc Ts own) (q0 : Nat) {a n : Nat} {g : Nat → Nat} {i : Int} (he : ws[q0]? = some (a, aR cJ n g)) (h0 : 0 ≤ i) (h1 : i < n) (hn : n ≤ 2147483647) (hd : decode cc pc = .ok (.aaload, 1)) (k : Z p l e R s m args below meth c nL A D Q cells slots ws lv (pc + 1) (.ref (g i.toNat) :: st)) : Z p l e R s m args below meth c nL A D Q cells slots ws lv pc (.int (iI i) :: .ref a :: st) := by
  intro H locs ls hP hD hS hl
  have hin := iI_in h0 h1 hn
  have hlt : (iI i).toNatClampNeg < n := Nat.not_le.mp fun q => hin (Or.inr q)
  have hq := hP q0 _ he
  have hi := iI_clampN h0 (show i ≤ 2147483647 by omega)
  refine W.aald (v := .ref (g (iI i).toNatClampNeg)) (ty := .array .int) C.1.1 C.1.2.1 hq ((C.2.1.2 1 _ rfl).1 n (fun j => va_rf (some (g j)))) rfl (fun q => by cases q) (by show ¬ (iI i < 0 ∨ (arrV _ _ _).slots.size ≤ _); rw [arrV_size]; exact hin) (by show (arrV _ _ _).slots[_]? = _; rw [arrV_read _ _ hlt]; rfl) rfl rfl hd ?_
  rw [hi]
  exact k H locs ls hP hD hS hl
end ZR
