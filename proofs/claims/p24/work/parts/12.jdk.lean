/-! ===== the JDK's floorDiv and floorMod, at numbers that are not below 0 ===== -/
theorem iI_nI {a : Int} (h0 : 0 ≤ a) : iI a = nI a.toNat := by
  show Int32.ofInt a = Int32.ofNat a.toNat
  rw [← Int32.ofInt_eq_ofNat, Int.toNat_of_nonneg h0]
theorem zxor_nI (a b : Nat) : nI a ^^^ nI b = nI (a ^^^ b) := by
  apply Int32.toBitVec_inj.1
  show BitVec.ofNat 32 a ^^^ BitVec.ofNat 32 b = BitVec.ofNat 32 (a ^^^ b)
  apply BitVec.eq_of_getLsbD_eq
  intro i hi
  simp [hi]
theorem zxor_pos {a b : Int} (ha : 0 ≤ a) (ha2 : a ≤ 2147483647) (hb : 0 ≤ b) (hb2 : b ≤ 2147483647) : 0 ≤ iI a ^^^ iI b := by
  rw [iI_nI ha, iI_nI hb, zxor_nI]
  exact nI_pos' (Nat.xor_lt_two_pow (n := 31) (by omega) (by omega))
theorem CI.ofF {l : Launch} {y : MethodName} {w w' : List Cond} {rm : Room} {av : List Value} {D : va_G} {cI cJ cL : ClassId} {ws : va_W} {cc : ByteArray} {maxL : Nat} {own : String} {post : Int → va_W → Prop} {ret : Option FieldType} (lv0 : List Value) (k : Nat) (hy : plainFor y = true) (hw : w = Cond.code y cc maxL ret :: w') (hown : y.cls = own) (hc1 : zc1 av = true) (hn : av.length ≤ maxL) (hlv : av ++ List.replicate k Value.null = lv0)
    (body : ∀ (sz : Nat) (p : Program) (e : Env) (s : State) (m : MethodId) (args : Array Value) (below : List Frame) (meth : Method) (c : Code), Cx p s m args meth c maxL (va_A ws sz) D cI cJ cL cc w own → meth.sig.returnType = ret →
      Z p l e rm s m args below meth c maxL (va_A ws sz) D (QI below args s D ws sz post) 0 0 ws lv0 0 []) : CI l y w rm av D cI cJ cL ws post := by
  intro sz
  subst hlv
  refine va_MetF (cc := cc) (maxL := maxL) (ret := ret) hy hw ?_
  intro p e s m args below meth c s₁ B hml hv
  obtain ⟨rfl, hsz, hP, hK, hN, hD0, hQ⟩ := hv
  have hts := atoms_spec (ws := w) B.pre
  have hf : s.vm.findClass own = some m.cls := hown ▸ findClass_of_methodNamed B.named
  have hA : ∀ q, s.heap.size ≤ q → va_A ws sz q := fun q h => Or.inr (hsz ▸ h)
  rw [lg_entry_eq]
  exact body sz p e s m av.toArray below meth c ⟨⟨B.exec, B.bytes, hml, hf, hts⟩, hK, hA, B.notSynchronized, hN, hQ⟩ B.returns s.heap [] _ hP hD0.self va_S.rf (lvl_start hc1 hn)
section ZXO
variable {p : Program} {l : Launch} {e : Env} {R : Room} {s : State} {m : MethodId} {args : Array Value} {below : List Frame} {meth : Method} {c : Code} {nL : Nat} {A : Nat → Prop} {D : va_G} {Q : State → Prop} {cells slots : Nat} {ws : va_W} {lv : List Value} {pc : Nat} {st : List Value} {cI cJ cL : ClassId} {cc : ByteArray} {Ts : List Cond} {own : String}
theorem Z.ixorge (C : Cx p s m args meth c nL A D cI cJ cL cc Ts own) {off a b : Int} (tgt : Nat) (hd : decode cc pc = .ok (.ixor, 1)) (hd2 : decode cc (pc + 1) = .ok (.ifCond .ge off, 3)) (ht : ((pc + 1 : Nat) : Int) + off = (tgt : Int)) (ha : 0 ≤ a) (ha2 : a ≤ 2147483647) (hb : 0 ≤ b) (hb2 : b ≤ 2147483647) (k : Z p l e R s m args below meth c nL A D Q cells slots ws lv tgt st) : Z p l e R s m args below meth c nL A D Q cells slots ws lv pc (.int (iI b) :: .int (iI a) :: st) := by
  intro H locs ls hP hD hS hl
  refine lv_ixor C.1.1 C.1.2.1 hd ?_
  exact lv_if_ge C.1.1 C.1.2.1 hd2 ht (fun _ => k H locs ls hP hD hS hl) (fun h => absurd (zxor_pos ha ha2 hb hb2) h)
end ZXO
abbrev rmJ9_floorDiv_7cf53 : Room := { frames := 0, cells := 0, slots := 0, locals := 0 }
set_option maxHeartbeats 4000000 in
set_option maxRecDepth 100000 in
theorem c_floorDiv (l : Launch) (D : va_G) (cI cJ cL : ClassId) (a b : Int) (ha : 0 ≤ a) (ha2 : a ≤ 2147483647) (hb : 0 < b) (hb2 : b ≤ 2147483647) : CI l yJ9_floorDiv_7cf53 wsJ9_floorDiv_7cf53 rmJ9_floorDiv_7cf53 [.int (iI a), .int (iI b)] D cI cJ cL [] (fun r w' => r = a / b ∧ w' = []) := by
  refine CI.ofF (cc := cJ9_floorDiv_7cf53) (maxL := 3) (ret := (some .int)) (own := RJ9) _ 1 (by decide +kernel) rfl rfl rfl (Nat.le_of_ble_eq_true rfl) rfl (fun sz9 p9 e9 s9 m9 a9 b9 h9 c9 C hr => ?_)
  refine Z.iload_n C dJ9_floorDiv_7cf53_0 rfl ?_
  refine Z.iload_n C dJ9_floorDiv_7cf53_1 rfl ?_
  refine Z.idiv C dJ9_floorDiv_7cf53_2 (by omega) (by omega) (by omega) (by omega) ?_
  refine Z.istore_n C dJ9_floorDiv_7cf53_3 (by decide) ?_
  refine Z.iload_n C dJ9_floorDiv_7cf53_4 rfl ?_
  refine Z.iload_n C dJ9_floorDiv_7cf53_5 rfl ?_
  refine Z.ixorge C 21 dJ9_floorDiv_7cf53_6 dJ9_floorDiv_7cf53_7 (by decide) (by omega) (by omega) (by omega) (by omega) ?_
  refine Z.iload_n C dJ9_floorDiv_7cf53_21 rfl ?_
  exact Z.iret C hr dJ9_floorDiv_7cf53_22 (⟨rfl, rfl⟩)
abbrev rmJ9_floorMod_7cf53 : Room := { frames := 0, cells := 0, slots := 0, locals := 0 }
set_option maxHeartbeats 4000000 in
set_option maxRecDepth 100000 in
theorem c_floorMod (l : Launch) (D : va_G) (cI cJ cL : ClassId) (a b : Int) (ha : 0 ≤ a) (ha2 : a ≤ 2147483647) (hb : 0 < b) (hb2 : b ≤ 2147483647) : CI l yJ9_floorMod_7cf53 wsJ9_floorMod_7cf53 rmJ9_floorMod_7cf53 [.int (iI a), .int (iI b)] D cI cJ cL [] (fun r w' => r = a % b ∧ w' = []) := by
  refine CI.ofF (cc := cJ9_floorMod_7cf53) (maxL := 3) (ret := (some .int)) (own := RJ9) _ 1 (by decide +kernel) rfl rfl rfl (Nat.le_of_ble_eq_true rfl) rfl (fun sz9 p9 e9 s9 m9 a9 b9 h9 c9 C hr => ?_)
  refine Z.iload_n C dJ9_floorMod_7cf53_0 rfl ?_
  refine Z.iload_n C dJ9_floorMod_7cf53_1 rfl ?_
  refine Z.irem C dJ9_floorMod_7cf53_2 (by omega) (by omega) (by omega) (by omega) ?_
  refine Z.istore_n C dJ9_floorMod_7cf53_3 (by decide) ?_
  refine Z.iload_n C dJ9_floorMod_7cf53_4 rfl ?_
  refine Z.iload_n C dJ9_floorMod_7cf53_5 rfl ?_
  refine Z.ixorge C 18 dJ9_floorMod_7cf53_6 dJ9_floorMod_7cf53_7 (by decide) (by omega) (by omega) (by omega) (by omega) ?_
  refine Z.iload_n C dJ9_floorMod_7cf53_18 rfl ?_
  exact Z.iret C hr dJ9_floorMod_7cf53_19 (⟨rfl, rfl⟩)
