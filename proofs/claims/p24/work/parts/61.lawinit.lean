/-! ===== the law's start: the half breadths told ===== -/
theorem zb (c9 : Int) (h : 0 ≤ c9) (j : Int) : 0 ≤ zz j ∧ zz j ≤ c9 := ⟨Int.le_refl 0, h⟩
theorem rel_start : RelS (fun _ => zz) (fun _ => zz) zz zz zz zz (zset zz 16 4) zz zz zz zz 0 0 4 1000 0 0 0 0 0 1000 0 0 0 0 := by
  have z0 : ∀ j : Int, 0 ≤ zz j ∧ zz j ≤ 9999 := zb 9999 (by decide)
  have z1 : ∀ j : Int, 0 ≤ zz j ∧ zz j ≤ 99 := zb 99 (by decide)
  exact ⟨fun _ _ _ _ _ _ => rfl, fun _ j => zb 200 (by decide) j, fun _ => rfl, by decide, by decide, rfl, fun j h1 h2 => by omega, fun _ _ _ => rfl, rfl, rfl, fun j => ⟨(zb 999 (by decide) j).1, (zb 999 (by decide) j).2, (zb 8 (by decide) j).1, (zb 8 (by decide) j).2⟩, by decide, by decide, by decide, by decide, rfl, by decide, by decide, rfl, by decide, by decide, fun j h1 h2 => by omega, fun i j h1 h2 _ _ _ => by omega, z0, z0, z1, z1, rfl, by decide, by decide, rfl, by decide, by decide, rfl, Or.inl rfl⟩
def RelI (M : Int → Int → Int) (hf : Int → Int) : Prop := RelA M (fun _ => zz) hf zz zz zz (zset zz 16 4) zz zz zz zz (zset zz 1 1000) 0 0 4 1000 0 0 0 0
theorem relI_0 : RelI (fun _ => zz) zz := ⟨rel_start, by decide⟩
theorem relI_set {M : Int → Int → Int} {hf : Int → Int} (rr : RelI M hf) {w k y : Int} (w0 : 0 ≤ w) (w1 : w ≤ 5) (k0 : 0 ≤ k) (k1 : k ≤ 8) (y0 : 0 ≤ y) (y1 : y ≤ 200) : RelI (zrow M w (zset (M w) k y)) (zset hf (9 * w + k) y) :=
  ⟨⟨RH_set rr.1.rh y w0 w1 k0 k1, hOK_set rr.1.hM y0 y1, rr.1.hB, rr.1.c0, rr.1.c1, rr.1.en, rr.1.wa, rr.1.w0, rr.1.gb, rr.1.ab, rr.1.wk, rr.1.b0, rr.1.b1, rr.1.s0, rr.1.s1, rr.1.el, rr.1.p0, rr.1.p1, rr.1.et, rr.1.t0, rr.1.t1, rr.1.ta, rr.1.hu, rr.1.td0, rr.1.dy0, rr.1.th0, rr.1.ti0, rr.1.es, rr.1.l0, rr.1.l1, rr.1.ed, rr.1.d0, rr.1.d1, rr.1.ei, rr.1.i0⟩, rr.2⟩
def wI (ad aq : Nat → Nat) (cI cJ : ClassId) (M : Int → Int → Int) (hf : Int → Int) : va_W := wA aq cI hf (zset zz 16 4) zz zz zz (zset zz 1 1000) ++ wX ad cI cJ M (fun _ => zz) zz zz zz zz zz zz zz zz zz zz zz zz zz 0 0 4 1000 0 0 0 0 0
def zeP (M : Int → Int → Int) (w k : Nat) : Prop := ∀ i j : Int, 0 ≤ i → i ≤ 5 → 0 ≤ j → j ≤ 8 → (w : Int) * 9 + k ≤ i * 9 + j → M i j = 0
section INIT
variable {p : Program} {l : Launch} {e : Env} {s : State} {m : MethodId} {args : Array Value} {below : List Frame} {meth : Method} {c : Code} {A : Nat → Prop} {D : va_G} {Q : State → Prop} {cI cJ cL : ClassId} {b L : Nat} {xs : Nat → Int32} {ad aq : Nat → Nat}
set_option maxHeartbeats 4000000 in
set_option maxRecDepth 100000 in
theorem law_init (C : Cx p s m args meth c 30 A D cI cJ cL cL_law wsL_law RL) (hl0 : l.stackTraces = false) (hX : va_X b L xs s s.heap) (hbl : b < s.heap.size) (hbA : ¬ A b) (hL : L ≤ 2048)
    (knext : ∀ (M : Int → Int → Int) (hf : Int → Int), RelI M hf → Z p l e room_1 s m args below meth c 30 A D Q 300 2200 (wI ad aq cI cJ M hf) [.ref b, .ref (ad 0), .ref (aq 0), .ref (aq 1), .ref (aq 2), .ref (aq 3), .ref (aq 4), .ref (aq 5), .int (iI 0), .null, .null, .null, .null, .null, .null, .null, .null, .null, .null, .null, .null, .null, .null, .null, .null, .null, .null, .null, .null, .null] 171 []) : Z p l e room_1 s m args below meth c 30 A D Q 42 804 (wI ad aq cI cJ (fun _ => zz) zz) [.ref b, .ref (ad 0), .ref (aq 0), .ref (aq 1), .ref (aq 2), .ref (aq 3), .ref (aq 4), .ref (aq 5), .int (iI 0), .null, .null, .null, .null, .null, .null, .null, .null, .null, .null, .null, .null, .null, .null, .null, .null, .null, .null, .null, .null, .null] 57 [] := by
  refine Z.loopC (α := Nat × (Int → Int → Int) × (Int → Int)) (fun y => wI ad aq cI cJ y.2.1 y.2.2) (fun y => [.ref b, .ref (ad 0), .ref (aq 0), .ref (aq 1), .ref (aq 2), .ref (aq 3), .ref (aq 4), .ref (aq 5), .int (iI y.1), .null, .null, .null, .null, .null, .null, .null, .null, .null, .null, .null, .null, .null, .null, .null, .null, .null, .null, .null, .null, .null]) (fun y => y.1 ≤ 6 ∧ RelI y.2.1 y.2.2 ∧ zeP y.2.1 y.1 0) (fun y => 6 - y.1) (fun y => 42 + 36 * y.1) (fun y => 804 + 216 * y.1) (0, (fun _ => zz), zz) ⟨Nat.zero_le _, relI_0, fun i j _ _ _ _ _ => rfl⟩ rfl rfl (Nat.le_refl _) (Nat.le_refl _) (fun y hy ih => ?_)
  obtain ⟨w, M, hf⟩ := y
  dsimp only at hy ih ⊢
  obtain ⟨hw, rr, hz⟩ := hy
  refine Z.iload C dL_law_57 rfl ?_
  refine Z.bipush C dL_law_59 (by decide) ?_
  refine Z.icmpge C 168 dL_law_61 (by decide) (⟨by omega, by omega⟩) (⟨by omega, by omega⟩) (fun h => ?_) (fun h => ?_)
  · have e6 : w = 6 := by omega
    subst e6
    refine Z.iconst C dL_law_168 ?_
    refine Z.istore C dL_law_169 (by decide) ?_
    exact Z.widen (by omega) (by omega) (knext M hf rr)
  · skip
    refine Z.iconst C dL_law_64 ?_
    refine Z.istore C dL_law_65 (by decide) ?_
    refine Z.loopC (α := Nat × (Int → Int → Int) × (Int → Int)) (fun y => wI ad aq cI cJ y.2.1 y.2.2) (fun y => [.ref b, .ref (ad 0), .ref (aq 0), .ref (aq 1), .ref (aq 2), .ref (aq 3), .ref (aq 4), .ref (aq 5), .int (iI w), .int (iI y.1), .null, .null, .null, .null, .null, .null, .null, .null, .null, .null, .null, .null, .null, .null, .null, .null, .null, .null, .null, .null]) (fun y => y.1 ≤ 9 ∧ RelI y.2.1 y.2.2 ∧ zeP y.2.1 w y.1) (fun y => 9 - y.1) (fun y => 42 + 36 * w + 4 * y.1) (fun y => 804 + 216 * w + 24 * y.1) (0, M, hf) ⟨Nat.zero_le _, rr, hz⟩ rfl rfl (Nat.le_refl _) (Nat.le_refl _) (fun y hy ih2 => ?_)
    clear rr hz
    obtain ⟨k, M, hf⟩ := y
    dsimp only at hy ih2 ⊢
    obtain ⟨hk, rr, hz⟩ := hy
    refine Z.iload C dL_law_67 rfl ?_
    refine Z.bipush C dL_law_69 (by decide) ?_
    refine Z.icmpge C 162 dL_law_71 (by decide) (⟨by omega, by omega⟩) (⟨by omega, by omega⟩) (fun h2 => ?_) (fun h2 => ?_)
    · have e9 : k = 9 := by omega
      subst e9
      refine Z.iinc C dL_law_162 rfl (by decide) ?_
      refine Z.goto C 57 dL_law_165 (by decide) ?_
      refine Z.pick 9 rfl ?_
      rw [show (w : Int) + 1 = ((w + 1 : Nat) : Int) by omega]
      refine Z.widen (k := 42 + 36 * (w + 1)) (n := 804 + 216 * (w + 1)) (by omega) (by omega) ?_
      exact ih (w + 1, M, hf) ⟨by dsimp only; omega, rr, fun i j i0 i1 j0 j1 hij => hz i j i0 i1 j0 j1 (by push_cast at hij ⊢; omega)⟩ (by dsimp only; omega)
    · skip
      refine Z.aload_n C dL_law_74 rfl ?_
      refine Z.bipush C dL_law_75 (by decide) ?_
      refine Z.iload C dL_law_77 rfl ?_
      refine Z.imul C dL_law_79 ?_
      refine Z.iload C dL_law_80 rfl ?_
      refine Z.iadd C dL_law_82 ?_
      refine Z.cSs C hX hbl hbA 2 (q_cell l D cI cJ cL b L xs hL (9 * (w : Int) + k) (by omega) (by omega)) gL_law_L_cell rfl rfl rfl (by decide +kernel) ⟨Nat.le_of_ble_eq_true rfl, Nat.le_of_ble_eq_true rfl⟩ rfl rfl (Nat.le_of_ble_eq_true rfl) ⟨by show _ ≤ 600130; omega, by show _ ≤ 7301080; omega⟩ dL_law_83 (fun v hv => ?_)
      refine Z.istore C dL_law_86 (by decide) ?_
      refine Z.aload_n C dL_law_88 rfl ?_
      refine Z.bipush C dL_law_89 (by decide) ?_
      refine Z.iload C dL_law_91 rfl ?_
      refine Z.imul C dL_law_93 ?_
      refine Z.iload C dL_law_94 rfl ?_
      refine Z.iadd C dL_law_96 ?_
      refine Z.iconst C dL_law_97 ?_
      refine Z.iload C dL_law_98 rfl ?_
      refine Z.imul C dL_law_100 ?_
      refine Z.iload C dL_law_101 rfl ?_
      refine Z.iconst C dL_law_103 ?_
      refine Z.cut (α := Int) 123 (fun _ => wI ad aq cI cJ M hf) (fun _ => [.ref b, .ref (ad 0), .ref (aq 0), .ref (aq 1), .ref (aq 2), .ref (aq 3), .ref (aq 4), .ref (aq 5), .int (iI w), .int (iI k), .int (iI v), .null, .null, .null, .null, .null, .null, .null, .null, .null, .null, .null, .null, .null, .null, .null, .null, .null, .null, .null]) (fun z => [.int (iI z), .int (iI (5 * (w : Int))), .int (iI (9 * (w : Int) + k)), .ref (aq 0)]) (fun z => 0 ≤ z ∧ z ≤ 48) (fun z hz2 => ?_) (fun join => ?_)
      · skip
        have hlo := lowZ_bd v (n := 9) (by decide)
        refine Z.iadd C dL_law_123 ?_
        refine Z.iload C dL_law_124 rfl ?_
        refine Z.bipush C dL_law_126 (by decide) ?_
        refine Z.cSIp C 2 (q_low l D cI cJ cL v 9 (by decide) (by decide)) gL_law_L_low rfl rfl rfl (by decide +kernel) ⟨Nat.le_of_ble_eq_true rfl, Nat.le_of_ble_eq_true rfl⟩ rfl rfl (Nat.le_of_ble_eq_true rfl) ⟨by show _ ≤ 600130; omega, by show _ ≤ 7301080; omega⟩ dL_law_128 ?_
        generalize lowZ v 9 = lo9 at hlo
        generalize hy9 : 5 * (w : Int) + z + lo9 = y9
        unfold wI
        refine Z.iadd C dL_law_131 ?_
        rw [hy9]
        refine Z.iast C 0 rfl (by omega) (by omega) (by decide) dL_law_132 wL_a0 ?_
        refine Z.aload_n C dL_law_133 rfl ?_
        refine Z.iload C dL_law_134 rfl ?_
        refine Z.iload C dL_law_136 rfl ?_
        refine Z.aload_n C dL_law_138 rfl ?_
        refine Z.bipush C dL_law_139 (by decide) ?_
        refine Z.iload C dL_law_141 rfl ?_
        refine Z.imul C dL_law_143 ?_
        refine Z.iload C dL_law_144 rfl ?_
        refine Z.iadd C dL_law_146 ?_
        refine Z.iald C 0 rfl (by omega) (by omega) (by decide) dL_law_147 ?_
        rw [zset_eq]
        refine Z.xSXIf (wr := wA aq cI (zset hf (9 * (w : Int) + k) y9) (zset zz 16 4) zz zz zz (zset zz 1 1000)) C 4 (h_offset l D cI cJ cL ad M (fun _ => zz) zz zz zz zz zz zz zz zz zz zz zz zz zz 0 0 4 1000 0 0 0 0 0 hl0 (Or.inl rfl) k w y9 ⟨by omega, by omega⟩ ⟨by omega, by omega⟩ ⟨by omega, by omega⟩) gL_law_L_offset rfl rfl rfl (by decide +kernel) ⟨Nat.le_of_ble_eq_true rfl, Nat.le_of_ble_eq_true rfl⟩ rfl rfl (Nat.le_of_ble_eq_true rfl) ⟨by show _ ≤ 600130; omega, by show _ ≤ 7301080; omega⟩ dL_law_148 (fun r w9 h3 => ?_) (fun _ _ z => z.elim)
        have htc : tcOffset k w y9 0 = 0 := by
          unfold tcOffset
          rw [if_neg (by omega), if_neg (by omega), if_neg (by omega)]
        obtain ⟨-, rfl, rfl⟩ := hq_det h3 (fun E z => by
          rcases z.2 with ⟨-, q⟩ | ⟨-, q⟩ | ⟨-, q⟩ <;> omega)
        have hm0 : M w k = 0 := hz w k (by omega) (by omega) (by omega) (by omega) (Int.le_refl _)
        rw [hm0]
        refine Z.ifeq C 156 dL_law_151 (by decide) (⟨by decide, by decide⟩) (fun h4 => ?_) (fun h4 => ?_)
        · skip
          refine Z.iinc C dL_law_156 rfl (by decide) ?_
          refine Z.goto C 67 dL_law_159 (by decide) ?_
          refine Z.pick 10 rfl ?_
          rw [show (k : Int) + 1 = ((k + 1 : Nat) : Int) by omega]
          refine Z.widen (k := 42 + 36 * w + 4 * (k + 1)) (n := 804 + 216 * w + 24 * (k + 1)) (by omega) (by omega) ?_
          refine ih2 (k + 1, zrow M w (zset (M w) k y9), zset hf (9 * (w : Int) + k) y9) ⟨by dsimp only; omega, relI_set rr (by omega) (by omega) (by omega) (by omega) (by omega) (by omega), fun i j i0 i1 j0 j1 hij => ?_⟩ (by dsimp only; omega)
          dsimp only at hij ⊢
          by_cases e1 : i = w
          · subst e1
            rw [zrow_eq, zset_ne _ (by omega)]
            exact hz _ j i0 i1 j0 j1 (by omega)
          · rw [zrow_ne _ _ e1]
            exact hz i j i0 i1 j0 j1 (by omega)
        · exact absurd rfl h4
      · skip
        refine Z.icmpge C 115 dL_law_104 (by decide) (⟨by omega, by omega⟩) (⟨by omega, by omega⟩) (fun h5 => ?_) (fun h5 => ?_)
        · skip
          refine Z.bipush C dL_law_115 (by decide) ?_
          refine Z.bipush C dL_law_117 (by decide) ?_
          refine Z.iload C dL_law_119 rfl ?_
          refine Z.imul C dL_law_121 ?_
          refine Z.isub C dL_law_122 ?_
          exact join _ ⟨by omega, by omega⟩
        · skip
          refine Z.bipush C dL_law_107 (by decide) ?_
          refine Z.iload C dL_law_109 rfl ?_
          refine Z.imul C dL_law_111 ?_
          refine Z.goto C 123 dL_law_112 (by decide) ?_
          exact join _ ⟨by omega, by omega⟩
end INIT
