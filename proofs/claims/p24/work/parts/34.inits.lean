/-! ===== constructors ===== -/
def adL (L : List Nat) : Nat → Nat := fun j => L.getD j 0
abbrev zz : Int → Int := fun _ => 0
section ZEQ
variable {p : Program} {l : Launch} {e : Env} {R : Room} {s : State} {m : MethodId} {args : Array Value} {below : List Frame} {meth : Method} {c : Code} {nL : Nat} {A : Nat → Prop} {D : va_G} {Q : State → Prop} {cells slots : Nat} {ws ws' : va_W} {lv : List Value} {pc : Nat} {st : List Value}
theorem Z.eqw (h : ws = ws') (k : Z p l e R s m args below meth c nL A D Q cells slots ws' lv pc st) : Z p l e R s m args below meth c nL A D Q cells slots ws lv pc st := by rw [h]; exact k
end ZEQ
set_option maxRecDepth 20000 in
set_option maxRecDepth 20000 in
theorem iw_X4_init_4 : ∀ w ∈ u_ws RX4 TX4 1, w ∈ wsX4_init := by decide +kernel
abbrev rmX4_init : Room := { frames := 1, cells := 7, slots := 60, locals := 21 }
set_option maxHeartbeats 1000000 in
set_option maxRecDepth 100000 in
theorem c_X4_init (l : Launch) (D : va_G) (cI cJ cL : ClassId) (a : Nat) : GV l yX4_init wsX4_init rmX4_init [.ref a] D cI cJ cL [(a, .inr (4, [.null]))] 7 60 (fun w' => ∃ (q : Nat) (r : Nat → Nat), w' = [(a, .inr (4, [.ref q])), (q, aR cJ 6 r), (r 0, aI cI 9 zz), (r 1, aI cI 9 zz), (r 2, aI cI 9 zz), (r 3, aI cI 9 zz), (r 4, aI cI 9 zz), (r 5, aI cI 9 zz)]) := by
  refine GV.of (cc := cX4_init) (maxL := 1) (own := RX4) _ 0 (by decide +kernel) rfl rfl rfl (Nat.le_of_ble_eq_true rfl) rfl (fun sz9 p9 e9 s9 m9 a9 b9 h9 c9 C hr hnm hAO => ?_)
  refine Z.aload_n C dX4_init_0 rfl ?_
  refine Z.oinit C (by decide +kernel) (by decide +kernel) (by decide +kernel) (Nat.le_of_ble_eq_true rfl) (Nat.le_of_ble_eq_true rfl) dX4_init_1 ?_
  refine Z.aload_n C dX4_init_4 rfl ?_
  refine Z.bipush C dX4_init_5 (by decide) ?_
  refine Z.bipush C dX4_init_7 (by decide) ?_
  refine Z.mna C hAO (by decide +kernel) (by decide +kernel) 6 9 rfl rfl (Nat.le_of_ble_eq_true rfl) (Nat.le_of_ble_eq_true rfl) (Nat.le_of_ble_eq_true rfl) (Nat.le_of_ble_eq_true rfl) dX4_init_9 (fun q9 r9 => ?_)
  refine Z.eqw (ws' := [(a, .inr (4, [.null])), (q9, aR cJ 6 r9), (r9 0, aI cI 9 zz), (r9 1, aI cI 9 zz), (r9 2, aI cI 9 zz), (r9 3, aI cI 9 zz), (r9 4, aI cI 9 zz), (r9 5, aI cI 9 zz)]) rfl ?_
  refine Z.putfF C (ws' := [(a, .inr (4, [.ref q9])), (q9, aR cJ 6 r9), (r9 0, aI cI 9 zz), (r9 1, aI cI 9 zz), (r9 2, aI cI 9 zz), (r9 3, aI cI 9 zz), (r9 4, aI cI 9 zz), (r9 5, aI cI 9 zz)]) 0 0 iw_X4_init_4 rfl rfl (by decide) tyX4 tyX4_ok nmX4 (by decide +kernel) rfl hnm rfl (ty := .array (.array .int)) (by decide +kernel) rfl rfl (Nat.le_of_ble_eq_true rfl) dX4_init_13 rfl ?_
  exact Z.retG C hr (Nat.le_of_ble_eq_true rfl) (Nat.le_of_ble_eq_true rfl) dX4_init_16 ⟨q9, r9, rfl⟩
set_option maxRecDepth 20000 in
set_option maxRecDepth 20000 in
theorem iw_X1_init_1 : ∀ w ∈ u_ws RX1 TX1 3, w ∈ wsX1_init := by decide +kernel
abbrev rmX1_init : Room := { frames := 1, cells := 11, slots := 226, locals := 21 }
set_option maxHeartbeats 1000000 in
set_option maxRecDepth 100000 in
theorem c_X1_init (l : Launch) (D : va_G) (cI cJ cL : ClassId) (a : Nat) : GV l yX1_init wsX1_init rmX1_init [.ref a] D cI cJ cL [(a, .inr (1, [.null, .null, .null]))] 11 226 (fun w' => ∃ (q q1 q2 : Nat) (r : Nat → Nat), w' = [(a, .inr (1, [.ref q, .ref q1, .ref q2])), (q, aR cJ 8 r), (r 0, aI cI 25 zz), (r 1, aI cI 25 zz), (r 2, aI cI 25 zz), (r 3, aI cI 25 zz), (r 4, aI cI 25 zz), (r 5, aI cI 25 zz), (r 6, aI cI 25 zz), (r 7, aI cI 25 zz), (q1, aI cI 9 zz), (q2, aI cI 9 zz)]) := by
  refine GV.of (cc := cX1_init) (maxL := 1) (own := RX1) _ 0 (by decide +kernel) rfl rfl rfl (Nat.le_of_ble_eq_true rfl) rfl (fun sz9 p9 e9 s9 m9 a9 b9 h9 c9 C hr hnm hAO => ?_)
  refine Z.aload_n C dX1_init_0 rfl ?_
  refine Z.oinit C (by decide +kernel) (by decide +kernel) (by decide +kernel) (Nat.le_of_ble_eq_true rfl) (Nat.le_of_ble_eq_true rfl) dX1_init_1 ?_
  refine Z.aload_n C dX1_init_4 rfl ?_
  refine Z.bipush C dX1_init_5 (by decide) ?_
  refine Z.bipush C dX1_init_7 (by decide) ?_
  refine Z.mna C hAO (by decide +kernel) (by decide +kernel) 8 25 rfl rfl (Nat.le_of_ble_eq_true rfl) (Nat.le_of_ble_eq_true rfl) (Nat.le_of_ble_eq_true rfl) (Nat.le_of_ble_eq_true rfl) dX1_init_9 (fun q9 r9 => ?_)
  refine Z.eqw (ws' := [(a, .inr (1, [.null, .null, .null])), (q9, aR cJ 8 r9), (r9 0, aI cI 25 zz), (r9 1, aI cI 25 zz), (r9 2, aI cI 25 zz), (r9 3, aI cI 25 zz), (r9 4, aI cI 25 zz), (r9 5, aI cI 25 zz), (r9 6, aI cI 25 zz), (r9 7, aI cI 25 zz)]) rfl ?_
  refine Z.putfF C (ws' := [(a, .inr (1, [.ref q9, .null, .null])), (q9, aR cJ 8 r9), (r9 0, aI cI 25 zz), (r9 1, aI cI 25 zz), (r9 2, aI cI 25 zz), (r9 3, aI cI 25 zz), (r9 4, aI cI 25 zz), (r9 5, aI cI 25 zz), (r9 6, aI cI 25 zz), (r9 7, aI cI 25 zz)]) 0 0 iw_X1_init_1 rfl rfl (by decide) tyX1 tyX1_ok nmX1 (by decide +kernel) rfl hnm rfl (ty := .array (.array .int)) (by decide +kernel) rfl rfl (Nat.le_of_ble_eq_true rfl) dX1_init_13 rfl ?_
  refine Z.aload_n C dX1_init_16 rfl ?_
  refine Z.bipush C dX1_init_17 (by decide) ?_
  refine Z.newa C (by decide +kernel) 9 rfl (Nat.le_of_ble_eq_true rfl) (Nat.le_of_ble_eq_true rfl) (Nat.le_of_ble_eq_true rfl) dX1_init_19 (fun q19 => ?_)
  refine Z.eqw (ws' := [(a, .inr (1, [.ref q9, .null, .null])), (q9, aR cJ 8 r9), (r9 0, aI cI 25 zz), (r9 1, aI cI 25 zz), (r9 2, aI cI 25 zz), (r9 3, aI cI 25 zz), (r9 4, aI cI 25 zz), (r9 5, aI cI 25 zz), (r9 6, aI cI 25 zz), (r9 7, aI cI 25 zz), (q19, aI cI 9 zz)]) rfl ?_
  refine Z.putfF C (ws' := [(a, .inr (1, [.ref q9, .ref q19, .null])), (q9, aR cJ 8 r9), (r9 0, aI cI 25 zz), (r9 1, aI cI 25 zz), (r9 2, aI cI 25 zz), (r9 3, aI cI 25 zz), (r9 4, aI cI 25 zz), (r9 5, aI cI 25 zz), (r9 6, aI cI 25 zz), (r9 7, aI cI 25 zz), (q19, aI cI 9 zz)]) 0 1 iw_X1_init_1 rfl rfl (by decide) tyX1 tyX1_ok nmX1 (by decide +kernel) rfl hnm rfl (ty := .array .int) (by decide +kernel) rfl rfl (Nat.le_of_ble_eq_true rfl) dX1_init_21 rfl ?_
  refine Z.aload_n C dX1_init_24 rfl ?_
  refine Z.bipush C dX1_init_25 (by decide) ?_
  refine Z.newa C (by decide +kernel) 9 rfl (Nat.le_of_ble_eq_true rfl) (Nat.le_of_ble_eq_true rfl) (Nat.le_of_ble_eq_true rfl) dX1_init_27 (fun q27 => ?_)
  refine Z.eqw (ws' := [(a, .inr (1, [.ref q9, .ref q19, .null])), (q9, aR cJ 8 r9), (r9 0, aI cI 25 zz), (r9 1, aI cI 25 zz), (r9 2, aI cI 25 zz), (r9 3, aI cI 25 zz), (r9 4, aI cI 25 zz), (r9 5, aI cI 25 zz), (r9 6, aI cI 25 zz), (r9 7, aI cI 25 zz), (q19, aI cI 9 zz), (q27, aI cI 9 zz)]) rfl ?_
  refine Z.putfF C (ws' := [(a, .inr (1, [.ref q9, .ref q19, .ref q27])), (q9, aR cJ 8 r9), (r9 0, aI cI 25 zz), (r9 1, aI cI 25 zz), (r9 2, aI cI 25 zz), (r9 3, aI cI 25 zz), (r9 4, aI cI 25 zz), (r9 5, aI cI 25 zz), (r9 6, aI cI 25 zz), (r9 7, aI cI 25 zz), (q19, aI cI 9 zz), (q27, aI cI 9 zz)]) 0 2 iw_X1_init_1 rfl rfl (by decide) tyX1 tyX1_ok nmX1 (by decide +kernel) rfl hnm rfl (ty := .array .int) (by decide +kernel) rfl rfl (Nat.le_of_ble_eq_true rfl) dX1_init_29 rfl ?_
  exact Z.retG C hr (Nat.le_of_ble_eq_true rfl) (Nat.le_of_ble_eq_true rfl) dX1_init_32 ⟨q9, q19, q27, r9, rfl⟩
set_option maxRecDepth 20000 in
set_option maxRecDepth 20000 in
theorem iw_X3_init_3 : ∀ w ∈ u_ws RX3 TX3 5, w ∈ wsX3_init := by decide +kernel
abbrev rmX3_init : Room := { frames := 1, cells := 2, slots := 32, locals := 21 }
set_option maxHeartbeats 1000000 in
set_option maxRecDepth 100000 in
theorem c_X3_init (l : Launch) (D : va_G) (cI cJ cL : ClassId) (a : Nat) : GV l yX3_init wsX3_init rmX3_init [.ref a] D cI cJ cL [(a, .inr (3, [.null, .null, .int (iI 0), .int (iI 0), .int (iI 0)]))] 2 32 (fun w' => ∃ (q q1 : Nat), w' = [(a, .inr (3, [.ref q, .ref q1, .int (iI 0), .int (iI 0), .int (iI 4)])), (q, aI cI 16 zz), (q1, aI cI 16 zz)]) := by
  refine GV.of (cc := cX3_init) (maxL := 1) (own := RX3) _ 0 (by decide +kernel) rfl rfl rfl (Nat.le_of_ble_eq_true rfl) rfl (fun sz9 p9 e9 s9 m9 a9 b9 h9 c9 C hr hnm hAO => ?_)
  refine Z.aload_n C dX3_init_0 rfl ?_
  refine Z.oinit C (by decide +kernel) (by decide +kernel) (by decide +kernel) (Nat.le_of_ble_eq_true rfl) (Nat.le_of_ble_eq_true rfl) dX3_init_1 ?_
  refine Z.aload_n C dX3_init_4 rfl ?_
  refine Z.bipush C dX3_init_5 (by decide) ?_
  refine Z.newa C (by decide +kernel) 16 rfl (Nat.le_of_ble_eq_true rfl) (Nat.le_of_ble_eq_true rfl) (Nat.le_of_ble_eq_true rfl) dX3_init_7 (fun q7 => ?_)
  refine Z.eqw (ws' := [(a, .inr (3, [.null, .null, .int (iI 0), .int (iI 0), .int (iI 0)])), (q7, aI cI 16 zz)]) rfl ?_
  refine Z.putfF C (ws' := [(a, .inr (3, [.ref q7, .null, .int (iI 0), .int (iI 0), .int (iI 0)])), (q7, aI cI 16 zz)]) 0 0 iw_X3_init_3 rfl rfl (by decide) tyX3 tyX3_ok nmX3 (by decide +kernel) rfl hnm rfl (ty := .array .int) (by decide +kernel) rfl rfl (Nat.le_of_ble_eq_true rfl) dX3_init_9 rfl ?_
  refine Z.aload_n C dX3_init_12 rfl ?_
  refine Z.bipush C dX3_init_13 (by decide) ?_
  refine Z.newa C (by decide +kernel) 16 rfl (Nat.le_of_ble_eq_true rfl) (Nat.le_of_ble_eq_true rfl) (Nat.le_of_ble_eq_true rfl) dX3_init_15 (fun q15 => ?_)
  refine Z.eqw (ws' := [(a, .inr (3, [.ref q7, .null, .int (iI 0), .int (iI 0), .int (iI 0)])), (q7, aI cI 16 zz), (q15, aI cI 16 zz)]) rfl ?_
  refine Z.putfF C (ws' := [(a, .inr (3, [.ref q7, .ref q15, .int (iI 0), .int (iI 0), .int (iI 0)])), (q7, aI cI 16 zz), (q15, aI cI 16 zz)]) 0 1 iw_X3_init_3 rfl rfl (by decide) tyX3 tyX3_ok nmX3 (by decide +kernel) rfl hnm rfl (ty := .array .int) (by decide +kernel) rfl rfl (Nat.le_of_ble_eq_true rfl) dX3_init_17 rfl ?_
  refine Z.aload_n C dX3_init_20 rfl ?_
  refine Z.iconst C dX3_init_21 ?_
  refine Z.putf C (ws' := [(a, .inr (3, [.ref q7, .ref q15, .int (iI 0), .int (iI 0), .int (iI 0)])), (q7, aI cI 16 zz), (q15, aI cI 16 zz)]) 0 2 iw_X3_init_3 rfl rfl (by decide) tyX3 tyX3_ok nmX3 (by decide +kernel) rfl (ty := .int) (by decide +kernel) rfl rfl (Nat.le_of_ble_eq_true rfl) dX3_init_22 rfl ?_
  refine Z.aload_n C dX3_init_25 rfl ?_
  refine Z.iconst C dX3_init_26 ?_
  refine Z.putf C (ws' := [(a, .inr (3, [.ref q7, .ref q15, .int (iI 0), .int (iI 0), .int (iI 0)])), (q7, aI cI 16 zz), (q15, aI cI 16 zz)]) 0 3 iw_X3_init_3 rfl rfl (by decide) tyX3 tyX3_ok nmX3 (by decide +kernel) rfl (ty := .int) (by decide +kernel) rfl rfl (Nat.le_of_ble_eq_true rfl) dX3_init_27 rfl ?_
  refine Z.aload_n C dX3_init_30 rfl ?_
  refine Z.iconst C dX3_init_31 ?_
  refine Z.putf C (ws' := [(a, .inr (3, [.ref q7, .ref q15, .int (iI 0), .int (iI 0), .int (iI 4)])), (q7, aI cI 16 zz), (q15, aI cI 16 zz)]) 0 4 iw_X3_init_3 rfl rfl (by decide) tyX3 tyX3_ok nmX3 (by decide +kernel) rfl (ty := .int) (by decide +kernel) rfl rfl (Nat.le_of_ble_eq_true rfl) dX3_init_32 rfl ?_
  exact Z.retG C hr (Nat.le_of_ble_eq_true rfl) (Nat.le_of_ble_eq_true rfl) dX3_init_35 ⟨q7, q15, rfl⟩
set_option maxRecDepth 20000 in
set_option maxRecDepth 20000 in
theorem iw_X2_init_2 : ∀ w ∈ u_ws RX2 TX2 2, w ∈ wsX2_init := by decide +kernel
abbrev rmX2_init : Room := { frames := 1, cells := 2, slots := 12, locals := 21 }
set_option maxHeartbeats 1000000 in
set_option maxRecDepth 100000 in
theorem c_X2_init (l : Launch) (D : va_G) (cI cJ cL : ClassId) (a : Nat) : GV l yX2_init wsX2_init rmX2_init [.ref a] D cI cJ cL [(a, .inr (2, [.null, .null]))] 2 12 (fun w' => ∃ (q q1 : Nat), w' = [(a, .inr (2, [.ref q, .ref q1])), (q, aI cI 6 zz), (q1, aI cI 6 zz)]) := by
  refine GV.of (cc := cX2_init) (maxL := 1) (own := RX2) _ 0 (by decide +kernel) rfl rfl rfl (Nat.le_of_ble_eq_true rfl) rfl (fun sz9 p9 e9 s9 m9 a9 b9 h9 c9 C hr hnm hAO => ?_)
  refine Z.aload_n C dX2_init_0 rfl ?_
  refine Z.oinit C (by decide +kernel) (by decide +kernel) (by decide +kernel) (Nat.le_of_ble_eq_true rfl) (Nat.le_of_ble_eq_true rfl) dX2_init_1 ?_
  refine Z.aload_n C dX2_init_4 rfl ?_
  refine Z.bipush C dX2_init_5 (by decide) ?_
  refine Z.newa C (by decide +kernel) 6 rfl (Nat.le_of_ble_eq_true rfl) (Nat.le_of_ble_eq_true rfl) (Nat.le_of_ble_eq_true rfl) dX2_init_7 (fun q7 => ?_)
  refine Z.eqw (ws' := [(a, .inr (2, [.null, .null])), (q7, aI cI 6 zz)]) rfl ?_
  refine Z.putfF C (ws' := [(a, .inr (2, [.ref q7, .null])), (q7, aI cI 6 zz)]) 0 0 iw_X2_init_2 rfl rfl (by decide) tyX2 tyX2_ok nmX2 (by decide +kernel) rfl hnm rfl (ty := .array .int) (by decide +kernel) rfl rfl (Nat.le_of_ble_eq_true rfl) dX2_init_9 rfl ?_
  refine Z.aload_n C dX2_init_12 rfl ?_
  refine Z.bipush C dX2_init_13 (by decide) ?_
  refine Z.newa C (by decide +kernel) 6 rfl (Nat.le_of_ble_eq_true rfl) (Nat.le_of_ble_eq_true rfl) (Nat.le_of_ble_eq_true rfl) dX2_init_15 (fun q15 => ?_)
  refine Z.eqw (ws' := [(a, .inr (2, [.ref q7, .null])), (q7, aI cI 6 zz), (q15, aI cI 6 zz)]) rfl ?_
  refine Z.putfF C (ws' := [(a, .inr (2, [.ref q7, .ref q15])), (q7, aI cI 6 zz), (q15, aI cI 6 zz)]) 0 1 iw_X2_init_2 rfl rfl (by decide) tyX2 tyX2_ok nmX2 (by decide +kernel) rfl hnm rfl (ty := .array .int) (by decide +kernel) rfl rfl (Nat.le_of_ble_eq_true rfl) dX2_init_17 rfl ?_
  exact Z.retG C hr (Nat.le_of_ble_eq_true rfl) (Nat.le_of_ble_eq_true rfl) dX2_init_20 ⟨q7, q15, rfl⟩
set_option maxRecDepth 20000 in
set_option maxRecDepth 20000 in
theorem iw_X5_init_5 : ∀ w ∈ u_ws RX5 TX5 7, w ∈ wsX5_init := by decide +kernel
abbrev rmX5_init : Room := { frames := 1, cells := 5, slots := 190, locals := 21 }
set_option maxHeartbeats 1000000 in
set_option maxRecDepth 100000 in
theorem c_X5_init (l : Launch) (D : va_G) (cI cJ cL : ClassId) (a : Nat) : GV l yX5_init wsX5_init rmX5_init [.ref a] D cI cJ cL [(a, .inr (5, [.null, .null, .null, .null, .null, .int (iI 0), .int (iI 0)]))] 5 190 (fun w' => ∃ (q q1 q2 q3 q4 : Nat), w' = [(a, .inr (5, [.ref q, .ref q1, .ref q2, .ref q3, .ref q4, .int (iI 1000), .int (iI 0)])), (q, aI cI 170 zz), (q1, aI cI 5 zz), (q2, aI cI 5 zz), (q3, aI cI 5 zz), (q4, aI cI 5 zz)]) := by
  refine GV.of (cc := cX5_init) (maxL := 1) (own := RX5) _ 0 (by decide +kernel) rfl rfl rfl (Nat.le_of_ble_eq_true rfl) rfl (fun sz9 p9 e9 s9 m9 a9 b9 h9 c9 C hr hnm hAO => ?_)
  refine Z.aload_n C dX5_init_0 rfl ?_
  refine Z.oinit C (by decide +kernel) (by decide +kernel) (by decide +kernel) (Nat.le_of_ble_eq_true rfl) (Nat.le_of_ble_eq_true rfl) dX5_init_1 ?_
  refine Z.aload_n C dX5_init_4 rfl ?_
  refine Z.sipush C dX5_init_5 (by decide) ?_
  refine Z.newa C (by decide +kernel) 170 rfl (Nat.le_of_ble_eq_true rfl) (Nat.le_of_ble_eq_true rfl) (Nat.le_of_ble_eq_true rfl) dX5_init_8 (fun q8 => ?_)
  refine Z.eqw (ws' := [(a, .inr (5, [.null, .null, .null, .null, .null, .int (iI 0), .int (iI 0)])), (q8, aI cI 170 zz)]) rfl ?_
  refine Z.putfF C (ws' := [(a, .inr (5, [.ref q8, .null, .null, .null, .null, .int (iI 0), .int (iI 0)])), (q8, aI cI 170 zz)]) 0 0 iw_X5_init_5 rfl rfl (by decide) tyX5 tyX5_ok nmX5 (by decide +kernel) rfl hnm rfl (ty := .array .int) (by decide +kernel) rfl rfl (Nat.le_of_ble_eq_true rfl) dX5_init_10 rfl ?_
  refine Z.aload_n C dX5_init_13 rfl ?_
  refine Z.iconst C dX5_init_14 ?_
  refine Z.newa C (by decide +kernel) 5 rfl (Nat.le_of_ble_eq_true rfl) (Nat.le_of_ble_eq_true rfl) (Nat.le_of_ble_eq_true rfl) dX5_init_15 (fun q15 => ?_)
  refine Z.eqw (ws' := [(a, .inr (5, [.ref q8, .null, .null, .null, .null, .int (iI 0), .int (iI 0)])), (q8, aI cI 170 zz), (q15, aI cI 5 zz)]) rfl ?_
  refine Z.putfF C (ws' := [(a, .inr (5, [.ref q8, .ref q15, .null, .null, .null, .int (iI 0), .int (iI 0)])), (q8, aI cI 170 zz), (q15, aI cI 5 zz)]) 0 1 iw_X5_init_5 rfl rfl (by decide) tyX5 tyX5_ok nmX5 (by decide +kernel) rfl hnm rfl (ty := .array .int) (by decide +kernel) rfl rfl (Nat.le_of_ble_eq_true rfl) dX5_init_17 rfl ?_
  refine Z.aload_n C dX5_init_20 rfl ?_
  refine Z.iconst C dX5_init_21 ?_
  refine Z.newa C (by decide +kernel) 5 rfl (Nat.le_of_ble_eq_true rfl) (Nat.le_of_ble_eq_true rfl) (Nat.le_of_ble_eq_true rfl) dX5_init_22 (fun q22 => ?_)
  refine Z.eqw (ws' := [(a, .inr (5, [.ref q8, .ref q15, .null, .null, .null, .int (iI 0), .int (iI 0)])), (q8, aI cI 170 zz), (q15, aI cI 5 zz), (q22, aI cI 5 zz)]) rfl ?_
  refine Z.putfF C (ws' := [(a, .inr (5, [.ref q8, .ref q15, .ref q22, .null, .null, .int (iI 0), .int (iI 0)])), (q8, aI cI 170 zz), (q15, aI cI 5 zz), (q22, aI cI 5 zz)]) 0 2 iw_X5_init_5 rfl rfl (by decide) tyX5 tyX5_ok nmX5 (by decide +kernel) rfl hnm rfl (ty := .array .int) (by decide +kernel) rfl rfl (Nat.le_of_ble_eq_true rfl) dX5_init_24 rfl ?_
  refine Z.aload_n C dX5_init_27 rfl ?_
  refine Z.iconst C dX5_init_28 ?_
  refine Z.newa C (by decide +kernel) 5 rfl (Nat.le_of_ble_eq_true rfl) (Nat.le_of_ble_eq_true rfl) (Nat.le_of_ble_eq_true rfl) dX5_init_29 (fun q29 => ?_)
  refine Z.eqw (ws' := [(a, .inr (5, [.ref q8, .ref q15, .ref q22, .null, .null, .int (iI 0), .int (iI 0)])), (q8, aI cI 170 zz), (q15, aI cI 5 zz), (q22, aI cI 5 zz), (q29, aI cI 5 zz)]) rfl ?_
  refine Z.putfF C (ws' := [(a, .inr (5, [.ref q8, .ref q15, .ref q22, .ref q29, .null, .int (iI 0), .int (iI 0)])), (q8, aI cI 170 zz), (q15, aI cI 5 zz), (q22, aI cI 5 zz), (q29, aI cI 5 zz)]) 0 3 iw_X5_init_5 rfl rfl (by decide) tyX5 tyX5_ok nmX5 (by decide +kernel) rfl hnm rfl (ty := .array .int) (by decide +kernel) rfl rfl (Nat.le_of_ble_eq_true rfl) dX5_init_31 rfl ?_
  refine Z.aload_n C dX5_init_34 rfl ?_
  refine Z.iconst C dX5_init_35 ?_
  refine Z.newa C (by decide +kernel) 5 rfl (Nat.le_of_ble_eq_true rfl) (Nat.le_of_ble_eq_true rfl) (Nat.le_of_ble_eq_true rfl) dX5_init_36 (fun q36 => ?_)
  refine Z.eqw (ws' := [(a, .inr (5, [.ref q8, .ref q15, .ref q22, .ref q29, .null, .int (iI 0), .int (iI 0)])), (q8, aI cI 170 zz), (q15, aI cI 5 zz), (q22, aI cI 5 zz), (q29, aI cI 5 zz), (q36, aI cI 5 zz)]) rfl ?_
  refine Z.putfF C (ws' := [(a, .inr (5, [.ref q8, .ref q15, .ref q22, .ref q29, .ref q36, .int (iI 0), .int (iI 0)])), (q8, aI cI 170 zz), (q15, aI cI 5 zz), (q22, aI cI 5 zz), (q29, aI cI 5 zz), (q36, aI cI 5 zz)]) 0 4 iw_X5_init_5 rfl rfl (by decide) tyX5 tyX5_ok nmX5 (by decide +kernel) rfl hnm rfl (ty := .array .int) (by decide +kernel) rfl rfl (Nat.le_of_ble_eq_true rfl) dX5_init_38 rfl ?_
  refine Z.aload_n C dX5_init_41 rfl ?_
  refine Z.sipush C dX5_init_42 (by decide) ?_
  refine Z.putf C (ws' := [(a, .inr (5, [.ref q8, .ref q15, .ref q22, .ref q29, .ref q36, .int (iI 1000), .int (iI 0)])), (q8, aI cI 170 zz), (q15, aI cI 5 zz), (q22, aI cI 5 zz), (q29, aI cI 5 zz), (q36, aI cI 5 zz)]) 0 5 iw_X5_init_5 rfl rfl (by decide) tyX5 tyX5_ok nmX5 (by decide +kernel) rfl (ty := .int) (by decide +kernel) rfl rfl (Nat.le_of_ble_eq_true rfl) dX5_init_45 rfl ?_
  refine Z.aload_n C dX5_init_48 rfl ?_
  refine Z.iconst C dX5_init_49 ?_
  refine Z.putf C (ws' := [(a, .inr (5, [.ref q8, .ref q15, .ref q22, .ref q29, .ref q36, .int (iI 1000), .int (iI 0)])), (q8, aI cI 170 zz), (q15, aI cI 5 zz), (q22, aI cI 5 zz), (q29, aI cI 5 zz), (q36, aI cI 5 zz)]) 0 6 iw_X5_init_5 rfl rfl (by decide) tyX5 tyX5_ok nmX5 (by decide +kernel) rfl (ty := .int) (by decide +kernel) rfl rfl (Nat.le_of_ble_eq_true rfl) dX5_init_50 rfl ?_
  exact Z.retG C hr (Nat.le_of_ble_eq_true rfl) (Nat.le_of_ble_eq_true rfl) dX5_init_53 ⟨q8, q15, q22, q29, q36, rfl⟩
set_option maxRecDepth 20000 in
set_option maxRecDepth 20000 in
theorem iw_X0_init_0 : ∀ w ∈ u_ws RX0 TX0 3, w ∈ wsX0_init := by decide +kernel
abbrev rmX0_init : Room := { frames := 1, cells := 2, slots := 80, locals := 21 }
set_option maxHeartbeats 1000000 in
set_option maxRecDepth 100000 in
theorem c_X0_init (l : Launch) (D : va_G) (cI cJ cL : ClassId) (a : Nat) : GV l yX0_init wsX0_init rmX0_init [.ref a] D cI cJ cL [(a, .inr (0, [.null, .null, .int (iI 0)]))] 2 80 (fun w' => ∃ (q q1 : Nat), w' = [(a, .inr (0, [.ref q, .ref q1, .int (iI 0)])), (q, aI cI 40 zz), (q1, aI cI 40 zz)]) := by
  refine GV.of (cc := cX0_init) (maxL := 1) (own := RX0) _ 0 (by decide +kernel) rfl rfl rfl (Nat.le_of_ble_eq_true rfl) rfl (fun sz9 p9 e9 s9 m9 a9 b9 h9 c9 C hr hnm hAO => ?_)
  refine Z.aload_n C dX0_init_0 rfl ?_
  refine Z.oinit C (by decide +kernel) (by decide +kernel) (by decide +kernel) (Nat.le_of_ble_eq_true rfl) (Nat.le_of_ble_eq_true rfl) dX0_init_1 ?_
  refine Z.aload_n C dX0_init_4 rfl ?_
  refine Z.bipush C dX0_init_5 (by decide) ?_
  refine Z.newa C (by decide +kernel) 40 rfl (Nat.le_of_ble_eq_true rfl) (Nat.le_of_ble_eq_true rfl) (Nat.le_of_ble_eq_true rfl) dX0_init_7 (fun q7 => ?_)
  refine Z.eqw (ws' := [(a, .inr (0, [.null, .null, .int (iI 0)])), (q7, aI cI 40 zz)]) rfl ?_
  refine Z.putfF C (ws' := [(a, .inr (0, [.ref q7, .null, .int (iI 0)])), (q7, aI cI 40 zz)]) 0 0 iw_X0_init_0 rfl rfl (by decide) tyX0 tyX0_ok nmX0 (by decide +kernel) rfl hnm rfl (ty := .array .int) (by decide +kernel) rfl rfl (Nat.le_of_ble_eq_true rfl) dX0_init_9 rfl ?_
  refine Z.aload_n C dX0_init_12 rfl ?_
  refine Z.bipush C dX0_init_13 (by decide) ?_
  refine Z.newa C (by decide +kernel) 40 rfl (Nat.le_of_ble_eq_true rfl) (Nat.le_of_ble_eq_true rfl) (Nat.le_of_ble_eq_true rfl) dX0_init_15 (fun q15 => ?_)
  refine Z.eqw (ws' := [(a, .inr (0, [.ref q7, .null, .int (iI 0)])), (q7, aI cI 40 zz), (q15, aI cI 40 zz)]) rfl ?_
  refine Z.putfF C (ws' := [(a, .inr (0, [.ref q7, .ref q15, .int (iI 0)])), (q7, aI cI 40 zz), (q15, aI cI 40 zz)]) 0 1 iw_X0_init_0 rfl rfl (by decide) tyX0 tyX0_ok nmX0 (by decide +kernel) rfl hnm rfl (ty := .array .int) (by decide +kernel) rfl rfl (Nat.le_of_ble_eq_true rfl) dX0_init_17 rfl ?_
  refine Z.aload_n C dX0_init_20 rfl ?_
  refine Z.iconst C dX0_init_21 ?_
  refine Z.putf C (ws' := [(a, .inr (0, [.ref q7, .ref q15, .int (iI 0)])), (q7, aI cI 40 zz), (q15, aI cI 40 zz)]) 0 2 iw_X0_init_0 rfl rfl (by decide) tyX0 tyX0_ok nmX0 (by decide +kernel) rfl (ty := .int) (by decide +kernel) rfl rfl (Nat.le_of_ble_eq_true rfl) dX0_init_22 rfl ?_
  exact Z.retG C hr (Nat.le_of_ble_eq_true rfl) (Nat.le_of_ble_eq_true rfl) dX0_init_25 ⟨q7, q15, rfl⟩
set_option maxRecDepth 20000 in
set_option maxRecDepth 20000 in
theorem iw_X6_init_0 : ∀ w ∈ u_ws RX0 TX0 3, w ∈ wsX6_init := by decide +kernel
set_option maxRecDepth 20000 in
theorem iw_X6_init_1 : ∀ w ∈ u_ws RX1 TX1 3, w ∈ wsX6_init := by decide +kernel
set_option maxRecDepth 20000 in
theorem iw_X6_init_2 : ∀ w ∈ u_ws RX2 TX2 2, w ∈ wsX6_init := by decide +kernel
set_option maxRecDepth 20000 in
theorem iw_X6_init_3 : ∀ w ∈ u_ws RX3 TX3 5, w ∈ wsX6_init := by decide +kernel
set_option maxRecDepth 20000 in
theorem iw_X6_init_4 : ∀ w ∈ u_ws RX4 TX4 1, w ∈ wsX6_init := by decide +kernel
set_option maxRecDepth 20000 in
theorem iw_X6_init_5 : ∀ w ∈ u_ws RX5 TX5 7, w ∈ wsX6_init := by decide +kernel
set_option maxRecDepth 20000 in
theorem iw_X6_init_6 : ∀ w ∈ u_ws RX6 TX6 9, w ∈ wsX6_init := by decide +kernel
abbrev rmX6_init : Room := { frames := 2, cells := 35, slots := 621, locals := 60 }
set_option maxHeartbeats 1000000 in
set_option maxRecDepth 100000 in
theorem c_X6_init (l : Launch) (D : va_G) (cI cJ cL : ClassId) (a : Nat) : GV l yX6_init wsX6_init rmX6_init [.ref a] D cI cJ cL [(a, .inr (6, [.null, .null, .null, .null, .null, .null, .int (iI 0), .int (iI 0), .int (iI 0)]))] 35 621 (fun w' => ∃ ad : Nat → Nat, ad 0 = a ∧ w' = wX ad cI cJ (fun _ => zz) (fun _ => zz) zz zz zz zz zz zz zz zz zz zz zz zz zz 0 0 4 1000 0 0 0 0 0) := by
  refine GV.of (cc := cX6_init) (maxL := 1) (own := RX6) _ 0 (by decide +kernel) rfl rfl rfl (Nat.le_of_ble_eq_true rfl) rfl (fun sz9 p9 e9 s9 m9 a9 b9 h9 c9 C hr hnm hAO => ?_)
  refine Z.aload_n C dX6_init_0 rfl ?_
  refine Z.oinit C (by decide +kernel) (by decide +kernel) (by decide +kernel) (Nat.le_of_ble_eq_true rfl) (Nat.le_of_ble_eq_true rfl) dX6_init_1 ?_
  refine Z.aload_n C dX6_init_4 rfl ?_
  refine Z.newc (ci := 4) (Cn := RX4) (T := TX4) (N := 1) (fs := [.null]) C iw_X6_init_4 tyX4 tyX4_ok (by decide +kernel) (by decide +kernel) (by decide +kernel) rfl (fun j hj => by rcases (show j = 0 by omega) with rfl <;> rfl) (Nat.le_of_ble_eq_true rfl) (Nat.le_of_ble_eq_true rfl) dX6_init_5 (fun q5 => ?_)
  refine Z.dup C dX6_init_8 rfl ?_
  refine Z.cIN C hAO (wr := [(a, .inr (6, [.null, .null, .null, .null, .null, .null, .int (iI 0), .int (iI 0), .int (iI 0)]))]) (host := RX6) (c_X4_init l D cI cJ cL q5) gX6_init_X4_init_n9 (by decide +kernel) (by decide +kernel) (by decide +kernel) rfl rfl rfl rfl (by decide +kernel) ⟨by exact Nat.le_of_ble_eq_true rfl, by exact Nat.le_of_ble_eq_true rfl⟩ (by exact Nat.le_of_ble_eq_true rfl) ⟨by exact Nat.le_of_ble_eq_true rfl, by exact Nat.le_of_ble_eq_true rfl⟩ dX6_init_9 (fun w9 hw9 => ?_)
  obtain ⟨x9, r9, rfl⟩ := hw9
  refine Z.eqw (ws' := [(a, .inr (6, [.null, .null, .null, .null, .null, .null, .int (iI 0), .int (iI 0), .int (iI 0)])), (q5, .inr (4, [.ref x9])), (x9, aR cJ 6 r9), (r9 0, aI cI 9 zz), (r9 1, aI cI 9 zz), (r9 2, aI cI 9 zz), (r9 3, aI cI 9 zz), (r9 4, aI cI 9 zz), (r9 5, aI cI 9 zz)]) rfl ?_
  refine Z.putfF C (ws' := [(a, .inr (6, [.ref q5, .null, .null, .null, .null, .null, .int (iI 0), .int (iI 0), .int (iI 0)])), (q5, .inr (4, [.ref x9])), (x9, aR cJ 6 r9), (r9 0, aI cI 9 zz), (r9 1, aI cI 9 zz), (r9 2, aI cI 9 zz), (r9 3, aI cI 9 zz), (r9 4, aI cI 9 zz), (r9 5, aI cI 9 zz)]) 0 0 iw_X6_init_6 rfl rfl (by decide) tyX6 tyX6_ok nmX6 (by decide +kernel) rfl hnm rfl (ty := .object "FairBatten$Hull") (by decide +kernel) rfl rfl (Nat.le_of_ble_eq_true rfl) dX6_init_12 rfl ?_
  refine Z.aload_n C dX6_init_15 rfl ?_
  refine Z.newc (ci := 1) (Cn := RX1) (T := TX1) (N := 3) (fs := [.null, .null, .null]) C iw_X6_init_1 tyX1 tyX1_ok (by decide +kernel) (by decide +kernel) (by decide +kernel) rfl (fun j hj => by rcases (show j = 0 ∨ j = 1 ∨ j = 2 by omega) with rfl | rfl | rfl <;> rfl) (Nat.le_of_ble_eq_true rfl) (Nat.le_of_ble_eq_true rfl) dX6_init_16 (fun q16 => ?_)
  refine Z.dup C dX6_init_19 rfl ?_
  refine Z.cIN C hAO (wr := [(a, .inr (6, [.ref q5, .null, .null, .null, .null, .null, .int (iI 0), .int (iI 0), .int (iI 0)])), (q5, .inr (4, [.ref x9])), (x9, aR cJ 6 r9), (r9 0, aI cI 9 zz), (r9 1, aI cI 9 zz), (r9 2, aI cI 9 zz), (r9 3, aI cI 9 zz), (r9 4, aI cI 9 zz), (r9 5, aI cI 9 zz)]) (host := RX6) (c_X1_init l D cI cJ cL q16) gX6_init_X1_init_n18 (by decide +kernel) (by decide +kernel) (by decide +kernel) rfl rfl rfl rfl (by decide +kernel) ⟨by exact Nat.le_of_ble_eq_true rfl, by exact Nat.le_of_ble_eq_true rfl⟩ (by exact Nat.le_of_ble_eq_true rfl) ⟨by exact Nat.le_of_ble_eq_true rfl, by exact Nat.le_of_ble_eq_true rfl⟩ dX6_init_20 (fun w20 hw20 => ?_)
  obtain ⟨x20, y20, z20, r20, rfl⟩ := hw20
  refine Z.eqw (ws' := [(a, .inr (6, [.ref q5, .null, .null, .null, .null, .null, .int (iI 0), .int (iI 0), .int (iI 0)])), (q5, .inr (4, [.ref x9])), (x9, aR cJ 6 r9), (r9 0, aI cI 9 zz), (r9 1, aI cI 9 zz), (r9 2, aI cI 9 zz), (r9 3, aI cI 9 zz), (r9 4, aI cI 9 zz), (r9 5, aI cI 9 zz), (q16, .inr (1, [.ref x20, .ref y20, .ref z20])), (x20, aR cJ 8 r20), (r20 0, aI cI 25 zz), (r20 1, aI cI 25 zz), (r20 2, aI cI 25 zz), (r20 3, aI cI 25 zz), (r20 4, aI cI 25 zz), (r20 5, aI cI 25 zz), (r20 6, aI cI 25 zz), (r20 7, aI cI 25 zz), (y20, aI cI 9 zz), (z20, aI cI 9 zz)]) rfl ?_
  refine Z.putfF C (ws' := [(a, .inr (6, [.ref q5, .ref q16, .null, .null, .null, .null, .int (iI 0), .int (iI 0), .int (iI 0)])), (q5, .inr (4, [.ref x9])), (x9, aR cJ 6 r9), (r9 0, aI cI 9 zz), (r9 1, aI cI 9 zz), (r9 2, aI cI 9 zz), (r9 3, aI cI 9 zz), (r9 4, aI cI 9 zz), (r9 5, aI cI 9 zz), (q16, .inr (1, [.ref x20, .ref y20, .ref z20])), (x20, aR cJ 8 r20), (r20 0, aI cI 25 zz), (r20 1, aI cI 25 zz), (r20 2, aI cI 25 zz), (r20 3, aI cI 25 zz), (r20 4, aI cI 25 zz), (r20 5, aI cI 25 zz), (r20 6, aI cI 25 zz), (r20 7, aI cI 25 zz), (y20, aI cI 9 zz), (z20, aI cI 9 zz)]) 0 1 iw_X6_init_6 rfl rfl (by decide) tyX6 tyX6_ok nmX6 (by decide +kernel) rfl hnm rfl (ty := .object "FairBatten$Batten") (by decide +kernel) rfl rfl (Nat.le_of_ble_eq_true rfl) dX6_init_23 rfl ?_
  refine Z.aload_n C dX6_init_26 rfl ?_
  refine Z.newc (ci := 3) (Cn := RX3) (T := TX3) (N := 5) (fs := [.null, .null, .int (iI 0), .int (iI 0), .int (iI 0)]) C iw_X6_init_3 tyX3 tyX3_ok (by decide +kernel) (by decide +kernel) (by decide +kernel) rfl (fun j hj => by rcases (show j = 0 ∨ j = 1 ∨ j = 2 ∨ j = 3 ∨ j = 4 by omega) with rfl | rfl | rfl | rfl | rfl <;> rfl) (Nat.le_of_ble_eq_true rfl) (Nat.le_of_ble_eq_true rfl) dX6_init_27 (fun q27 => ?_)
  refine Z.dup C dX6_init_30 rfl ?_
  refine Z.cIN C hAO (wr := [(a, .inr (6, [.ref q5, .ref q16, .null, .null, .null, .null, .int (iI 0), .int (iI 0), .int (iI 0)])), (q5, .inr (4, [.ref x9])), (x9, aR cJ 6 r9), (r9 0, aI cI 9 zz), (r9 1, aI cI 9 zz), (r9 2, aI cI 9 zz), (r9 3, aI cI 9 zz), (r9 4, aI cI 9 zz), (r9 5, aI cI 9 zz), (q16, .inr (1, [.ref x20, .ref y20, .ref z20])), (x20, aR cJ 8 r20), (r20 0, aI cI 25 zz), (r20 1, aI cI 25 zz), (r20 2, aI cI 25 zz), (r20 3, aI cI 25 zz), (r20 4, aI cI 25 zz), (r20 5, aI cI 25 zz), (r20 6, aI cI 25 zz), (r20 7, aI cI 25 zz), (y20, aI cI 9 zz), (z20, aI cI 9 zz)]) (host := RX6) (c_X3_init l D cI cJ cL q27) gX6_init_X3_init_n25 (by decide +kernel) (by decide +kernel) (by decide +kernel) rfl rfl rfl rfl (by decide +kernel) ⟨by exact Nat.le_of_ble_eq_true rfl, by exact Nat.le_of_ble_eq_true rfl⟩ (by exact Nat.le_of_ble_eq_true rfl) ⟨by exact Nat.le_of_ble_eq_true rfl, by exact Nat.le_of_ble_eq_true rfl⟩ dX6_init_31 (fun w31 hw31 => ?_)
  obtain ⟨x31, y31, rfl⟩ := hw31
  refine Z.eqw (ws' := [(a, .inr (6, [.ref q5, .ref q16, .null, .null, .null, .null, .int (iI 0), .int (iI 0), .int (iI 0)])), (q5, .inr (4, [.ref x9])), (x9, aR cJ 6 r9), (r9 0, aI cI 9 zz), (r9 1, aI cI 9 zz), (r9 2, aI cI 9 zz), (r9 3, aI cI 9 zz), (r9 4, aI cI 9 zz), (r9 5, aI cI 9 zz), (q16, .inr (1, [.ref x20, .ref y20, .ref z20])), (x20, aR cJ 8 r20), (r20 0, aI cI 25 zz), (r20 1, aI cI 25 zz), (r20 2, aI cI 25 zz), (r20 3, aI cI 25 zz), (r20 4, aI cI 25 zz), (r20 5, aI cI 25 zz), (r20 6, aI cI 25 zz), (r20 7, aI cI 25 zz), (y20, aI cI 9 zz), (z20, aI cI 9 zz), (q27, .inr (3, [.ref x31, .ref y31, .int (iI 0), .int (iI 0), .int (iI 4)])), (x31, aI cI 16 zz), (y31, aI cI 16 zz)]) rfl ?_
  refine Z.putfF C (ws' := [(a, .inr (6, [.ref q5, .ref q16, .ref q27, .null, .null, .null, .int (iI 0), .int (iI 0), .int (iI 0)])), (q5, .inr (4, [.ref x9])), (x9, aR cJ 6 r9), (r9 0, aI cI 9 zz), (r9 1, aI cI 9 zz), (r9 2, aI cI 9 zz), (r9 3, aI cI 9 zz), (r9 4, aI cI 9 zz), (r9 5, aI cI 9 zz), (q16, .inr (1, [.ref x20, .ref y20, .ref z20])), (x20, aR cJ 8 r20), (r20 0, aI cI 25 zz), (r20 1, aI cI 25 zz), (r20 2, aI cI 25 zz), (r20 3, aI cI 25 zz), (r20 4, aI cI 25 zz), (r20 5, aI cI 25 zz), (r20 6, aI cI 25 zz), (r20 7, aI cI 25 zz), (y20, aI cI 9 zz), (z20, aI cI 9 zz), (q27, .inr (3, [.ref x31, .ref y31, .int (iI 0), .int (iI 0), .int (iI 4)])), (x31, aI cI 16 zz), (y31, aI cI 16 zz)]) 0 2 iw_X6_init_6 rfl rfl (by decide) tyX6 tyX6_ok nmX6 (by decide +kernel) rfl hnm rfl (ty := .object "FairBatten$Cargo") (by decide +kernel) rfl rfl (Nat.le_of_ble_eq_true rfl) dX6_init_34 rfl ?_
  refine Z.aload_n C dX6_init_37 rfl ?_
  refine Z.newc (ci := 2) (Cn := RX2) (T := TX2) (N := 2) (fs := [.null, .null]) C iw_X6_init_2 tyX2 tyX2_ok (by decide +kernel) (by decide +kernel) (by decide +kernel) rfl (fun j hj => by rcases (show j = 0 ∨ j = 1 by omega) with rfl | rfl <;> rfl) (Nat.le_of_ble_eq_true rfl) (Nat.le_of_ble_eq_true rfl) dX6_init_38 (fun q38 => ?_)
  refine Z.dup C dX6_init_41 rfl ?_
  refine Z.cIN C hAO (wr := [(a, .inr (6, [.ref q5, .ref q16, .ref q27, .null, .null, .null, .int (iI 0), .int (iI 0), .int (iI 0)])), (q5, .inr (4, [.ref x9])), (x9, aR cJ 6 r9), (r9 0, aI cI 9 zz), (r9 1, aI cI 9 zz), (r9 2, aI cI 9 zz), (r9 3, aI cI 9 zz), (r9 4, aI cI 9 zz), (r9 5, aI cI 9 zz), (q16, .inr (1, [.ref x20, .ref y20, .ref z20])), (x20, aR cJ 8 r20), (r20 0, aI cI 25 zz), (r20 1, aI cI 25 zz), (r20 2, aI cI 25 zz), (r20 3, aI cI 25 zz), (r20 4, aI cI 25 zz), (r20 5, aI cI 25 zz), (r20 6, aI cI 25 zz), (r20 7, aI cI 25 zz), (y20, aI cI 9 zz), (z20, aI cI 9 zz), (q27, .inr (3, [.ref x31, .ref y31, .int (iI 0), .int (iI 0), .int (iI 4)])), (x31, aI cI 16 zz), (y31, aI cI 16 zz)]) (host := RX6) (c_X2_init l D cI cJ cL q38) gX6_init_X2_init_n32 (by decide +kernel) (by decide +kernel) (by decide +kernel) rfl rfl rfl rfl (by decide +kernel) ⟨by exact Nat.le_of_ble_eq_true rfl, by exact Nat.le_of_ble_eq_true rfl⟩ (by exact Nat.le_of_ble_eq_true rfl) ⟨by exact Nat.le_of_ble_eq_true rfl, by exact Nat.le_of_ble_eq_true rfl⟩ dX6_init_42 (fun w42 hw42 => ?_)
  obtain ⟨x42, y42, rfl⟩ := hw42
  refine Z.eqw (ws' := [(a, .inr (6, [.ref q5, .ref q16, .ref q27, .null, .null, .null, .int (iI 0), .int (iI 0), .int (iI 0)])), (q5, .inr (4, [.ref x9])), (x9, aR cJ 6 r9), (r9 0, aI cI 9 zz), (r9 1, aI cI 9 zz), (r9 2, aI cI 9 zz), (r9 3, aI cI 9 zz), (r9 4, aI cI 9 zz), (r9 5, aI cI 9 zz), (q16, .inr (1, [.ref x20, .ref y20, .ref z20])), (x20, aR cJ 8 r20), (r20 0, aI cI 25 zz), (r20 1, aI cI 25 zz), (r20 2, aI cI 25 zz), (r20 3, aI cI 25 zz), (r20 4, aI cI 25 zz), (r20 5, aI cI 25 zz), (r20 6, aI cI 25 zz), (r20 7, aI cI 25 zz), (y20, aI cI 9 zz), (z20, aI cI 9 zz), (q27, .inr (3, [.ref x31, .ref y31, .int (iI 0), .int (iI 0), .int (iI 4)])), (x31, aI cI 16 zz), (y31, aI cI 16 zz), (q38, .inr (2, [.ref x42, .ref y42])), (x42, aI cI 6 zz), (y42, aI cI 6 zz)]) rfl ?_
  refine Z.putfF C (ws' := [(a, .inr (6, [.ref q5, .ref q16, .ref q27, .ref q38, .null, .null, .int (iI 0), .int (iI 0), .int (iI 0)])), (q5, .inr (4, [.ref x9])), (x9, aR cJ 6 r9), (r9 0, aI cI 9 zz), (r9 1, aI cI 9 zz), (r9 2, aI cI 9 zz), (r9 3, aI cI 9 zz), (r9 4, aI cI 9 zz), (r9 5, aI cI 9 zz), (q16, .inr (1, [.ref x20, .ref y20, .ref z20])), (x20, aR cJ 8 r20), (r20 0, aI cI 25 zz), (r20 1, aI cI 25 zz), (r20 2, aI cI 25 zz), (r20 3, aI cI 25 zz), (r20 4, aI cI 25 zz), (r20 5, aI cI 25 zz), (r20 6, aI cI 25 zz), (r20 7, aI cI 25 zz), (y20, aI cI 9 zz), (z20, aI cI 9 zz), (q27, .inr (3, [.ref x31, .ref y31, .int (iI 0), .int (iI 0), .int (iI 4)])), (x31, aI cI 16 zz), (y31, aI cI 16 zz), (q38, .inr (2, [.ref x42, .ref y42])), (x42, aI cI 6 zz), (y42, aI cI 6 zz)]) 0 3 iw_X6_init_6 rfl rfl (by decide) tyX6 tyX6_ok nmX6 (by decide +kernel) rfl hnm rfl (ty := .object "FairBatten$Buoyancy") (by decide +kernel) rfl rfl (Nat.le_of_ble_eq_true rfl) dX6_init_45 rfl ?_
  refine Z.aload_n C dX6_init_48 rfl ?_
  refine Z.newc (ci := 5) (Cn := RX5) (T := TX5) (N := 7) (fs := [.null, .null, .null, .null, .null, .int (iI 0), .int (iI 0)]) C iw_X6_init_5 tyX5 tyX5_ok (by decide +kernel) (by decide +kernel) (by decide +kernel) rfl (fun j hj => by rcases (show j = 0 ∨ j = 1 ∨ j = 2 ∨ j = 3 ∨ j = 4 ∨ j = 5 ∨ j = 6 by omega) with rfl | rfl | rfl | rfl | rfl | rfl | rfl <;> rfl) (Nat.le_of_ble_eq_true rfl) (Nat.le_of_ble_eq_true rfl) dX6_init_49 (fun q49 => ?_)
  refine Z.dup C dX6_init_52 rfl ?_
  refine Z.cIN C hAO (wr := [(a, .inr (6, [.ref q5, .ref q16, .ref q27, .ref q38, .null, .null, .int (iI 0), .int (iI 0), .int (iI 0)])), (q5, .inr (4, [.ref x9])), (x9, aR cJ 6 r9), (r9 0, aI cI 9 zz), (r9 1, aI cI 9 zz), (r9 2, aI cI 9 zz), (r9 3, aI cI 9 zz), (r9 4, aI cI 9 zz), (r9 5, aI cI 9 zz), (q16, .inr (1, [.ref x20, .ref y20, .ref z20])), (x20, aR cJ 8 r20), (r20 0, aI cI 25 zz), (r20 1, aI cI 25 zz), (r20 2, aI cI 25 zz), (r20 3, aI cI 25 zz), (r20 4, aI cI 25 zz), (r20 5, aI cI 25 zz), (r20 6, aI cI 25 zz), (r20 7, aI cI 25 zz), (y20, aI cI 9 zz), (z20, aI cI 9 zz), (q27, .inr (3, [.ref x31, .ref y31, .int (iI 0), .int (iI 0), .int (iI 4)])), (x31, aI cI 16 zz), (y31, aI cI 16 zz), (q38, .inr (2, [.ref x42, .ref y42])), (x42, aI cI 6 zz), (y42, aI cI 6 zz)]) (host := RX6) (c_X5_init l D cI cJ cL q49) gX6_init_X5_init_n39 (by decide +kernel) (by decide +kernel) (by decide +kernel) rfl rfl rfl rfl (by decide +kernel) ⟨by exact Nat.le_of_ble_eq_true rfl, by exact Nat.le_of_ble_eq_true rfl⟩ (by exact Nat.le_of_ble_eq_true rfl) ⟨by exact Nat.le_of_ble_eq_true rfl, by exact Nat.le_of_ble_eq_true rfl⟩ dX6_init_53 (fun w53 hw53 => ?_)
  obtain ⟨x53, y53, z53, t53, u53, rfl⟩ := hw53
  refine Z.eqw (ws' := [(a, .inr (6, [.ref q5, .ref q16, .ref q27, .ref q38, .null, .null, .int (iI 0), .int (iI 0), .int (iI 0)])), (q5, .inr (4, [.ref x9])), (x9, aR cJ 6 r9), (r9 0, aI cI 9 zz), (r9 1, aI cI 9 zz), (r9 2, aI cI 9 zz), (r9 3, aI cI 9 zz), (r9 4, aI cI 9 zz), (r9 5, aI cI 9 zz), (q16, .inr (1, [.ref x20, .ref y20, .ref z20])), (x20, aR cJ 8 r20), (r20 0, aI cI 25 zz), (r20 1, aI cI 25 zz), (r20 2, aI cI 25 zz), (r20 3, aI cI 25 zz), (r20 4, aI cI 25 zz), (r20 5, aI cI 25 zz), (r20 6, aI cI 25 zz), (r20 7, aI cI 25 zz), (y20, aI cI 9 zz), (z20, aI cI 9 zz), (q27, .inr (3, [.ref x31, .ref y31, .int (iI 0), .int (iI 0), .int (iI 4)])), (x31, aI cI 16 zz), (y31, aI cI 16 zz), (q38, .inr (2, [.ref x42, .ref y42])), (x42, aI cI 6 zz), (y42, aI cI 6 zz), (q49, .inr (5, [.ref x53, .ref y53, .ref z53, .ref t53, .ref u53, .int (iI 1000), .int (iI 0)])), (x53, aI cI 170 zz), (y53, aI cI 5 zz), (z53, aI cI 5 zz), (t53, aI cI 5 zz), (u53, aI cI 5 zz)]) rfl ?_
  refine Z.putfF C (ws' := [(a, .inr (6, [.ref q5, .ref q16, .ref q27, .ref q38, .ref q49, .null, .int (iI 0), .int (iI 0), .int (iI 0)])), (q5, .inr (4, [.ref x9])), (x9, aR cJ 6 r9), (r9 0, aI cI 9 zz), (r9 1, aI cI 9 zz), (r9 2, aI cI 9 zz), (r9 3, aI cI 9 zz), (r9 4, aI cI 9 zz), (r9 5, aI cI 9 zz), (q16, .inr (1, [.ref x20, .ref y20, .ref z20])), (x20, aR cJ 8 r20), (r20 0, aI cI 25 zz), (r20 1, aI cI 25 zz), (r20 2, aI cI 25 zz), (r20 3, aI cI 25 zz), (r20 4, aI cI 25 zz), (r20 5, aI cI 25 zz), (r20 6, aI cI 25 zz), (r20 7, aI cI 25 zz), (y20, aI cI 9 zz), (z20, aI cI 9 zz), (q27, .inr (3, [.ref x31, .ref y31, .int (iI 0), .int (iI 0), .int (iI 4)])), (x31, aI cI 16 zz), (y31, aI cI 16 zz), (q38, .inr (2, [.ref x42, .ref y42])), (x42, aI cI 6 zz), (y42, aI cI 6 zz), (q49, .inr (5, [.ref x53, .ref y53, .ref z53, .ref t53, .ref u53, .int (iI 1000), .int (iI 0)])), (x53, aI cI 170 zz), (y53, aI cI 5 zz), (z53, aI cI 5 zz), (t53, aI cI 5 zz), (u53, aI cI 5 zz)]) 0 4 iw_X6_init_6 rfl rfl (by decide) tyX6 tyX6_ok nmX6 (by decide +kernel) rfl hnm rfl (ty := .object "FairBatten$Nest") (by decide +kernel) rfl rfl (Nat.le_of_ble_eq_true rfl) dX6_init_56 rfl ?_
  refine Z.aload_n C dX6_init_59 rfl ?_
  refine Z.newc (ci := 0) (Cn := RX0) (T := TX0) (N := 3) (fs := [.null, .null, .int (iI 0)]) C iw_X6_init_0 tyX0 tyX0_ok (by decide +kernel) (by decide +kernel) (by decide +kernel) rfl (fun j hj => by rcases (show j = 0 ∨ j = 1 ∨ j = 2 by omega) with rfl | rfl | rfl <;> rfl) (Nat.le_of_ble_eq_true rfl) (Nat.le_of_ble_eq_true rfl) dX6_init_60 (fun q60 => ?_)
  refine Z.dup C dX6_init_63 rfl ?_
  refine Z.cIN C hAO (wr := [(a, .inr (6, [.ref q5, .ref q16, .ref q27, .ref q38, .ref q49, .null, .int (iI 0), .int (iI 0), .int (iI 0)])), (q5, .inr (4, [.ref x9])), (x9, aR cJ 6 r9), (r9 0, aI cI 9 zz), (r9 1, aI cI 9 zz), (r9 2, aI cI 9 zz), (r9 3, aI cI 9 zz), (r9 4, aI cI 9 zz), (r9 5, aI cI 9 zz), (q16, .inr (1, [.ref x20, .ref y20, .ref z20])), (x20, aR cJ 8 r20), (r20 0, aI cI 25 zz), (r20 1, aI cI 25 zz), (r20 2, aI cI 25 zz), (r20 3, aI cI 25 zz), (r20 4, aI cI 25 zz), (r20 5, aI cI 25 zz), (r20 6, aI cI 25 zz), (r20 7, aI cI 25 zz), (y20, aI cI 9 zz), (z20, aI cI 9 zz), (q27, .inr (3, [.ref x31, .ref y31, .int (iI 0), .int (iI 0), .int (iI 4)])), (x31, aI cI 16 zz), (y31, aI cI 16 zz), (q38, .inr (2, [.ref x42, .ref y42])), (x42, aI cI 6 zz), (y42, aI cI 6 zz), (q49, .inr (5, [.ref x53, .ref y53, .ref z53, .ref t53, .ref u53, .int (iI 1000), .int (iI 0)])), (x53, aI cI 170 zz), (y53, aI cI 5 zz), (z53, aI cI 5 zz), (t53, aI cI 5 zz), (u53, aI cI 5 zz)]) (host := RX6) (c_X0_init l D cI cJ cL q60) gX6_init_X0_init_n46 (by decide +kernel) (by decide +kernel) (by decide +kernel) rfl rfl rfl rfl (by decide +kernel) ⟨?_, ?_⟩ (?_) ⟨?_, ?_⟩ dX6_init_64 (fun w64 hw64 => ?_)
  · exact Nat.le_of_ble_eq_true rfl
  · exact Nat.le_of_ble_eq_true rfl
  · exact Nat.le_of_ble_eq_true rfl
  · exact Nat.le_of_ble_eq_true rfl
  · exact Nat.le_of_ble_eq_true rfl
  obtain ⟨x64, y64, rfl⟩ := hw64
  refine Z.eqw (ws' := [(a, .inr (6, [.ref q5, .ref q16, .ref q27, .ref q38, .ref q49, .null, .int (iI 0), .int (iI 0), .int (iI 0)])), (q5, .inr (4, [.ref x9])), (x9, aR cJ 6 r9), (r9 0, aI cI 9 zz), (r9 1, aI cI 9 zz), (r9 2, aI cI 9 zz), (r9 3, aI cI 9 zz), (r9 4, aI cI 9 zz), (r9 5, aI cI 9 zz), (q16, .inr (1, [.ref x20, .ref y20, .ref z20])), (x20, aR cJ 8 r20), (r20 0, aI cI 25 zz), (r20 1, aI cI 25 zz), (r20 2, aI cI 25 zz), (r20 3, aI cI 25 zz), (r20 4, aI cI 25 zz), (r20 5, aI cI 25 zz), (r20 6, aI cI 25 zz), (r20 7, aI cI 25 zz), (y20, aI cI 9 zz), (z20, aI cI 9 zz), (q27, .inr (3, [.ref x31, .ref y31, .int (iI 0), .int (iI 0), .int (iI 4)])), (x31, aI cI 16 zz), (y31, aI cI 16 zz), (q38, .inr (2, [.ref x42, .ref y42])), (x42, aI cI 6 zz), (y42, aI cI 6 zz), (q49, .inr (5, [.ref x53, .ref y53, .ref z53, .ref t53, .ref u53, .int (iI 1000), .int (iI 0)])), (x53, aI cI 170 zz), (y53, aI cI 5 zz), (z53, aI cI 5 zz), (t53, aI cI 5 zz), (u53, aI cI 5 zz), (q60, .inr (0, [.ref x64, .ref y64, .int (iI 0)])), (x64, aI cI 40 zz), (y64, aI cI 40 zz)]) rfl ?_
  refine Z.putfF C (ws' := [(a, .inr (6, [.ref q5, .ref q16, .ref q27, .ref q38, .ref q49, .ref q60, .int (iI 0), .int (iI 0), .int (iI 0)])), (q5, .inr (4, [.ref x9])), (x9, aR cJ 6 r9), (r9 0, aI cI 9 zz), (r9 1, aI cI 9 zz), (r9 2, aI cI 9 zz), (r9 3, aI cI 9 zz), (r9 4, aI cI 9 zz), (r9 5, aI cI 9 zz), (q16, .inr (1, [.ref x20, .ref y20, .ref z20])), (x20, aR cJ 8 r20), (r20 0, aI cI 25 zz), (r20 1, aI cI 25 zz), (r20 2, aI cI 25 zz), (r20 3, aI cI 25 zz), (r20 4, aI cI 25 zz), (r20 5, aI cI 25 zz), (r20 6, aI cI 25 zz), (r20 7, aI cI 25 zz), (y20, aI cI 9 zz), (z20, aI cI 9 zz), (q27, .inr (3, [.ref x31, .ref y31, .int (iI 0), .int (iI 0), .int (iI 4)])), (x31, aI cI 16 zz), (y31, aI cI 16 zz), (q38, .inr (2, [.ref x42, .ref y42])), (x42, aI cI 6 zz), (y42, aI cI 6 zz), (q49, .inr (5, [.ref x53, .ref y53, .ref z53, .ref t53, .ref u53, .int (iI 1000), .int (iI 0)])), (x53, aI cI 170 zz), (y53, aI cI 5 zz), (z53, aI cI 5 zz), (t53, aI cI 5 zz), (u53, aI cI 5 zz), (q60, .inr (0, [.ref x64, .ref y64, .int (iI 0)])), (x64, aI cI 40 zz), (y64, aI cI 40 zz)]) 0 5 iw_X6_init_6 rfl rfl (by decide) tyX6 tyX6_ok nmX6 (by decide +kernel) rfl hnm rfl (ty := .object "FairBatten$Almanac") (by decide +kernel) rfl rfl (Nat.le_of_ble_eq_true rfl) dX6_init_67 rfl ?_
  refine Z.aload_n C dX6_init_70 rfl ?_
  refine Z.iconst C dX6_init_71 ?_
  refine Z.putf C (ws' := [(a, .inr (6, [.ref q5, .ref q16, .ref q27, .ref q38, .ref q49, .ref q60, .int (iI 0), .int (iI 0), .int (iI 0)])), (q5, .inr (4, [.ref x9])), (x9, aR cJ 6 r9), (r9 0, aI cI 9 zz), (r9 1, aI cI 9 zz), (r9 2, aI cI 9 zz), (r9 3, aI cI 9 zz), (r9 4, aI cI 9 zz), (r9 5, aI cI 9 zz), (q16, .inr (1, [.ref x20, .ref y20, .ref z20])), (x20, aR cJ 8 r20), (r20 0, aI cI 25 zz), (r20 1, aI cI 25 zz), (r20 2, aI cI 25 zz), (r20 3, aI cI 25 zz), (r20 4, aI cI 25 zz), (r20 5, aI cI 25 zz), (r20 6, aI cI 25 zz), (r20 7, aI cI 25 zz), (y20, aI cI 9 zz), (z20, aI cI 9 zz), (q27, .inr (3, [.ref x31, .ref y31, .int (iI 0), .int (iI 0), .int (iI 4)])), (x31, aI cI 16 zz), (y31, aI cI 16 zz), (q38, .inr (2, [.ref x42, .ref y42])), (x42, aI cI 6 zz), (y42, aI cI 6 zz), (q49, .inr (5, [.ref x53, .ref y53, .ref z53, .ref t53, .ref u53, .int (iI 1000), .int (iI 0)])), (x53, aI cI 170 zz), (y53, aI cI 5 zz), (z53, aI cI 5 zz), (t53, aI cI 5 zz), (u53, aI cI 5 zz), (q60, .inr (0, [.ref x64, .ref y64, .int (iI 0)])), (x64, aI cI 40 zz), (y64, aI cI 40 zz)]) 0 6 iw_X6_init_6 rfl rfl (by decide) tyX6 tyX6_ok nmX6 (by decide +kernel) rfl (ty := .int) (by decide +kernel) rfl rfl (Nat.le_of_ble_eq_true rfl) dX6_init_72 rfl ?_
  refine Z.aload_n C dX6_init_75 rfl ?_
  refine Z.iconst C dX6_init_76 ?_
  refine Z.putf C (ws' := [(a, .inr (6, [.ref q5, .ref q16, .ref q27, .ref q38, .ref q49, .ref q60, .int (iI 0), .int (iI 0), .int (iI 0)])), (q5, .inr (4, [.ref x9])), (x9, aR cJ 6 r9), (r9 0, aI cI 9 zz), (r9 1, aI cI 9 zz), (r9 2, aI cI 9 zz), (r9 3, aI cI 9 zz), (r9 4, aI cI 9 zz), (r9 5, aI cI 9 zz), (q16, .inr (1, [.ref x20, .ref y20, .ref z20])), (x20, aR cJ 8 r20), (r20 0, aI cI 25 zz), (r20 1, aI cI 25 zz), (r20 2, aI cI 25 zz), (r20 3, aI cI 25 zz), (r20 4, aI cI 25 zz), (r20 5, aI cI 25 zz), (r20 6, aI cI 25 zz), (r20 7, aI cI 25 zz), (y20, aI cI 9 zz), (z20, aI cI 9 zz), (q27, .inr (3, [.ref x31, .ref y31, .int (iI 0), .int (iI 0), .int (iI 4)])), (x31, aI cI 16 zz), (y31, aI cI 16 zz), (q38, .inr (2, [.ref x42, .ref y42])), (x42, aI cI 6 zz), (y42, aI cI 6 zz), (q49, .inr (5, [.ref x53, .ref y53, .ref z53, .ref t53, .ref u53, .int (iI 1000), .int (iI 0)])), (x53, aI cI 170 zz), (y53, aI cI 5 zz), (z53, aI cI 5 zz), (t53, aI cI 5 zz), (u53, aI cI 5 zz), (q60, .inr (0, [.ref x64, .ref y64, .int (iI 0)])), (x64, aI cI 40 zz), (y64, aI cI 40 zz)]) 0 7 iw_X6_init_6 rfl rfl (by decide) tyX6 tyX6_ok nmX6 (by decide +kernel) rfl (ty := .int) (by decide +kernel) rfl rfl (Nat.le_of_ble_eq_true rfl) dX6_init_77 rfl ?_
  refine Z.aload_n C dX6_init_80 rfl ?_
  refine Z.iconst C dX6_init_81 ?_
  refine Z.putf C (ws' := [(a, .inr (6, [.ref q5, .ref q16, .ref q27, .ref q38, .ref q49, .ref q60, .int (iI 0), .int (iI 0), .int (iI 0)])), (q5, .inr (4, [.ref x9])), (x9, aR cJ 6 r9), (r9 0, aI cI 9 zz), (r9 1, aI cI 9 zz), (r9 2, aI cI 9 zz), (r9 3, aI cI 9 zz), (r9 4, aI cI 9 zz), (r9 5, aI cI 9 zz), (q16, .inr (1, [.ref x20, .ref y20, .ref z20])), (x20, aR cJ 8 r20), (r20 0, aI cI 25 zz), (r20 1, aI cI 25 zz), (r20 2, aI cI 25 zz), (r20 3, aI cI 25 zz), (r20 4, aI cI 25 zz), (r20 5, aI cI 25 zz), (r20 6, aI cI 25 zz), (r20 7, aI cI 25 zz), (y20, aI cI 9 zz), (z20, aI cI 9 zz), (q27, .inr (3, [.ref x31, .ref y31, .int (iI 0), .int (iI 0), .int (iI 4)])), (x31, aI cI 16 zz), (y31, aI cI 16 zz), (q38, .inr (2, [.ref x42, .ref y42])), (x42, aI cI 6 zz), (y42, aI cI 6 zz), (q49, .inr (5, [.ref x53, .ref y53, .ref z53, .ref t53, .ref u53, .int (iI 1000), .int (iI 0)])), (x53, aI cI 170 zz), (y53, aI cI 5 zz), (z53, aI cI 5 zz), (t53, aI cI 5 zz), (u53, aI cI 5 zz), (q60, .inr (0, [.ref x64, .ref y64, .int (iI 0)])), (x64, aI cI 40 zz), (y64, aI cI 40 zz)]) 0 8 iw_X6_init_6 rfl rfl (by decide) tyX6 tyX6_ok nmX6 (by decide +kernel) rfl (ty := .boolean) (by decide +kernel) rfl rfl (Nat.le_of_ble_eq_true rfl) dX6_init_82 rfl ?_
  refine Z.setE 2 (a := x9) (en := aR cJ 6 r9) (en' := aR cJ 6 (fun j => adL [a, q5, x9, q16, x20, q27, q38, q49, q60, r9 0, r9 1, r9 2, r9 3, r9 4, r9 5, r20 0, r20 1, r20 2, r20 3, r20 4, r20 5, r20 6, r20 7, y20, z20, x31, y31, x42, y42, x53, y53, z53, t53, u53, x64, y64] (9 + j))) rfl (fun H9 => aR_cong cJ 6 (fun j hj => by rcases (show j = 0 ∨ j = 1 ∨ j = 2 ∨ j = 3 ∨ j = 4 ∨ j = 5 by omega) with rfl | rfl | rfl | rfl | rfl | rfl <;> rfl) x9 H9) ?_
  refine Z.setE 10 (a := x20) (en := aR cJ 8 r20) (en' := aR cJ 8 (fun j => adL [a, q5, x9, q16, x20, q27, q38, q49, q60, r9 0, r9 1, r9 2, r9 3, r9 4, r9 5, r20 0, r20 1, r20 2, r20 3, r20 4, r20 5, r20 6, r20 7, y20, z20, x31, y31, x42, y42, x53, y53, z53, t53, u53, x64, y64] (15 + j))) rfl (fun H9 => aR_cong cJ 8 (fun j hj => by rcases (show j = 0 ∨ j = 1 ∨ j = 2 ∨ j = 3 ∨ j = 4 ∨ j = 5 ∨ j = 6 ∨ j = 7 by omega) with rfl | rfl | rfl | rfl | rfl | rfl | rfl | rfl <;> rfl) x20 H9) ?_
  refine Z.eqw (ws' := [(a, .inr (6, [.ref q5, .ref q16, .ref q27, .ref q38, .ref q49, .ref q60, .int (iI 0), .int (iI 0), .int (iI 0)])), (q5, .inr (4, [.ref x9])), (x9, aR cJ 6 (fun j => adL [a, q5, x9, q16, x20, q27, q38, q49, q60, r9 0, r9 1, r9 2, r9 3, r9 4, r9 5, r20 0, r20 1, r20 2, r20 3, r20 4, r20 5, r20 6, r20 7, y20, z20, x31, y31, x42, y42, x53, y53, z53, t53, u53, x64, y64] (9 + j))), (r9 0, aI cI 9 zz), (r9 1, aI cI 9 zz), (r9 2, aI cI 9 zz), (r9 3, aI cI 9 zz), (r9 4, aI cI 9 zz), (r9 5, aI cI 9 zz), (q16, .inr (1, [.ref x20, .ref y20, .ref z20])), (x20, aR cJ 8 (fun j => adL [a, q5, x9, q16, x20, q27, q38, q49, q60, r9 0, r9 1, r9 2, r9 3, r9 4, r9 5, r20 0, r20 1, r20 2, r20 3, r20 4, r20 5, r20 6, r20 7, y20, z20, x31, y31, x42, y42, x53, y53, z53, t53, u53, x64, y64] (15 + j))), (r20 0, aI cI 25 zz), (r20 1, aI cI 25 zz), (r20 2, aI cI 25 zz), (r20 3, aI cI 25 zz), (r20 4, aI cI 25 zz), (r20 5, aI cI 25 zz), (r20 6, aI cI 25 zz), (r20 7, aI cI 25 zz), (y20, aI cI 9 zz), (z20, aI cI 9 zz), (q27, .inr (3, [.ref x31, .ref y31, .int (iI 0), .int (iI 0), .int (iI 4)])), (x31, aI cI 16 zz), (y31, aI cI 16 zz), (q38, .inr (2, [.ref x42, .ref y42])), (x42, aI cI 6 zz), (y42, aI cI 6 zz), (q49, .inr (5, [.ref x53, .ref y53, .ref z53, .ref t53, .ref u53, .int (iI 1000), .int (iI 0)])), (x53, aI cI 170 zz), (y53, aI cI 5 zz), (z53, aI cI 5 zz), (t53, aI cI 5 zz), (u53, aI cI 5 zz), (q60, .inr (0, [.ref x64, .ref y64, .int (iI 0)])), (x64, aI cI 40 zz), (y64, aI cI 40 zz)]) rfl ?_
  refine Z.re [0, 1, 2, 9, 10, 21, 24, 27, 33, 3, 4, 5, 6, 7, 8, 11, 12, 13, 14, 15, 16, 17, 18, 19, 20, 22, 23, 25, 26, 28, 29, 30, 31, 32, 34, 35] (by decide) (ws' := wX (adL [a, q5, x9, q16, x20, q27, q38, q49, q60, r9 0, r9 1, r9 2, r9 3, r9 4, r9 5, r20 0, r20 1, r20 2, r20 3, r20 4, r20 5, r20 6, r20 7, y20, z20, x31, y31, x42, y42, x53, y53, z53, t53, u53, x64, y64]) cI cJ (fun _ => zz) (fun _ => zz) zz zz zz zz zz zz zz zz zz zz zz zz zz 0 0 4 1000 0 0 0 0 0) rfl rfl ?_
  exact Z.retG C hr (Nat.le_of_ble_eq_true rfl) (Nat.le_of_ble_eq_true rfl) dX6_init_85 ⟨_, rfl, rfl⟩
