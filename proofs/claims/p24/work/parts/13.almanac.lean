/-! ===== Almanac ===== -/
def plZ (td : Int → Int) (day : Int) : Nat → Int
  | 0 => -1
  | k + 1 => if td k = day then (k : Int) else plZ td day k
def tdZ (td th : Int → Int) (day : Int) : Nat → Int
  | 0 => (7 * day + 3) % 19
  | k + 1 => if td k = day then th k else tdZ td th day k
def uqZ (td : Int → Int) (n : Int) : Prop := ∀ i j : Int, 0 ≤ i → i < n → 0 ≤ j → j < n → td i = td j → i = j
theorem plZ_none {td : Int → Int} {day : Int} : ∀ n : Nat, (∀ j : Nat, j < n → td j ≠ day) → plZ td day n = -1
  | 0, _ => rfl
  | n + 1, h => by
    simp only [plZ]
    rw [if_neg (h n (Nat.lt_succ_self n))]
    exact plZ_none n (fun j hj => h j (by omega))
theorem plZ_found {td : Int → Int} {day : Int} : ∀ (n k : Nat), uqZ td n → k < n → td k = day → plZ td day n = k
  | 0, k, _, h, _ => absurd h (Nat.not_lt_zero _)
  | n + 1, k, hu, h, hk => by
    simp only [plZ]
    by_cases e : td n = day
    · rw [if_pos e]
      exact hu n k (by omega) (by push_cast; omega) (by omega) (by push_cast; omega) (e.trans hk.symm)
    · rw [if_neg e]
      have hne : k ≠ n := fun q => e (q ▸ hk)
      exact plZ_found n k (fun i j h1 h2 h3 h4 => hu i j h1 (by push_cast; omega) h3 (by push_cast; omega)) (by omega) hk
theorem plZ_cases {td : Int → Int} {day : Int} : ∀ n : Nat, (plZ td day n = -1 ∧ ∀ j : Nat, j < n → td j ≠ day) ∨ ∃ k : Nat, k < n ∧ plZ td day n = k ∧ td k = day
  | 0 => Or.inl ⟨rfl, fun j h => absurd h (Nat.not_lt_zero _)⟩
  | n + 1 => by
    simp only [plZ]
    by_cases e : td n = day
    · rw [if_pos e]
      exact Or.inr ⟨n, Nat.lt_succ_self n, rfl, e⟩
    · rw [if_neg e]
      rcases plZ_cases (td := td) (day := day) n with ⟨h1, h2⟩ | ⟨k, h1, h2, h3⟩
      · refine Or.inl ⟨h1, fun j hj => ?_⟩
        by_cases q : j = n
        · rw [q]; exact e
        · exact h2 j (by omega)
      · exact Or.inr ⟨k, by omega, h2, h3⟩
theorem tdZ_none {td th : Int → Int} {day : Int} : ∀ n : Nat, plZ td day n = -1 → tdZ td th day n = (7 * day + 3) % 19
  | 0, _ => rfl
  | n + 1, h => by
    simp only [plZ] at h
    simp only [tdZ]
    by_cases e : td n = day
    · rw [if_pos e] at h
      omega
    · rw [if_neg e] at h ⊢
      exact tdZ_none n h
theorem tdZ_found {td th : Int → Int} {day : Int} : ∀ n : Nat, plZ td day n ≠ -1 → tdZ td th day n = th (plZ td day n)
  | 0, h => absurd rfl h
  | n + 1, h => by
    simp only [plZ] at h ⊢
    simp only [tdZ]
    by_cases e : td n = day
    · rw [if_pos e, if_pos e]
    · rw [if_neg e] at h ⊢
      rw [if_neg e]
      exact tdZ_found n h
set_option maxRecDepth 20000 in
theorem iw_X0_placeOf_0 : ∀ w ∈ u_ws RX0 TX0 3, w ∈ wsX0_placeOf := by decide +kernel
abbrev rmX0_placeOf : Room := { frames := 0, cells := 0, slots := 0, locals := 0 }
set_option maxHeartbeats 4000000 in
set_option maxRecDepth 100000 in
theorem c_placeOf (l : Launch) (D : va_G) (cI cJ cL : ClassId) (ad : Nat → Nat) (M B : Int → Int → Int) (lo ch wt sn vo mo le ln od fe se td th : Int → Int) (cnt bw bs pl tk tc sill day lau : Int) (x : Int) (hx0 : 0 ≤ x) (hx1 : x ≤ 10000) (hc0 : 0 ≤ tc) (hc1 : tc ≤ 40) (hu : uqZ td tc) (ht : ∀ j : Int, 0 ≤ td j ∧ td j ≤ 9999) : CI l yX0_placeOf wsX0_placeOf rmX0_placeOf [.ref (ad 8), .int (iI x)] D cI cJ cL (wX ad cI cJ M B lo ch wt sn vo mo le ln od fe se td th cnt bw bs pl tk tc sill day lau) (fun r w' => r = plZ td x tc.toNat ∧ w' = (wX ad cI cJ M B lo ch wt sn vo mo le ln od fe se td th cnt bw bs pl tk tc sill day lau)) := by
  refine CI.of (cc := cX0_placeOf) (maxL := 3) (ret := (some .int)) (own := RX0) _ 1 (by decide +kernel) rfl rfl rfl (Nat.le_of_ble_eq_true rfl) rfl (fun sz9 p9 e9 s9 m9 a9 b9 h9 c9 C hr => ?_)
  refine Z.iconst C dX0_placeOf_0 ?_
  refine Z.istore_n C dX0_placeOf_1 (by decide) ?_
  refine Z.loop (α := Nat) (fun _ => (wX ad cI cJ M B lo ch wt sn vo mo le ln od fe se td th cnt bw bs pl tk tc sill day lau)) (fun k => [.ref (ad 8), .int (iI x), .int (iI k)]) (fun k => k ≤ tc.toNat ∧ ∀ j : Nat, j < k → td j ≠ x) (fun k => tc.toNat - k) 0 ⟨by omega, fun j h => absurd h (Nat.not_lt_zero _)⟩ rfl rfl (fun k hk ih => ?_)
  obtain ⟨hk, hj⟩ := hk
  have hn : (tc.toNat : Int) = tc := Int.toNat_of_nonneg hc0
  refine Z.iload_n C dX0_placeOf_2 rfl ?_
  refine Z.aload_n C dX0_placeOf_3 rfl ?_
  refine Z.getf C 8 2 iw_X0_placeOf_0 rfl rfl (by decide) (by decide +kernel) rfl dX0_placeOf_4 ?_
  refine Z.icmpge C 28 dX0_placeOf_7 (by decide) (⟨by omega, by omega⟩) (⟨by omega, by omega⟩) (fun h => ?_) (fun h => ?_)
  · refine Z.iconst C dX0_placeOf_28 ?_
    exact Z.iret C hr dX0_placeOf_29 (⟨by rw [plZ_none _ (fun j q => hj j (by omega))], rfl⟩)
  · have b1 := ht k
    refine Z.aload_n C dX0_placeOf_10 rfl ?_
    refine Z.getf C 8 0 iw_X0_placeOf_0 rfl rfl (by decide) (by decide +kernel) rfl dX0_placeOf_11 ?_
    refine Z.iload_n C dX0_placeOf_14 rfl ?_
    refine Z.iald C 34 rfl (by omega) (by omega) (by decide) dX0_placeOf_15 ?_
    refine Z.iload_n C dX0_placeOf_16 rfl ?_
    refine Z.icmpne C 22 dX0_placeOf_17 (by decide) (⟨by omega, by omega⟩) (⟨by omega, by omega⟩) (fun q => ?_) (fun q => ?_)
    · refine Z.iinc C dX0_placeOf_22 rfl (by decide) ?_
      refine Z.goto C 2 dX0_placeOf_25 (by decide) ?_
      refine ih (k + 1) ⟨by omega, fun j z => ?_⟩ (by omega)
      by_cases e : j = k
      · rw [e]; exact q
      · exact hj j (by omega)
    · refine Z.iload_n C dX0_placeOf_20 rfl ?_
      exact Z.iret C hr dX0_placeOf_21 (⟨by rw [plZ_found _ k (by rw [hn]; exact hu) (by omega) q], rfl⟩)
set_option maxRecDepth 20000 in
theorem iw_X0_hasRoomFor_0 : ∀ w ∈ u_ws RX0 TX0 3, w ∈ wsX0_hasRoomFor := by decide +kernel
abbrev rmX0_hasRoomFor : Room := { frames := 1, cells := 0, slots := 0, locals := 22 }
set_option maxHeartbeats 4000000 in
set_option maxRecDepth 100000 in
theorem c_hasRoomFor (l : Launch) (D : va_G) (cI cJ cL : ClassId) (ad : Nat → Nat) (M B : Int → Int → Int) (lo ch wt sn vo mo le ln od fe se td th : Int → Int) (cnt bw bs pl tk tc sill day lau : Int) (x : Int) (hx0 : 0 ≤ x) (hx1 : x ≤ 10000) (hc0 : 0 ≤ tc) (hc1 : tc ≤ 40) (hu : uqZ td tc) (ht : ∀ j : Int, 0 ≤ td j ∧ td j ≤ 9999) : CI l yX0_hasRoomFor wsX0_hasRoomFor rmX0_hasRoomFor [.ref (ad 8), .int (iI x)] D cI cJ cL (wX ad cI cJ M B lo ch wt sn vo mo le ln od fe se td th cnt bw bs pl tk tc sill day lau) (fun r w' => r = (if tc < 40 ∨ plZ td x tc.toNat ≠ -1 then 1 else 0) ∧ w' = (wX ad cI cJ M B lo ch wt sn vo mo le ln od fe se td th cnt bw bs pl tk tc sill day lau)) := by
  refine CI.of (cc := cX0_hasRoomFor) (maxL := 2) (ret := (some .boolean)) (own := RX0) _ 0 (by decide +kernel) rfl rfl rfl (Nat.le_of_ble_eq_true rfl) rfl (fun sz9 p9 e9 s9 m9 a9 b9 h9 c9 C hr => ?_)
  refine Z.aload_n C dX0_hasRoomFor_0 rfl ?_
  refine Z.getf C 8 2 iw_X0_hasRoomFor_0 rfl rfl (by decide) (by decide +kernel) rfl dX0_hasRoomFor_1 ?_
  refine Z.bipush C dX0_hasRoomFor_4 (by decide) ?_
  refine Z.icmplt C 18 dX0_hasRoomFor_6 (by decide) (⟨by omega, by omega⟩) (⟨by omega, by omega⟩) (fun h => ?_) (fun h => ?_)
  · refine Z.iconst C dX0_hasRoomFor_18 ?_
    refine Z.goto C 23 dX0_hasRoomFor_19 (by decide) ?_
    exact Z.zret C hr (by omega) dX0_hasRoomFor_23 (⟨(if_pos (Or.inl h)).symm, rfl⟩)
  · refine Z.aload_n C dX0_hasRoomFor_9 rfl ?_
    refine Z.iload_n C dX0_hasRoomFor_10 rfl ?_
    refine Z.cVId C 8 1 (c_placeOf l D cI cJ cL ad M B lo ch wt sn vo mo le ln od fe se td th cnt bw bs pl tk tc sill day lau x hx0 hx1 hc0 hc1 hu ht) rfl rfl gX0_hasRoomFor_X0_placeOf rfl rfl rfl (by decide +kernel) ⟨Nat.le_of_ble_eq_true rfl, Nat.le_of_ble_eq_true rfl⟩ rfl rfl (Nat.le_of_ble_eq_true rfl) ⟨Nat.le_of_ble_eq_true rfl, Nat.le_of_ble_eq_true rfl⟩ dX0_hasRoomFor_11 ?_
    have b1 : -1 ≤ plZ td x tc.toNat ∧ plZ td x tc.toNat ≤ 40 := by
      rcases plZ_cases (td := td) (day := x) tc.toNat with ⟨q, -⟩ | ⟨k, q1, q2, -⟩ <;> omega
    refine Z.iconst C dX0_hasRoomFor_14 ?_
    refine Z.icmpeq C 22 dX0_hasRoomFor_15 (by decide) (⟨by omega, by omega⟩) (⟨by omega, by omega⟩) (fun q => ?_) (fun q => ?_)
    · refine Z.iconst C dX0_hasRoomFor_22 ?_
      exact Z.zret C hr (by omega) dX0_hasRoomFor_23 (⟨(if_neg (by omega)).symm, rfl⟩)
    · refine Z.iconst C dX0_hasRoomFor_18 ?_
      refine Z.goto C 23 dX0_hasRoomFor_19 (by decide) ?_
      exact Z.zret C hr (by omega) dX0_hasRoomFor_23 (⟨(if_pos (Or.inr q)).symm, rfl⟩)
set_option maxRecDepth 20000 in
theorem iw_X0_heightOn_0 : ∀ w ∈ u_ws RX0 TX0 3, w ∈ wsX0_heightOn := by decide +kernel
abbrev rmX0_heightOn : Room := { frames := 1, cells := 0, slots := 0, locals := 22 }
set_option maxHeartbeats 4000000 in
set_option maxRecDepth 100000 in
theorem c_heightOn (l : Launch) (D : va_G) (cI cJ cL : ClassId) (ad : Nat → Nat) (M B : Int → Int → Int) (lo ch wt sn vo mo le ln od fe se td th : Int → Int) (cnt bw bs pl tk tc sill day lau : Int) (x : Int) (hx0 : 0 ≤ x) (hx1 : x ≤ 10000) (hc0 : 0 ≤ tc) (hc1 : tc ≤ 40) (hu : uqZ td tc) (ht : ∀ j : Int, 0 ≤ td j ∧ td j ≤ 9999) : CI l yX0_heightOn wsX0_heightOn rmX0_heightOn [.ref (ad 8), .int (iI x)] D cI cJ cL (wX ad cI cJ M B lo ch wt sn vo mo le ln od fe se td th cnt bw bs pl tk tc sill day lau) (fun r w' => r = tdZ td th x tc.toNat ∧ w' = (wX ad cI cJ M B lo ch wt sn vo mo le ln od fe se td th cnt bw bs pl tk tc sill day lau)) := by
  refine CI.of (cc := cX0_heightOn) (maxL := 3) (ret := (some .int)) (own := RX0) _ 1 (by decide +kernel) rfl rfl rfl (Nat.le_of_ble_eq_true rfl) rfl (fun sz9 p9 e9 s9 m9 a9 b9 h9 c9 C hr => ?_)
  refine Z.aload_n C dX0_heightOn_0 rfl ?_
  refine Z.iload_n C dX0_heightOn_1 rfl ?_
  refine Z.cVId C 8 1 (c_placeOf l D cI cJ cL ad M B lo ch wt sn vo mo le ln od fe se td th cnt bw bs pl tk tc sill day lau x hx0 hx1 hc0 hc1 hu ht) rfl rfl gX0_heightOn_X0_placeOf rfl rfl rfl (by decide +kernel) ⟨Nat.le_of_ble_eq_true rfl, Nat.le_of_ble_eq_true rfl⟩ rfl rfl (Nat.le_of_ble_eq_true rfl) ⟨Nat.le_of_ble_eq_true rfl, Nat.le_of_ble_eq_true rfl⟩ dX0_heightOn_2 ?_
  have b1 : -1 ≤ plZ td x tc.toNat ∧ plZ td x tc.toNat < 40 := by
    rcases plZ_cases (td := td) (day := x) tc.toNat with ⟨q, -⟩ | ⟨k, q1, q2, -⟩ <;> omega
  refine Z.istore_n C dX0_heightOn_5 (by decide) ?_
  refine Z.iload_n C dX0_heightOn_6 rfl ?_
  refine Z.iconst C dX0_heightOn_7 ?_
  refine Z.icmpne C 25 dX0_heightOn_8 (by decide) (⟨by omega, by omega⟩) (⟨by omega, by omega⟩) (fun q => ?_) (fun q => ?_)
  · refine Z.aload_n C dX0_heightOn_25 rfl ?_
    refine Z.getf C 8 1 iw_X0_heightOn_0 rfl rfl (by decide) (by decide +kernel) rfl dX0_heightOn_26 ?_
    refine Z.iload_n C dX0_heightOn_29 rfl ?_
    refine Z.iald C 35 rfl (by omega) (by omega) (by decide) dX0_heightOn_30 ?_
    exact Z.iret C hr dX0_heightOn_31 (⟨(tdZ_found _ q).symm, rfl⟩)
  · refine Z.bipush C dX0_heightOn_11 (by decide) ?_
    refine Z.iload_n C dX0_heightOn_13 rfl ?_
    refine Z.imul C dX0_heightOn_14 ?_
    refine Z.iconst C dX0_heightOn_15 ?_
    refine Z.iadd C dX0_heightOn_16 ?_
    refine Z.bipush C dX0_heightOn_17 (by decide) ?_
    refine Z.cSIp C 2 (c_floorMod l D cI cJ cL (7 * x + 3) 19 (by omega) (by omega) (by omega) (by omega)) gX0_heightOn_J9_floorMod_7cf53 rfl rfl rfl (by decide +kernel) ⟨Nat.le_of_ble_eq_true rfl, Nat.le_of_ble_eq_true rfl⟩ rfl rfl (Nat.le_of_ble_eq_true rfl) ⟨Nat.le_of_ble_eq_true rfl, Nat.le_of_ble_eq_true rfl⟩ dX0_heightOn_19 ?_
    refine Z.goto C 31 dX0_heightOn_22 (by decide) ?_
    exact Z.iret C hr dX0_heightOn_31 (⟨(tdZ_none _ q).symm, rfl⟩)
set_option maxRecDepth 20000 in
theorem iw_X0_tell_0 : ∀ w ∈ u_ws RX0 TX0 3, w ∈ wsX0_tell := by decide +kernel
abbrev rmX0_tell : Room := { frames := 1, cells := 0, slots := 0, locals := 22 }
set_option maxHeartbeats 4000000 in
set_option maxRecDepth 100000 in
theorem c_tell (l : Launch) (D : va_G) (cI cJ cL : ClassId) (ad : Nat → Nat) (M B : Int → Int → Int) (lo ch wt sn vo mo le ln od fe se td th : Int → Int) (cnt bw bs pl tk tc sill day lau : Int) (x y : Int) (hx0 : 0 ≤ x) (hx1 : x ≤ 10000) (hc0 : 0 ≤ tc) (hc1 : tc ≤ 40) (hu : uqZ td tc) (ht : ∀ j : Int, 0 ≤ td j ∧ td j ≤ 9999) (hr0 : tc < 40 ∨ plZ td x tc.toNat ≠ -1) : CV l yX0_tell wsX0_tell rmX0_tell [.ref (ad 8), .int (iI x), .int (iI y)] D cI cJ cL (wX ad cI cJ M B lo ch wt sn vo mo le ln od fe se td th cnt bw bs pl tk tc sill day lau) (fun w' => w' = (if plZ td x tc.toNat = -1 then (wX ad cI cJ M B lo ch wt sn vo mo le ln od fe se (zset td tc x) (zset th tc y) cnt bw bs pl tk (tc + 1) sill day lau) else (wX ad cI cJ M B lo ch wt sn vo mo le ln od fe se (zset td (plZ td x tc.toNat) x) (zset th (plZ td x tc.toNat) y) cnt bw bs pl tk tc sill day lau))) := by
  refine CV.of (cc := cX0_tell) (maxL := 4) (ret := none) (own := RX0) _ 1 (by decide +kernel) rfl rfl rfl (Nat.le_of_ble_eq_true rfl) rfl (fun sz9 p9 e9 s9 m9 a9 b9 h9 c9 C hr => ?_)
  refine Z.aload_n C dX0_tell_0 rfl ?_
  refine Z.iload_n C dX0_tell_1 rfl ?_
  refine Z.cVId C 8 1 (c_placeOf l D cI cJ cL ad M B lo ch wt sn vo mo le ln od fe se td th cnt bw bs pl tk tc sill day lau x hx0 hx1 hc0 hc1 hu ht) rfl rfl gX0_tell_X0_placeOf rfl rfl rfl (by decide +kernel) ⟨Nat.le_of_ble_eq_true rfl, Nat.le_of_ble_eq_true rfl⟩ rfl rfl (Nat.le_of_ble_eq_true rfl) ⟨Nat.le_of_ble_eq_true rfl, Nat.le_of_ble_eq_true rfl⟩ dX0_tell_2 ?_
  have b1 : -1 ≤ plZ td x tc.toNat ∧ plZ td x tc.toNat < 40 := by
    rcases plZ_cases (td := td) (day := x) tc.toNat with ⟨q, -⟩ | ⟨k, q1, q2, -⟩ <;> omega
  refine Z.istore_n C dX0_tell_5 (by decide) ?_
  refine Z.iload_n C dX0_tell_6 rfl ?_
  refine Z.iconst C dX0_tell_7 ?_
  refine Z.icmpne C 26 dX0_tell_8 (by decide) (⟨by omega, by omega⟩) (⟨by omega, by omega⟩) (fun q => ?_) (fun q => ?_)
  · refine Z.aload_n C dX0_tell_26 rfl ?_
    refine Z.getf C 8 0 iw_X0_tell_0 rfl rfl (by decide) (by decide +kernel) rfl dX0_tell_27 ?_
    refine Z.iload_n C dX0_tell_30 rfl ?_
    refine Z.iload_n C dX0_tell_31 rfl ?_
    refine Z.iast C 34 rfl (by omega) (by omega) (by decide) dX0_tell_32 wX_a34 ?_
    refine Z.aload_n C dX0_tell_33 rfl ?_
    refine Z.getf C 8 1 iw_X0_tell_0 rfl rfl (by decide) (by decide +kernel) rfl dX0_tell_34 ?_
    refine Z.iload_n C dX0_tell_37 rfl ?_
    refine Z.iload_n C dX0_tell_38 rfl ?_
    refine Z.iast C 35 rfl (by omega) (by omega) (by decide) dX0_tell_39 wX_a35 ?_
    exact Z.vret C hr dX0_tell_40 ((if_neg q).symm)
  · refine Z.aload_n C dX0_tell_11 rfl ?_
    refine Z.getf C 8 2 iw_X0_tell_0 rfl rfl (by decide) (by decide +kernel) rfl dX0_tell_12 ?_
    refine Z.istore_n C dX0_tell_15 (by decide) ?_
    refine Z.aload_n C dX0_tell_16 rfl ?_
    refine Z.dup C dX0_tell_17 rfl ?_
    refine Z.getf C 8 2 iw_X0_tell_0 rfl rfl (by decide) (by decide +kernel) rfl dX0_tell_18 ?_
    refine Z.iconst C dX0_tell_21 ?_
    refine Z.iadd C dX0_tell_22 ?_
    refine Z.putf C 8 2 iw_X0_tell_0 rfl rfl (by decide) tyX0 tyX0_ok nmX0 (by decide +kernel) rfl (ty := .int) (by decide +kernel) rfl rfl (Nat.le_of_ble_eq_true rfl) dX0_tell_23 wX_s_tc ?_
    refine Z.aload_n C dX0_tell_26 rfl ?_
    refine Z.getf C 8 0 iw_X0_tell_0 rfl rfl (by decide) (by decide +kernel) rfl dX0_tell_27 ?_
    refine Z.iload_n C dX0_tell_30 rfl ?_
    refine Z.iload_n C dX0_tell_31 rfl ?_
    refine Z.iast C 34 rfl (by omega) (by omega) (by decide) dX0_tell_32 wX_a34 ?_
    refine Z.aload_n C dX0_tell_33 rfl ?_
    refine Z.getf C 8 1 iw_X0_tell_0 rfl rfl (by decide) (by decide +kernel) rfl dX0_tell_34 ?_
    refine Z.iload_n C dX0_tell_37 rfl ?_
    refine Z.iload_n C dX0_tell_38 rfl ?_
    refine Z.iast C 35 rfl (by omega) (by omega) (by decide) dX0_tell_39 wX_a35 ?_
    exact Z.vret C hr dX0_tell_40 ((if_pos q).symm)
