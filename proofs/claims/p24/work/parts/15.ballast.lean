/-! ===== Buoyancy.setBallast ===== -/
def balStep (M : Int → Int → Int) (L Mo : Int) (k s : Nat) (q : Int × Int × Int) : Int × Int × Int := if itsZ M (L + 10 * k) (Mo + k * 20 * s) < q.1 then (itsZ M (L + 10 * k) (Mo + k * 20 * s), k, s) else q
def balIn (M : Int → Int → Int) (L Mo : Int) (k : Nat) (q : Int × Int × Int) : Nat → Int × Int × Int
  | 0 => q
  | s + 1 => balStep M L Mo k s (balIn M L Mo k q s)
def balOut (M : Int → Int → Int) (L Mo : Int) (q : Int × Int × Int) : Nat → Int × Int × Int
  | 0 => q
  | k + 1 => balIn M L Mo k (balOut M L Mo q k) 9
theorem balIn_none {M : Int → Int → Int} {L Mo : Int} {k : Nat} {q : Int × Int × Int} (h : drZ (VM M) (L + 10 * k) = -1) (hq : q.1 ≤ FAR) : ∀ s : Nat, balIn M L Mo k q s = q
  | 0 => rfl
  | s + 1 => by
    simp only [balIn, balStep]
    rw [balIn_none h hq s, if_neg]
    unfold itsZ
    rw [if_pos h]
    omega
theorem balOut_none {M : Int → Int → Int} {L Mo : Int} {k : Nat} {q : Int × Int × Int} (h : drZ (VM M) (L + 10 * k) = -1) (hq : (balOut M L Mo q k).1 ≤ FAR) : ∀ n : Nat, balOut M L Mo q (k + n) = balOut M L Mo q k
  | 0 => rfl
  | n + 1 => by
    show balIn M L Mo (k + n) (balOut M L Mo q (k + n)) 9 = _
    rw [balOut_none h hq n]
    exact balIn_none (drZ_mono (by push_cast; omega) h) hq 9
def balRel (fd le b1 b2 : Int) (q : Int × Int × Int) : Prop := q.2.1 = b1 ∧ q.2.2 = b2 ∧ ((fd = 0 ∧ q.1 = FAR) ∨ (fd = 1 ∧ le = q.1 ∧ 0 ≤ q.1 ∧ q.1 ≤ 1600))
theorem balRel.le {fd le b1 b2 : Int} {q : Int × Int × Int} (h : balRel fd le b1 b2 q) : q.1 ≤ FAR := by
  rcases h.2.2 with ⟨-, h⟩ | ⟨-, -, -, h⟩
  · omega
  · unfold FAR; omega
theorem absZ_bd {a k : Int} (h1 : -k ≤ a) (h2 : a ≤ k) : 0 ≤ absZ a ∧ absZ a ≤ k := by
  unfold absZ
  split <;> omega
set_option maxRecDepth 20000 in
theorem iw_X2_setBallast_3 : ∀ w ∈ u_ws RX3 TX3 5, w ∈ wsX2_setBallast := by decide +kernel
abbrev rmX2_setBallast : Room := { frames := 3, cells := 0, slots := 0, locals := 66 }
set_option maxHeartbeats 4000000 in
set_option maxRecDepth 100000 in
theorem c_setBallast (l : Launch) (D : va_G) (cI cJ cL : ClassId) (ad : Nat → Nat) (M B : Int → Int → Int) (lo ch wt sn vo mo le ln od fe se td th : Int → Int) (cnt bw bs pl tk tc sill day lau : Int) (hM : hOK M) (hm : mP M vo mo 6) (hw : wOK wt sn) (hc0 : 0 ≤ cnt) (hc1 : cnt ≤ 16) (x : Nat) (hx : x ≤ 99) : CV l yX2_setBallast wsX2_setBallast rmX2_setBallast [.ref (ad 6), .ref (ad 5), .int (iI x)] D cI cJ cL (wX ad cI cJ M B lo ch wt sn vo mo le ln od fe se td th cnt bw bs pl tk tc sill day lau) (fun w' => w' = (wX ad cI cJ M B lo ch wt sn vo mo le ln od fe se td th cnt (balOut M (10 * sumZ wt cnt.toNat) (msZ wt sn cnt.toNat) (FAR, bw, bs) (x + 1)).2.1 (balOut M (10 * sumZ wt cnt.toNat) (msZ wt sn cnt.toNat) (FAR, bw, bs) (x + 1)).2.2 pl tk tc sill day lau)) := by
  have hL := sumZ_bd hw cnt.toNat
  have hMo := msZ_bd hw cnt.toNat
  generalize hLe : 10 * sumZ wt cnt.toNat = L
  generalize hMe : msZ wt sn cnt.toNat = Mo at hMo
  have hL0 : 0 ≤ L ∧ L ≤ 160000 := by omega
  have hM0 : 0 ≤ Mo ∧ Mo ≤ 16 * L := by omega
  refine CV.of (cc := cX2_setBallast) (maxL := 10) (ret := none) (own := RX2) _ 7 (by decide +kernel) rfl rfl rfl (Nat.le_of_ble_eq_true rfl) rfl (fun sz9 p9 e9 s9 m9 a9 b9 h9 c9 C hr => ?_)
  refine Z.aload_n C dX2_setBallast_0 rfl ?_
  refine Z.cVNId C 5 (host := RX6) 0 (c_loadWithoutBallast l D cI cJ cL ad M B lo ch wt sn vo mo le ln od fe se td th cnt bw bs pl tk tc sill day lau hc0 hc1) rfl rfl gX2_setBallast_X3_loadWithoutBallast_n39 (by decide +kernel) (by decide +kernel) (by decide +kernel) (by decide +kernel) rfl rfl rfl (by decide +kernel) ⟨Nat.le_of_ble_eq_true rfl, Nat.le_of_ble_eq_true rfl⟩ rfl rfl (Nat.le_of_ble_eq_true rfl) ⟨Nat.le_of_ble_eq_true rfl, Nat.le_of_ble_eq_true rfl⟩ dX2_setBallast_1 ?_
  rw [hLe]
  refine Z.istore_n C dX2_setBallast_4 (by decide) ?_
  refine Z.aload_n C dX2_setBallast_5 rfl ?_
  refine Z.cVNId C 5 (host := RX6) 0 (c_momentWithoutBallast l D cI cJ cL ad M B lo ch wt sn vo mo le ln od fe se td th cnt bw bs pl tk tc sill day lau hc0 hc1) rfl rfl gX2_setBallast_X3_momentWithoutBallast_n45 (by decide +kernel) (by decide +kernel) (by decide +kernel) (by decide +kernel) rfl rfl rfl (by decide +kernel) ⟨Nat.le_of_ble_eq_true rfl, Nat.le_of_ble_eq_true rfl⟩ rfl rfl (Nat.le_of_ble_eq_true rfl) ⟨Nat.le_of_ble_eq_true rfl, Nat.le_of_ble_eq_true rfl⟩ dX2_setBallast_6 ?_
  rw [hMe]
  refine Z.istore C dX2_setBallast_9 (by decide) ?_
  refine Z.iconst C dX2_setBallast_11 ?_
  refine Z.istore C dX2_setBallast_12 (by decide) ?_
  refine Z.iconst C dX2_setBallast_14 ?_
  refine Z.istore C dX2_setBallast_15 (by decide) ?_
  refine Z.iconst C dX2_setBallast_17 ?_
  refine Z.istore C dX2_setBallast_18 (by decide) ?_
  refine Z.loop (α := Nat × Int × Int × Int × Int × Value × Value) (fun y => (wX ad cI cJ M B lo ch wt sn vo mo le ln od fe se td th cnt y.2.2.2.1 y.2.2.2.2.1 pl tk tc sill day lau)) (fun y => [.ref (ad 6), .ref (ad 5), .int (iI x), .int (iI L), .int (iI Mo), .int (iI y.2.1), .int (iI y.2.2.1), .int (iI y.1), y.2.2.2.2.2.1, y.2.2.2.2.2.2]) (fun y => y.1 ≤ x + 1 ∧ balRel y.2.1 y.2.2.1 y.2.2.2.1 y.2.2.2.2.1 (balOut M L Mo (FAR, bw, bs) y.1)) (fun y => x + 1 - y.1) (0, 0, 0, bw, bs, .null, .null) ⟨Nat.zero_le _, rfl, rfl, Or.inl ⟨rfl, rfl⟩⟩ rfl rfl (fun y hk ih => ?_)
  obtain ⟨k, fd, lea, b1, b2, v8, v9⟩ := y
  obtain ⟨hk, hr1⟩ := hk
  dsimp only at hk hr1 ih ⊢
  refine Z.iload C dX2_setBallast_20 rfl ?_
  refine Z.iload_n C dX2_setBallast_22 rfl ?_
  refine Z.icmpgt C 122 dX2_setBallast_23 (by decide) (⟨by omega, by omega⟩) (⟨by omega, by omega⟩) (fun h => ?_) (fun h => ?_)
  · refine Z.vret C hr dX2_setBallast_122 ?_
    rw [show k = x + 1 by omega] at hr1
    rw [hr1.1, hr1.2.1]
  · refine Z.aload_n C dX2_setBallast_26 rfl ?_
    refine Z.iload_n C dX2_setBallast_27 rfl ?_
    refine Z.bipush C dX2_setBallast_28 (by decide) ?_
    refine Z.iload C dX2_setBallast_30 rfl ?_
    refine Z.imul C dX2_setBallast_32 ?_
    refine Z.iadd C dX2_setBallast_33 ?_
    refine Z.cVId C 6 1 (c_draughtUnder l D cI cJ cL ad M B lo ch wt sn vo mo le ln od fe se td th cnt b1 b2 pl tk tc sill day lau hM hm (L + 10 * k) (by omega) (by omega)) rfl rfl gX2_setBallast_X2_draughtUnder rfl rfl rfl (by decide +kernel) ⟨Nat.le_of_ble_eq_true rfl, Nat.le_of_ble_eq_true rfl⟩ rfl rfl (Nat.le_of_ble_eq_true rfl) ⟨Nat.le_of_ble_eq_true rfl, Nat.le_of_ble_eq_true rfl⟩ dX2_setBallast_34 ?_
    have bd := drZ_bd (VM M) (L + 10 * k)
    refine Z.iconst C dX2_setBallast_37 ?_
    refine Z.icmpne C 42 dX2_setBallast_38 (by decide) (⟨by omega, by omega⟩) (⟨by omega, by omega⟩) (fun hd => ?_) (fun hd => ?_)
    · refine Z.iconst C dX2_setBallast_42 ?_
      refine Z.istore C dX2_setBallast_43 (by decide) ?_
      refine Z.loop (α := Nat × Int × Int × Int × Int × Value) (fun y => (wX ad cI cJ M B lo ch wt sn vo mo le ln od fe se td th cnt y.2.2.2.1 y.2.2.2.2.1 pl tk tc sill day lau)) (fun y => [.ref (ad 6), .ref (ad 5), .int (iI x), .int (iI L), .int (iI Mo), .int (iI y.2.1), .int (iI y.2.2.1), .int (iI k), .int (iI y.1), y.2.2.2.2.2]) (fun y => y.1 ≤ 9 ∧ balRel y.2.1 y.2.2.1 y.2.2.2.1 y.2.2.2.2.1 (balIn M L Mo k (balOut M L Mo (FAR, bw, bs) k) y.1)) (fun y => 9 - y.1) (0, fd, lea, b1, b2, v9) ⟨Nat.zero_le _, hr1⟩ rfl rfl (fun y hj ih2 => ?_)
      obtain ⟨j, fd1, le1, b3, b4, v10⟩ := y
      obtain ⟨hj, hr2⟩ := hj
      dsimp only at hj hr2 ih2 ⊢
      refine Z.iload C dX2_setBallast_45 rfl ?_
      refine Z.bipush C dX2_setBallast_47 (by decide) ?_
      refine Z.icmpge C 116 dX2_setBallast_49 (by decide) (⟨by omega, by omega⟩) (⟨by omega, by omega⟩) (fun h2 => ?_) (fun h2 => ?_)
      · refine Z.iinc C dX2_setBallast_116 rfl (by decide) ?_
        refine Z.goto C 20 dX2_setBallast_119 (by decide) ?_
        rw [show j = 9 by omega] at hr2
        exact ih (k + 1, fd1, le1, b3, b4, _, _) ⟨by dsimp only; omega, hr2⟩ (by dsimp only; omega)
      · have hmul := mul_bd (a := (k : Int)) (b := (j : Int)) (by omega) (by omega) (by omega)
        have ht := tmZ_bd hM (load := L + 10 * k) (mo := Mo + k * 20 * j) (by omega) (by omega) (by omega)
        have hits : itsZ M (L + 10 * k) (Mo + k * 20 * j) = absZ (tmZ M (L + 10 * k) (Mo + k * 20 * j)) := by unfold itsZ; rw [if_neg hd]
        have hab := absZ_bd (a := tmZ M (L + 10 * k) (Mo + k * 20 * j)) (k := 1600) (by omega) (by omega)
        have hlt : ∀ q : Int × Int × Int, absZ (tmZ M (L + 10 * k) (Mo + k * 20 * j)) < q.1 → balStep M L Mo k j q = (absZ (tmZ M (L + 10 * k) (Mo + k * 20 * j)), (k : Int), (j : Int)) := fun q hq => by unfold balStep; rw [hits, if_pos hq]
        have hge : ∀ q : Int × Int × Int, q.1 ≤ absZ (tmZ M (L + 10 * k) (Mo + k * 20 * j)) → balStep M L Mo k j q = q := fun q hq => by unfold balStep; rw [hits, if_neg (by omega)]
        refine Z.aload_n C dX2_setBallast_52 rfl ?_
        refine Z.iload_n C dX2_setBallast_53 rfl ?_
        refine Z.bipush C dX2_setBallast_54 (by decide) ?_
        refine Z.iload C dX2_setBallast_56 rfl ?_
        refine Z.imul C dX2_setBallast_58 ?_
        refine Z.iadd C dX2_setBallast_59 ?_
        refine Z.iload C dX2_setBallast_60 rfl ?_
        refine Z.iload C dX2_setBallast_62 rfl ?_
        refine Z.bipush C dX2_setBallast_64 (by decide) ?_
        refine Z.imul C dX2_setBallast_66 ?_
        refine Z.iload C dX2_setBallast_67 rfl ?_
        refine Z.imul C dX2_setBallast_69 ?_
        refine Z.iadd C dX2_setBallast_70 ?_
        refine Z.cVId C 6 2 (c_trimUnder l D cI cJ cL ad M B lo ch wt sn vo mo le ln od fe se td th cnt b3 b4 pl tk tc sill day lau hM hm (L + 10 * k) (Mo + k * 20 * j) (by omega) (by omega) (by omega) (by omega)) rfl rfl gX2_setBallast_X2_trimUnder rfl rfl rfl (by decide +kernel) ⟨Nat.le_of_ble_eq_true rfl, Nat.le_of_ble_eq_true rfl⟩ rfl rfl (Nat.le_of_ble_eq_true rfl) ⟨Nat.le_of_ble_eq_true rfl, Nat.le_of_ble_eq_true rfl⟩ dX2_setBallast_71 ?_
        refine Z.mabs C (by decide +kernel) (by decide +kernel) (by decide +kernel) (by decide +kernel) (Nat.le_of_ble_eq_true rfl) (Nat.le_of_ble_eq_true rfl) ⟨Nat.le_of_ble_eq_true rfl, Nat.le_of_ble_eq_true rfl⟩ (⟨by omega, by omega⟩) dX2_setBallast_74 ?_
        refine Z.as (v' := .int (iI (absZ (tmZ M (L + 10 * k) (Mo + k * 20 * j))))) rfl ?_
        generalize absZ (tmZ M (L + 10 * k) (Mo + k * 20 * j)) = ab at hab hlt hge
        refine Z.istore C dX2_setBallast_77 (by decide) ?_
        refine Z.iload C dX2_setBallast_79 rfl ?_
        have hfd : inr fd1 := by rcases hr2.2.2 with ⟨q, -⟩ | ⟨q, -⟩ <;> exact ⟨by omega, by omega⟩
        refine Z.ifeq C 91 dX2_setBallast_81 (by decide) (hfd) (fun h3 => ?_) (fun h3 => ?_)
        · refine Z.iconst C dX2_setBallast_91 ?_
          refine Z.istore C dX2_setBallast_92 (by decide) ?_
          refine Z.iload C dX2_setBallast_94 rfl ?_
          refine Z.istore C dX2_setBallast_96 (by decide) ?_
          refine Z.aload_n C dX2_setBallast_98 rfl ?_
          refine Z.iload C dX2_setBallast_99 rfl ?_
          refine Z.putfN C 5 3 iw_X2_setBallast_3 rfl rfl (by decide) tyX3 tyX3_ok nmX3 (host := RX6) (by decide +kernel) rfl (ty := .int) (by decide +kernel) rfl rfl (Nat.le_of_ble_eq_true rfl) dX2_setBallast_101 wX_s_bw ?_
          refine Z.aload_n C dX2_setBallast_104 rfl ?_
          refine Z.iload C dX2_setBallast_105 rfl ?_
          refine Z.putfN C 5 4 iw_X2_setBallast_3 rfl rfl (by decide) tyX3 tyX3_ok nmX3 (host := RX6) (by decide +kernel) rfl (ty := .int) (by decide +kernel) rfl rfl (Nat.le_of_ble_eq_true rfl) dX2_setBallast_107 wX_s_bs ?_
          refine Z.iinc C dX2_setBallast_110 rfl (by decide) ?_
          refine Z.goto C 45 dX2_setBallast_113 (by decide) ?_
          refine ih2 (j + 1, 1, ab, k, j, _) ⟨by dsimp only; omega, ?_⟩ (by dsimp only; omega)
          dsimp only [balIn]
          rcases hr2.2.2 with ⟨-, q⟩ | ⟨q, -⟩
          · rw [hlt _ (by rw [q]; unfold FAR; omega)]
            exact ⟨rfl, rfl, Or.inr ⟨rfl, rfl, hab.1, hab.2⟩⟩
          · omega
        · rcases hr2.2.2 with ⟨q, -⟩ | ⟨-, q1, q2, q3⟩
          · omega
          · skip
            refine Z.iload C dX2_setBallast_84 rfl ?_
            refine Z.iload C dX2_setBallast_86 rfl ?_
            refine Z.icmpge C 110 dX2_setBallast_88 (by decide) (⟨by omega, by omega⟩) (⟨by omega, by omega⟩) (fun h4 => ?_) (fun h4 => ?_)
            · refine Z.iinc C dX2_setBallast_110 rfl (by decide) ?_
              refine Z.goto C 45 dX2_setBallast_113 (by decide) ?_
              refine ih2 (j + 1, fd1, le1, b3, b4, _) ⟨by dsimp only; omega, ?_⟩ (by dsimp only; omega)
              dsimp only [balIn]
              rw [hge _ (by omega)]
              exact hr2
            · refine Z.iconst C dX2_setBallast_91 ?_
              refine Z.istore C dX2_setBallast_92 (by decide) ?_
              refine Z.iload C dX2_setBallast_94 rfl ?_
              refine Z.istore C dX2_setBallast_96 (by decide) ?_
              refine Z.aload_n C dX2_setBallast_98 rfl ?_
              refine Z.iload C dX2_setBallast_99 rfl ?_
              refine Z.putfN C 5 3 iw_X2_setBallast_3 rfl rfl (by decide) tyX3 tyX3_ok nmX3 (host := RX6) (by decide +kernel) rfl (ty := .int) (by decide +kernel) rfl rfl (Nat.le_of_ble_eq_true rfl) dX2_setBallast_101 wX_s_bw ?_
              refine Z.aload_n C dX2_setBallast_104 rfl ?_
              refine Z.iload C dX2_setBallast_105 rfl ?_
              refine Z.putfN C 5 4 iw_X2_setBallast_3 rfl rfl (by decide) tyX3 tyX3_ok nmX3 (host := RX6) (by decide +kernel) rfl (ty := .int) (by decide +kernel) rfl rfl (Nat.le_of_ble_eq_true rfl) dX2_setBallast_107 wX_s_bs ?_
              refine Z.iinc C dX2_setBallast_110 rfl (by decide) ?_
              refine Z.goto C 45 dX2_setBallast_113 (by decide) ?_
              refine ih2 (j + 1, 1, ab, k, j, _) ⟨by dsimp only; omega, ?_⟩ (by dsimp only; omega)
              dsimp only [balIn]
              rw [hlt _ (by omega)]
              exact ⟨rfl, rfl, Or.inr ⟨rfl, rfl, hab.1, hab.2⟩⟩
    · refine Z.vret C hr dX2_setBallast_41 ?_
      have hn := balOut_none hd hr1.le (x + 1 - k)
      rw [show k + (x + 1 - k) = x + 1 by omega] at hn
      rw [hn, hr1.1, hr1.2.1]
