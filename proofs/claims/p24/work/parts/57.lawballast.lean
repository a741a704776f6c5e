/-! ===== the law's arm of ballast ===== -/
def BP (F : Nat → Nat → Int) (Dm : Nat → Nat → Prop) (b0 s0 : Int) (q : Int × Int × Int) : Prop := (q = (FAR, b0, s0) ∧ ∀ k s : Nat, Dm k s → F k s = FAR) ∨ ∃ k s : Nat, Dm k s ∧ q = (F k s, (k : Int), (s : Int)) ∧ F k s < FAR ∧ ∀ k' s' : Nat, Dm k' s' → F k s ≤ F k' s' ∧ ((k' < k ∨ (k' = k ∧ s' < s)) → F k s < F k' s')
theorem BP.cong {F : Nat → Nat → Int} {D1 D2 : Nat → Nat → Prop} {b0 s0 : Int} {q : Int × Int × Int} (h : BP F D1 b0 s0 q) (hd : ∀ k s : Nat, D1 k s ↔ D2 k s) : BP F D2 b0 s0 q := by
  rcases h with ⟨h1, h2⟩ | ⟨k, s, h1, h2, h3, h4⟩
  · exact Or.inl ⟨h1, fun k s z => h2 k s ((hd k s).mpr z)⟩
  · exact Or.inr ⟨k, s, (hd k s).mp h1, h2, h3, fun k' s' z => h4 k' s' ((hd k' s').mpr z)⟩
theorem BP.uniq {F : Nat → Nat → Int} {Dm : Nat → Nat → Prop} {b0 s0 : Int} {q q' : Int × Int × Int} (h : BP F Dm b0 s0 q) (h' : BP F Dm b0 s0 q') : q = q' := by
  rcases h with ⟨h1, h2⟩ | ⟨k, s, h1, h2, h3, h4⟩
  · rcases h' with ⟨g1, -⟩ | ⟨k', s', g1, -, g3, -⟩
    · rw [h1, g1]
    · have := h2 k' s' g1
      omega
  · rcases h' with ⟨-, g2⟩ | ⟨k', s', g1, g2, g3, g4⟩
    · have := g2 k s h1
      omega
    · have a1 := h4 k' s' g1
      have a2 := g4 k s h1
      have e1 : k = k' := by
        apply Classical.byContradiction
        intro z
        by_cases q : k' < k
        · have := a1.2 (Or.inl q)
          omega
        · have := a2.2 (Or.inl (by omega))
          omega
      subst e1
      have e2 : s = s' := by
        apply Classical.byContradiction
        intro z
        by_cases q : s' < s
        · have := a1.2 (Or.inr ⟨rfl, q⟩)
          omega
        · have := a2.2 (Or.inr ⟨rfl, by omega⟩)
          omega
      subst e2
      rw [h2, g2]
/-- one more, behind all others -/
theorem BP.up {F : Nat → Nat → Int} {D1 D2 : Nat → Nat → Prop} {b0 s0 : Int} {q : Int × Int × Int} (h : BP F D1 b0 s0 q) {K S : Nat} (hfk : F K S ≤ FAR) (hd : ∀ k s : Nat, D2 k s ↔ (D1 k s ∨ (k = K ∧ s = S))) (hlt : ∀ k s : Nat, D1 k s → (k < K ∨ (k = K ∧ s < S))) : BP F D2 b0 s0 (if F K S < q.1 then (F K S, (K : Int), (S : Int)) else q) := by
  have hKS := (hd K S).mpr (Or.inr ⟨rfl, rfl⟩)
  rcases h with ⟨rfl, h2⟩ | ⟨k, s, h1, rfl, h3, h4⟩
  · by_cases e : F K S < FAR
    · rw [if_pos e]
      refine Or.inr ⟨K, S, hKS, rfl, e, fun k' s' z => ?_⟩
      rcases (hd k' s').mp z with z | ⟨rfl, rfl⟩
      · rw [h2 k' s' z]
        exact ⟨hfk, fun _ => e⟩
      · exact ⟨Int.le_refl _, fun z => by omega⟩
    · rw [if_neg e]
      refine Or.inl ⟨rfl, fun k' s' z => ?_⟩
      rcases (hd k' s').mp z with z | ⟨rfl, rfl⟩
      · exact h2 k' s' z
      · omega
  · dsimp only
    by_cases e : F K S < F k s
    · rw [if_pos e]
      refine Or.inr ⟨K, S, hKS, rfl, by omega, fun k' s' z => ?_⟩
      rcases (hd k' s').mp z with z | ⟨rfl, rfl⟩
      · have := (h4 k' s' z).1
        exact ⟨by omega, fun _ => by omega⟩
      · exact ⟨Int.le_refl _, fun z => by omega⟩
    · rw [if_neg e]
      refine Or.inr ⟨k, s, (hd k s).mpr (Or.inl h1), rfl, h3, fun k' s' z => ?_⟩
      rcases (hd k' s').mp z with z | ⟨rfl, rfl⟩
      · exact h4 k' s' z
      · have := hlt k s h1
        exact ⟨by omega, fun z => by omega⟩
/-- one more, ahead of all others -/
theorem BP.skip {F : Nat → Nat → Int} {D1 D2 : Nat → Nat → Prop} {b0 s0 : Int} {q : Int × Int × Int} (h : BP F D1 b0 s0 q) {K S : Nat} (hfk : F K S ≤ FAR) (hd : ∀ k s : Nat, D2 k s ↔ (D1 k s ∨ (k = K ∧ s = S))) (hs : F K S = FAR ∨ q.1 < F K S) : BP F D2 b0 s0 q := by
  rcases h with ⟨rfl, h2⟩ | ⟨k, s, h1, rfl, h3, h4⟩
  · refine Or.inl ⟨rfl, fun k' s' z => ?_⟩
    rcases (hd k' s').mp z with z | ⟨rfl, rfl⟩
    · exact h2 k' s' z
    · dsimp only at hs
      omega
  · dsimp only at hs
    refine Or.inr ⟨k, s, (hd k s).mpr (Or.inl h1), rfl, h3, fun k' s' z => ?_⟩
    rcases (hd k' s').mp z with z | ⟨rfl, rfl⟩
    · exact h4 k' s' z
    · exact ⟨by omega, fun _ => by omega⟩
theorem BP.take {F : Nat → Nat → Int} {D1 D2 : Nat → Nat → Prop} {b0 s0 : Int} {q : Int × Int × Int} (h : BP F D1 b0 s0 q) {K S : Nat} (hd : ∀ k s : Nat, D2 k s ↔ (D1 k s ∨ (k = K ∧ s = S))) (hgt : ∀ k s : Nat, D1 k s → (K < k ∨ (k = K ∧ S < s))) (h1 : F K S < FAR) (h2 : F K S ≤ q.1) : BP F D2 b0 s0 (F K S, (K : Int), (S : Int)) := by
  refine Or.inr ⟨K, S, (hd K S).mpr (Or.inr ⟨rfl, rfl⟩), rfl, h1, fun k' s' z => ?_⟩
  rcases (hd k' s').mp z with z | ⟨rfl, rfl⟩
  · have hg := hgt k' s' z
    rcases h with ⟨rfl, g2⟩ | ⟨k, s, g1, rfl, g3, g4⟩
    · rw [g2 k' s' z]
      exact ⟨by omega, fun _ => by omega⟩
    · have := (g4 k' s' z).1
      dsimp only at h2
      exact ⟨by omega, fun _ => by omega⟩
  · exact ⟨Int.le_refl _, fun z => by omega⟩
def bF (M : Int → Int → Int) (L Mo : Int) (k s : Nat) : Int := itsZ M (L + 10 * (k : Int)) (Mo + (k : Int) * 20 * (s : Int))
theorem bal_BP {M : Int → Int → Int} {L Mo b0 s0 : Int} {n : Nat} (hF : ∀ k s : Nat, k ≤ n → s ≤ 8 → bF M L Mo k s ≤ FAR) : ∀ K : Nat, K ≤ n + 1 → BP (bF M L Mo) (fun k s => s < 9 ∧ k < K) b0 s0 (balOut M L Mo (FAR, b0, s0) K)
  | 0, _ => Or.inl ⟨rfl, fun k s h => absurd h.2 (Nat.not_lt_zero _)⟩
  | K + 1, hK => by
    have ih := bal_BP (b0 := b0) (s0 := s0) hF K (by omega)
    have key : ∀ S : Nat, S ≤ 9 → BP (bF M L Mo) (fun k s => s < 9 ∧ (k < K ∨ (k = K ∧ s < S))) b0 s0 (balIn M L Mo K (balOut M L Mo (FAR, b0, s0) K) S) := by
      intro S
      induction S with
      | zero => intro _; exact ih.cong (fun k s => ⟨fun z => ⟨z.1, Or.inl z.2⟩, fun z => ⟨z.1, by omega⟩⟩)
      | succ S ih2 =>
        intro hS
        exact BP.up (ih2 (by omega)) (K := K) (S := S) (hF K S (by omega) (by omega)) (fun k s => ⟨fun z => by omega, fun z => by omega⟩) (fun k s z => by omega)
    exact (key 9 (Nat.le_refl _)).cong (fun k s => ⟨fun z => ⟨z.1, by omega⟩, fun z => ⟨z.1, by omega⟩⟩)
def lsZ (le : Int) : Int := if le = FAR then 1000000 else le
theorem lsZ_far : lsZ FAR = 1000000 := if_pos rfl
set_option maxHeartbeats 4000000 in
set_option maxRecDepth 100000 in
theorem arm_ballast {p : Program} {l : Launch} {e : Env} {s : State} {m : MethodId} {args : Array Value} {below : List Frame} {meth : Method} {c : Code} {A : Nat → Prop} {D : va_G} {Q : State → Prop} {cI cJ cL : ClassId} {b cells slots : Nat} {aq : Nat → Nat} {hf at_ wg dy ti gg : Int → Int} {ad : Nat → Nat} {M B : Int → Int → Int} {lo ch wt sn vo mo le ln od fe se td th : Int → Int} {cnt bw bs pl tk tc sill day lau : Int} {turn v u w k : Int} (C : Cx p s m args meth c 30 A D cI cJ cL cL_law wsL_law RL) (hl0 : l.stackTraces = false) (hc : cells + 40 ≤ 600130) (hs : slots + 600 ≤ 7301080) (rr : RelA M B hf wt sn wg at_ td th dy ti gg cnt bw bs pl tc sill day lau) (u0 : 0 ≤ turn) (u1 : turn < 110) (hui : inr u) (w0 : 0 ≤ w) (w1 : w ≤ 5) (k0 : 0 ≤ k) (k1 : k ≤ 8) (kk : ∀ (hf at_ wg dy ti gg : Int → Int) (M B : Int → Int → Int) (lo ch wt sn vo mo le ln od fe se td th : Int → Int) (cnt bw bs pl tk tc sill day lau : Int) (lv9 : List Value), RelA M B hf wt sn wg at_ td th dy ti gg cnt bw bs pl tc sill day lau → lvK b (ad 0) aq turn lv9 → Z p l e room_1 s m args below meth c 30 A D Q (cells + 40) (slots + 600) ((wA aq cI hf at_ wg dy ti gg) ++ (wX ad cI cJ M B lo ch wt sn vo mo le ln od fe se td th cnt bw bs pl tk tc sill day lau)) lv9 1317 []) : Z p l e room_1 s m args below meth c 30 A D Q cells slots ((wA aq cI hf at_ wg dy ti gg) ++ (wX ad cI cJ M B lo ch wt sn vo mo le ln od fe se td th cnt bw bs pl tk tc sill day lau)) [.ref b, .ref (ad 0), .ref (aq 0), .ref (aq 1), .ref (aq 2), .ref (aq 3), .ref (aq 4), .ref (aq 5), .int (iI turn), .int (iI v), .int (iI u), .int (iI w), .int (iI k), .int (iI 1), .null, .null, .null, .null, .null, .null, .null, .null, .null, .null, .null, .null, .null, .null, .null, .null] 731 [] := by
  have hF9 : FAR = 100000000 := rfl
  have hM := rr.1.hM
  have hR := rr.1.rh
  have c0 := rr.1.c0
  have c1 := rr.1.c1
  have gb := rr.1.gb
  have ab := rr.1.ab
  have b0 := rr.1.b0
  have b1 := rr.1.b1
  have s0 := rr.1.s0
  have s1 := rr.1.s1
  have bds := rr.1.bds
  have hL16 := rr.1.L16
  have hM16 := rr.1.M16
  have hx := lowZ_bd u (n := 12) (by decide)
  refine Z.iload C dL_law_731 rfl ?_
  refine Z.iconst C dL_law_733 ?_
  refine Z.irem C dL_law_734 (by omega) (by omega) (by omega) (by omega) ?_
  refine Z.ifle C 741 dL_law_735 (by decide) (⟨by omega, by omega⟩) (fun h1 => ?_) (fun h1 => ?_)
  · skip
    refine Z.iload C dL_law_741 rfl ?_
    refine Z.bipush C dL_law_743 (by decide) ?_
    refine Z.cSIp C 2 (q_low l D cI cJ cL u 12 (by decide) (by decide)) gL_law_L_low rfl rfl rfl (by decide +kernel) ⟨Nat.le_of_ble_eq_true rfl, Nat.le_of_ble_eq_true rfl⟩ rfl rfl (Nat.le_of_ble_eq_true rfl) ⟨by show _ ≤ 600130; omega, by show _ ≤ 7301080; omega⟩ dL_law_745 ?_
    obtain ⟨mo9, hmo⟩ : ∃ n : Nat, lowZ u 12 = n := ⟨(lowZ u 12).toNat, by omega⟩
    rw [hmo] at hx ⊢
    generalize hLL : 10 * sumZ wt cnt.toNat = L at bds hL16
    generalize hMM : msZ wt sn cnt.toNat = Mo at bds hM16
    have hkm : ∀ a c : Nat, a ≤ 11 → c ≤ 8 → 0 ≤ (a : Int) * 20 * (c : Int) ∧ (a : Int) * 20 * (c : Int) ≤ 16 * (10 * (a : Int)) := fun a c ha hc9 => by
      have q : 0 ≤ (a : Int) * (c : Int) ∧ (a : Int) * (c : Int) ≤ (a : Int) * 8 := ⟨Int.mul_nonneg (by omega) (by omega), Int.mul_le_mul_of_nonneg_left (by omega) (by omega)⟩
      have e : (a : Int) * 20 * (c : Int) = 20 * ((a : Int) * (c : Int)) := by rw [Int.mul_comm (a : Int) 20, Int.mul_assoc]
      rw [e]
      omega
    have hF : ∀ a c : Nat, a ≤ 11 → c ≤ 8 → (bF M L Mo a c = FAR ∧ drZ (VM M) (L + 10 * (a : Int)) = -1) ∨ (bF M L Mo a c = absZ (tmZ M (L + 10 * (a : Int)) (Mo + (a : Int) * 20 * (c : Int))) ∧ drZ (VM M) (L + 10 * (a : Int)) ≠ -1 ∧ 0 ≤ bF M L Mo a c ∧ bF M L Mo a c ≤ 1600) := fun a c ha hc9 => by
      have hk2 := hkm a c ha hc9
      have ht := tmZ_bd hM (load := L + 10 * (a : Int)) (mo := Mo + (a : Int) * 20 * (c : Int)) (by omega) (by omega) (by omega)
      have ha2 := absZ_bd (a := tmZ M (L + 10 * (a : Int)) (Mo + (a : Int) * 20 * (c : Int))) (k := 1600) (by omega) (by omega)
      unfold bF itsZ
      by_cases e : drZ (VM M) (L + 10 * (a : Int)) = -1
      · rw [if_pos e]
        exact Or.inl ⟨rfl, e⟩
      · rw [if_neg e]
        exact Or.inr ⟨rfl, e, ha2.1, ha2.2⟩
    refine Z.istore C dL_law_748 (by decide) ?_
    refine Z.ldc C (v := iI (1000000)) (1000000) (by decide +kernel) rfl dL_law_750 ?_
    refine Z.istore C dL_law_752 (by decide) ?_
    refine Z.aload_n C dL_law_754 rfl ?_
    refine Z.bipush C dL_law_755 (by decide) ?_
    refine Z.iald C 1 rfl (by omega) (by omega) (by decide) dL_law_757 ?_
    rw [ab]
    refine Z.istore C dL_law_758 (by decide) ?_
    refine Z.aload C dL_law_760 rfl ?_
    refine Z.bipush C dL_law_762 (by decide) ?_
    refine Z.iald C 2 rfl (by omega) (by omega) (by decide) dL_law_764 ?_
    rw [gb]
    refine Z.istore C dL_law_765 (by decide) ?_
    refine Z.iload C dL_law_767 rfl ?_
    refine Z.istore C dL_law_769 (by decide) ?_
    refine Z.iload C dL_law_771 rfl ?_
    refine Z.istore C dL_law_773 (by decide) ?_
    refine Z.iload C dL_law_775 rfl ?_
    refine Z.istore C dL_law_777 (by decide) ?_
    rw [show at_ = zset at_ 16 bs from (zset_same ab).symm, show wg = zset wg 16 bw from (zset_same gb).symm]
    rw [show (1000000 : Int) = lsZ FAR from lsZ_far.symm, show (mo9 : Int) = ((mo9 + 1 : Nat) : Int) - 1 by omega]
    refine Z.loop (α := Nat × (Int × Int × Int) × Int × Int × Value × Value) (fun y => (wA aq cI hf (zset at_ 16 y.2.2.1) (zset wg 16 y.2.2.2.1) dy ti gg) ++ (wX ad cI cJ M B lo ch wt sn vo mo le ln od fe se td th cnt bw bs pl tk tc sill day lau)) (fun y => [.ref b, .ref (ad 0), .ref (aq 0), .ref (aq 1), .ref (aq 2), .ref (aq 3), .ref (aq 4), .ref (aq 5), .int (iI turn), .int (iI v), .int (iI u), .int (iI w), .int (iI k), .int (iI 1), .null, .null, .null, .int (iI (((mo9 + 1 : Nat) : Int) - 1)), .int (iI (lsZ y.2.1.1)), .int (iI bs), .int (iI bw), .int (iI y.2.1.2.2), .int (iI y.2.1.2.1), .int (iI ((y.1 : Int) - 1)), y.2.2.2.2.1, y.2.2.2.2.2, .null, .null, .null, .null]) (fun y => y.1 ≤ mo9 + 1 ∧ BP (bF M L Mo) (fun a c => c < 9 ∧ a ≤ mo9 ∧ y.1 ≤ a) bw bs y.2.1) (fun y => y.1) (mo9 + 1, (FAR, bw, bs), bs, bw, .null, .null) ⟨Nat.le_refl _, Or.inl ⟨rfl, fun a c h => by dsimp only at h; omega⟩⟩ ?_ ?_ (fun y hy ih => ?_)
    · rfl
    · rfl
    obtain ⟨n, q, a0, g0, v24, v25⟩ := y
    dsimp only at hy ih ⊢
    obtain ⟨hn, hq⟩ := hy
    refine Z.iload C dL_law_779 rfl ?_
    refine Z.iflt C 874 dL_law_781 (by decide) (⟨by omega, by omega⟩) (fun h2 => ?_) (fun h2 => ?_)
    · have e0 : n = 0 := by omega
      subst e0
      have hbal := bal_BP (M := M) (L := L) (Mo := Mo) (b0 := bw) (s0 := bs) (n := mo9) (fun a c y1 y2 => by rcases hF a c (by omega) y2 with ⟨y, -⟩ | ⟨-, -, -, y⟩ <;> omega) (mo9 + 1) (Nat.le_refl _)
      have hqe : balOut M L Mo (FAR, bw, bs) (mo9 + 1) = q := BP.uniq (hbal.cong (fun a c => ⟨fun z => ⟨z.1, by omega, Nat.zero_le _⟩, fun z => ⟨z.1, by omega⟩⟩)) hq
      have hB9 : balB (balOut M L Mo (FAR, bw, bs) (mo9 + 1)) := balOut_B ⟨⟨b0, b1⟩, s0, s1⟩ _ (by omega)
      rw [hqe] at hB9
      obtain ⟨le9, bb, ss⟩ := q
      unfold balB at hB9
      dsimp only at hB9 ⊢
      refine Z.aload_n C dL_law_874 rfl ?_
      refine Z.bipush C dL_law_875 (by decide) ?_
      refine Z.iload C dL_law_877 rfl ?_
      refine Z.iast C 1 rfl (by omega) (by omega) (by decide) dL_law_879 wL_a1 ?_
      refine Z.aload C dL_law_880 rfl ?_
      refine Z.bipush C dL_law_882 (by decide) ?_
      refine Z.iload C dL_law_884 rfl ?_
      refine Z.iast C 2 rfl (by omega) (by omega) (by decide) dL_law_886 wL_a2 ?_
      refine Z.aload_n C dL_law_887 rfl ?_
      refine Z.iload C dL_law_888 rfl ?_
      rw [zset_zset, zset_zset, show ((mo9 + 1 : Nat) : Int) - 1 = mo9 by omega]
      refine Z.xSXIf (wr := (wA aq cI hf (zset at_ 16 ss) (zset wg 16 bb) dy ti gg)) C 2 (h_ballast l D cI cJ cL ad M B lo ch wt sn vo mo le ln od fe se td th cnt bw bs pl tk tc sill day lau hl0 hM rr.1.wk c0 c1 mo9 ⟨by omega, by omega⟩) gL_law_L_ballast rfl rfl rfl (by decide +kernel) ⟨Nat.le_of_ble_eq_true rfl, Nat.le_of_ble_eq_true rfl⟩ rfl rfl (Nat.le_of_ble_eq_true rfl) ⟨by show _ ≤ 600130; omega, by show _ ≤ 7301080; omega⟩ dL_law_890 (fun r w9 h3 => ?_) (fun _ _ z => z.elim)
      obtain ⟨-, b9, c9', hbc, rfl, vo2, mo2, rfl⟩ := hq_det h3 (fun E z => by have := z.2.2; omega)
      rw [hLL, hMM, show ((mo9 : Int)).toNat = mo9 by omega, hqe] at hbc
      dsimp only at hbc
      obtain ⟨rfl, rfl⟩ := Prod.mk.inj hbc
      refine Z.bipush C dL_law_893 (by decide) ?_
      refine Z.iload C dL_law_895 rfl ?_
      refine Z.imul C dL_law_897 ?_
      refine Z.iload C dL_law_898 rfl ?_
      refine Z.iadd C dL_law_900 ?_
      refine Z.icmpne C 908 dL_law_901 (by decide) (⟨by omega, by omega⟩) (⟨by omega, by omega⟩) (fun h4 => ?_) (fun h4 => ?_)
      · exact absurd rfl h4
      · skip
        refine Z.iconst C dL_law_904 ?_
        refine Z.goto C 909 dL_law_905 (by decide) ?_
        refine Z.istore C dL_law_909 (by decide) ?_
        refine Z.goto C 1317 dL_law_911 (by decide) ?_
        refine Z.widen (by omega) (by omega) (kk _ _ _ _ _ _ _ _ _ _ _ _ _ _ _ _ _ _ _ _ _ _ _ _ _ _ _ _ _ _ _ ?_ ⟨rfl, rfl, rfl, rfl, rfl, rfl, rfl, rfl, rfl, rfl⟩)
        have hwa : ∀ j : Int, 0 ≤ j → j < cnt → zset wg 16 bb j = wt j ∧ zset at_ 16 ss j = sn j := fun j j0 j1 => by
          rw [zset_ne _ (by omega), zset_ne _ (by omega)]
          exact rr.1.wa j j0 j1
        have hw0 : ∀ j : Int, cnt ≤ j → j < 16 → zset wg 16 bb j = 0 := fun j j0 j1 => by
          rw [zset_ne _ (by omega)]
          exact rr.1.w0 j j0 j1
        exact ⟨⟨rr.1.rh, rr.1.hM, rr.1.hB, rr.1.c0, rr.1.c1, rr.1.en, hwa, hw0, zset_eq _ _ _, zset_eq _ _ _, rr.1.wk, hB9.1.1, hB9.1.2, hB9.2.1, hB9.2.2, rr.1.el, rr.1.p0, rr.1.p1, rr.1.et, rr.1.t0, rr.1.t1, rr.1.ta, rr.1.hu, rr.1.td0, rr.1.dy0, rr.1.th0, rr.1.ti0, rr.1.es, rr.1.l0, rr.1.l1, rr.1.ed, rr.1.d0, rr.1.d1, rr.1.ei, rr.1.i0⟩, rr.2⟩
    · obtain ⟨K, rfl⟩ : ∃ K : Nat, n = K + 1 := ⟨n - 1, by omega⟩
      rw [show ((K + 1 : Nat) : Int) - 1 = K by omega]
      have hq9 : BP (bF M L Mo) (fun a c => c < 9 ∧ a ≤ mo9 ∧ (K < a ∨ (a = K ∧ 9 ≤ c))) bw bs q := hq.cong (fun a c => ⟨fun z => ⟨z.1, z.2.1, Or.inl z.2.2⟩, fun z => ⟨z.1, z.2.1, by omega⟩⟩)
      refine Z.bipush C dL_law_784 (by decide) ?_
      refine Z.istore C dL_law_786 (by decide) ?_
      rw [show (8 : Int) = ((9 : Nat) : Int) - 1 from rfl]
      refine Z.loop (α := Nat × (Int × Int × Int) × Int × Int × Value) (fun y => (wA aq cI hf (zset at_ 16 y.2.2.1) (zset wg 16 y.2.2.2.1) dy ti gg) ++ (wX ad cI cJ M B lo ch wt sn vo mo le ln od fe se td th cnt bw bs pl tk tc sill day lau)) (fun y => [.ref b, .ref (ad 0), .ref (aq 0), .ref (aq 1), .ref (aq 2), .ref (aq 3), .ref (aq 4), .ref (aq 5), .int (iI turn), .int (iI v), .int (iI u), .int (iI w), .int (iI k), .int (iI 1), .null, .null, .null, .int (iI (((mo9 + 1 : Nat) : Int) - 1)), .int (iI (lsZ y.2.1.1)), .int (iI bs), .int (iI bw), .int (iI y.2.1.2.2), .int (iI y.2.1.2.1), .int (iI (K : Int)), .int (iI ((y.1 : Int) - 1)), y.2.2.2.2, .null, .null, .null, .null]) (fun y => y.1 ≤ 9 ∧ BP (bF M L Mo) (fun a c => c < 9 ∧ a ≤ mo9 ∧ (K < a ∨ (a = K ∧ y.1 ≤ c))) bw bs y.2.1) (fun y => y.1) (9, q, a0, g0, v25) ⟨Nat.le_refl _, hq9⟩ rfl rfl (fun y hy ih2 => ?_)
      obtain ⟨m9, q2, a2, g2, v25'⟩ := y
      dsimp only at hy ih2 ⊢
      obtain ⟨hm9, hq2⟩ := hy
      have hqr : lsZ q2.1 = 1000000 ∧ q2.1 = FAR ∨ lsZ q2.1 = q2.1 ∧ 0 ≤ q2.1 ∧ q2.1 ≤ 1600 := by
        rcases hq2 with ⟨rfl, -⟩ | ⟨a, c, z1, rfl, z3, -⟩
        · exact Or.inl ⟨lsZ_far, rfl⟩
        · right
          dsimp only
          rcases hF a c (by omega) (by omega) with ⟨y1, -⟩ | ⟨-, -, y2, y3⟩
          · omega
          · exact ⟨if_neg (by omega), y2, y3⟩
      refine Z.iload C dL_law_788 rfl ?_
      refine Z.iflt C 868 dL_law_790 (by decide) (⟨by omega, by omega⟩) (fun h3 => ?_) (fun h3 => ?_)
      · have e0 : m9 = 0 := by omega
        subst e0
        refine Z.iinc C dL_law_868 rfl (by decide) ?_
        refine Z.goto C 779 dL_law_871 (by decide) ?_
        rw [show (K : Int) + -1 = K - 1 by omega]
        exact ih (K, q2, a2, g2, .int (iI (((0 : Nat) : Int) - 1)), v25') ⟨by dsimp only; omega, hq2.cong (fun a c => ⟨fun z => ⟨z.1, z.2.1, by dsimp only; omega⟩, fun z => ⟨z.1, z.2.1, by have := z.2.2; dsimp only at this; omega⟩⟩)⟩ (by dsimp only; omega)
      · obtain ⟨S, rfl⟩ : ∃ S : Nat, m9 = S + 1 := ⟨m9 - 1, by omega⟩
        rw [show ((S + 1 : Nat) : Int) - 1 = S by omega]
        have hk2 := hkm K S (by omega) (by omega)
        have hl17 : ldZ (zset wg 16 (K : Int)) 17 = L + 10 * (K : Int) := by rw [ldZ_set, hL16]
        have hm17 : msZ (zset wg 16 (K : Int)) (zset at_ 16 (S : Int)) 17 = Mo + (K : Int) * 20 * (S : Int) := by rw [msZ_set, hM16]
        have hFK := hF K S (by omega) (by omega)
        have ht := tmZ_bd hM (load := L + 10 * (K : Int)) (mo := Mo + (K : Int) * 20 * (S : Int)) (by omega) (by omega) (by omega)
        have hdb := drZ_bd (VM M) (L + 10 * (K : Int))
        have hdom : ∀ a c : Nat, (c < 9 ∧ a ≤ mo9 ∧ (K < a ∨ (a = K ∧ S ≤ c))) ↔ ((c < 9 ∧ a ≤ mo9 ∧ (K < a ∨ (a = K ∧ S + 1 ≤ c))) ∨ (a = K ∧ c = S)) := fun a c => ⟨fun z => by omega, fun z => by omega⟩
        refine Z.aload_n C dL_law_793 rfl ?_
        refine Z.bipush C dL_law_794 (by decide) ?_
        refine Z.iload C dL_law_796 rfl ?_
        refine Z.iast C 1 rfl (by omega) (by omega) (by decide) dL_law_798 wL_a1 ?_
        refine Z.aload C dL_law_799 rfl ?_
        refine Z.bipush C dL_law_801 (by decide) ?_
        refine Z.iload C dL_law_803 rfl ?_
        refine Z.iast C 2 rfl (by omega) (by omega) (by decide) dL_law_805 wL_a2 ?_
        rw [zset_zset, zset_zset]
        refine Z.cut (α := Int) 831 (fun _ => (wA aq cI hf (zset at_ 16 (S : Int)) (zset wg 16 (K : Int)) dy ti gg) ++ (wX ad cI cJ M B lo ch wt sn vo mo le ln od fe se td th cnt bw bs pl tk tc sill day lau)) (fun _ => [.ref b, .ref (ad 0), .ref (aq 0), .ref (aq 1), .ref (aq 2), .ref (aq 3), .ref (aq 4), .ref (aq 5), .int (iI turn), .int (iI v), .int (iI u), .int (iI w), .int (iI k), .int (iI 1), .null, .null, .null, .int (iI (((mo9 + 1 : Nat) : Int) - 1)), .int (iI (lsZ q2.1)), .int (iI bs), .int (iI bw), .int (iI q2.2.2), .int (iI q2.2.1), .int (iI (K : Int)), .int (iI (S : Int)), v25', .null, .null, .null, .null]) (fun z => [.int (iI z)]) (fun z => z = lsZ (bF M L Mo K S)) (fun z hz => ?_) (fun join => ?_)
        · have hzr : (z = 1000000 ∧ bF M L Mo K S = FAR) ∨ (z = bF M L Mo K S ∧ 0 ≤ z ∧ z ≤ 1600) := by
            rcases hFK with ⟨y1, -⟩ | ⟨-, -, y2, y3⟩
            · left
              rw [hz, y1]
              exact ⟨lsZ_far, rfl⟩
            · right
              have : lsZ (bF M L Mo K S) = bF M L Mo K S := if_neg (by omega)
              rw [hz, this]
              exact ⟨rfl, y2, y3⟩
          refine Z.cut (α := (Int × Int × Int)) 862 (fun _ => (wA aq cI hf (zset at_ 16 (S : Int)) (zset wg 16 (K : Int)) dy ti gg) ++ (wX ad cI cJ M B lo ch wt sn vo mo le ln od fe se td th cnt bw bs pl tk tc sill day lau)) (fun q3 => [.ref b, .ref (ad 0), .ref (aq 0), .ref (aq 1), .ref (aq 2), .ref (aq 3), .ref (aq 4), .ref (aq 5), .int (iI turn), .int (iI v), .int (iI u), .int (iI w), .int (iI k), .int (iI 1), .null, .null, .null, .int (iI (((mo9 + 1 : Nat) : Int) - 1)), .int (iI (lsZ q3.1)), .int (iI bs), .int (iI bw), .int (iI q3.2.2), .int (iI q3.2.1), .int (iI (K : Int)), .int (iI (S : Int)), .int (iI z), .null, .null, .null, .null]) (fun _ => []) (fun q3 => BP (bF M L Mo) (fun a c => c < 9 ∧ a ≤ mo9 ∧ (K < a ∨ (a = K ∧ S ≤ c))) bw bs q3) (fun q3 hq3 => ?_) (fun join2 => ?_)
          · skip
            refine Z.iinc C dL_law_862 rfl (by decide) ?_
            refine Z.goto C 788 dL_law_865 (by decide) ?_
            rw [show (S : Int) + -1 = S - 1 by omega]
            exact ih2 (S, q3, (S : Int), (K : Int), .int (iI z)) ⟨by dsimp only; omega, hq3⟩ (by dsimp only; omega)
          · skip
            refine Z.istore C dL_law_831 (by decide) ?_
            refine Z.iload C dL_law_833 rfl ?_
            refine Z.iload C dL_law_835 rfl ?_
            refine Z.icmpgt C 862 dL_law_837 (by decide) (⟨by omega, by omega⟩) (⟨by omega, by omega⟩) (fun h4 => ?_) (fun h4 => ?_)
            · exact join2 q2 (BP.skip hq2 (by omega) hdom (by omega))
            · skip
              refine Z.iload C dL_law_840 rfl ?_
              refine Z.ldc C (v := iI (1000000)) (1000000) (by decide +kernel) rfl dL_law_842 ?_
              refine Z.icmpne C 850 dL_law_844 (by decide) (⟨by omega, by omega⟩) (⟨by omega, by omega⟩) (fun h5 => ?_) (fun h5 => ?_)
              · have hzb : z = bF M L Mo K S := by omega
                have hzl : lsZ (bF M L Mo K S) = z := hz.symm
                refine Z.iload C dL_law_850 rfl ?_
                refine Z.istore C dL_law_852 (by decide) ?_
                refine Z.iload C dL_law_854 rfl ?_
                refine Z.istore C dL_law_856 (by decide) ?_
                refine Z.iload C dL_law_858 rfl ?_
                refine Z.istore C dL_law_860 (by decide) ?_
                have hj := join2 (bF M L Mo K S, (K : Int), (S : Int)) (BP.take hq2 hdom (fun a c y => by omega) (by omega) (by omega))
                dsimp only at hj
                rw [hzl] at hj
                exact hj
              · skip
                refine Z.goto C 862 dL_law_847 (by decide) ?_
                exact join2 q2 (BP.skip hq2 (by omega) hdom (by omega))
        · skip
          refine Z.aload_n C dL_law_806 rfl ?_
          refine Z.aload C dL_law_807 rfl ?_
          refine Z.swap ?_
          refine Z.cSIf (wr := (wX ad cI cJ M B lo ch wt sn vo mo le ln od fe se td th cnt bw bs pl tk tc sill day lau)) C 2 (q_draught l D cI cJ cL aq hf (zset at_ 16 (S : Int)) (zset wg 16 (K : Int)) dy ti gg M hM hR (L + 10 * (K : Int)) hl17 (by omega) (by omega)) gL_law_L_draught rfl rfl rfl (by decide +kernel) ⟨Nat.le_of_ble_eq_true rfl, Nat.le_of_ble_eq_true rfl⟩ rfl rfl (Nat.le_of_ble_eq_true rfl) ⟨by show _ ≤ 600130; omega, by show _ ≤ 7301080; omega⟩ dL_law_809 (fun r9 w9 h9 => ?_)
          obtain ⟨rfl, rfl⟩ := h9
          refine Z.swap ?_
          refine Z.iconst C dL_law_812 ?_
          refine Z.icmpne C 821 dL_law_813 (by decide) (⟨by omega, by omega⟩) (⟨by omega, by omega⟩) (fun h4 => ?_) (fun h4 => ?_)
          · skip
            refine Z.aload_n C dL_law_821 rfl ?_
            refine Z.aload_n C dL_law_822 rfl ?_
            refine Z.aload C dL_law_823 rfl ?_
            refine Z.swap ?_
            refine Z.cSIf (wr := (wX ad cI cJ M B lo ch wt sn vo mo le ln od fe se td th cnt bw bs pl tk tc sill day lau)) C 3 (q_trim l D cI cJ cL aq hf (zset at_ 16 (S : Int)) (zset wg 16 (K : Int)) dy ti gg M hM hR (L + 10 * (K : Int)) (Mo + (K : Int) * 20 * (S : Int)) hl17 hm17 (by omega) (by omega) (by omega) (by omega)) gL_law_L_trim rfl rfl rfl (by decide +kernel) ⟨Nat.le_of_ble_eq_true rfl, Nat.le_of_ble_eq_true rfl⟩ rfl rfl (Nat.le_of_ble_eq_true rfl) ⟨by show _ ≤ 600130; omega, by show _ ≤ 7301080; omega⟩ dL_law_825 (fun r9 w9 h9 => ?_)
            obtain ⟨rfl, rfl⟩ := h9
            refine Z.swap ?_
            refine Z.cSIp C 1 (q_size l D cI cJ cL (tmZ M (L + 10 * (K : Int)) (Mo + (K : Int) * 20 * (S : Int))) ⟨by omega, by omega⟩) gL_law_L_size rfl rfl rfl (by decide +kernel) ⟨Nat.le_of_ble_eq_true rfl, Nat.le_of_ble_eq_true rfl⟩ rfl rfl (Nat.le_of_ble_eq_true rfl) ⟨by show _ ≤ 600130; omega, by show _ ≤ 7301080; omega⟩ dL_law_828 ?_
            rcases hFK with ⟨-, y2⟩ | ⟨y1, -, y2, y3⟩
            · exact absurd y2 h4
            · refine join _ ?_
              have : lsZ (bF M L Mo K S) = bF M L Mo K S := if_neg (by omega)
              rw [this, y1]
          · skip
            refine Z.ldc C (v := iI (1000000)) (1000000) (by decide +kernel) rfl dL_law_816 ?_
            refine Z.goto C 831 dL_law_818 (by decide) ?_
            rcases hFK with ⟨y1, -⟩ | ⟨-, y2, -⟩
            · exact join 1000000 (by rw [y1]; exact lsZ_far.symm)
            · exact absurd h4 y2
  · skip
    refine Z.goto C 1317 dL_law_738 (by decide) ?_
    exact Z.widen (by omega) (by omega) (kk _ _ _ _ _ _ _ _ _ _ _ _ _ _ _ _ _ _ _ _ _ _ _ _ _ _ _ _ _ _ _ rr ⟨rfl, rfl, rfl, rfl, rfl, rfl, rfl, rfl, rfl, rfl⟩)
