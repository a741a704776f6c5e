/-! ===== the least bend, found from the first station on: numbers alone ===== -/
def nmZ (d : Int → Int) : Nat → Int
  | 0 => 0
  | k + 1 => 5 * nmZ d k + d k
def pwZ : Nat → Int
  | 0 => 1
  | k + 1 => 5 * pwZ k
def liZ (f d : Int → Int) : Int → Int := fun s => f s + d s - 2
def okD (f : Int → Int) (x : Int) (d : Int → Int) (k : Nat) : Prop := ∀ j : Nat, j < k → mayP f x j (d j)
def dgD (d : Int → Int) (k : Nat) : Prop := ∀ j : Nat, j < k → 0 ≤ d j ∧ d j ≤ 4
def leL (b n b' n' : Int) : Prop := b < b' ∨ (b = b' ∧ n ≤ n')
theorem leL_refl (b n : Int) : leL b n b n := Or.inr ⟨rfl, Int.le_refl _⟩
theorem leL_trans {a b c d e f : Int} (h : leL a b c d) (h2 : leL c d e f) : leL a b e f := by
  unfold leL at *
  omega
theorem nmZ_cong {d e : Int → Int} : ∀ k : Nat, (∀ j : Nat, j < k → d j = e j) → nmZ d k = nmZ e k
  | 0, _ => rfl
  | k + 1, h => by
    simp only [nmZ]
    rw [nmZ_cong k (fun j hj => h j (by omega)), h k (by omega)]
theorem nmZ_bd {d : Int → Int} : ∀ k : Nat, dgD d k → 0 ≤ nmZ d k ∧ nmZ d k < pwZ k
  | 0, _ => ⟨Int.le_refl _, by show (0 : Int) < 1; decide⟩
  | k + 1, h => by
    have ih := nmZ_bd k (fun j hj => h j (by omega))
    have := h k (by omega)
    simp only [nmZ, pwZ]
    omega
theorem pwZ_mono : ∀ k n : Nat, pwZ k ≤ pwZ (k + n) ∧ 0 < pwZ k
  | 0, 0 => by decide
  | k + 1, 0 => by
    have := (pwZ_mono k 0).2
    exact ⟨Int.le_refl _, by simp only [pwZ]; omega⟩
  | k, n + 1 => by
    have h := pwZ_mono k n
    have e : pwZ (k + (n + 1)) = 5 * pwZ (k + n) := rfl
    rw [e]
    omega
theorem nmZ_9 {d : Int → Int} {k : Nat} (hk : k ≤ 9) (h : dgD d k) : 0 ≤ nmZ d k ∧ nmZ d k ≤ 1953124 := by
  have h1 := nmZ_bd k h
  have h2 := (pwZ_mono k (9 - k)).1
  rw [show k + (9 - k) = 9 by omega, show pwZ 9 = 1953125 from rfl] at h2
  omega
theorem nmZ_lex {d e : Int → Int} (hd : dgD d 9) (he : dgD e 9) (h : ∀ s : Nat, s < 9 → (∀ j : Nat, j < s → d j = e j) → d s ≤ e s) : ∀ k : Nat, k ≤ 9 → (∀ j : Nat, j < k → d j = e j) ∨ nmZ d k < nmZ e k
  | 0, _ => Or.inl (fun j hj => absurd hj (Nat.not_lt_zero _))
  | k + 1, hk => by
    have a := hd k (by omega)
    have b := he k (by omega)
    rcases nmZ_lex hd he h k (by omega) with q | q
    · have h1 := h k (by omega) q
      have h2 := nmZ_cong k q
      by_cases e9 : d k = e k
      · refine Or.inl (fun j hj => ?_)
        by_cases e8 : j = k
        · rw [e8]; exact e9
        · exact q j (by omega)
      · refine Or.inr ?_
        simp only [nmZ]
        omega
    · refine Or.inr ?_
      simp only [nmZ]
      omega
theorem nmZ_le9 {d e : Int → Int} (hd : dgD d 9) (he : dgD e 9) (h : ∀ s : Nat, s < 9 → (∀ j : Nat, j < s → d j = e j) → d s ≤ e s) : nmZ d 9 ≤ nmZ e 9 := by
  rcases nmZ_lex hd he h 9 (Nat.le_refl _) with q | q
  · rw [nmZ_cong 9 q]; exact Int.le_refl _
  · omega
theorem nmZ_inj {d e : Int → Int} : ∀ k : Nat, dgD d k → dgD e k → nmZ d k = nmZ e k → ∀ j : Nat, j < k → d j = e j
  | 0, _, _, _ => fun j hj => absurd hj (Nat.not_lt_zero _)
  | k + 1, hd, he, h => by
    have a := hd k (by omega)
    have b := he k (by omega)
    simp only [nmZ] at h
    intro j hj
    by_cases e8 : j = k
    · rw [e8]; omega
    · exact nmZ_inj k (fun j hj => hd j (by omega)) (fun j hj => he j (by omega)) (by omega) j (by omega)
theorem okD_dg {f : Int → Int} (hf : ∀ j : Int, 0 ≤ f j ∧ f j ≤ 200) {x : Int} (x0 : 0 ≤ x) (x1 : x ≤ 2) {d : Int → Int} {k : Nat} (h : okD f x d k) : dgD d k := fun j hj => by
  have a := h j hj
  have b := dZ_bd hf x0 x1 (j : Int)
  unfold mayP at a
  omega
theorem dQ_spec {f : Int → Int} (hf : ∀ j : Int, 0 ≤ f j ∧ f j ≤ 200) {x : Int} (x0 : 0 ≤ x) (x1 : x ≤ 2) : ∃ a b : Nat, (a : Int) < chZ f x 0 ∧ (b : Int) < chZ f x 1 ∧ (dQ (loZ f x) (chZ f x)).2.1 = a ∧ (dQ (loZ f x) (chZ f x)).2.2 = b ∧ ∀ a' b' : Nat, (a' : Int) < chZ f x 0 → (b' : Int) < chZ f x 1 → RZ (loZ f x) (chZ f x) 7 a b ≤ RZ (loZ f x) (chZ f x) 7 a' b' ∧ ((a' < a ∨ (a' = a ∧ b' < b)) → RZ (loZ f x) (chZ f x) 7 a b < RZ (loZ f x) (chZ f x) 7 a' b') := by
  have d0 := dZ_bd hf x0 x1 0
  have d1 := dZ_bd hf x0 x1 1
  have hLC := LC_Z (f := f) hf x0 x1
  have hRb : ∀ a b : Nat, a < (chZ f x 0).toNat → b < (chZ f x 1).toNat → RZ (loZ f x) (chZ f x) 7 a b < NOL := fun a b ha hb' => by
    have := RZ_bd hLC 7 (by omega) a b (by omega) (by show (a : Int) < chZ f x 0; omega) (by omega) (by show (b : Int) < chZ f x 1; omega)
    unfold NOL
    omega
  have hlex := lexP_out (R := RZ (loZ f x) (chZ f x) 7) (c1 := (chZ f x 1).toNat) (by omega) (chZ f x 0).toNat hRb (chZ f x 0).toNat (Nat.le_refl _)
  have hdq : dQ (loZ f x) (chZ f x) = dOut (RZ (loZ f x) (chZ f x) 7) (chZ f x 1).toNat (NOL, 0, 0) (chZ f x 0).toNat := rfl
  rw [← hdq] at hlex
  generalize dQ (loZ f x) (chZ f x) = q at hlex ⊢
  rcases hlex with ⟨z, -, -⟩ | ⟨a, b, h1, h2, rfl, h3⟩
  · omega
  · exact ⟨a, b, by omega, by omega, rfl, rfl, fun a' b' q1 q2 => h3 a' b' (by omega) (by omega)⟩
def dsZ (f : Int → Int) (x : Int) : Int → Int := fun s => dZ f x s + (oZ (loZ f x) (chZ f x) (dQ (loZ f x) (chZ f x)).2.1 (dQ (loZ f x) (chZ f x)).2.2 s.toNat).1
theorem ds_fr (f : Int → Int) (x : Int) (s : Nat) : liZ f (dsZ f x) s = frZ f x s := by
  unfold liZ dsZ frZ fairZ dZ
  rw [show (((s : Int).toNat : Nat) : Int) = s by omega]
  omega
theorem lo_li {f : Int → Int} {x : Int} (e : Int → Int) (s : Int) : loZ f x s + (e s - dZ f x s) = liZ f e s := by
  unfold dZ liZ
  omega
theorem gZ_e {f : Int → Int} {x : Int} (e : Int → Int) {s : Nat} (hs : s ≤ 6) {T : Int} (hR : RZ (loZ f x) (chZ f x) (6 - s) (e ((s : Int) + 1) - dZ f x ((s : Int) + 1)) (e ((s : Int) + 2) - dZ f x ((s : Int) + 2)) ≤ T - bendZ (liZ f e) (s + 1)) : gZ (loZ f x) (chZ f x) s (e s - dZ f x s) (e ((s : Int) + 1) - dZ f x ((s : Int) + 1)) (e ((s : Int) + 2) - dZ f x ((s : Int) + 2)) ≤ T - bendZ (liZ f e) s := by
  have h1 : bendZ (liZ f e) (s + 1) = bendZ (liZ f e) s + sqZ (liZ f e s) (liZ f e ((s : Int) + 1)) (liZ f e ((s : Int) + 1 + 1)) := rfl
  rw [show (s : Int) + 1 + 1 = (s : Int) + 2 by omega] at h1
  unfold gZ
  rw [lo_li e (s : Int), lo_li e ((s : Int) + 1), lo_li e ((s : Int) + 2)]
  omega
theorem RZ_le {f : Int → Int} (hf : ∀ j : Int, 0 ≤ f j ∧ f j ≤ 200) {x : Int} (x0 : 0 ≤ x) (x1 : x ≤ 2) {e : Int → Int} (he : okD f x e 9) : ∀ n s : Nat, s + n = 7 → RZ (loZ f x) (chZ f x) n (e s - dZ f x s) (e ((s : Int) + 1) - dZ f x ((s : Int) + 1)) ≤ bendZ (liZ f e) 7 - bendZ (liZ f e) s
  | 0, s, h => by
    have e7 : s = 7 := by omega
    subst e7
    show (0 : Int) ≤ _
    omega
  | n + 1, s, h => by
    have hLC := LC_Z (f := f) hf x0 x1
    have ih := RZ_le hf x0 x1 he n (s + 1) (by omega)
    have m0 := he s (by omega)
    have m1 := he (s + 1) (by omega)
    have m2 := he (s + 2) (by omega)
    rw [show ((s + 1 : Nat) : Int) = (s : Int) + 1 by omega] at ih m1
    rw [show ((s + 2 : Nat) : Int) = (s : Int) + 2 by omega] at m2
    rw [show (s : Int) + 1 + 1 = (s : Int) + 2 by omega] at ih
    unfold mayP at m0 m1 m2
    rw [show n = 6 - s by omega] at ih
    have hg := gZ_e (f := f) (x := x) e (s := s) (by omega) ih
    rw [show n + 1 = 7 - s by omega, RZ_s _ _ (by omega)]
    have D2 := dZ_bd hf x0 x1 ((s : Int) + 2)
    have hgb : ∀ t : Nat, t < (chZ f x (s + 2)).toNat → gZ (loZ f x) (chZ f x) s (e s - dZ f x s) (e ((s : Int) + 1) - dZ f x ((s : Int) + 1)) t < FAR := fun t ht => by
      have := gZ_bd hLC (s := s) (h := e s - dZ f x s) (n := e ((s : Int) + 1) - dZ f x ((s : Int) + 1)) (t := t) (by omega) (by omega) (by omega) (by omega) (by omega) (by omega) (by omega)
      unfold FAR
      omega
    have key := (amF_min (g := gZ (loZ f x) (chZ f x) s (e s - dZ f x s) (e ((s : Int) + 1) - dZ f x ((s : Int) + 1))) (chZ f x (s + 2)).toNat (by omega) hgb).2.1 (e ((s : Int) + 2) - dZ f x ((s : Int) + 2)).toNat (by omega)
    rw [Int.toNat_of_nonneg (by omega)] at key
    omega

theorem ds_ok {f : Int → Int} (hf : ∀ j : Int, 0 ≤ f j ∧ f j ≤ 200) {x : Int} (x0 : 0 ≤ x) (x1 : x ≤ 2) : okD f x (dsZ f x) 9 ∧ (∀ s : Nat, s ≤ 6 → dsZ f x ((s : Int) + 2) = dZ f x ((s : Int) + 2) + amF (gZ (loZ f x) (chZ f x) s (dsZ f x s - dZ f x s) (dsZ f x ((s : Int) + 1) - dZ f x ((s : Int) + 1))) (chZ f x (s + 2)).toNat) ∧ dsZ f x 0 = dZ f x 0 + (dQ (loZ f x) (chZ f x)).2.1 ∧ dsZ f x 1 = dZ f x 1 + (dQ (loZ f x) (chZ f x)).2.2 := by
  have hLC := LC_Z (f := f) hf x0 x1
  obtain ⟨a, b, h1, h2, h3, h4, -⟩ := dQ_spec hf x0 x1
  have hat : ∀ s : Nat, dsZ f x s = dZ f x s + (oZ (loZ f x) (chZ f x) (dQ (loZ f x) (chZ f x)).2.1 (dQ (loZ f x) (chZ f x)).2.2 s).1 := fun s => by
    unfold dsZ
    rw [show (s : Int).toNat = s by omega]
  have hob := oZ_bd hLC (h0 := (dQ (loZ f x) (chZ f x)).2.1) (n0 := (dQ (loZ f x) (chZ f x)).2.2) (by omega) (by omega) (by omega) (by omega)
  refine ⟨fun j hj => ?_, fun s hs => ?_, ?_, ?_⟩
  · rw [hat j]
    unfold mayP
    by_cases e : j ≤ 7
    · have := hob j e
      omega
    · have := hob 7 (Nat.le_refl _)
      have e8 : j = 7 + 1 := by omega
      subst e8
      have e9 : (oZ (loZ f x) (chZ f x) (dQ (loZ f x) (chZ f x)).2.1 (dQ (loZ f x) (chZ f x)).2.2 (7 + 1)).1 = (oZ (loZ f x) (chZ f x) (dQ (loZ f x) (chZ f x)).2.1 (dQ (loZ f x) (chZ f x)).2.2 7).2 := rfl
      rw [e9]
      have e10 : ((7 + 1 : Nat) : Int) = ((7 : Nat) : Int) + 1 := rfl
      rw [e10]
      omega
  · have e0 := hat s
    have e1 := hat (s + 1)
    have e2 := hat (s + 2)
    rw [show ((s + 1 : Nat) : Int) = (s : Int) + 1 by omega] at e1
    rw [show ((s + 2 : Nat) : Int) = (s : Int) + 2 by omega] at e2
    rw [e2, e0, e1]
    have i1 : (oZ (loZ f x) (chZ f x) (dQ (loZ f x) (chZ f x)).2.1 (dQ (loZ f x) (chZ f x)).2.2 (s + 1)).1 = (oZ (loZ f x) (chZ f x) (dQ (loZ f x) (chZ f x)).2.1 (dQ (loZ f x) (chZ f x)).2.2 s).2 := rfl
    have i2 : (oZ (loZ f x) (chZ f x) (dQ (loZ f x) (chZ f x)).2.1 (dQ (loZ f x) (chZ f x)).2.2 (s + 2)).1 = amF (gZ (loZ f x) (chZ f x) s (oZ (loZ f x) (chZ f x) (dQ (loZ f x) (chZ f x)).2.1 (dQ (loZ f x) (chZ f x)).2.2 s).1 (oZ (loZ f x) (chZ f x) (dQ (loZ f x) (chZ f x)).2.1 (dQ (loZ f x) (chZ f x)).2.2 s).2) (chZ f x (s + 2)).toNat := rfl
    rw [i1, i2]
    generalize (oZ (loZ f x) (chZ f x) (dQ (loZ f x) (chZ f x)).2.1 (dQ (loZ f x) (chZ f x)).2.2 s).1 = u
    generalize (oZ (loZ f x) (chZ f x) (dQ (loZ f x) (chZ f x)).2.1 (dQ (loZ f x) (chZ f x)).2.2 s).2 = v
    rw [show dZ f x (s : Int) + u - dZ f x (s : Int) = u by omega, show dZ f x ((s : Int) + 1) + v - dZ f x ((s : Int) + 1) = v by omega]
  · exact hat 0
  · exact hat 1
theorem ds_at {f : Int → Int} (hf : ∀ j : Int, 0 ≤ f j ∧ f j ≤ 200) {x : Int} (x0 : 0 ≤ x) (x1 : x ≤ 2) : ∀ n s : Nat, s + n = 7 → RZ (loZ f x) (chZ f x) n (dsZ f x s - dZ f x s) (dsZ f x ((s : Int) + 1) - dZ f x ((s : Int) + 1)) = bendZ (liZ f (dsZ f x)) 7 - bendZ (liZ f (dsZ f x)) s
  | 0, s, h => by
    have e7 : s = 7 := by omega
    subst e7
    show (0 : Int) = _
    omega
  | n + 1, s, h => by
    have hLC := LC_Z (f := f) hf x0 x1
    obtain ⟨hok, hst, -, -⟩ := ds_ok hf x0 x1
    have ih := ds_at hf x0 x1 n (s + 1) (by omega)
    have m0 := hok s (by omega)
    have m1 := hok (s + 1) (by omega)
    rw [show ((s + 1 : Nat) : Int) = (s : Int) + 1 by omega] at ih m1
    rw [show (s : Int) + 1 + 1 = (s : Int) + 2 by omega] at ih
    unfold mayP at m0 m1
    have D2 := dZ_bd hf x0 x1 ((s : Int) + 2)
    have h2 := hst s (by omega)
    rw [show n + 1 = 7 - s by omega, RZ_s _ _ (by omega)]
    have hgb : ∀ t : Nat, t < (chZ f x (s + 2)).toNat → gZ (loZ f x) (chZ f x) s (dsZ f x s - dZ f x s) (dsZ f x ((s : Int) + 1) - dZ f x ((s : Int) + 1)) t < FAR := fun t ht => by
      have := gZ_bd hLC (s := s) (h := dsZ f x s - dZ f x s) (n := dsZ f x ((s : Int) + 1) - dZ f x ((s : Int) + 1)) (t := t) (by omega) (by omega) (by omega) (by omega) (by omega) (by omega) (by omega)
      unfold FAR
      omega
    have key := (amF_min (g := gZ (loZ f x) (chZ f x) s (dsZ f x s - dZ f x s) (dsZ f x ((s : Int) + 1) - dZ f x ((s : Int) + 1))) (chZ f x (s + 2)).toNat (by omega) hgb).1
    rw [← key]
    rw [show amF (gZ (loZ f x) (chZ f x) s (dsZ f x s - dZ f x s) (dsZ f x ((s : Int) + 1) - dZ f x ((s : Int) + 1))) (chZ f x (s + 2)).toNat = dsZ f x ((s : Int) + 2) - dZ f x ((s : Int) + 2) by omega]
    have h1 : bendZ (liZ f (dsZ f x)) (s + 1) = bendZ (liZ f (dsZ f x)) s + sqZ (liZ f (dsZ f x) s) (liZ f (dsZ f x) ((s : Int) + 1)) (liZ f (dsZ f x) ((s : Int) + 1 + 1)) := rfl
    rw [show (s : Int) + 1 + 1 = (s : Int) + 2 by omega] at h1
    unfold gZ
    rw [lo_li (dsZ f x) (s : Int), lo_li (dsZ f x) ((s : Int) + 1), lo_li (dsZ f x) ((s : Int) + 2), show 6 - s = n by omega, ih]
    omega
theorem li_cong {f d e : Int → Int} {k : Nat} (h : ∀ j : Nat, j < k + 2 → d j = e j) : bendZ (liZ f d) k = bendZ (liZ f e) k := bendZ_cong k (fun s hs => by unfold liZ; rw [h s (by omega)])
/-- the class's line is the best -/
theorem ds_best {f : Int → Int} (hf : ∀ j : Int, 0 ≤ f j ∧ f j ≤ 200) {x : Int} (x0 : 0 ≤ x) (x1 : x ≤ 2) {e : Int → Int} (he : okD f x e 9) : leL (bendZ (liZ f (dsZ f x)) 7) (nmZ (dsZ f x) 9) (bendZ (liZ f e) 7) (nmZ e 9) := by
  have hLC := LC_Z (f := f) hf x0 x1
  obtain ⟨hok, hst, hd0, hd1⟩ := ds_ok hf x0 x1
  obtain ⟨a, b, h1, h2, h3, h4, h5⟩ := dQ_spec hf x0 x1
  rw [h3] at hd0
  rw [h4] at hd1
  have hA := ds_at hf x0 x1 7 0 rfl
  have hE := RZ_le hf x0 x1 he 7 0 rfl
  have e0 := he 0 (by omega)
  have e1 := he 1 (by omega)
  have c0 : ((0 : Nat) : Int) = 0 := rfl
  have c1 : ((1 : Nat) : Int) = 1 := rfl
  have c01 : (0 : Int) + 1 = 1 := rfl
  rw [c0] at hA hE e0
  rw [c01] at hA hE
  rw [c1] at e1
  have b0 : bendZ (liZ f (dsZ f x)) 0 = 0 := rfl
  have b1 : bendZ (liZ f e) 0 = 0 := rfl
  unfold mayP at e0 e1
  rw [b0, hd0, hd1, show dZ f x 0 + (a : Int) - dZ f x 0 = a by omega, show dZ f x 1 + (b : Int) - dZ f x 1 = b by omega] at hA
  rw [b1] at hE
  have q5 := h5 (e 0 - dZ f x 0).toNat (e 1 - dZ f x 1).toNat (by omega) (by omega)
  rw [Int.toNat_of_nonneg (by omega), Int.toNat_of_nonneg (by omega)] at q5
  have q6 := q5.1
  by_cases hlt : bendZ (liZ f (dsZ f x)) 7 < bendZ (liZ f e) 7
  · exact Or.inl hlt
  · have heq : bendZ (liZ f (dsZ f x)) 7 = bendZ (liZ f e) 7 := by omega
    refine Or.inr ⟨heq, nmZ_le9 (okD_dg hf x0 x1 hok) (okD_dg hf x0 x1 he) (fun s hs hpre => ?_)⟩
    apply Int.not_lt.mp
    intro hlts
    match s, hs, hpre, hlts with
    | 0, _, _, hlts =>
      rw [c0, hd0] at hlts
      have := q5.2 (Or.inl (by omega))
      omega
    | 1, _, hpre, hlts =>
      have p0 := hpre 0 (by omega)
      rw [c0, hd0] at p0
      rw [c1, hd1] at hlts
      have := q5.2 (Or.inr ⟨by omega, by omega⟩)
      omega
    | q + 2, hs, hpre, hlts =>
      have p0 := hpre q (by omega)
      have p1 := hpre (q + 1) (by omega)
      have m0 := he q (by omega)
      have m1 := he (q + 1) (by omega)
      have m2 := he (q + 2) (by omega)
      rw [show ((q + 1 : Nat) : Int) = (q : Int) + 1 by omega] at p1 m1
      rw [show ((q + 2 : Nat) : Int) = (q : Int) + 2 by omega] at hlts m2
      unfold mayP at m0 m1 m2
      have hs2 := hst q (by omega)
      rw [p0, p1] at hs2
      have D2 := dZ_bd hf x0 x1 ((q : Int) + 2)
      have hgb : ∀ t : Nat, t < (chZ f x (q + 2)).toNat → gZ (loZ f x) (chZ f x) q (e q - dZ f x q) (e ((q : Int) + 1) - dZ f x ((q : Int) + 1)) t < FAR := fun t ht => by
        have := gZ_bd hLC (s := q) (h := e q - dZ f x q) (n := e ((q : Int) + 1) - dZ f x ((q : Int) + 1)) (t := t) (by omega) (by omega) (by omega) (by omega) (by omega) (by omega) (by omega)
        unfold FAR
        omega
      have key := (amF_min (g := gZ (loZ f x) (chZ f x) q (e q - dZ f x q) (e ((q : Int) + 1) - dZ f x ((q : Int) + 1))) (chZ f x (q + 2)).toNat (by omega) hgb).2.2 (e ((q : Int) + 2) - dZ f x ((q : Int) + 2)).toNat (by omega)
      rw [Int.toNat_of_nonneg (by omega)] at key
      have hR := RZ_le hf x0 x1 he (6 - q) (q + 1) (by omega)
      rw [show ((q + 1 : Nat) : Int) = (q : Int) + 1 by omega, show (q : Int) + 1 + 1 = (q : Int) + 2 by omega] at hR
      have hg := gZ_e (f := f) (x := x) e (s := q) (by omega) hR
      have hT := ds_at hf x0 x1 (7 - q) q (by omega)
      rw [RZ_s _ _ (by omega), p0, p1] at hT
      have hcg := li_cong (f := f) (k := q) hpre
      omega
/-! the invariants of the law's road -/
def fwP (f : Int → Int) (x : Int) (t : Nat) (bd ln : Int → Int) : Prop := ∀ b c : Int, 0 ≤ b → b < 5 → 0 ≤ c → c < 5 → (0 ≤ ln (5 * b + c) ∧ ln (5 * b + c) ≤ 1953124 ∧ 0 ≤ bd (5 * b + c) ∧ bd (5 * b + c) ≤ FAR) ∧ (mayP f x t b ∧ mayP f x ((t : Int) + 1) c → bd (5 * b + c) ≤ 160000 * t ∧ (∃ d : Int → Int, okD f x d (t + 2) ∧ d t = b ∧ d ((t : Int) + 1) = c ∧ bd (5 * b + c) = bendZ (liZ f d) t ∧ ln (5 * b + c) = nmZ d (t + 2)) ∧ ∀ e : Int → Int, okD f x e (t + 2) → e t = b → e ((t : Int) + 1) = c → leL (bd (5 * b + c)) (ln (5 * b + c)) (bendZ (liZ f e) t) (nmZ e (t + 2))) ∧ (¬ (mayP f x t b ∧ mayP f x ((t : Int) + 1) c) → bd (5 * b + c) = FAR)
def offZ (f : Int → Int) (t a b c : Int) : Int := f t + a + f (t + 2) + c - 2 * f (t + 1) - 2 * b
theorem offZ_sq (f : Int → Int) (t a b c : Int) : offZ f t a b c * offZ f t a b c = sqZ (f t + a - 2) (f (t + 1) + b - 2) (f (t + 2) + c - 2) := by
  unfold sqZ
  rw [show f t + a - 2 + (f (t + 2) + c - 2) - 2 * (f (t + 1) + b - 2) = offZ f t a b c by unfold offZ; omega]
theorem offZ_bd {f : Int → Int} (hf : ∀ j : Int, 0 ≤ f j ∧ f j ≤ 200) {t a b c : Int} (a0 : 0 ≤ a) (a1 : a < 5) (b0 : 0 ≤ b) (b1 : b < 5) (c0 : 0 ≤ c) (c1 : c < 5) : 0 ≤ offZ f t a b c * offZ f t a b c ∧ offZ f t a b c * offZ f t a b c ≤ 169744 := by
  have h1 := hf t
  have h2 := hf (t + 1)
  have h3 := hf (t + 2)
  exact sq_bd2 (by unfold offZ; omega) (by unfold offZ; omega)
theorem offZ_may {f : Int → Int} (hf : ∀ j : Int, 0 ≤ f j ∧ f j ≤ 200) {x : Int} (x0 : 0 ≤ x) (x1 : x ≤ 2) {t a b c : Int} (ha : mayP f x t a) (hb : mayP f x (t + 1) b) (hc : mayP f x (t + 2) c) : offZ f t a b c * offZ f t a b c ≤ 160000 := by
  have q1 := (mayP_iff hf x0 x1 t a).mp ha
  have q2 := (mayP_iff hf x0 x1 (t + 1) b).mp hb
  have q3 := (mayP_iff hf x0 x1 (t + 2) c).mp hc
  rw [offZ_sq]
  exact (sq_bd (by omega) (by omega) (by omega) (by omega) (by omega) (by omega)).2
/-- what the inner loop has found behind n choices -/
def inP (f : Int → Int) (x : Int) (t : Nat) (bd ln : Int → Int) (b c : Int) (n : Nat) (le th : Int) : Prop := 0 ≤ th ∧ th ≤ 9765625 ∧ 0 ≤ le ∧ le ≤ FAR ∧ (∀ a : Nat, a < n → mayP f x t a ∧ mayP f x ((t : Int) + 1) b → leL le th (bd (5 * a + b) + offZ f t a b c * offZ f t a b c) (5 * ln (5 * a + b) + c)) ∧ ((le = FAR ∧ th = 0 ∧ ∀ a : Nat, a < n → ¬ (mayP f x t a ∧ mayP f x ((t : Int) + 1) b)) ∨ ∃ a : Nat, a < n ∧ (mayP f x t a ∧ mayP f x ((t : Int) + 1) b) ∧ le = bd (5 * a + b) + offZ f t a b c * offZ f t a b c ∧ th = 5 * ln (5 * a + b) + c)
theorem inP_0 (f : Int → Int) (x : Int) (t : Nat) (bd ln : Int → Int) (b c : Int) : inP f x t bd ln b c 0 FAR 0 := ⟨by decide, by decide, by decide, by decide, fun a h => absurd h (Nat.not_lt_zero _), Or.inl ⟨rfl, rfl, fun a h => absurd h (Nat.not_lt_zero _)⟩⟩
theorem inP_skip {f : Int → Int} (hf : ∀ j : Int, 0 ≤ f j ∧ f j ≤ 200) {x : Int} (x0 : 0 ≤ x) (x1 : x ≤ 2) {t : Nat} (ht : t ≤ 6) {bd ln : Int → Int} (hw : fwP f x t bd ln) {b c : Int} (b0 : 0 ≤ b) (b1 : b < 5) (c0 : 0 ≤ c) (c1 : c < 5) (hc : mayP f x ((t : Int) + 2) c) {n : Nat} (hn : n < 5) {le th : Int} (h : inP f x t bd ln b c n le th) (hs : leL le th (bd (5 * n + b) + offZ f t n b c * offZ f t n b c) (5 * ln (5 * n + b) + c)) : inP f x t bd ln b c (n + 1) le th := by
  obtain ⟨g1, g2, g3, g4, g5, g6⟩ := h
  have hF : FAR = 100000000 := rfl
  obtain ⟨w1, w2, w3⟩ := hw n b (by omega) (by omega) b0 b1
  refine ⟨g1, g2, g3, g4, fun a ha hm => ?_, ?_⟩
  · by_cases e : a = n
    · rw [e]; exact hs
    · exact g5 a (by omega) hm
  · rcases g6 with ⟨k1, k2, k3⟩ | ⟨a, k1, k2, k3, k4⟩
    · refine Or.inl ⟨k1, k2, fun a ha => ?_⟩
      by_cases e : a = n
      · subst e
        intro hm
        have z1 := (w2 hm).1
        have z2 := offZ_may hf x0 x1 hm.1 hm.2 hc
        unfold leL at hs
        omega
      · exact k3 a (by omega)
    · exact Or.inr ⟨a, by omega, k2, k3, k4⟩
theorem inP_take {f : Int → Int} (hf : ∀ j : Int, 0 ≤ f j ∧ f j ≤ 200) {x : Int} (x0 : 0 ≤ x) (x1 : x ≤ 2) {t : Nat} (ht : t ≤ 6) {bd ln : Int → Int} (hw : fwP f x t bd ln) {b c : Int} (b0 : 0 ≤ b) (b1 : b < 5) (c0 : 0 ≤ c) (c1 : c < 5) (hc : mayP f x ((t : Int) + 2) c) {n : Nat} (hn : n < 5) {le th : Int} (h : inP f x t bd ln b c n le th) (hs : ¬ leL le th (bd (5 * n + b) + offZ f t n b c * offZ f t n b c) (5 * ln (5 * n + b) + c)) : inP f x t bd ln b c (n + 1) (bd (5 * n + b) + offZ f t n b c * offZ f t n b c) (5 * ln (5 * n + b) + c) := by
  obtain ⟨g1, g2, g3, g4, g5, g6⟩ := h
  have hF : FAR = 100000000 := rfl
  obtain ⟨w1, w2, w3⟩ := hw n b (by omega) (by omega) b0 b1
  have ho := offZ_bd hf (t := (t : Int)) (a := (n : Int)) (b := b) (c := c) (by omega) (by omega) b0 b1 c0 c1
  have hm : mayP f x t n ∧ mayP f x ((t : Int) + 1) b := by
    apply Classical.byContradiction
    intro hm
    have z := w3 hm
    unfold leL at hs
    rcases g6 with ⟨k1, k2, k3⟩ | ⟨a, k1, k2, k3, k4⟩
    · omega
    · have z1 := ((hw a b (by omega) (by omega) b0 b1).2.1 k2).1
      have z2 := offZ_may hf x0 x1 k2.1 k2.2 hc
      omega
  have z1 := (w2 hm).1
  have z2 := offZ_may hf x0 x1 hm.1 hm.2 hc
  refine ⟨by omega, by omega, by omega, by omega, fun a ha hm' => ?_, Or.inr ⟨n, by omega, hm, rfl, rfl⟩⟩
  by_cases e : a = n
  · rw [e]; exact leL_refl _ _
  · have h5 := g5 a (by omega) hm'
    clear g6 w2 w3 hw
    unfold leL at h5 hs ⊢
    omega
def ifD (t : Nat) (d : Int → Int) (c : Int) : Int → Int := zset d ((t : Int) + 2) c
theorem inP_end {f : Int → Int} (hf : ∀ j : Int, 0 ≤ f j ∧ f j ≤ 200) {x : Int} (x0 : 0 ≤ x) (x1 : x ≤ 2) {t : Nat} (ht : t ≤ 6) {bd ln bd' ln' : Int → Int} (hw : fwP f x t bd ln) (hi : ∀ b c : Int, 0 ≤ b → b < 5 → 0 ≤ c → c < 5 → (mayP f x ((t : Int) + 2) c → inP f x t bd ln b c 5 (bd' (5 * b + c)) (ln' (5 * b + c))) ∧ (¬ mayP f x ((t : Int) + 2) c → bd' (5 * b + c) = FAR ∧ ln' (5 * b + c) = 0)) : fwP f x (t + 1) bd' ln' := by
  have hF : FAR = 100000000 := rfl
  intro b c b0 b1 c0 c1
  rw [show ((t + 1 : Nat) : Int) = (t : Int) + 1 by omega, show (t : Int) + 1 + 1 = (t : Int) + 2 by omega]
  obtain ⟨hi1, hi2⟩ := hi b c b0 b1 c0 c1
  by_cases hc : mayP f x ((t : Int) + 2) c
  · obtain ⟨g1, g2, g3, g4, g5, g6⟩ := hi1 hc
    by_cases hb : mayP f x ((t : Int) + 1) b
    · rcases g6 with ⟨-, -, k3⟩ | ⟨a, k1, k2, k3, k4⟩
      · exact absurd ⟨mayP_2 hf x0 x1 (t : Int), hb⟩ (k3 2 (by omega))
      · have o1 := offZ_may hf x0 x1 k2.1 k2.2 hc
        obtain ⟨w1, w2, -⟩ := hw a b (by omega) (by omega) b0 b1
        obtain ⟨w3, ⟨d, v1, v2, v3, v4, v5⟩, w4⟩ := w2 k2
        have hpre : ∀ j : Nat, j < t + 2 → zset d ((t : Int) + 2) c j = d j := fun j hj => zset_ne _ (by omega)
        have hok : okD f x (zset d ((t : Int) + 2) c) (t + 3) := fun j hj => by
          by_cases e : j = t + 2
          · subst e
            rw [show ((t + 2 : Nat) : Int) = (t : Int) + 2 by omega, zset_eq]
            exact hc
          · rw [zset_ne _ (by omega)]
            exact v1 j (by omega)
        have hnm : nmZ (zset d ((t : Int) + 2) c) (t + 3) = 5 * nmZ d (t + 2) + c := by
          show 5 * nmZ (zset d ((t : Int) + 2) c) (t + 2) + zset d ((t : Int) + 2) c ((t + 2 : Nat) : Int) = _
          rw [nmZ_cong (t + 2) hpre, show ((t + 2 : Nat) : Int) = (t : Int) + 2 by omega, zset_eq]
        have hb2 : ∀ e : Int → Int, e t = a → e ((t : Int) + 1) = b → e ((t : Int) + 2) = c → bendZ (liZ f e) (t + 1) = bendZ (liZ f e) t + offZ f t a b c * offZ f t a b c := fun e z1 z2 z3 => by
          show bendZ (liZ f e) t + sqZ (liZ f e t) (liZ f e ((t : Int) + 1)) (liZ f e ((t : Int) + 1 + 1)) = _
          rw [show (t : Int) + 1 + 1 = (t : Int) + 2 by omega, offZ_sq]
          unfold liZ
          rw [z1, z2, z3]
        have hdg := nmZ_9 (d := zset d ((t : Int) + 2) c) (k := t + 3) (by omega) (okD_dg hf x0 x1 hok)
        refine ⟨⟨g1, by omega, g3, g4⟩, fun _ => ⟨by push_cast; omega, ⟨zset d ((t : Int) + 2) c, hok, ?_, zset_eq _ _ _, ?_, ?_⟩, fun e z1 z2 z3 => ?_⟩, fun z => absurd ⟨hb, hc⟩ z⟩
        · rw [zset_ne _ (by omega)]; exact v3
        · rw [hb2 _ (by rw [zset_ne _ (by omega)]; exact v2) (by rw [zset_ne _ (by omega)]; exact v3) (zset_eq _ _ _), k3, v4, li_cong (f := f) (k := t) hpre]
        · rw [show t + 1 + 2 = t + 3 by omega, hnm, k4, v5]
        · have y0 := z1 t (by omega)
          have y9 := okD_dg hf x0 x1 z1 t (by omega)
          obtain ⟨y1, y2, -⟩ := hw (e t) b (by omega) (by omega) b0 b1
          have y3 := (y2 ⟨y0, hb⟩).2.2 e (fun j hj => z1 j (by omega)) rfl z2
          have y4 := g5 (e t).toNat (by omega) (by rw [Int.toNat_of_nonneg y9.1]; exact ⟨y0, hb⟩)
          rw [Int.toNat_of_nonneg y9.1] at y4
          have y5 : bendZ (liZ f e) (t + 1) = bendZ (liZ f e) t + offZ f t (e t) b c * offZ f t (e t) b c := by
            show bendZ (liZ f e) t + sqZ (liZ f e t) (liZ f e ((t : Int) + 1)) (liZ f e ((t : Int) + 1 + 1)) = _
            rw [show (t : Int) + 1 + 1 = (t : Int) + 2 by omega, offZ_sq]
            unfold liZ
            rw [z2, z3]
          have y6 : nmZ e (t + 1 + 2) = 5 * nmZ e (t + 2) + c := by
            show 5 * nmZ e (t + 2) + e ((t + 2 : Nat) : Int) = _
            rw [show ((t + 2 : Nat) : Int) = (t : Int) + 2 by omega, z3]
          rw [y5, y6]
          refine leL_trans y4 ?_
          unfold leL at y3 ⊢
          omega
    · refine ⟨⟨g1, ?_, g3, g4⟩, fun z => absurd z.1 hb, fun _ => ?_⟩
      · rcases g6 with ⟨-, k2, -⟩ | ⟨a, -, k2, -, -⟩
        · omega
        · exact absurd k2.2 hb
      · rcases g6 with ⟨k1, -, -⟩ | ⟨a, -, k2, -, -⟩
        · exact k1
        · exact absurd k2.2 hb
  · obtain ⟨k1, k2⟩ := hi2 hc
    rw [k1, k2]
    exact ⟨⟨by decide, by decide, by decide, by decide⟩, fun z => absurd z.2 hc, fun _ => rfl⟩
theorem fwP_0 {f : Int → Int} (hf : ∀ j : Int, 0 ≤ f j ∧ f j ≤ 200) {x : Int} (x0 : 0 ≤ x) (x1 : x ≤ 2) {bd ln : Int → Int} (h : ∀ k : Nat, k < 25 → ((mayP f x 0 ((k : Int) / 5) ∧ mayP f x 1 ((k : Int) % 5) → bd k = 0) ∧ (¬ (mayP f x 0 ((k : Int) / 5) ∧ mayP f x 1 ((k : Int) % 5)) → bd k = FAR)) ∧ ln k = 5 * ((k : Int) / 5) + (k : Int) % 5) : fwP f x 0 bd ln := by
  have hF : FAR = 100000000 := rfl
  intro b c b0 b1 c0 c1
  obtain ⟨⟨h1, h2⟩, h3⟩ := h (5 * b + c).toNat (by omega)
  rw [Int.toNat_of_nonneg (by omega), show (5 * b + c) / 5 = b by omega, show (5 * b + c) % 5 = c by omega] at h1 h2 h3
  have c0' : ((0 : Nat) : Int) = 0 := rfl
  have c01 : (0 : Int) + 1 = 1 := rfl
  rw [c0', c01]
  have hbd : 0 ≤ bd (5 * b + c) ∧ bd (5 * b + c) ≤ FAR := by
    by_cases q : mayP f x 0 b ∧ mayP f x 1 c
    · rw [h1 q]; decide
    · rw [h2 q]; decide
  refine ⟨⟨by omega, by omega, hbd.1, hbd.2⟩, fun hm => ⟨by rw [h1 hm]; decide, ⟨zset (fun _ => b) 1 c, fun j hj => ?_, zset_ne _ (by decide), zset_eq _ _ _, h1 hm, ?_⟩, fun e z1 z2 z3 => Or.inr ⟨?_, ?_⟩⟩, h2⟩
  · rcases (show j = 0 ∨ j = 1 by omega) with rfl | rfl
    · exact hm.1
    · exact hm.2
  · rw [h3]
    show _ = 5 * (5 * 0 + b) + c
    omega
  · rw [h1 hm]; rfl
  · have y : nmZ e (0 + 2) = 5 * (5 * 0 + e ((0 : Nat) : Int)) + e ((1 : Nat) : Int) := rfl
    have y1 : e ((1 : Nat) : Int) = c := z3
    rw [y, c0', z2, y1, h3]
    omega
/-- the choice among the last pairs -/
def beP (bd ln : Int → Int) (n : Nat) (be : Int) : Prop := 0 ≤ be ∧ be < n ∧ ∀ k : Nat, k < n → leL (bd be) (ln be) (bd k) (ln k)
theorem beP_end {f : Int → Int} (hf : ∀ j : Int, 0 ≤ f j ∧ f j ≤ 200) {x : Int} (x0 : 0 ≤ x) (x1 : x ≤ 2) {bd ln : Int → Int} (hw : fwP f x 7 bd ln) {be : Int} (h : beP bd ln 25 be) : ln be = nmZ (dsZ f x) 9 := by
  have hF : FAR = 100000000 := rfl
  obtain ⟨h1, h2, h3⟩ := h
  have c7 : ((7 : Nat) : Int) = 7 := rfl
  have c8 : ((7 : Nat) : Int) + 1 = 8 := rfl
  have m7 := mayP_2 hf x0 x1 7
  have m8 := mayP_2 hf x0 x1 8
  have w0 := ((hw 2 2 (by decide) (by decide) (by decide) (by decide)).2.1 (by rw [c8]; exact ⟨m7, m8⟩)).1
  have w1 := h3 12 (by decide)
  have c12 : (5 * 2 + 2 : Int) = ((12 : Nat) : Int) := rfl
  rw [c12, c7] at w0
  obtain ⟨v1, v2, v3⟩ := hw (be / 5) (be % 5) (by omega) (by omega) (by omega) (by omega)
  rw [show 5 * (be / 5) + be % 5 = be by omega] at v1 v2 v3
  have hm : mayP f x ((7 : Nat) : Int) (be / 5) ∧ mayP f x (((7 : Nat) : Int) + 1) (be % 5) := by
    apply Classical.byContradiction
    intro z
    have := v3 z
    unfold leL at w1
    omega
  obtain ⟨-, ⟨d, d1, d2, d3, d4, d5⟩, -⟩ := v2 hm
  obtain ⟨hok, -, -, -⟩ := ds_ok hf x0 x1
  have a1 := ds_best hf x0 x1 d1
  have y7 := hok 7 (by omega)
  have y8 := hok 8 (by omega)
  have g7 := okD_dg hf x0 x1 hok 7 (by omega)
  have g8 := okD_dg hf x0 x1 hok 8 (by omega)
  have c88 : ((8 : Nat) : Int) = 8 := rfl
  rw [c88] at y8 g8
  rw [c7] at y7 g7
  have a2 := ((hw (dsZ f x 7) (dsZ f x 8) (by omega) (by omega) (by omega) (by omega)).2.1 (by rw [c8, c7]; exact ⟨y7, y8⟩)).2.2 (dsZ f x) hok rfl rfl
  have a3 := h3 (5 * dsZ f x 7 + dsZ f x 8).toNat (by omega)
  rw [Int.toNat_of_nonneg (by omega)] at a3
  have a4 := leL_trans a3 a2
  rw [d4, d5] at a4
  rw [d5]
  have e9 : (7 + 2 : Nat) = 9 := rfl
  rw [e9] at a4 ⊢
  unfold leL at a1 a4
  omega
theorem ds_mod {f : Int → Int} (hf : ∀ j : Int, 0 ≤ f j ∧ f j ≤ 200) {x : Int} (x0 : 0 ≤ x) (x1 : x ≤ 2) : ∀ k : Nat, k < 9 → nmZ (dsZ f x) (k + 1) % 5 = dsZ f x k ∧ nmZ (dsZ f x) (k + 1) / 5 = nmZ (dsZ f x) k ∧ 0 ≤ nmZ (dsZ f x) (k + 1) ∧ nmZ (dsZ f x) (k + 1) ≤ 1953124 := fun k hk => by
  obtain ⟨hok, -, -, -⟩ := ds_ok hf x0 x1
  have g := okD_dg hf x0 x1 hok k hk
  have h := nmZ_9 (d := dsZ f x) (k := k + 1) (by omega) (fun j hj => okD_dg hf x0 x1 hok j (by omega))
  have e : nmZ (dsZ f x) (k + 1) = 5 * nmZ (dsZ f x) k + dsZ f x k := rfl
  omega
