/-! ===== whole numbers as ints ===== -/
def iI (x : Int) : Int32 := Int32.ofInt x
def inr (a : Int) : Prop := -2147483648 ≤ a ∧ a ≤ 2147483647
theorem iI_toInt {a : Int} (h : inr a) : (iI a).toInt = a := by
  have h1 := h.1
  have h2 := h.2
  exact Int32.toInt_ofInt_of_le (by omega) (by omega)
theorem iI_of (x : Int32) : x = iI x.toInt := (Int32.ofInt_toInt x).symm
theorem inr_of (x : Int32) : inr x.toInt := by
  have h1 := Int32.le_toInt x
  have h2 := Int32.toInt_lt x
  exact ⟨by omega, by omega⟩
theorem iI_add (a b : Int) : iI a + iI b = iI (a + b) := (Int32.ofInt_add a b).symm
theorem iI_sub (a b : Int) : iI a - iI b = iI (a - b) := (Int32.ofInt_sub a b).symm
theorem iI_mul (a b : Int) : iI a * iI b = iI (a * b) := (Int32.ofInt_mul a b).symm
theorem iI_neg (a : Int) : -iI a = iI (-a) := (Int32.ofInt_neg a).symm
theorem iI_le {a b : Int} (ha : inr a) (hb : inr b) : iI a ≤ iI b ↔ a ≤ b := by
  rw [Int32.le_iff_toInt_le, iI_toInt ha, iI_toInt hb]
theorem iI_lt {a b : Int} (ha : inr a) (hb : inr b) : iI a < iI b ↔ a < b := by
  rw [Int32.lt_iff_toInt_lt, iI_toInt ha, iI_toInt hb]
theorem iI_eq {a b : Int} (ha : inr a) (hb : inr b) : iI a = iI b ↔ a = b :=
  ⟨fun h => by rw [← iI_toInt ha, ← iI_toInt hb, h], fun h => by rw [h]⟩
theorem iI_clamp {a : Int} (h0 : 0 ≤ a) (h1 : a ≤ 2147483647) : ((iI a).toNatClampNeg : Int) = a := by
  have h : (iI a).toNatClampNeg = a.toNat := Int32.toNatClampNeg_ofInt_of_le (by omega) (by omega)
  rw [h]
  omega
theorem iI_clampN {a : Int} (h0 : 0 ≤ a) (h1 : a ≤ 2147483647) : (iI a).toNatClampNeg = a.toNat := Int32.toNatClampNeg_ofInt_of_le (by omega) (by omega)
theorem iI_in {a : Int} {n : Nat} (h0 : 0 ≤ a) (h1 : a < n) (hn : n ≤ 2147483647) : vp_in (iI a) n := by
  intro h
  rcases h with h | h
  · rw [show (0 : Int32) = iI 0 from rfl, iI_lt ⟨by omega, by omega⟩ ⟨by omega, by omega⟩] at h
    omega
  · have e := iI_clamp h0 (by omega)
    omega
theorem iI_0 : iI 0 = 0 := rfl
/-! ===== arrays of ints ===== -/
def aI (c : ClassId) (n : Nat) (f : Int → Int) : va_E := .inl (c, n, .inl (fun j => iI (f (j : Int))))
def aR (c : ClassId) (n : Nat) (g : Nat → Nat) : va_E := .inl (c, n, .inr (.inr (.inr (.inr (fun j => some (g j))))))
def zset (f : Int → Int) (k v : Int) : Int → Int := fun j => if j = k then v else f j
theorem zset_eq (f : Int → Int) (k v : Int) : zset f k v k = v := if_pos rfl
theorem zset_ne (f : Int → Int) {k v j : Int} (h : j ≠ k) : zset f k v j = f j := if_neg h
theorem aI_upd (c : ClassId) (n : Nat) (f : Int → Int) {k v : Int} (h0 : 0 ≤ k) (h1 : k ≤ 2147483647) : (.inl (c, n, .inl (upd (fun j => iI (f (j : Int))) (iI k).toNatClampNeg (iI v))) : va_E) = aI c n (zset f k v) := by
  unfold aI
  have e : upd (fun j : Nat => iI (f (j : Int))) (iI k).toNatClampNeg (iI v) = fun j : Nat => iI (zset f k v (j : Int)) := by
    funext j
    have hk := iI_clamp h0 h1
    by_cases hj : j = (iI k).toNatClampNeg
    · subst hj
      rw [pk_us, hk, zset_eq]
    · rw [pk_un hj, zset_ne]
      intro q
      exact hj (by omega)
  rw [e]
/-! ===== the locals, by their places; .null where nothing is said ===== -/
def lvl (ls : Array Slot) (nL : Nat) (lv : List Value) : Prop := ls.size = nL ∧ lv_wf ls ∧ ∀ (i : Nat) (v : Value), lv[i]? = some v → v ≠ .null → v.category = 1 ∧ ls[i]? = some (.val v)
def lvE (lv : List Value) : List (Nat × Value) := (List.range lv.length).filterMap (fun i => match lv[i]? with
  | some Value.null => none
  | some v => some (i, v)
  | none => none)
theorem lvE_mem {lv : List Value} {i : Nat} {v : Value} : (i, v) ∈ lvE lv ↔ lv[i]? = some v ∧ v ≠ .null := by
  unfold lvE
  rw [List.mem_filterMap]
  constructor
  · rintro ⟨j, hj, h⟩
    split at h
    · cases h
    · rename_i w hne he
      cases h
      refine ⟨he, ?_⟩
      rintro rfl
      exact hne rfl
    · cases h
  · rintro ⟨h, hn⟩
    refine ⟨i, List.mem_range.mpr (List.getElem?_eq_some_iff.mp h).1, ?_⟩
    rw [h]
    cases v with
    | null => exact absurd rfl hn
    | _ => rfl
theorem lvl_has {ls : Array Slot} {nL : Nat} {lv : List Value} (h : lvl ls nL lv) : lv_has ls nL (lvE lv) :=
  ⟨h.1, h.2.1, fun q hq => (h.2.2 q.1 q.2 (lvE_mem.mp hq).1 (lvE_mem.mp hq).2).2⟩
theorem lvl_set {ls ls' : Array Slot} {nL : Nat} {lv : List Value} {i : Nat} {x : Value} (h : lvl ls nL lv) (hx : x.category = 1)
    (h' : lv_has ls' nL ((i, x) :: (lvE lv).filter (fun q => !(q.1 == i) && !(q.1 + 1 == i && q.2.category == 2)))) : lvl ls' nL (lv.set i x) := by
  refine ⟨h'.1, h'.2.1, fun j v hj hn => ?_⟩
  by_cases e : j = i
  · subst e
    have hl : j < (lv.set j x).length := (List.getElem?_eq_some_iff.mp hj).1
    rw [List.length_set] at hl
    rw [List.getElem?_set_self hl] at hj
    cases hj
    exact ⟨hx, h'.2.2 (j, x) List.mem_cons_self⟩
  · rw [List.getElem?_set_ne (Ne.symm e)] at hj
    obtain ⟨h1, h2⟩ := h.2.2 j v hj hn
    refine ⟨h1, h'.2.2 (j, v) (List.mem_cons_of_mem _ (List.mem_filter.mpr ⟨lvE_mem.mpr ⟨hj, hn⟩, ?_⟩))⟩
    simp [e, h1]
theorem lvl_at {ls : Array Slot} {nL : Nat} {lv : List Value} (h : lvl ls nL lv) {i : Nat} {v : Value} (hv : lv[i]? = some v) (hn : v ≠ .null) : ls[i]? = some (.val v) := (h.2.2 i v hv hn).2
theorem lvl_entry {vs lv : List Value} {n : Nat} (h : (lg_sl vs).length ≤ n) (hlv : ∀ (i : Nat) (v : Value), lv[i]? = some v → v ≠ .null → v.category = 1 ∧ (i, v) ∈ lv_args 0 vs) : lvl ((lg_sl vs ++ List.replicate (n - (lg_sl vs).length) Slot.unset).toArray) n lv :=
  have e := lv_entry vs h
  ⟨e.1, e.2.1, fun i v hi hn => ⟨(hlv i v hi hn).1, e.2.2 (i, v) (hlv i v hi hn).2⟩⟩
