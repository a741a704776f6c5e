/-! ===== the law's helpers ===== -/
def hqP (px : String → va_W → Prop) (post : Int → va_W → Prop) (L : List (String × Int)) : Int → va_W → Prop := fun r w' => (∃ E : String, px E w' ∧ (E, r) ∈ L) ∨ post r w'
abbrev rmL_offset : Room := { frames := 8, cells := 4, slots := 24, locals := 136 }
set_option maxHeartbeats 4000000 in
set_option maxRecDepth 100000 in
theorem h_offset (l : Launch) (D : va_G) (cI cJ cL : ClassId) (ad : Nat → Nat) (M B : Int → Int → Int) (lo ch wt sn vo mo le ln od fe se td th : Int → Int) (cnt bw bs pl tk tc sill day lau : Int) (hl0 : l.stackTraces = false) (ha : lau = 0 ∨ lau = 1) (x w y : Int) (hx : inr x) (hw : inr w) (hy : inr y) : XI l yL_offset wsL_offset rmL_offset [.ref (ad 0), .int (iI x), .int (iI w), .int (iI y)] D cI cJ cL (wX ad cI cJ M B lo ch wt sn vo mo le ln od fe se td th cnt bw bs pl tk tc sill day lau) 4 24 (hqP (fun E w' => w' = (wX ad cI cJ M B lo ch wt sn vo mo le ln od fe se td th cnt bw bs pl tk tc sill day lau) ∧ exO E (tcOffset x w y lau)) (fun r w' => tcOffset x w y lau = 0 ∧ r = M w x ∧ w' = (wX ad cI cJ (zrow M w (zset (M w) x y)) B lo ch wt sn vo mo le ln od fe se td th cnt bw bs pl tk tc sill day lau)) [(eIX, -70100), (eIA, -70200), (eIS, -70300)]) (fun _ _ => False) := by
  refine XI.ofH (cc := cL_offset) (maxL := 6) (ret := some .int) (own := RL) _ 2 (by decide +kernel) rfl rfl rfl (Nat.le_of_ble_eq_true rfl) rfl (fun sz9 p9 e9 s9 m9 a9 b9 h9 c9 C hr htb => ?_)
  refine Z.aload_n C dL_offset_0 rfl ?_
  refine Z.iload_n C dL_offset_1 rfl ?_
  refine Z.iload_n C dL_offset_2 rfl ?_
  refine Z.iload_n C dL_offset_3 rfl ?_
  refine Z.xVI C 0 3 (c_offset l D cI cJ cL ad M B lo ch wt sn vo mo le ln od fe se td th cnt bw bs pl tk tc sill day lau hl0 ha x w y hx hw hy) rfl rfl gL_offset_X6_offset rfl rfl rfl (by decide +kernel) ⟨Nat.le_of_ble_eq_true rfl, Nat.le_of_ble_eq_true rfl⟩ rfl rfl (Nat.le_of_ble_eq_true rfl) ⟨Nat.le_of_ble_eq_true rfl, Nat.le_of_ble_eq_true rfl⟩ dL_offset_4 (fun r w1 h1 => ?_) (fun E w1 hE => ?_)
  · skip
    refine Z.istore C dL_offset_7 (by decide) ?_
    refine Z.goto C 27 dL_offset_9 (by decide) ?_
    refine Z.iload C dL_offset_27 rfl ?_
    exact Z.iretX C hr (Nat.le_of_ble_eq_true rfl) (Nat.le_of_ble_eq_true rfl) dL_offset_29 (Or.inr h1)
  · have hin : E = eIX ∨ E = eIA ∨ E = eIS := by
      rcases hE.2 with ⟨q, q2⟩ | ⟨q, q2⟩ | ⟨q, q2⟩
      · exact Or.inl q
      · exact Or.inr (Or.inl q)
      · exact Or.inr (Or.inr q)
    rcases hin with rfl | rfl | rfl
    · refine ZX.catch C [] (0, 9, 12, 14) [(0, 9, 17, 17), (0, 9, 22, 20)] htb (fun z hz => absurd hz List.not_mem_nil) (by decide +kernel) (by decide) (by decide) (by decide) (by decide +kernel) (fun q9 => ?_)
      refine Z.astore C dL_offset_12 (by decide) ?_
      refine Z.ldc C (v := iI (-70100)) (-70100) (by decide +kernel) rfl dL_offset_14 ?_
      exact Z.iretX C hr (Nat.le_of_ble_eq_true rfl) (Nat.le_of_ble_eq_true rfl) dL_offset_16 (Or.inl ⟨_, hE, List.mem_cons_self⟩)
    · refine ZX.catch C [(0, 9, 12, 14)] (0, 9, 17, 17) [(0, 9, 22, 20)] htb (fun z hz => by rcases List.mem_cons.mp hz with rfl | hz; exact ⟨by decide, eIX, by decide +kernel, by decide +kernel, by decide +kernel⟩; exact absurd hz List.not_mem_nil) (by decide +kernel) (by decide) (by decide) (by decide) (by decide +kernel) (fun q9 => ?_)
      refine Z.astore C dL_offset_17 (by decide) ?_
      refine Z.ldc C (v := iI (-70200)) (-70200) (by decide +kernel) rfl dL_offset_19 ?_
      exact Z.iretX C hr (Nat.le_of_ble_eq_true rfl) (Nat.le_of_ble_eq_true rfl) dL_offset_21 (Or.inl ⟨_, hE, (List.mem_cons_of_mem _ List.mem_cons_self)⟩)
    · refine ZX.catch C [(0, 9, 12, 14), (0, 9, 17, 17)] (0, 9, 22, 20) [] htb (fun z hz => by rcases List.mem_cons.mp hz with rfl | hz; exact ⟨by decide, eIX, by decide +kernel, by decide +kernel, by decide +kernel⟩; rcases List.mem_cons.mp hz with rfl | hz; exact ⟨by decide, eIA, by decide +kernel, by decide +kernel, by decide +kernel⟩; exact absurd hz List.not_mem_nil) (by decide +kernel) (by decide) (by decide) (by decide) (by decide +kernel) (fun q9 => ?_)
      refine Z.astore C dL_offset_22 (by decide) ?_
      refine Z.ldc C (v := iI (-70300)) (-70300) (by decide +kernel) rfl dL_offset_24 ?_
      exact Z.iretX C hr (Nat.le_of_ble_eq_true rfl) (Nat.le_of_ble_eq_true rfl) dL_offset_26 (Or.inl ⟨_, hE, (List.mem_cons_of_mem _ (List.mem_cons_of_mem _ List.mem_cons_self))⟩)
abbrev rmL_half : Room := { frames := 8, cells := 2, slots := 12, locals := 132 }
set_option maxHeartbeats 4000000 in
set_option maxRecDepth 100000 in
theorem h_half (l : Launch) (D : va_G) (cI cJ cL : ClassId) (ad : Nat → Nat) (M B : Int → Int → Int) (lo ch wt sn vo mo le ln od fe se td th : Int → Int) (cnt bw bs pl tk tc sill day lau : Int) (hl0 : l.stackTraces = false) (x w : Int) (hx : inr x) (hw : inr w) : XI l yL_half wsL_half rmL_half [.ref (ad 0), .int (iI x), .int (iI w)] D cI cJ cL (wX ad cI cJ M B lo ch wt sn vo mo le ln od fe se td th cnt bw bs pl tk tc sill day lau) 2 12 (hqP (fun E w' => w' = (wX ad cI cJ M B lo ch wt sn vo mo le ln od fe se td th cnt bw bs pl tk tc sill day lau) ∧ (E = eIX ∧ tcSW x w = 1)) (fun r w' => tcSW x w = 0 ∧ r = M w x ∧ w' = (wX ad cI cJ M B lo ch wt sn vo mo le ln od fe se td th cnt bw bs pl tk tc sill day lau)) [(eIX, -70100)]) (fun _ _ => False) := by
  refine XI.ofH (cc := cL_half) (maxL := 5) (ret := some .int) (own := RL) _ 2 (by decide +kernel) rfl rfl rfl (Nat.le_of_ble_eq_true rfl) rfl (fun sz9 p9 e9 s9 m9 a9 b9 h9 c9 C hr htb => ?_)
  refine Z.aload_n C dL_half_0 rfl ?_
  refine Z.iload_n C dL_half_1 rfl ?_
  refine Z.iload_n C dL_half_2 rfl ?_
  refine Z.xVI C 0 2 (c_half l D cI cJ cL ad M B lo ch wt sn vo mo le ln od fe se td th cnt bw bs pl tk tc sill day lau hl0 x w hx hw) rfl rfl gL_half_X6_half rfl rfl rfl (by decide +kernel) ⟨Nat.le_of_ble_eq_true rfl, Nat.le_of_ble_eq_true rfl⟩ rfl rfl (Nat.le_of_ble_eq_true rfl) ⟨Nat.le_of_ble_eq_true rfl, Nat.le_of_ble_eq_true rfl⟩ dL_half_3 (fun r w1 h1 => ?_) (fun E w1 hE => ?_)
  · skip
    refine Z.istore_n C dL_half_6 (by decide) ?_
    refine Z.goto C 15 dL_half_7 (by decide) ?_
    refine Z.iload_n C dL_half_15 rfl ?_
    exact Z.iretX C hr (Nat.le_of_ble_eq_true rfl) (Nat.le_of_ble_eq_true rfl) dL_half_16 (Or.inr h1)
  · have hin : E = eIX := by
      exact hE.2.1
    rcases hin with rfl
    · refine ZX.catch C [] (0, 7, 10, 14) [] htb (fun z hz => absurd hz List.not_mem_nil) (by decide +kernel) (by decide) (by decide) (by decide) (by decide +kernel) (fun q9 => ?_)
      refine Z.astore C dL_half_10 (by decide) ?_
      refine Z.ldc C (v := iI (-70100)) (-70100) (by decide +kernel) rfl dL_half_12 ?_
      exact Z.iretX C hr (Nat.le_of_ble_eq_true rfl) (Nat.le_of_ble_eq_true rfl) dL_half_14 (Or.inl ⟨_, hE, List.mem_cons_self⟩)
abbrev rmL_bend : Room := { frames := 8, cells := 1, slots := 6, locals := 131 }
set_option maxHeartbeats 4000000 in
set_option maxRecDepth 100000 in
theorem h_bend (l : Launch) (D : va_G) (cI cJ cL : ClassId) (ad : Nat → Nat) (M B : Int → Int → Int) (lo ch wt sn vo mo le ln od fe se td th : Int → Int) (cnt bw bs pl tk tc sill day lau : Int) (hl0 : l.stackTraces = false) (w : Int) (hw : inr w) : XI l yL_bend wsL_bend rmL_bend [.ref (ad 0), .int (iI w)] D cI cJ cL (wX ad cI cJ M B lo ch wt sn vo mo le ln od fe se td th cnt bw bs pl tk tc sill day lau) 1 6 (hqP (fun E w' => w' = (wX ad cI cJ M B lo ch wt sn vo mo le ln od fe se td th cnt bw bs pl tk tc sill day lau) ∧ (E = eIX ∧ tcW w = 1)) (fun r w' => tcW w = 0 ∧ r = bendZ (M w) 7 ∧ w' = (wX ad cI cJ M B lo ch wt sn vo mo le ln od fe se td th cnt bw bs pl tk tc sill day lau)) [(eIX, -70100)]) (fun _ _ => False) := by
  refine XI.ofH (cc := cL_bend) (maxL := 4) (ret := some .int) (own := RL) _ 2 (by decide +kernel) rfl rfl rfl (Nat.le_of_ble_eq_true rfl) rfl (fun sz9 p9 e9 s9 m9 a9 b9 h9 c9 C hr htb => ?_)
  refine Z.aload_n C dL_bend_0 rfl ?_
  refine Z.iload_n C dL_bend_1 rfl ?_
  refine Z.xVI C 0 1 (c_bend l D cI cJ cL ad M B lo ch wt sn vo mo le ln od fe se td th cnt bw bs pl tk tc sill day lau hl0 w hw) rfl rfl gL_bend_X6_bend rfl rfl rfl (by decide +kernel) ⟨Nat.le_of_ble_eq_true rfl, Nat.le_of_ble_eq_true rfl⟩ rfl rfl (Nat.le_of_ble_eq_true rfl) ⟨Nat.le_of_ble_eq_true rfl, Nat.le_of_ble_eq_true rfl⟩ dL_bend_2 (fun r w1 h1 => ?_) (fun E w1 hE => ?_)
  · skip
    refine Z.istore_n C dL_bend_5 (by decide) ?_
    refine Z.goto C 13 dL_bend_6 (by decide) ?_
    refine Z.iload_n C dL_bend_13 rfl ?_
    exact Z.iretX C hr (Nat.le_of_ble_eq_true rfl) (Nat.le_of_ble_eq_true rfl) dL_bend_14 (Or.inr h1)
  · have hin : E = eIX := by
      exact hE.2.1
    rcases hin with rfl
    · refine ZX.catch C [] (0, 6, 9, 14) [] htb (fun z hz => absurd hz List.not_mem_nil) (by decide +kernel) (by decide) (by decide) (by decide) (by decide +kernel) (fun q9 => ?_)
      refine Z.astore_n C dL_bend_9 (by decide) ?_
      refine Z.ldc C (v := iI (-70100)) (-70100) (by decide +kernel) rfl dL_bend_10 ?_
      exact Z.iretX C hr (Nat.le_of_ble_eq_true rfl) (Nat.le_of_ble_eq_true rfl) dL_bend_12 (Or.inl ⟨_, hE, List.mem_cons_self⟩)
abbrev rmL_fair : Room := { frames := 8, cells := 3, slots := 18, locals := 148 }
set_option maxHeartbeats 4000000 in
set_option maxRecDepth 100000 in
theorem h_fair (l : Launch) (D : va_G) (cI cJ cL : ClassId) (ad : Nat → Nat) (M B : Int → Int → Int) (lo ch wt sn vo mo le ln od fe se td th : Int → Int) (cnt bw bs pl tk tc sill day lau : Int) (hl0 : l.stackTraces = false) (hM : hOK M) (hB : ∀ j : Int, B 7 j = 0) (ha : lau = 0 ∨ lau = 1) (w x : Int) (hw : inr w) (hx : inr x) : XI l yL_fair wsL_fair rmL_fair [.ref (ad 0), .int (iI w), .int (iI x)] D cI cJ cL (wX ad cI cJ M B lo ch wt sn vo mo le ln od fe se td th cnt bw bs pl tk tc sill day lau) 3 18 (hqP (fun E w' => w' = (wX ad cI cJ M B lo ch wt sn vo mo le ln od fe se td th cnt bw bs pl tk tc sill day lau) ∧ exO E (tcFair w x lau)) (fun r w' => tcFair w x lau = 0 ∧ r = bendZ (M w) 7 - bendZ (frZ (M w) x) 7 ∧ ∃ (B' : Int → Int → Int) (lo' ch' f' : Int → Int), (∀ j : Int, B' 7 j = 0) ∧ (∀ j : Int, 0 ≤ f' j ∧ f' j ≤ 200) ∧ (∀ s : Nat, s ≤ 8 → f' s = frZ (M w) x s) ∧ w' = (wX ad cI cJ (zrow M w f') B' lo' ch' wt sn vo mo le ln od fe se td th cnt bw bs pl tk tc sill day lau)) [(eIX, -70100), (eIA, -70200), (eIS, -70300)]) (fun _ _ => False) := by
  refine XI.ofH (cc := cL_fair) (maxL := 5) (ret := some .int) (own := RL) _ 2 (by decide +kernel) rfl rfl rfl (Nat.le_of_ble_eq_true rfl) rfl (fun sz9 p9 e9 s9 m9 a9 b9 h9 c9 C hr htb => ?_)
  refine Z.aload_n C dL_fair_0 rfl ?_
  refine Z.iload_n C dL_fair_1 rfl ?_
  refine Z.iload_n C dL_fair_2 rfl ?_
  refine Z.xVI C 0 2 (c_fair l D cI cJ cL ad M B lo ch wt sn vo mo le ln od fe se td th cnt bw bs pl tk tc sill day lau hl0 hM hB ha w x hw hx) rfl rfl gL_fair_X6_fair rfl rfl rfl (by decide +kernel) ⟨Nat.le_of_ble_eq_true rfl, Nat.le_of_ble_eq_true rfl⟩ rfl rfl (Nat.le_of_ble_eq_true rfl) ⟨Nat.le_of_ble_eq_true rfl, Nat.le_of_ble_eq_true rfl⟩ dL_fair_3 (fun r w1 h1 => ?_) (fun E w1 hE => ?_)
  · skip
    refine Z.istore_n C dL_fair_6 (by decide) ?_
    refine Z.goto C 25 dL_fair_7 (by decide) ?_
    refine Z.iload_n C dL_fair_25 rfl ?_
    exact Z.iretX C hr (Nat.le_of_ble_eq_true rfl) (Nat.le_of_ble_eq_true rfl) dL_fair_26 (Or.inr h1)
  · have hin : E = eIX ∨ E = eIA ∨ E = eIS := by
      rcases hE.2 with ⟨q, q2⟩ | ⟨q, q2⟩ | ⟨q, q2⟩
      · exact Or.inl q
      · exact Or.inr (Or.inl q)
      · exact Or.inr (Or.inr q)
    rcases hin with rfl | rfl | rfl
    · refine ZX.catch C [] (0, 7, 10, 14) [(0, 7, 15, 17), (0, 7, 20, 20)] htb (fun z hz => absurd hz List.not_mem_nil) (by decide +kernel) (by decide) (by decide) (by decide) (by decide +kernel) (fun q9 => ?_)
      refine Z.astore C dL_fair_10 (by decide) ?_
      refine Z.ldc C (v := iI (-70100)) (-70100) (by decide +kernel) rfl dL_fair_12 ?_
      exact Z.iretX C hr (Nat.le_of_ble_eq_true rfl) (Nat.le_of_ble_eq_true rfl) dL_fair_14 (Or.inl ⟨_, hE, List.mem_cons_self⟩)
    · refine ZX.catch C [(0, 7, 10, 14)] (0, 7, 15, 17) [(0, 7, 20, 20)] htb (fun z hz => by rcases List.mem_cons.mp hz with rfl | hz; exact ⟨by decide, eIX, by decide +kernel, by decide +kernel, by decide +kernel⟩; exact absurd hz List.not_mem_nil) (by decide +kernel) (by decide) (by decide) (by decide) (by decide +kernel) (fun q9 => ?_)
      refine Z.astore C dL_fair_15 (by decide) ?_
      refine Z.ldc C (v := iI (-70200)) (-70200) (by decide +kernel) rfl dL_fair_17 ?_
      exact Z.iretX C hr (Nat.le_of_ble_eq_true rfl) (Nat.le_of_ble_eq_true rfl) dL_fair_19 (Or.inl ⟨_, hE, (List.mem_cons_of_mem _ List.mem_cons_self)⟩)
    · refine ZX.catch C [(0, 7, 10, 14), (0, 7, 15, 17)] (0, 7, 20, 20) [] htb (fun z hz => by rcases List.mem_cons.mp hz with rfl | hz; exact ⟨by decide, eIX, by decide +kernel, by decide +kernel, by decide +kernel⟩; rcases List.mem_cons.mp hz with rfl | hz; exact ⟨by decide, eIA, by decide +kernel, by decide +kernel, by decide +kernel⟩; exact absurd hz List.not_mem_nil) (by decide +kernel) (by decide) (by decide) (by decide) (by decide +kernel) (fun q9 => ?_)
      refine Z.astore C dL_fair_20 (by decide) ?_
      refine Z.ldc C (v := iI (-70300)) (-70300) (by decide +kernel) rfl dL_fair_22 ?_
      exact Z.iretX C hr (Nat.le_of_ble_eq_true rfl) (Nat.le_of_ble_eq_true rfl) dL_fair_24 (Or.inl ⟨_, hE, (List.mem_cons_of_mem _ (List.mem_cons_of_mem _ List.mem_cons_self))⟩)
abbrev rmL_area : Room := { frames := 8, cells := 2, slots := 12, locals := 132 }
set_option maxHeartbeats 4000000 in
set_option maxRecDepth 100000 in
theorem h_area (l : Launch) (D : va_G) (cI cJ cL : ClassId) (ad : Nat → Nat) (M B : Int → Int → Int) (lo ch wt sn vo mo le ln od fe se td th : Int → Int) (cnt bw bs pl tk tc sill day lau : Int) (hl0 : l.stackTraces = false) (x w : Int) (hx : inr x) (hw : inr w) : XI l yL_area wsL_area rmL_area [.ref (ad 0), .int (iI x), .int (iI w)] D cI cJ cL (wX ad cI cJ M B lo ch wt sn vo mo le ln od fe se td th cnt bw bs pl tk tc sill day lau) 2 12 (hqP (fun E w' => w' = (wX ad cI cJ M B lo ch wt sn vo mo le ln od fe se td th cnt bw bs pl tk tc sill day lau) ∧ (E = eIX ∧ tcSW x w = 1)) (fun r w' => tcSW x w = 0 ∧ r = areaZ M x w.toNat ∧ w' = (wX ad cI cJ M B lo ch wt sn vo mo le ln od fe se td th cnt bw bs pl tk tc sill day lau)) [(eIX, -70100)]) (fun _ _ => False) := by
  refine XI.ofH (cc := cL_area) (maxL := 5) (ret := some .int) (own := RL) _ 2 (by decide +kernel) rfl rfl rfl (Nat.le_of_ble_eq_true rfl) rfl (fun sz9 p9 e9 s9 m9 a9 b9 h9 c9 C hr htb => ?_)
  refine Z.aload_n C dL_area_0 rfl ?_
  refine Z.iload_n C dL_area_1 rfl ?_
  refine Z.iload_n C dL_area_2 rfl ?_
  refine Z.xVI C 0 2 (c_area l D cI cJ cL ad M B lo ch wt sn vo mo le ln od fe se td th cnt bw bs pl tk tc sill day lau hl0 x w hx hw) rfl rfl gL_area_X6_area rfl rfl rfl (by decide +kernel) ⟨Nat.le_of_ble_eq_true rfl, Nat.le_of_ble_eq_true rfl⟩ rfl rfl (Nat.le_of_ble_eq_true rfl) ⟨Nat.le_of_ble_eq_true rfl, Nat.le_of_ble_eq_true rfl⟩ dL_area_3 (fun r w1 h1 => ?_) (fun E w1 hE => ?_)
  · skip
    refine Z.istore_n C dL_area_6 (by decide) ?_
    refine Z.goto C 15 dL_area_7 (by decide) ?_
    refine Z.iload_n C dL_area_15 rfl ?_
    exact Z.iretX C hr (Nat.le_of_ble_eq_true rfl) (Nat.le_of_ble_eq_true rfl) dL_area_16 (Or.inr h1)
  · have hin : E = eIX := by
      exact hE.2.1
    rcases hin with rfl
    · refine ZX.catch C [] (0, 7, 10, 14) [] htb (fun z hz => absurd hz List.not_mem_nil) (by decide +kernel) (by decide) (by decide) (by decide) (by decide +kernel) (fun q9 => ?_)
      refine Z.astore C dL_area_10 (by decide) ?_
      refine Z.ldc C (v := iI (-70100)) (-70100) (by decide +kernel) rfl dL_area_12 ?_
      exact Z.iretX C hr (Nat.le_of_ble_eq_true rfl) (Nat.le_of_ble_eq_true rfl) dL_area_14 (Or.inl ⟨_, hE, List.mem_cons_self⟩)
abbrev rmL_volume : Room := { frames := 8, cells := 1, slots := 6, locals := 131 }
set_option maxHeartbeats 4000000 in
set_option maxRecDepth 100000 in
theorem h_volume (l : Launch) (D : va_G) (cI cJ cL : ClassId) (ad : Nat → Nat) (M B : Int → Int → Int) (lo ch wt sn vo mo le ln od fe se td th : Int → Int) (cnt bw bs pl tk tc sill day lau : Int) (hl0 : l.stackTraces = false) (w : Int) (hw : inr w) : XI l yL_volume wsL_volume rmL_volume [.ref (ad 0), .int (iI w)] D cI cJ cL (wX ad cI cJ M B lo ch wt sn vo mo le ln od fe se td th cnt bw bs pl tk tc sill day lau) 1 6 (hqP (fun E w' => w' = (wX ad cI cJ M B lo ch wt sn vo mo le ln od fe se td th cnt bw bs pl tk tc sill day lau) ∧ (E = eIX ∧ tcW w = 1)) (fun r w' => tcW w = 0 ∧ r = volZ M w.toNat 8 ∧ w' = (wX ad cI cJ M B lo ch wt sn vo mo le ln od fe se td th cnt bw bs pl tk tc sill day lau)) [(eIX, -70100)]) (fun _ _ => False) := by
  refine XI.ofH (cc := cL_volume) (maxL := 4) (ret := some .int) (own := RL) _ 2 (by decide +kernel) rfl rfl rfl (Nat.le_of_ble_eq_true rfl) rfl (fun sz9 p9 e9 s9 m9 a9 b9 h9 c9 C hr htb => ?_)
  refine Z.aload_n C dL_volume_0 rfl ?_
  refine Z.iload_n C dL_volume_1 rfl ?_
  refine Z.xVI C 0 1 (c_volume l D cI cJ cL ad M B lo ch wt sn vo mo le ln od fe se td th cnt bw bs pl tk tc sill day lau hl0 w hw) rfl rfl gL_volume_X6_volume rfl rfl rfl (by decide +kernel) ⟨Nat.le_of_ble_eq_true rfl, Nat.le_of_ble_eq_true rfl⟩ rfl rfl (Nat.le_of_ble_eq_true rfl) ⟨Nat.le_of_ble_eq_true rfl, Nat.le_of_ble_eq_true rfl⟩ dL_volume_2 (fun r w1 h1 => ?_) (fun E w1 hE => ?_)
  · skip
    refine Z.istore_n C dL_volume_5 (by decide) ?_
    refine Z.goto C 13 dL_volume_6 (by decide) ?_
    refine Z.iload_n C dL_volume_13 rfl ?_
    exact Z.iretX C hr (Nat.le_of_ble_eq_true rfl) (Nat.le_of_ble_eq_true rfl) dL_volume_14 (Or.inr h1)
  · have hin : E = eIX := by
      exact hE.2.1
    rcases hin with rfl
    · refine ZX.catch C [] (0, 6, 9, 14) [] htb (fun z hz => absurd hz List.not_mem_nil) (by decide +kernel) (by decide) (by decide) (by decide) (by decide +kernel) (fun q9 => ?_)
      refine Z.astore_n C dL_volume_9 (by decide) ?_
      refine Z.ldc C (v := iI (-70100)) (-70100) (by decide +kernel) rfl dL_volume_10 ?_
      exact Z.iretX C hr (Nat.le_of_ble_eq_true rfl) (Nat.le_of_ble_eq_true rfl) dL_volume_12 (Or.inl ⟨_, hE, List.mem_cons_self⟩)
abbrev rmL_volumeAnew : Room := { frames := 8, cells := 1, slots := 6, locals := 131 }
set_option maxHeartbeats 4000000 in
set_option maxRecDepth 100000 in
theorem h_volumeAnew (l : Launch) (D : va_G) (cI cJ cL : ClassId) (ad : Nat → Nat) (M B : Int → Int → Int) (lo ch wt sn vo mo le ln od fe se td th : Int → Int) (cnt bw bs pl tk tc sill day lau : Int) (hl0 : l.stackTraces = false) (w : Int) (hw : inr w) : XI l yL_volumeAnew wsL_volumeAnew rmL_volumeAnew [.ref (ad 0), .int (iI w)] D cI cJ cL (wX ad cI cJ M B lo ch wt sn vo mo le ln od fe se td th cnt bw bs pl tk tc sill day lau) 1 6 (hqP (fun E w' => w' = (wX ad cI cJ M B lo ch wt sn vo mo le ln od fe se td th cnt bw bs pl tk tc sill day lau) ∧ (E = eIX ∧ tcW w = 1)) (fun r w' => tcW w = 0 ∧ r = slcZ M w.toNat ∧ w' = (wX ad cI cJ M B lo ch wt sn vo mo le ln od fe se td th cnt bw bs pl tk tc sill day lau)) [(eIX, -70100)]) (fun _ _ => False) := by
  refine XI.ofH (cc := cL_volumeAnew) (maxL := 4) (ret := some .int) (own := RL) _ 2 (by decide +kernel) rfl rfl rfl (Nat.le_of_ble_eq_true rfl) rfl (fun sz9 p9 e9 s9 m9 a9 b9 h9 c9 C hr htb => ?_)
  refine Z.aload_n C dL_volumeAnew_0 rfl ?_
  refine Z.iload_n C dL_volumeAnew_1 rfl ?_
  refine Z.xVI C 0 1 (c_volumeAnew l D cI cJ cL ad M B lo ch wt sn vo mo le ln od fe se td th cnt bw bs pl tk tc sill day lau hl0 w hw) rfl rfl gL_volumeAnew_X6_volumeAnew rfl rfl rfl (by decide +kernel) ⟨Nat.le_of_ble_eq_true rfl, Nat.le_of_ble_eq_true rfl⟩ rfl rfl (Nat.le_of_ble_eq_true rfl) ⟨Nat.le_of_ble_eq_true rfl, Nat.le_of_ble_eq_true rfl⟩ dL_volumeAnew_2 (fun r w1 h1 => ?_) (fun E w1 hE => ?_)
  · skip
    refine Z.istore_n C dL_volumeAnew_5 (by decide) ?_
    refine Z.goto C 13 dL_volumeAnew_6 (by decide) ?_
    refine Z.iload_n C dL_volumeAnew_13 rfl ?_
    exact Z.iretX C hr (Nat.le_of_ble_eq_true rfl) (Nat.le_of_ble_eq_true rfl) dL_volumeAnew_14 (Or.inr h1)
  · have hin : E = eIX := by
      exact hE.2.1
    rcases hin with rfl
    · refine ZX.catch C [] (0, 6, 9, 14) [] htb (fun z hz => absurd hz List.not_mem_nil) (by decide +kernel) (by decide) (by decide) (by decide) (by decide +kernel) (fun q9 => ?_)
      refine Z.astore_n C dL_volumeAnew_9 (by decide) ?_
      refine Z.ldc C (v := iI (-70100)) (-70100) (by decide +kernel) rfl dL_volumeAnew_10 ?_
      exact Z.iretX C hr (Nat.le_of_ble_eq_true rfl) (Nat.le_of_ble_eq_true rfl) dL_volumeAnew_12 (Or.inl ⟨_, hE, List.mem_cons_self⟩)
abbrev rmL_weigh : Room := { frames := 8, cells := 3, slots := 18, locals := 134 }
set_option maxHeartbeats 4000000 in
set_option maxRecDepth 100000 in
theorem h_weigh (l : Launch) (D : va_G) (cI cJ cL : ClassId) (ad : Nat → Nat) (M B : Int → Int → Int) (lo ch wt sn vo mo le ln od fe se td th : Int → Int) (cnt bw bs pl tk tc sill day lau : Int) (hl0 : l.stackTraces = false) (hc0 : 0 ≤ cnt) (hc1 : cnt ≤ 16) (x w : Int) (hx : inr x) (hw : inr w) : XI l yL_weigh wsL_weigh rmL_weigh [.ref (ad 0), .int (iI x), .int (iI w)] D cI cJ cL (wX ad cI cJ M B lo ch wt sn vo mo le ln od fe se td th cnt bw bs pl tk tc sill day lau) 3 18 (hqP (fun E w' => w' = (wX ad cI cJ M B lo ch wt sn vo mo le ln od fe se td th cnt bw bs pl tk tc sill day lau) ∧ exO E (tcWeigh x w cnt)) (fun r w' => tcWeigh x w cnt = 0 ∧ r = cnt ∧ w' = (wX ad cI cJ M B lo ch (zset wt cnt w) (zset sn cnt x) vo mo le ln od fe se td th (cnt + 1) bw bs pl tk tc sill day lau)) [(eIX, -70100), (eIA, -70200), (eIS, -70300)]) (fun _ _ => False) := by
  refine XI.ofH (cc := cL_weigh) (maxL := 5) (ret := some .int) (own := RL) _ 2 (by decide +kernel) rfl rfl rfl (Nat.le_of_ble_eq_true rfl) rfl (fun sz9 p9 e9 s9 m9 a9 b9 h9 c9 C hr htb => ?_)
  refine Z.aload_n C dL_weigh_0 rfl ?_
  refine Z.iload_n C dL_weigh_1 rfl ?_
  refine Z.iload_n C dL_weigh_2 rfl ?_
  refine Z.xVI C 0 2 (c_weigh l D cI cJ cL ad M B lo ch wt sn vo mo le ln od fe se td th cnt bw bs pl tk tc sill day lau hl0 hc0 hc1 x w hx hw) rfl rfl gL_weigh_X6_weigh rfl rfl rfl (by decide +kernel) ⟨Nat.le_of_ble_eq_true rfl, Nat.le_of_ble_eq_true rfl⟩ rfl rfl (Nat.le_of_ble_eq_true rfl) ⟨Nat.le_of_ble_eq_true rfl, Nat.le_of_ble_eq_true rfl⟩ dL_weigh_3 (fun r w1 h1 => ?_) (fun E w1 hE => ?_)
  · skip
    refine Z.istore_n C dL_weigh_6 (by decide) ?_
    refine Z.goto C 25 dL_weigh_7 (by decide) ?_
    refine Z.iload_n C dL_weigh_25 rfl ?_
    exact Z.iretX C hr (Nat.le_of_ble_eq_true rfl) (Nat.le_of_ble_eq_true rfl) dL_weigh_26 (Or.inr h1)
  · have hin : E = eIX ∨ E = eIA ∨ E = eIS := by
      rcases hE.2 with ⟨q, q2⟩ | ⟨q, q2⟩ | ⟨q, q2⟩
      · exact Or.inl q
      · exact Or.inr (Or.inl q)
      · exact Or.inr (Or.inr q)
    rcases hin with rfl | rfl | rfl
    · refine ZX.catch C [] (0, 7, 10, 14) [(0, 7, 15, 17), (0, 7, 20, 20)] htb (fun z hz => absurd hz List.not_mem_nil) (by decide +kernel) (by decide) (by decide) (by decide) (by decide +kernel) (fun q9 => ?_)
      refine Z.astore C dL_weigh_10 (by decide) ?_
      refine Z.ldc C (v := iI (-70100)) (-70100) (by decide +kernel) rfl dL_weigh_12 ?_
      exact Z.iretX C hr (Nat.le_of_ble_eq_true rfl) (Nat.le_of_ble_eq_true rfl) dL_weigh_14 (Or.inl ⟨_, hE, List.mem_cons_self⟩)
    · refine ZX.catch C [(0, 7, 10, 14)] (0, 7, 15, 17) [(0, 7, 20, 20)] htb (fun z hz => by rcases List.mem_cons.mp hz with rfl | hz; exact ⟨by decide, eIX, by decide +kernel, by decide +kernel, by decide +kernel⟩; exact absurd hz List.not_mem_nil) (by decide +kernel) (by decide) (by decide) (by decide) (by decide +kernel) (fun q9 => ?_)
      refine Z.astore C dL_weigh_15 (by decide) ?_
      refine Z.ldc C (v := iI (-70200)) (-70200) (by decide +kernel) rfl dL_weigh_17 ?_
      exact Z.iretX C hr (Nat.le_of_ble_eq_true rfl) (Nat.le_of_ble_eq_true rfl) dL_weigh_19 (Or.inl ⟨_, hE, (List.mem_cons_of_mem _ List.mem_cons_self)⟩)
    · refine ZX.catch C [(0, 7, 10, 14), (0, 7, 15, 17)] (0, 7, 20, 20) [] htb (fun z hz => by rcases List.mem_cons.mp hz with rfl | hz; exact ⟨by decide, eIX, by decide +kernel, by decide +kernel, by decide +kernel⟩; rcases List.mem_cons.mp hz with rfl | hz; exact ⟨by decide, eIA, by decide +kernel, by decide +kernel, by decide +kernel⟩; exact absurd hz List.not_mem_nil) (by decide +kernel) (by decide) (by decide) (by decide) (by decide +kernel) (fun q9 => ?_)
      refine Z.astore C dL_weigh_20 (by decide) ?_
      refine Z.ldc C (v := iI (-70300)) (-70300) (by decide +kernel) rfl dL_weigh_22 ?_
      exact Z.iretX C hr (Nat.le_of_ble_eq_true rfl) (Nat.le_of_ble_eq_true rfl) dL_weigh_24 (Or.inl ⟨_, hE, (List.mem_cons_of_mem _ (List.mem_cons_of_mem _ List.mem_cons_self))⟩)
abbrev rmL_change : Room := { frames := 8, cells := 3, slots := 18, locals := 135 }
set_option maxHeartbeats 4000000 in
set_option maxRecDepth 100000 in
theorem h_change (l : Launch) (D : va_G) (cI cJ cL : ClassId) (ad : Nat → Nat) (M B : Int → Int → Int) (lo ch wt sn vo mo le ln od fe se td th : Int → Int) (cnt bw bs pl tk tc sill day lau : Int) (hl0 : l.stackTraces = false) (hc0 : 0 ≤ cnt) (hc1 : cnt ≤ 16) (q x w : Int) (hq : inr q) (hx : inr x) (hw : inr w) : XI l yL_change wsL_change rmL_change [.ref (ad 0), .int (iI q), .int (iI x), .int (iI w)] D cI cJ cL (wX ad cI cJ M B lo ch wt sn vo mo le ln od fe se td th cnt bw bs pl tk tc sill day lau) 3 18 (hqP (fun E w' => w' = (wX ad cI cJ M B lo ch wt sn vo mo le ln od fe se td th cnt bw bs pl tk tc sill day lau) ∧ exO E (tcChange q x w cnt)) (fun r w' => tcChange q x w cnt = 0 ∧ r = 10 * wt q + sn q ∧ w' = (wX ad cI cJ M B lo ch (zset wt q w) (zset sn q x) vo mo le ln od fe se td th cnt bw bs pl tk tc sill day lau)) [(eIX, -70100), (eIA, -70200)]) (fun _ _ => False) := by
  refine XI.ofH (cc := cL_change) (maxL := 6) (ret := some .int) (own := RL) _ 2 (by decide +kernel) rfl rfl rfl (Nat.le_of_ble_eq_true rfl) rfl (fun sz9 p9 e9 s9 m9 a9 b9 h9 c9 C hr htb => ?_)
  refine Z.aload_n C dL_change_0 rfl ?_
  refine Z.iload_n C dL_change_1 rfl ?_
  refine Z.iload_n C dL_change_2 rfl ?_
  refine Z.iload_n C dL_change_3 rfl ?_
  refine Z.xVI C 0 3 (c_change l D cI cJ cL ad M B lo ch wt sn vo mo le ln od fe se td th cnt bw bs pl tk tc sill day lau hl0 hc0 hc1 q x w hq hx hw) rfl rfl gL_change_X6_change rfl rfl rfl (by decide +kernel) ⟨Nat.le_of_ble_eq_true rfl, Nat.le_of_ble_eq_true rfl⟩ rfl rfl (Nat.le_of_ble_eq_true rfl) ⟨Nat.le_of_ble_eq_true rfl, Nat.le_of_ble_eq_true rfl⟩ dL_change_4 (fun r w1 h1 => ?_) (fun E w1 hE => ?_)
  · skip
    refine Z.istore C dL_change_7 (by decide) ?_
    refine Z.goto C 22 dL_change_9 (by decide) ?_
    refine Z.iload C dL_change_22 rfl ?_
    exact Z.iretX C hr (Nat.le_of_ble_eq_true rfl) (Nat.le_of_ble_eq_true rfl) dL_change_24 (Or.inr h1)
  · have hin : E = eIX ∨ E = eIA := by
      rcases hE.2 with ⟨q, q2⟩ | ⟨q, q2⟩ | ⟨q, q2⟩
      · exact Or.inl q
      · exact Or.inr q
      · exfalso
        unfold tcChange at q2
        (repeat' split at q2) <;> omega
    rcases hin with rfl | rfl
    · refine ZX.catch C [] (0, 9, 12, 14) [(0, 9, 17, 17)] htb (fun z hz => absurd hz List.not_mem_nil) (by decide +kernel) (by decide) (by decide) (by decide) (by decide +kernel) (fun q9 => ?_)
      refine Z.astore C dL_change_12 (by decide) ?_
      refine Z.ldc C (v := iI (-70100)) (-70100) (by decide +kernel) rfl dL_change_14 ?_
      exact Z.iretX C hr (Nat.le_of_ble_eq_true rfl) (Nat.le_of_ble_eq_true rfl) dL_change_16 (Or.inl ⟨_, hE, List.mem_cons_self⟩)
    · refine ZX.catch C [(0, 9, 12, 14)] (0, 9, 17, 17) [] htb (fun z hz => by rcases List.mem_cons.mp hz with rfl | hz; exact ⟨by decide, eIX, by decide +kernel, by decide +kernel, by decide +kernel⟩; exact absurd hz List.not_mem_nil) (by decide +kernel) (by decide) (by decide) (by decide) (by decide +kernel) (fun q9 => ?_)
      refine Z.astore C dL_change_17 (by decide) ?_
      refine Z.ldc C (v := iI (-70200)) (-70200) (by decide +kernel) rfl dL_change_19 ?_
      exact Z.iretX C hr (Nat.le_of_ble_eq_true rfl) (Nat.le_of_ble_eq_true rfl) dL_change_21 (Or.inl ⟨_, hE, (List.mem_cons_of_mem _ List.mem_cons_self)⟩)
abbrev rmL_ballast : Room := { frames := 8, cells := 1, slots := 6, locals := 133 }
set_option maxHeartbeats 4000000 in
set_option maxRecDepth 100000 in
theorem h_ballast (l : Launch) (D : va_G) (cI cJ cL : ClassId) (ad : Nat → Nat) (M B : Int → Int → Int) (lo ch wt sn vo mo le ln od fe se td th : Int → Int) (cnt bw bs pl tk tc sill day lau : Int) (hl0 : l.stackTraces = false) (hM : hOK M) (hw : wOK wt sn) (hc0 : 0 ≤ cnt) (hc1 : cnt ≤ 16) (x : Int) (hx : inr x) : XI l yL_ballast wsL_ballast rmL_ballast [.ref (ad 0), .int (iI x)] D cI cJ cL (wX ad cI cJ M B lo ch wt sn vo mo le ln od fe se td th cnt bw bs pl tk tc sill day lau) 1 6 (hqP (fun E w' => w' = (wX ad cI cJ M B lo ch wt sn vo mo le ln od fe se td th cnt bw bs pl tk tc sill day lau) ∧ (E = eIA ∧ ¬ (0 ≤ x ∧ x ≤ 99))) (fun r w' => (0 ≤ x ∧ x ≤ 99) ∧ ∃ b c : Int, (balOut M (10 * sumZ wt cnt.toNat) (msZ wt sn cnt.toNat) (FAR, bw, bs) (x.toNat + 1)).2 = (b, c) ∧ r = 10 * b + c ∧ ∃ vo' mo' : Int → Int, w' = (wX ad cI cJ M B lo ch wt sn vo' mo' le ln od fe se td th cnt b c pl tk tc sill day lau)) [(eIA, -70200)]) (fun _ _ => False) := by
  refine XI.ofH (cc := cL_ballast) (maxL := 4) (ret := some .int) (own := RL) _ 2 (by decide +kernel) rfl rfl rfl (Nat.le_of_ble_eq_true rfl) rfl (fun sz9 p9 e9 s9 m9 a9 b9 h9 c9 C hr htb => ?_)
  refine Z.aload_n C dL_ballast_0 rfl ?_
  refine Z.iload_n C dL_ballast_1 rfl ?_
  refine Z.xVI C 0 1 (c_ballast l D cI cJ cL ad M B lo ch wt sn vo mo le ln od fe se td th cnt bw bs pl tk tc sill day lau hl0 hM hw hc0 hc1 x hx) rfl rfl gL_ballast_X6_ballast rfl rfl rfl (by decide +kernel) ⟨Nat.le_of_ble_eq_true rfl, Nat.le_of_ble_eq_true rfl⟩ rfl rfl (Nat.le_of_ble_eq_true rfl) ⟨Nat.le_of_ble_eq_true rfl, Nat.le_of_ble_eq_true rfl⟩ dL_ballast_2 (fun r w1 h1 => ?_) (fun E w1 hE => ?_)
  · skip
    refine Z.istore_n C dL_ballast_5 (by decide) ?_
    refine Z.goto C 13 dL_ballast_6 (by decide) ?_
    refine Z.iload_n C dL_ballast_13 rfl ?_
    exact Z.iretX C hr (Nat.le_of_ble_eq_true rfl) (Nat.le_of_ble_eq_true rfl) dL_ballast_14 (Or.inr h1)
  · have hin : E = eIA := by
      exact hE.2.1
    rcases hin with rfl
    · refine ZX.catch C [] (0, 6, 9, 17) [] htb (fun z hz => absurd hz List.not_mem_nil) (by decide +kernel) (by decide) (by decide) (by decide) (by decide +kernel) (fun q9 => ?_)
      refine Z.astore_n C dL_ballast_9 (by decide) ?_
      refine Z.ldc C (v := iI (-70200)) (-70200) (by decide +kernel) rfl dL_ballast_10 ?_
      exact Z.iretX C hr (Nat.le_of_ble_eq_true rfl) (Nat.le_of_ble_eq_true rfl) dL_ballast_12 (Or.inl ⟨_, hE, List.mem_cons_self⟩)
abbrev rmL_strake : Room := { frames := 8, cells := 1, slots := 6, locals := 131 }
set_option maxHeartbeats 4000000 in
set_option maxRecDepth 100000 in
theorem h_strake (l : Launch) (D : va_G) (cI cJ cL : ClassId) (ad : Nat → Nat) (M B : Int → Int → Int) (lo ch wt sn vo mo le ln od fe se td th : Int → Int) (cnt bw bs pl tk tc sill day lau : Int) (hl0 : l.stackTraces = false) (hM : hOK M) (x : Int) (hx : inr x) : XI l yL_strake wsL_strake rmL_strake [.ref (ad 0), .int (iI x)] D cI cJ cL (wX ad cI cJ M B lo ch wt sn vo mo le ln od fe se td th cnt bw bs pl tk tc sill day lau) 1 6 (hqP (fun E w' => w' = (wX ad cI cJ M B lo ch wt sn vo mo le ln od fe se td th cnt bw bs pl tk tc sill day lau) ∧ (E = eIX ∧ tcK x = 1)) (fun r w' => tcK x = 0 ∧ r = LsM M x ∧ w' = (wX ad cI cJ M B lo ch wt sn vo mo le ln od fe se td th cnt bw bs pl tk tc sill day lau)) [(eIX, -70100)]) (fun _ _ => False) := by
  refine XI.ofH (cc := cL_strake) (maxL := 4) (ret := some .int) (own := RL) _ 2 (by decide +kernel) rfl rfl rfl (Nat.le_of_ble_eq_true rfl) rfl (fun sz9 p9 e9 s9 m9 a9 b9 h9 c9 C hr htb => ?_)
  refine Z.aload_n C dL_strake_0 rfl ?_
  refine Z.iload_n C dL_strake_1 rfl ?_
  refine Z.xVI C 0 1 (c_strake l D cI cJ cL ad M B lo ch wt sn vo mo le ln od fe se td th cnt bw bs pl tk tc sill day lau hl0 hM x hx) rfl rfl gL_strake_X6_strake rfl rfl rfl (by decide +kernel) ⟨Nat.le_of_ble_eq_true rfl, Nat.le_of_ble_eq_true rfl⟩ rfl rfl (Nat.le_of_ble_eq_true rfl) ⟨Nat.le_of_ble_eq_true rfl, Nat.le_of_ble_eq_true rfl⟩ dL_strake_2 (fun r w1 h1 => ?_) (fun E w1 hE => ?_)
  · skip
    refine Z.istore_n C dL_strake_5 (by decide) ?_
    refine Z.goto C 13 dL_strake_6 (by decide) ?_
    refine Z.iload_n C dL_strake_13 rfl ?_
    exact Z.iretX C hr (Nat.le_of_ble_eq_true rfl) (Nat.le_of_ble_eq_true rfl) dL_strake_14 (Or.inr h1)
  · have hin : E = eIX := by
      exact hE.2.1
    rcases hin with rfl
    · refine ZX.catch C [] (0, 6, 9, 14) [] htb (fun z hz => absurd hz List.not_mem_nil) (by decide +kernel) (by decide) (by decide) (by decide) (by decide +kernel) (fun q9 => ?_)
      refine Z.astore_n C dL_strake_9 (by decide) ?_
      refine Z.ldc C (v := iI (-70100)) (-70100) (by decide +kernel) rfl dL_strake_10 ?_
      exact Z.iretX C hr (Nat.le_of_ble_eq_true rfl) (Nat.le_of_ble_eq_true rfl) dL_strake_12 (Or.inl ⟨_, hE, List.mem_cons_self⟩)
abbrev rmL_planks : Room := { frames := 8, cells := 1, slots := 6, locals := 133 }
set_option maxHeartbeats 4000000 in
set_option maxRecDepth 100000 in
theorem h_planks (l : Launch) (D : va_G) (cI cJ cL : ClassId) (ad : Nat → Nat) (M B : Int → Int → Int) (lo ch wt sn vo mo le ln od fe se td th : Int → Int) (cnt bw bs pl tk tc sill day lau : Int) (hl0 : l.stackTraces = false) (hM : hOK M) (x : Int) (hx : inr x) : XI l yL_planks wsL_planks rmL_planks [.ref (ad 0), .int (iI x)] D cI cJ cL (wX ad cI cJ M B lo ch wt sn vo mo le ln od fe se td th cnt bw bs pl tk tc sill day lau) 1 6 (hqP (fun E w' => w' = (wX ad cI cJ M B lo ch wt sn vo mo le ln od fe se td th cnt bw bs pl tk tc sill day lau) ∧ (E = eIA ∧ ¬ (100 ≤ x ∧ x ≤ 4000))) (fun r w' => (100 ≤ x ∧ x ≤ 4000) ∧ r = (plS x (LsM M) 5).2.1 ∧ ∃ (le' ln' od' fe' se' : Int → Int) (tk' : Int), w' = (wX ad cI cJ M B lo ch wt sn vo mo le' ln' od' fe' se' td th cnt bw bs x tk' tc sill day lau)) [(eIA, -70200)]) (fun _ _ => False) := by
  refine XI.ofH (cc := cL_planks) (maxL := 4) (ret := some .int) (own := RL) _ 2 (by decide +kernel) rfl rfl rfl (Nat.le_of_ble_eq_true rfl) rfl (fun sz9 p9 e9 s9 m9 a9 b9 h9 c9 C hr htb => ?_)
  refine Z.aload_n C dL_planks_0 rfl ?_
  refine Z.iload_n C dL_planks_1 rfl ?_
  refine Z.xVI C 0 1 (c_planks l D cI cJ cL ad M B lo ch wt sn vo mo le ln od fe se td th cnt bw bs pl tk tc sill day lau hl0 hM x hx) rfl rfl gL_planks_X6_planks rfl rfl rfl (by decide +kernel) ⟨Nat.le_of_ble_eq_true rfl, Nat.le_of_ble_eq_true rfl⟩ rfl rfl (Nat.le_of_ble_eq_true rfl) ⟨Nat.le_of_ble_eq_true rfl, Nat.le_of_ble_eq_true rfl⟩ dL_planks_2 (fun r w1 h1 => ?_) (fun E w1 hE => ?_)
  · skip
    refine Z.istore_n C dL_planks_5 (by decide) ?_
    refine Z.goto C 13 dL_planks_6 (by decide) ?_
    refine Z.iload_n C dL_planks_13 rfl ?_
    exact Z.iretX C hr (Nat.le_of_ble_eq_true rfl) (Nat.le_of_ble_eq_true rfl) dL_planks_14 (Or.inr h1)
  · have hin : E = eIA := by
      exact hE.2.1
    rcases hin with rfl
    · refine ZX.catch C [] (0, 6, 9, 17) [] htb (fun z hz => absurd hz List.not_mem_nil) (by decide +kernel) (by decide) (by decide) (by decide) (by decide +kernel) (fun q9 => ?_)
      refine Z.astore_n C dL_planks_9 (by decide) ?_
      refine Z.ldc C (v := iI (-70200)) (-70200) (by decide +kernel) rfl dL_planks_10 ?_
      exact Z.iretX C hr (Nat.le_of_ble_eq_true rfl) (Nat.le_of_ble_eq_true rfl) dL_planks_12 (Or.inl ⟨_, hE, List.mem_cons_self⟩)
abbrev rmL_plankOf : Room := { frames := 8, cells := 1, slots := 6, locals := 132 }
set_option maxHeartbeats 4000000 in
set_option maxRecDepth 100000 in
theorem h_plankOf (l : Launch) (D : va_G) (cI cJ cL : ClassId) (ad : Nat → Nat) (M B : Int → Int → Int) (lo ch wt sn vo mo le ln od fe se td th : Int → Int) (cnt bw bs pl tk tc sill day lau : Int) (hl0 : l.stackTraces = false) (hM : hOK M) (hp : 100 ≤ pl) (hp2 : pl ≤ 4000) (x y : Int) (hx : inr x) (hy : y = 0 ∨ y = 1) : XI l yL_plankOf wsL_plankOf rmL_plankOf [.ref (ad 0), .int (iI x), .int (iI y)] D cI cJ cL (wX ad cI cJ M B lo ch wt sn vo mo le ln od fe se td th cnt bw bs pl tk tc sill day lau) 1 6 (hqP (fun E w' => w' = (wX ad cI cJ M B lo ch wt sn vo mo le ln od fe se td th cnt bw bs pl tk tc sill day lau) ∧ (E = eIX ∧ tcK x = 1)) (fun r w' => tcK x = 0 ∧ r = (if y = 0 then (plS pl (LsM M) 5).2.2.1 x else (plS pl (LsM M) 5).2.2.2 x) ∧ ∃ (le' ln' od' fe' se' : Int → Int) (tk' : Int), w' = (wX ad cI cJ M B lo ch wt sn vo mo le' ln' od' fe' se' td th cnt bw bs pl tk' tc sill day lau)) [(eIX, -70100)]) (fun _ _ => False) := by
  refine XI.ofH (cc := cL_plankOf) (maxL := 5) (ret := some .int) (own := RL) _ 2 (by decide +kernel) rfl rfl rfl (Nat.le_of_ble_eq_true rfl) rfl (fun sz9 p9 e9 s9 m9 a9 b9 h9 c9 C hr htb => ?_)
  refine Z.aload_n C dL_plankOf_0 rfl ?_
  refine Z.iload_n C dL_plankOf_1 rfl ?_
  refine Z.iload_n C dL_plankOf_2 rfl ?_
  refine Z.xVI C 0 2 (c_plankOf l D cI cJ cL ad M B lo ch wt sn vo mo le ln od fe se td th cnt bw bs pl tk tc sill day lau hl0 hM hp hp2 x y hx hy) rfl rfl gL_plankOf_X6_plankOf rfl rfl rfl (by decide +kernel) ⟨Nat.le_of_ble_eq_true rfl, Nat.le_of_ble_eq_true rfl⟩ rfl rfl (Nat.le_of_ble_eq_true rfl) ⟨Nat.le_of_ble_eq_true rfl, Nat.le_of_ble_eq_true rfl⟩ dL_plankOf_3 (fun r w1 h1 => ?_) (fun E w1 hE => ?_)
  · skip
    refine Z.istore_n C dL_plankOf_6 (by decide) ?_
    refine Z.goto C 15 dL_plankOf_7 (by decide) ?_
    refine Z.iload_n C dL_plankOf_15 rfl ?_
    exact Z.iretX C hr (Nat.le_of_ble_eq_true rfl) (Nat.le_of_ble_eq_true rfl) dL_plankOf_16 (Or.inr h1)
  · have hin : E = eIX := by
      exact hE.2.1
    rcases hin with rfl
    · refine ZX.catch C [] (0, 7, 10, 14) [] htb (fun z hz => absurd hz List.not_mem_nil) (by decide +kernel) (by decide) (by decide) (by decide) (by decide +kernel) (fun q9 => ?_)
      refine Z.astore C dL_plankOf_10 (by decide) ?_
      refine Z.ldc C (v := iI (-70100)) (-70100) (by decide +kernel) rfl dL_plankOf_12 ?_
      exact Z.iretX C hr (Nat.le_of_ble_eq_true rfl) (Nat.le_of_ble_eq_true rfl) dL_plankOf_14 (Or.inl ⟨_, hE, List.mem_cons_self⟩)
abbrev rmL_tide : Room := { frames := 8, cells := 3, slots := 18, locals := 135 }
set_option maxHeartbeats 4000000 in
set_option maxRecDepth 100000 in
theorem h_tide (l : Launch) (D : va_G) (cI cJ cL : ClassId) (ad : Nat → Nat) (M B : Int → Int → Int) (lo ch wt sn vo mo le ln od fe se td th : Int → Int) (cnt bw bs pl tk tc sill day lau : Int) (hl0 : l.stackTraces = false) (htc0 : 0 ≤ tc) (htc1 : tc ≤ 40) (hu : uqZ td tc) (htd : ∀ j : Int, 0 ≤ td j ∧ td j ≤ 9999) (x y : Int) (hx : inr x) (hy : inr y) : XI l yL_tide wsL_tide rmL_tide [.ref (ad 0), .int (iI x), .int (iI y)] D cI cJ cL (wX ad cI cJ M B lo ch wt sn vo mo le ln od fe se td th cnt bw bs pl tk tc sill day lau) 3 18 (hqP (fun E w' => w' = (wX ad cI cJ M B lo ch wt sn vo mo le ln od fe se td th cnt bw bs pl tk tc sill day lau) ∧ exA E (tcTide x y tc (plZ td x tc.toNat))) (fun r w' => tcTide x y tc (plZ td x tc.toNat) = 0 ∧ r = tdZ td th x tc.toNat ∧ w' = (if plZ td x tc.toNat = -1 then (wX ad cI cJ M B lo ch wt sn vo mo le ln od fe se (zset td tc x) (zset th tc y) cnt bw bs pl tk (tc + 1) sill day lau) else (wX ad cI cJ M B lo ch wt sn vo mo le ln od fe se (zset td (plZ td x tc.toNat) x) (zset th (plZ td x tc.toNat) y) cnt bw bs pl tk tc sill day lau))) [(eIA, -70200), (eIS, -70300)]) (fun _ _ => False) := by
  refine XI.ofH (cc := cL_tide) (maxL := 5) (ret := some .int) (own := RL) _ 2 (by decide +kernel) rfl rfl rfl (Nat.le_of_ble_eq_true rfl) rfl (fun sz9 p9 e9 s9 m9 a9 b9 h9 c9 C hr htb => ?_)
  refine Z.aload_n C dL_tide_0 rfl ?_
  refine Z.iload_n C dL_tide_1 rfl ?_
  refine Z.iload_n C dL_tide_2 rfl ?_
  refine Z.xVI C 0 2 (c_tide l D cI cJ cL ad M B lo ch wt sn vo mo le ln od fe se td th cnt bw bs pl tk tc sill day lau hl0 htc0 htc1 hu htd x y hx hy) rfl rfl gL_tide_X6_tide rfl rfl rfl (by decide +kernel) ⟨Nat.le_of_ble_eq_true rfl, Nat.le_of_ble_eq_true rfl⟩ rfl rfl (Nat.le_of_ble_eq_true rfl) ⟨Nat.le_of_ble_eq_true rfl, Nat.le_of_ble_eq_true rfl⟩ dL_tide_3 (fun r w1 h1 => ?_) (fun E w1 hE => ?_)
  · skip
    refine Z.istore_n C dL_tide_6 (by decide) ?_
    refine Z.goto C 20 dL_tide_7 (by decide) ?_
    refine Z.iload_n C dL_tide_20 rfl ?_
    exact Z.iretX C hr (Nat.le_of_ble_eq_true rfl) (Nat.le_of_ble_eq_true rfl) dL_tide_21 (Or.inr h1)
  · have hin : E = eIA ∨ E = eIS := by
      rcases hE.2 with ⟨q, -⟩ | ⟨q, -⟩
      · exact Or.inl q
      · exact Or.inr q
    rcases hin with rfl | rfl
    · refine ZX.catch C [] (0, 7, 10, 17) [(0, 7, 15, 20)] htb (fun z hz => absurd hz List.not_mem_nil) (by decide +kernel) (by decide) (by decide) (by decide) (by decide +kernel) (fun q9 => ?_)
      refine Z.astore C dL_tide_10 (by decide) ?_
      refine Z.ldc C (v := iI (-70200)) (-70200) (by decide +kernel) rfl dL_tide_12 ?_
      exact Z.iretX C hr (Nat.le_of_ble_eq_true rfl) (Nat.le_of_ble_eq_true rfl) dL_tide_14 (Or.inl ⟨_, hE, List.mem_cons_self⟩)
    · refine ZX.catch C [(0, 7, 10, 17)] (0, 7, 15, 20) [] htb (fun z hz => by rcases List.mem_cons.mp hz with rfl | hz; exact ⟨by decide, eIA, by decide +kernel, by decide +kernel, by decide +kernel⟩; exact absurd hz List.not_mem_nil) (by decide +kernel) (by decide) (by decide) (by decide) (by decide +kernel) (fun q9 => ?_)
      refine Z.astore C dL_tide_15 (by decide) ?_
      refine Z.ldc C (v := iI (-70300)) (-70300) (by decide +kernel) rfl dL_tide_17 ?_
      exact Z.iretX C hr (Nat.le_of_ble_eq_true rfl) (Nat.le_of_ble_eq_true rfl) dL_tide_19 (Or.inl ⟨_, hE, (List.mem_cons_of_mem _ List.mem_cons_self)⟩)
abbrev rmL_sill : Room := { frames := 8, cells := 1, slots := 6, locals := 134 }
set_option maxHeartbeats 4000000 in
set_option maxRecDepth 100000 in
theorem h_sill (l : Launch) (D : va_G) (cI cJ cL : ClassId) (ad : Nat → Nat) (M B : Int → Int → Int) (lo ch wt sn vo mo le ln od fe se td th : Int → Int) (cnt bw bs pl tk tc sill day lau : Int) (hl0 : l.stackTraces = false) (x : Int) (hx : inr x) : XI l yL_sill wsL_sill rmL_sill [.ref (ad 0), .int (iI x)] D cI cJ cL (wX ad cI cJ M B lo ch wt sn vo mo le ln od fe se td th cnt bw bs pl tk tc sill day lau) 1 6 (hqP (fun E w' => w' = (wX ad cI cJ M B lo ch wt sn vo mo le ln od fe se td th cnt bw bs pl tk tc sill day lau) ∧ (E = eIA ∧ ¬ (0 ≤ x ∧ x ≤ 50))) (fun r w' => (0 ≤ x ∧ x ≤ 50) ∧ r = sill ∧ w' = (wX ad cI cJ M B lo ch wt sn vo mo le ln od fe se td th cnt bw bs pl tk tc x day lau)) [(eIA, -70200)]) (fun _ _ => False) := by
  refine XI.ofH (cc := cL_sill) (maxL := 4) (ret := some .int) (own := RL) _ 2 (by decide +kernel) rfl rfl rfl (Nat.le_of_ble_eq_true rfl) rfl (fun sz9 p9 e9 s9 m9 a9 b9 h9 c9 C hr htb => ?_)
  refine Z.aload_n C dL_sill_0 rfl ?_
  refine Z.iload_n C dL_sill_1 rfl ?_
  refine Z.xVI C 0 1 (c_sill l D cI cJ cL ad M B lo ch wt sn vo mo le ln od fe se td th cnt bw bs pl tk tc sill day lau hl0 x hx) rfl rfl gL_sill_X6_sill rfl rfl rfl (by decide +kernel) ⟨Nat.le_of_ble_eq_true rfl, Nat.le_of_ble_eq_true rfl⟩ rfl rfl (Nat.le_of_ble_eq_true rfl) ⟨Nat.le_of_ble_eq_true rfl, Nat.le_of_ble_eq_true rfl⟩ dL_sill_2 (fun r w1 h1 => ?_) (fun E w1 hE => ?_)
  · skip
    refine Z.istore_n C dL_sill_5 (by decide) ?_
    refine Z.goto C 13 dL_sill_6 (by decide) ?_
    refine Z.iload_n C dL_sill_13 rfl ?_
    exact Z.iretX C hr (Nat.le_of_ble_eq_true rfl) (Nat.le_of_ble_eq_true rfl) dL_sill_14 (Or.inr h1)
  · have hin : E = eIA := by
      exact hE.2.1
    rcases hin with rfl
    · refine ZX.catch C [] (0, 6, 9, 17) [] htb (fun z hz => absurd hz List.not_mem_nil) (by decide +kernel) (by decide) (by decide) (by decide) (by decide +kernel) (fun q9 => ?_)
      refine Z.astore_n C dL_sill_9 (by decide) ?_
      refine Z.ldc C (v := iI (-70200)) (-70200) (by decide +kernel) rfl dL_sill_10 ?_
      exact Z.iretX C hr (Nat.le_of_ble_eq_true rfl) (Nat.le_of_ble_eq_true rfl) dL_sill_12 (Or.inl ⟨_, hE, List.mem_cons_self⟩)
abbrev rmL_launch : Room := { frames := 8, cells := 2, slots := 12, locals := 133 }
set_option maxHeartbeats 4000000 in
set_option maxRecDepth 100000 in
theorem h_launch (l : Launch) (D : va_G) (cI cJ cL : ClassId) (ad : Nat → Nat) (M B : Int → Int → Int) (lo ch wt sn vo mo le ln od fe se td th : Int → Int) (cnt bw bs pl tk tc sill day lau : Int) (hl0 : l.stackTraces = false) (hM : hOK M) (hc0 : 0 ≤ cnt) (hc1 : cnt ≤ 16) (ha : lau = 0 ∨ lau = 1) (hs0 : 0 ≤ sill) (hs1 : sill ≤ 50) (hd0 : 0 ≤ day) (hd1 : day ≤ 9000) (htc0 : 0 ≤ tc) (htc1 : tc ≤ 40) (hu : uqZ td tc) (htd : ∀ j : Int, 0 ≤ td j ∧ td j ≤ 9999) (hth : ∀ j : Int, 0 ≤ th j ∧ th j ≤ 99) (L Mo : Int) (hL : 10 * sumZ wt cnt.toNat + 10 * bw = L) (hMo : msZ wt sn cnt.toNat + bw * 20 * bs = Mo) (hL0 : 0 ≤ L) (hL1 : L ≤ 1000000) (hM0 : 0 ≤ Mo) (hM1 : Mo ≤ 16 * L) : XI l yL_launch wsL_launch rmL_launch [.ref (ad 0)] D cI cJ cL (wX ad cI cJ M B lo ch wt sn vo mo le ln od fe se td th cnt bw bs pl tk tc sill day lau) 2 12 (hqP (fun E w' => ∃ vo' mo' : Int → Int, w' = (wX ad cI cJ M B lo ch wt sn vo' mo' le ln od fe se td th cnt bw bs pl tk tc sill day lau) ∧ E = eIS ∧ (lau = 1 ∨ ndZ M L Mo sill = -1 ∨ tdZ td th day tc.toNat < ndZ M L Mo sill)) (fun r w' => ¬ (lau = 1 ∨ ndZ M L Mo sill = -1 ∨ tdZ td th day tc.toNat < ndZ M L Mo sill) ∧ r = tdZ td th day tc.toNat - ndZ M L Mo sill ∧ ∃ vo' mo' : Int → Int, w' = (wX ad cI cJ M B lo ch wt sn vo' mo' le ln od fe se td th cnt bw bs pl tk tc sill day 1)) [(eIS, -70300)]) (fun _ _ => False) := by
  refine XI.ofH (cc := cL_launch) (maxL := 3) (ret := some .int) (own := RL) _ 2 (by decide +kernel) rfl rfl rfl (Nat.le_of_ble_eq_true rfl) rfl (fun sz9 p9 e9 s9 m9 a9 b9 h9 c9 C hr htb => ?_)
  refine Z.aload_n C dL_launch_0 rfl ?_
  refine Z.xVI C 0 0 (c_launch l D cI cJ cL ad M B lo ch wt sn vo mo le ln od fe se td th cnt bw bs pl tk tc sill day lau hl0 hM hc0 hc1 ha hs0 hs1 hd0 hd1 htc0 htc1 hu htd hth L Mo hL hMo hL0 hL1 hM0 hM1) rfl rfl gL_launch_X6_launch rfl rfl rfl (by decide +kernel) ⟨Nat.le_of_ble_eq_true rfl, Nat.le_of_ble_eq_true rfl⟩ rfl rfl (Nat.le_of_ble_eq_true rfl) ⟨Nat.le_of_ble_eq_true rfl, Nat.le_of_ble_eq_true rfl⟩ dL_launch_1 (fun r w1 h1 => ?_) (fun E w1 hE => ?_)
  · skip
    refine Z.istore_n C dL_launch_4 (by decide) ?_
    refine Z.goto C 12 dL_launch_5 (by decide) ?_
    refine Z.iload_n C dL_launch_12 rfl ?_
    exact Z.iretX C hr (Nat.le_of_ble_eq_true rfl) (Nat.le_of_ble_eq_true rfl) dL_launch_13 (Or.inr h1)
  · have hin : E = eIS := by
      obtain ⟨-, -, -, q, -⟩ := hE
      exact q
    rcases hin with rfl
    · refine ZX.catch C [] (0, 5, 8, 20) [] htb (fun z hz => absurd hz List.not_mem_nil) (by decide +kernel) (by decide) (by decide) (by decide) (by decide +kernel) (fun q9 => ?_)
      refine Z.astore_n C dL_launch_8 (by decide) ?_
      refine Z.ldc C (v := iI (-70300)) (-70300) (by decide +kernel) rfl dL_launch_9 ?_
      exact Z.iretX C hr (Nat.le_of_ble_eq_true rfl) (Nat.le_of_ble_eq_true rfl) dL_launch_11 (Or.inl ⟨_, hE, List.mem_cons_self⟩)
abbrev rmL_pass : Room := { frames := 8, cells := 2, slots := 12, locals := 133 }
set_option maxHeartbeats 4000000 in
set_option maxRecDepth 100000 in
theorem h_pass (l : Launch) (D : va_G) (cI cJ cL : ClassId) (ad : Nat → Nat) (M B : Int → Int → Int) (lo ch wt sn vo mo le ln od fe se td th : Int → Int) (cnt bw bs pl tk tc sill day lau : Int) (hl0 : l.stackTraces = false) (hd0 : 0 ≤ day) (hd1 : day ≤ 9000) (x : Int) (hx : inr x) : XI l yL_pass wsL_pass rmL_pass [.ref (ad 0), .int (iI x)] D cI cJ cL (wX ad cI cJ M B lo ch wt sn vo mo le ln od fe se td th cnt bw bs pl tk tc sill day lau) 2 12 (hqP (fun E w' => w' = (wX ad cI cJ M B lo ch wt sn vo mo le ln od fe se td th cnt bw bs pl tk tc sill day lau) ∧ exA E (tcPass x day)) (fun r w' => tcPass x day = 0 ∧ r = day + x ∧ w' = (wX ad cI cJ M B lo ch wt sn vo mo le ln od fe se td th cnt bw bs pl tk tc sill (day + x) lau)) [(eIA, -70200), (eIS, -70300)]) (fun _ _ => False) := by
  refine XI.ofH (cc := cL_pass) (maxL := 4) (ret := some .int) (own := RL) _ 2 (by decide +kernel) rfl rfl rfl (Nat.le_of_ble_eq_true rfl) rfl (fun sz9 p9 e9 s9 m9 a9 b9 h9 c9 C hr htb => ?_)
  refine Z.aload_n C dL_pass_0 rfl ?_
  refine Z.iload_n C dL_pass_1 rfl ?_
  refine Z.xVI C 0 1 (c_pass l D cI cJ cL ad M B lo ch wt sn vo mo le ln od fe se td th cnt bw bs pl tk tc sill day lau hl0 hd0 hd1 x hx) rfl rfl gL_pass_X6_pass rfl rfl rfl (by decide +kernel) ⟨Nat.le_of_ble_eq_true rfl, Nat.le_of_ble_eq_true rfl⟩ rfl rfl (Nat.le_of_ble_eq_true rfl) ⟨Nat.le_of_ble_eq_true rfl, Nat.le_of_ble_eq_true rfl⟩ dL_pass_2 (fun r w1 h1 => ?_) (fun E w1 hE => ?_)
  · skip
    refine Z.istore_n C dL_pass_5 (by decide) ?_
    refine Z.goto C 17 dL_pass_6 (by decide) ?_
    refine Z.iload_n C dL_pass_17 rfl ?_
    exact Z.iretX C hr (Nat.le_of_ble_eq_true rfl) (Nat.le_of_ble_eq_true rfl) dL_pass_18 (Or.inr h1)
  · have hin : E = eIA ∨ E = eIS := by
      rcases hE.2 with ⟨q, -⟩ | ⟨q, -⟩
      · exact Or.inl q
      · exact Or.inr q
    rcases hin with rfl | rfl
    · refine ZX.catch C [] (0, 6, 9, 17) [(0, 6, 13, 20)] htb (fun z hz => absurd hz List.not_mem_nil) (by decide +kernel) (by decide) (by decide) (by decide) (by decide +kernel) (fun q9 => ?_)
      refine Z.astore_n C dL_pass_9 (by decide) ?_
      refine Z.ldc C (v := iI (-70200)) (-70200) (by decide +kernel) rfl dL_pass_10 ?_
      exact Z.iretX C hr (Nat.le_of_ble_eq_true rfl) (Nat.le_of_ble_eq_true rfl) dL_pass_12 (Or.inl ⟨_, hE, List.mem_cons_self⟩)
    · refine ZX.catch C [(0, 6, 9, 17)] (0, 6, 13, 20) [] htb (fun z hz => by rcases List.mem_cons.mp hz with rfl | hz; exact ⟨by decide, eIA, by decide +kernel, by decide +kernel, by decide +kernel⟩; exact absurd hz List.not_mem_nil) (by decide +kernel) (by decide) (by decide) (by decide) (by decide +kernel) (fun q9 => ?_)
      refine Z.astore_n C dL_pass_13 (by decide) ?_
      refine Z.ldc C (v := iI (-70300)) (-70300) (by decide +kernel) rfl dL_pass_14 ?_
      exact Z.iretX C hr (Nat.le_of_ble_eq_true rfl) (Nat.le_of_ble_eq_true rfl) dL_pass_16 (Or.inl ⟨_, hE, (List.mem_cons_of_mem _ List.mem_cons_self)⟩)
