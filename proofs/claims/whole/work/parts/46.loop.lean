/-! ===== the loop of the law, and its start ===== -/
section LOOP
variable {p : Program} {l : Launch} {e : Env} {s : State} {m : MethodId} {args : Array Value} {below : List Frame} {meth : Method} {c : Code} {A : Nat → Prop} {D : va_G} {Q : State → Prop} {cI cJ cL : ClassId} {b L fb mdl o : Nat} {xs : Nat → Int32}
set_option maxHeartbeats 4000000 in
set_option maxRecDepth 100000 in
theorem law_loop (C : Cx p s m args meth c 7 A D cI cJ cL cL_law wsL_law RL) (hl0 : l.stackTraces = false) (hX : va_X b L xs s s.heap) (hbl : b < s.heap.size) (hbA : ¬ A b) (hL : L ≤ 2048)
    (hend : ∀ (cells slots : Nat) (ws : va_W) (lv : List Value), cells ≤ 601024 → slots ≤ 7293034 → Z p l e room_1 s m args below meth c 7 A D Q cells slots ws lv 1270 []) :
    ∀ (n j cells slots : Nat) (k : Int) (ws : va_W), L < 4 * j + n → k = 4 * (j : Int) → cells ≤ 60 + 4 * j → slots ≤ 1300 + 24 * j → 4 * j ≤ L + 4 → LWp fb mdl o cI cJ cL ws → Z p l e room_1 s m args below meth c 7 A D Q cells slots ws [.ref b, .ref fb, .ref mdl, .ref o, .int (iI k), .null, .null] 23 [] := by
  intro n
  induction n with
  | zero =>
    intro j cells slots k ws hn hk hc hs hj hW
    refine Z.iload C dL_law_23 rfl ?_
    refine Z.aload_n C dL_law_25 rfl ?_
    refine Z.slen C hX hbl hbA dL_law_26 ?_
    refine Z.iconst C dL_law_27 ?_
    refine Z.isub C dL_law_28 ?_
    refine Z.icmpgt C 1270 dL_law_29 (by decide) ⟨by omega, by omega⟩ ⟨by omega, by omega⟩ (fun h => ?_) (fun h => ?_)
    · exact hend _ _ _ _ (by omega) (by omega)
    · exfalso; omega
  | succ n ih =>
    intro j cells slots k ws hn hk hc hs hj hW
    refine Z.iload C dL_law_23 rfl ?_
    refine Z.aload_n C dL_law_25 rfl ?_
    refine Z.slen C hX hbl hbA dL_law_26 ?_
    refine Z.iconst C dL_law_27 ?_
    refine Z.isub C dL_law_28 ?_
    refine Z.icmpgt C 1270 dL_law_29 (by decide) ⟨by omega, by omega⟩ ⟨by omega, by omega⟩ (fun h => ?_) (fun h => ?_)
    · exact hend _ _ _ _ (by omega) (by omega)
    · have k0 : 0 ≤ k := by omega
      have k1 : k + 4 ≤ L := by omega
      have hc4 : cells + 4 ≤ 601024 := by omega
      have hs4 : slots + 24 ≤ 7293034 := by omega
      have kk : ∀ ws' : va_W, LWp fb mdl o cI cJ cL ws' → Z p l e room_1 s m args below meth c 7 A D Q (cells + 4) (slots + 24) ws' [.ref b, .ref fb, .ref mdl, .ref o, .int (iI k), .null, .null] 1264 [] := by
        intro ws' hW'
        refine Z.iinc C dL_law_1264 rfl (by decide) ?_
        refine Z.goto C 23 dL_law_1267 (by decide) ?_
        exact ih (j + 1) _ _ (k + 4) ws' (by omega) (by omega) (by omega) (by omega) (by omega) hW'
      refine Z.aload_n C dL_law_32 rfl ?_
      refine Z.iload C dL_law_33 rfl ?_
      refine Z.sld C hX hbl hbA k0 (by omega) hL dL_law_35 ?_
      refine Z.bipush C dL_law_36 (by decide) ?_
      refine Z.iand C dL_law_38 (fun t ht => ?_)
      by_cases h0 : t < 0 ∨ 20 < t
      · refine Z.tout C 1264 dL_law_39 ht h0 (by decide) ?_
        exact Z.widen (by omega) (by omega) (kk ws hW)
      · rcases (show t = 0 ∨ t = 1 ∨ t = 2 ∨ t = 3 ∨ t = 4 ∨ t = 5 ∨ t = 6 ∨ t = 7 ∨ t = 8 ∨ t = 9 ∨ t = 10 ∨ t = 11 ∨ t = 12 ∨ t = 13 ∨ t = 14 ∨ t = 15 ∨ t = 16 ∨ t = 17 ∨ t = 18 ∨ t = 19 ∨ t = 20 by omega) with rfl | rfl | rfl | rfl | rfl | rfl | rfl | rfl | rfl | rfl | rfl | rfl | rfl | rfl | rfl | rfl | rfl | rfl | rfl | rfl | rfl
        · refine Z.tin C (off := 97) 136 dL_law_39 ht (by decide) (by decide) rfl (by decide) ?_
          exact arm_offset C hl0 hX hbl hbA hL k0 k1 hc4 hs4 hW kk
        · refine Z.tin C (off := 177) 216 dL_law_39 ht (by decide) (by decide) rfl (by decide) ?_
          exact arm_half C hl0 hX hbl hbA hL k0 k1 hc4 hs4 hW kk
        · refine Z.tin C (off := 245) 284 dL_law_39 ht (by decide) (by decide) rfl (by decide) ?_
          exact arm_bend C hl0 hX hbl hbA hL k0 k1 hc4 hs4 hW kk
        · refine Z.tin C (off := 301) 340 dL_law_39 ht (by decide) (by decide) rfl (by decide) ?_
          exact arm_fair C hl0 hX hbl hbA hL k0 k1 hc4 hs4 hW kk
        · refine Z.tin C (off := 369) 408 dL_law_39 ht (by decide) (by decide) rfl (by decide) ?_
          exact arm_area C hl0 hX hbl hbA hL k0 k1 hc4 hs4 hW kk
        · refine Z.tin C (off := 437) 476 dL_law_39 ht (by decide) (by decide) rfl (by decide) ?_
          exact arm_volume C hl0 hX hbl hbA hL k0 k1 hc4 hs4 hW kk
        · refine Z.tin C (off := 493) 532 dL_law_39 ht (by decide) (by decide) rfl (by decide) ?_
          exact arm_volumeAnew C hl0 hX hbl hbA hL k0 k1 hc4 hs4 hW kk
        · refine Z.tin C (off := 549) 588 dL_law_39 ht (by decide) (by decide) rfl (by decide) ?_
          exact arm_weigh C hl0 hX hbl hbA hL k0 k1 hc4 hs4 hW kk
        · refine Z.tin C (off := 617) 656 dL_law_39 ht (by decide) (by decide) rfl (by decide) ?_
          exact arm_change C hl0 hX hbl hbA hL k0 k1 hc4 hs4 hW kk
        · refine Z.tin C (off := 697) 736 dL_law_39 ht (by decide) (by decide) rfl (by decide) ?_
          exact arm_ballast C hl0 hX hbl hbA hL k0 k1 hc4 hs4 hW kk
        · refine Z.tin C (off := 753) 792 dL_law_39 ht (by decide) (by decide) rfl (by decide) ?_
          exact arm_draught C hl0 hX hbl hbA hL k0 k1 hc4 hs4 hW kk
        · refine Z.tin C (off := 766) 805 dL_law_39 ht (by decide) (by decide) rfl (by decide) ?_
          exact arm_trim C hl0 hX hbl hbA hL k0 k1 hc4 hs4 hW kk
        · refine Z.tin C (off := 779) 818 dL_law_39 ht (by decide) (by decide) rfl (by decide) ?_
          exact arm_strake C hl0 hX hbl hbA hL k0 k1 hc4 hs4 hW kk
        · refine Z.tin C (off := 835) 874 dL_law_39 ht (by decide) (by decide) rfl (by decide) ?_
          exact arm_planks C hl0 hX hbl hbA hL k0 k1 hc4 hs4 hW kk
        · refine Z.tin C (off := 891) 930 dL_law_39 ht (by decide) (by decide) rfl (by decide) ?_
          by_cases hb : (xs (k + 2).toNat).toInt = 0
          · exact arm_plankOf0 C hl0 hX hbl hbA hL k0 k1 hc4 hs4 hW kk hb
          · exact arm_plankOf1 C hl0 hX hbl hbA hL k0 k1 hc4 hs4 hW kk hb
        · refine Z.tin C (off := 975) 1014 dL_law_39 ht (by decide) (by decide) rfl (by decide) ?_
          exact arm_tide C hl0 hX hbl hbA hL k0 k1 hc4 hs4 hW kk
        · refine Z.tin C (off := 1043) 1082 dL_law_39 ht (by decide) (by decide) rfl (by decide) ?_
          exact arm_sill C hl0 hX hbl hbA hL k0 k1 hc4 hs4 hW kk
        · refine Z.tin C (off := 1099) 1138 dL_law_39 ht (by decide) (by decide) rfl (by decide) ?_
          exact arm_needed C hl0 hX hbl hbA hL k0 k1 hc4 hs4 hW kk
        · refine Z.tin C (off := 1112) 1151 dL_law_39 ht (by decide) (by decide) rfl (by decide) ?_
          exact arm_day C hl0 hX hbl hbA hL k0 k1 hc4 hs4 hW kk
        · refine Z.tin C (off := 1125) 1164 dL_law_39 ht (by decide) (by decide) rfl (by decide) ?_
          exact arm_launch C hl0 hX hbl hbA hL k0 k1 hc4 hs4 hW kk
        · refine Z.tin C (off := 1169) 1208 dL_law_39 ht (by decide) (by decide) rfl (by decide) ?_
          exact arm_pass C hl0 hX hbl hbA hL k0 k1 hc4 hs4 hW kk
end LOOP
