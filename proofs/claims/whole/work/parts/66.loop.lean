theorem mm_gt5 {i L : Nat} (hi : i ≤ 3000) (hL : L ≤ 2560) : (nI L - nI 5 < nI i) ↔ L < i + 5 := by
  by_cases h : 5 ≤ L
  · rw [pk_sub h]
    rw [mm_gtB (by omega) (by omega)]
    omega
  · have h1 : nI L - nI 5 < nI 0 := by
      rcases (show L = 0 ∨ L = 1 ∨ L = 2 ∨ L = 3 ∨ L = 4 by omega) with rfl | rfl | rfl | rfl | rfl <;> decide
    have h2 : nI 0 ≤ nI i := (mm_geB (x := i) (y := 0) (by omega) (by decide)).mpr ⟨by omega, Nat.zero_le _⟩
    exact ⟨fun _ => by omega, fun _ => Int32.lt_of_lt_of_le h1 h2⟩
theorem mm_and31 (n : Nat) : n &&& 31 < 32 := by
  rw [show (31 : Nat) = 2 ^ 5 - 1 from rfl, Nat.and_two_pow_sub_one_eq_mod]
  exact Nat.mod_lt _ (by decide)

set_option maxHeartbeats 4000000 in
set_option maxRecDepth 100000 in
theorem law_loop {p : Program} {l : Launch} {e : Env} {s : State} {m : MethodId} {args : Array Value} {below : List Frame} {meth : Method} {c : Code} {Q : State → Prop} {b : Nat} {D : mm_D} {x0 m0 o d sb L : Nat} {ns : Nat → Nat}
    (F : mm_F p l s m args meth c b D RL cL_law 9) (hXs : va_X sb L (fun j => nI (ns j)) s s.heap) (hbl : sb < s.heap.size) (hbb : sb < b) (hL : L ≤ 2560) (hns : ∀ j, ns j < 2 ^ 32)
    (hend : ∀ (σ : mm_S) (ls : Array Slot) (H : Heap) (locs : List Loc) (cells slots : Nat), mm_N b D s σ H locs → cells ≤ 603072 → slots ≤ 7215210 → W p l e room_1 s m args below meth c H locs cells slots Q (F0 m 2224 ls [.int (nI 1)])) :
    ∀ (k i : Nat) (T : mm_T) (σ : mm_S) (ls : Array Slot) (H : Heap) (locs : List Loc) (cells slots : Nat), i ≤ L → L ≤ i + 5 * k → cells + k * 103 ≤ 603072 → slots + k * 9037 ≤ 7215210 → mm_N b D s σ H locs → mm_V σ T x0 m0 o d → lv_has ls 9 (mm_lc i d o m0 x0 sb) →
      W p l e room_1 s m args below meth c H locs cells slots Q (F0 m 28 ls []) := by
  intro k
  induction k with
  | zero =>
    intro i T σ ls H locs cells slots hiL hk hc hs hN hV hl
    have hl : lv_has ls 9 [(5, .int (nI i)), (4, .ref d), (3, .ref o), (2, .ref m0), (1, .ref x0), (0, .ref sb)] := hl
    refine lv_iload (pc := 28) F.1 F.2.1 dL_law_28 (lv_at hl 0 rfl) ?_
    refine lv_aload_n (pc := 30) F.1 F.2.1 dL_law_30 rfl (lv_at hl 5 rfl) ?_
    refine mm_slen (pc := 31) F hN hXs hbl hbb dL_law_31 ?_
    refine lv_iconst (pc := 32) (v := nI 5) F.1 F.2.1 dL_law_32 (by decide) ?_
    refine mm_isub (pc := 33) F (z := (nI L) - (nI 5)) (rfl) dL_law_33 ?_
    refine lv_icmp_gt (pc := 34) (tgt := 2223) F.1 F.2.1 dL_law_34 (by decide) (fun cz34 => ?_) (fun cz34 => ?_)
    ·
      refine lv_iconst (pc := 2223) (v := nI 1) F.1 F.2.1 dL_law_2223 (by decide) ?_
      exact hend _ _ _ _ _ _ hN (by omega) (by omega)
    ·
      exact absurd ((mm_gt5 (by omega) hL).mpr (by omega)) cz34
  | succ k ih =>
    intro i T σ ls H locs cells slots hiL hk hc hs hN hV hl
    have hl : lv_has ls 9 [(5, .int (nI i)), (4, .ref d), (3, .ref o), (2, .ref m0), (1, .ref x0), (0, .ref sb)] := hl
    refine lv_iload (pc := 28) F.1 F.2.1 dL_law_28 (lv_at hl 0 rfl) ?_
    refine lv_aload_n (pc := 30) F.1 F.2.1 dL_law_30 rfl (lv_at hl 5 rfl) ?_
    refine mm_slen (pc := 31) F hN hXs hbl hbb dL_law_31 ?_
    refine lv_iconst (pc := 32) (v := nI 5) F.1 F.2.1 dL_law_32 (by decide) ?_
    refine mm_isub (pc := 33) F (z := (nI L) - (nI 5)) (rfl) dL_law_33 ?_
    refine lv_icmp_gt (pc := 34) (tgt := 2223) F.1 F.2.1 dL_law_34 (by decide) (fun cz34 => ?_) (fun cz34 => ?_)
    ·
      refine lv_iconst (pc := 2223) (v := nI 1) F.1 F.2.1 dL_law_2223 (by decide) ?_
      exact hend _ _ _ _ _ _ hN (by omega) (by omega)
    ·
      have hi : i + 5 ≤ L := by
        have h9 := mt (mm_gt5 (i := i) (L := L) (by omega) hL).mpr cz34
        omega
      refine lv_aload_n (pc := 37) F.1 F.2.1 dL_law_37 rfl (lv_at hl 5 rfl) ?_
      refine lv_iload (pc := 38) F.1 F.2.1 dL_law_38 (lv_at hl 0 rfl) ?_
      refine mm_sld (pc := 40) F hN hXs hbl hbb (j := i) rfl (by omega) hL dL_law_40 ?_
      refine lv_bipush (pc := 41) (v := nI 31) F.1 F.2.1 dL_law_41 (by decide) ?_
      refine mm_iand (pc := 43) F (z := nI ((ns i) &&& 31)) (mm_andN _ _) dL_law_43 ?_
      have hkk : ∀ (T2 : mm_T) (σ2 : mm_S) (ls : Array Slot) (H : Heap) (locs : List Loc), mm_V σ2 T2 x0 m0 o d → mm_N b D s σ2 H locs → lv_has ls 9 (mm_lc i d o m0 x0 sb) → W p l e room_1 s m args below meth c H locs (cells + 103) (slots + 9037) Q (F0 m 2217 ls []) := by
        intro T2 σ2 ls H locs hV hN hl
        have hl : lv_has ls 9 [(5, .int (nI i)), (4, .ref d), (3, .ref o), (2, .ref m0), (1, .ref x0), (0, .ref sb)] := hl
        refine lv_iinc (pc := 2217) (v := nI (i + 5)) (lv' := [(5, .int (nI (i + 5))), (4, .ref d), (3, .ref o), (2, .ref m0), (1, .ref x0), (0, .ref sb)]) F.1 F.2.1 dL_law_2217 hl (k := 0) rfl (by rw [← nI_add]; rfl) (by decide) rfl (fun ls hl => ?_)
        refine lv_goto (pc := 2220) (tgt := 28) F.1 F.2.1 dL_law_2220 (by decide) ?_
        exact ih (i + 5) T2 σ2 ls H locs _ _ (by omega) (by omega) (by omega) (by omega) hN hV hl
      have h31 := mm_and31 (ns i)
      have hl : lv_has ls 9 (mm_lc i d o m0 x0 sb) := hl
      generalize ns i &&& 31 = v31 at h31 ⊢
      rcases (show v31 = 0 ∨ v31 = 1 ∨ v31 = 2 ∨ v31 = 3 ∨ v31 = 4 ∨ v31 = 5 ∨ v31 = 6 ∨ v31 = 7 ∨ v31 = 8 ∨ v31 = 9 ∨ v31 = 10 ∨ v31 = 11 ∨ v31 = 12 ∨ v31 = 13 ∨ v31 = 14 ∨ v31 = 15 ∨ v31 = 16 ∨ v31 = 17 ∨ v31 = 18 ∨ v31 = 19 ∨ v31 = 20 ∨ v31 = 21 ∨ v31 = 22 ∨ v31 = 23 ∨ v31 = 24 ∨ v31 = 25 ∨ v31 = 26 ∨ v31 = 27 ∨ v31 = 28 ∨ v31 = 29 ∨ v31 = 30 ∨ v31 = 31 by omega) with rfl | rfl | rfl | rfl | rfl | rfl | rfl | rfl | rfl | rfl | rfl | rfl | rfl | rfl | rfl | rfl | rfl | rfl | rfl | rfl | rfl | rfl | rfl | rfl | rfl | rfl | rfl | rfl | rfl | rfl | rfl | rfl
      · refine lv_tableIn (pc := 44) (off := 144) (tgt := 188) F.1 F.2.1 dL_law_44 (by decide) (by decide) (by decide) (by decide) ?_
        exact law_0 F hXs hbl hbb hL hns hi hN hV hl (by omega) (by omega) hkk
      · refine lv_tableIn (pc := 44) (off := 200) (tgt := 244) F.1 F.2.1 dL_law_44 (by decide) (by decide) (by decide) (by decide) ?_
        exact law_1 F hXs hbl hbb hL hns hi hN hV hl (by omega) (by omega) hkk
      · refine lv_tableIn (pc := 44) (off := 268) (tgt := 312) F.1 F.2.1 dL_law_44 (by decide) (by decide) (by decide) (by decide) ?_
        exact law_2 F hXs hbl hbb hL hns hi hN hV hl (by omega) (by omega) hkk
      · refine lv_tableIn (pc := 44) (off := 336) (tgt := 380) F.1 F.2.1 dL_law_44 (by decide) (by decide) (by decide) (by decide) ?_
        exact law_3 F hXs hbl hbb hL hns hi hN hV hl (by omega) (by omega) hkk
      · refine lv_tableIn (pc := 44) (off := 404) (tgt := 448) F.1 F.2.1 dL_law_44 (by decide) (by decide) (by decide) (by decide) ?_
        exact law_4 F hXs hbl hbb hL hns hi hN hV hl (by omega) (by omega) hkk
      · refine lv_tableIn (pc := 44) (off := 472) (tgt := 516) F.1 F.2.1 dL_law_44 (by decide) (by decide) (by decide) (by decide) ?_
        exact law_5 F hXs hbl hbb hL hns hi hN hV hl (by omega) (by omega) hkk
      · refine lv_tableIn (pc := 44) (off := 542) (tgt := 586) F.1 F.2.1 dL_law_44 (by decide) (by decide) (by decide) (by decide) ?_
        exact law_6 F hXs hbl hbb hL hns hi hN hV hl (by omega) (by omega) hkk
      · refine lv_tableIn (pc := 44) (off := 598) (tgt := 642) F.1 F.2.1 dL_law_44 (by decide) (by decide) (by decide) (by decide) ?_
        exact law_7 F hXs hbl hbb hL hns hi hN hV hl (by omega) (by omega) hkk
      · refine lv_tableIn (pc := 44) (off := 654) (tgt := 698) F.1 F.2.1 dL_law_44 (by decide) (by decide) (by decide) (by decide) ?_
        exact law_8 F hXs hbl hbb hL hns hi hN hV hl (by omega) (by omega) hkk
      · refine lv_tableIn (pc := 44) (off := 710) (tgt := 754) F.1 F.2.1 dL_law_44 (by decide) (by decide) (by decide) (by decide) ?_
        exact law_9 F hXs hbl hbb hL hns hi hN hV hl (by omega) (by omega) hkk
      · refine lv_tableIn (pc := 44) (off := 766) (tgt := 810) F.1 F.2.1 dL_law_44 (by decide) (by decide) (by decide) (by decide) ?_
        exact law_10 F hXs hbl hbb hL hns hi hN hV hl (by omega) (by omega) hkk
      · refine lv_tableIn (pc := 44) (off := 810) (tgt := 854) F.1 F.2.1 dL_law_44 (by decide) (by decide) (by decide) (by decide) ?_
        exact law_11 F hXs hbl hbb hL hns hi hN hV hl (by omega) (by omega) hkk
      · refine lv_tableIn (pc := 44) (off := 902) (tgt := 946) F.1 F.2.1 dL_law_44 (by decide) (by decide) (by decide) (by decide) ?_
        exact law_12 F hXs hbl hbb hL hns hi hN hV hl (by omega) (by omega) hkk
      · refine lv_tableIn (pc := 44) (off := 970) (tgt := 1014) F.1 F.2.1 dL_law_44 (by decide) (by decide) (by decide) (by decide) ?_
        exact law_13 F hXs hbl hbb hL hns hi hN hV hl (by omega) (by omega) hkk
      · refine lv_tableIn (pc := 44) (off := 1026) (tgt := 1070) F.1 F.2.1 dL_law_44 (by decide) (by decide) (by decide) (by decide) ?_
        by_cases h0 : ns (i + 1) = 0
        · exact law_14f F hXs hbl hbb hL hns hi hN hV hl (by omega) (by omega) hkk h0
        · exact law_14t F hXs hbl hbb hL hns hi hN hV hl (by omega) (by omega) hkk h0
      · refine lv_tableIn (pc := 44) (off := 1110) (tgt := 1154) F.1 F.2.1 dL_law_44 (by decide) (by decide) (by decide) (by decide) ?_
        exact law_15 F hXs hbl hbb hL hns hi hN hV hl (by omega) (by omega) hkk
      · refine lv_tableIn (pc := 44) (off := 1123) (tgt := 1167) F.1 F.2.1 dL_law_44 (by decide) (by decide) (by decide) (by decide) ?_
        by_cases h0 : ns (i + 1) = 0
        · exact law_16f F hXs hbl hbb hL hns hi hN hV hl (by omega) (by omega) hkk h0
        · exact law_16t F hXs hbl hbb hL hns hi hN hV hl (by omega) (by omega) hkk h0
      · refine lv_tableIn (pc := 44) (off := 1164) (tgt := 1208) F.1 F.2.1 dL_law_44 (by decide) (by decide) (by decide) (by decide) ?_
        by_cases h0 : ns (i + 2) = 0
        · exact law_17f F hXs hbl hbb hL hns hi hN hV hl (by omega) (by omega) hkk h0
        · exact law_17t F hXs hbl hbb hL hns hi hN hV hl (by omega) (by omega) hkk h0
      · refine lv_tableIn (pc := 44) (off := 1248) (tgt := 1292) F.1 F.2.1 dL_law_44 (by decide) (by decide) (by decide) (by decide) ?_
        by_cases h0 : ns (i + 2) = 0
        · exact law_18f F hXs hbl hbb hL hns hi hN hV hl (by omega) (by omega) hkk h0
        · exact law_18t F hXs hbl hbb hL hns hi hN hV hl (by omega) (by omega) hkk h0
      · refine lv_tableIn (pc := 44) (off := 1344) (tgt := 1388) F.1 F.2.1 dL_law_44 (by decide) (by decide) (by decide) (by decide) ?_
        by_cases h0 : ns (i + 2) = 0
        · exact law_19f F hXs hbl hbb hL hns hi hN hV hl (by omega) (by omega) hkk h0
        · exact law_19t F hXs hbl hbb hL hns hi hN hV hl (by omega) (by omega) hkk h0
      · refine lv_tableIn (pc := 44) (off := 1440) (tgt := 1484) F.1 F.2.1 dL_law_44 (by decide) (by decide) (by decide) (by decide) ?_
        exact law_20 F hXs hbl hbb hL hns hi hN hV hl (by omega) (by omega) hkk
      · refine lv_tableIn (pc := 44) (off := 1508) (tgt := 1552) F.1 F.2.1 dL_law_44 (by decide) (by decide) (by decide) (by decide) ?_
        exact law_21 F hXs hbl hbb hL hns hi hN hV hl (by omega) (by omega) hkk
      · refine lv_tableIn (pc := 44) (off := 1590) (tgt := 1634) F.1 F.2.1 dL_law_44 (by decide) (by decide) (by decide) (by decide) ?_
        exact law_22 F hXs hbl hbb hL hns hi hN hV hl (by omega) (by omega) hkk
      · refine lv_tableIn (pc := 44) (off := 1646) (tgt := 1690) F.1 F.2.1 dL_law_44 (by decide) (by decide) (by decide) (by decide) ?_
        exact law_23 F hXs hbl hbb hL hns hi hN hV hl (by omega) (by omega) hkk
      · refine lv_tableIn (pc := 44) (off := 1702) (tgt := 1746) F.1 F.2.1 dL_law_44 (by decide) (by decide) (by decide) (by decide) ?_
        exact law_24 F hXs hbl hbb hL hns hi hN hV hl (by omega) (by omega) hkk
      · refine lv_tableIn (pc := 44) (off := 1770) (tgt := 1814) F.1 F.2.1 dL_law_44 (by decide) (by decide) (by decide) (by decide) ?_
        exact law_25 F hXs hbl hbb hL hns hi hN hV hl (by omega) (by omega) hkk
      · refine lv_tableIn (pc := 44) (off := 1838) (tgt := 1882) F.1 F.2.1 dL_law_44 (by decide) (by decide) (by decide) (by decide) ?_
        exact law_26 F hXs hbl hbb hL hns hi hN hV hl (by omega) (by omega) hkk
      · refine lv_tableIn (pc := 44) (off := 1906) (tgt := 1950) F.1 F.2.1 dL_law_44 (by decide) (by decide) (by decide) (by decide) ?_
        exact law_27 F hXs hbl hbb hL hns hi hN hV hl (by omega) (by omega) hkk
      · refine lv_tableIn (pc := 44) (off := 1961) (tgt := 2005) F.1 F.2.1 dL_law_44 (by decide) (by decide) (by decide) (by decide) ?_
        exact law_28 F hXs hbl hbb hL hns hi hN hV hl (by omega) (by omega) hkk
      · refine lv_tableIn (pc := 44) (off := 2029) (tgt := 2073) F.1 F.2.1 dL_law_44 (by decide) (by decide) (by decide) (by decide) ?_
        exact law_29 F hXs hbl hbb hL hns hi hN hV hl (by omega) (by omega) hkk
      · refine lv_tableIn (pc := 44) (off := 2095) (tgt := 2139) F.1 F.2.1 dL_law_44 (by decide) (by decide) (by decide) (by decide) ?_
        exact law_30 F hXs hbl hbb hL hns hi hN hV hl (by omega) (by omega) hkk
      · refine lv_tableIn (pc := 44) (off := 2160) (tgt := 2204) F.1 F.2.1 dL_law_44 (by decide) (by decide) (by decide) (by decide) ?_
        exact law_31 F hXs hbl hbb hL hns hi hN hV hl (by omega) (by omega) hkk
