theorem mm_v5 {T : mm_T} {z : mm_Z} {ad : Nat → Nat → Nat → Nat} {v : Nat} : ∀ k' i' j', mm_lv T k' i' j' → ¬ (k' = 0 ∧ i' = 0 ∧ j' = 0) → mm_ct (T.w 0 (mm_u2 (T 0) 5 0 v)) z ad k' i' j' = mm_ct T z ad k' i' j'
  | 0, 0, j', hl, hn => absurd ⟨rfl, rfl, hl.2⟩ hn
  | 0, 1, j', hl, hn => rfl
  | 0, 2, j', hl, hn => rfl
  | 0, 3, j', hl, hn => rfl
  | 0, 4, j', hl, hn => rfl
  | 0, 5, j', hl, hn => rfl
  | 0, 6, j', hl, hn => rfl
  | 0, 7, j', hl, hn => rfl
  | 0, i' + 8, j', hl, hn => absurd hl.1 (by omega)
  | 1, i', j', hl, hn => rfl
  | 2, i', j', hl, hn => rfl
  | 3, i', j', hl, hn => rfl
  | 4, i', j', hl, hn => rfl
  | 5, i', j', hl, hn => rfl
  | 6, i', j', hl, hn => rfl
  | 7, i', j', hl, hn => rfl
  | n + 8, i', j', hl, hn => False.elim hl
theorem mm_v4 {T : mm_T} {z : mm_Z} {ad : Nat → Nat → Nat → Nat} {v : Nat} : ∀ k' i' j', mm_lv T k' i' j' → ¬ (k' = 0 ∧ i' = 5 ∧ j' = 0) → mm_ct (T.w 0 (mm_u2 (T 0) 4 0 v)) z ad k' i' j' = mm_ct T z ad k' i' j'
  | 0, 0, j', hl, hn => rfl
  | 0, 1, j', hl, hn => rfl
  | 0, 2, j', hl, hn => rfl
  | 0, 3, j', hl, hn => rfl
  | 0, 4, j', hl, hn => rfl
  | 0, 5, j', hl, hn => absurd ⟨rfl, rfl, hl.2⟩ hn
  | 0, 6, j', hl, hn => rfl
  | 0, 7, j', hl, hn => rfl
  | 0, i' + 8, j', hl, hn => absurd hl.1 (by omega)
  | 1, i', j', hl, hn => rfl
  | 2, i', j', hl, hn => rfl
  | 3, i', j', hl, hn => rfl
  | 4, i', j', hl, hn => rfl
  | 5, i', j', hl, hn => rfl
  | 6, i', j', hl, hn => rfl
  | 7, i', j', hl, hn => rfl
  | n + 8, i', j', hl, hn => False.elim hl
theorem mm_v6 {T : mm_T} {z : mm_Z} {ad : Nat → Nat → Nat → Nat} {v : Nat} : ∀ k' i' j', mm_lv T k' i' j' → ¬ (k' = 0 ∧ i' = 6 ∧ j' = 0) → mm_ct (T.w 0 (mm_u2 (T 0) 6 0 v)) z ad k' i' j' = mm_ct T z ad k' i' j'
  | 0, 0, j', hl, hn => rfl
  | 0, 1, j', hl, hn => rfl
  | 0, 2, j', hl, hn => rfl
  | 0, 3, j', hl, hn => rfl
  | 0, 4, j', hl, hn => rfl
  | 0, 5, j', hl, hn => rfl
  | 0, 6, j', hl, hn => absurd ⟨rfl, rfl, hl.2⟩ hn
  | 0, 7, j', hl, hn => rfl
  | 0, i' + 8, j', hl, hn => absurd hl.1 (by omega)
  | 1, i', j', hl, hn => rfl
  | 2, i', j', hl, hn => rfl
  | 3, i', j', hl, hn => rfl
  | 4, i', j', hl, hn => rfl
  | 5, i', j', hl, hn => rfl
  | 6, i', j', hl, hn => rfl
  | 7, i', j', hl, hn => rfl
  | n + 8, i', j', hl, hn => False.elim hl
theorem mm_v7 {T : mm_T} {z : mm_Z} {ad : Nat → Nat → Nat → Nat} {v : Nat} : ∀ k' i' j', mm_lv T k' i' j' → ¬ (k' = 0 ∧ i' = 6 ∧ j' = 0) → mm_ct (T.w 0 (mm_u2 (T 0) 7 0 v)) z ad k' i' j' = mm_ct T z ad k' i' j'
  | 0, 0, j', hl, hn => rfl
  | 0, 1, j', hl, hn => rfl
  | 0, 2, j', hl, hn => rfl
  | 0, 3, j', hl, hn => rfl
  | 0, 4, j', hl, hn => rfl
  | 0, 5, j', hl, hn => rfl
  | 0, 6, j', hl, hn => absurd ⟨rfl, rfl, hl.2⟩ hn
  | 0, 7, j', hl, hn => rfl
  | 0, i' + 8, j', hl, hn => absurd hl.1 (by omega)
  | 1, i', j', hl, hn => rfl
  | 2, i', j', hl, hn => rfl
  | 3, i', j', hl, hn => rfl
  | 4, i', j', hl, hn => rfl
  | 5, i', j', hl, hn => rfl
  | 6, i', j', hl, hn => rfl
  | 7, i', j', hl, hn => rfl
  | n + 8, i', j', hl, hn => False.elim hl
theorem mm_v8 {T : mm_T} {z : mm_Z} {ad : Nat → Nat → Nat → Nat} {v : Nat} : ∀ k' i' j', mm_lv T k' i' j' → ¬ (k' = 0 ∧ i' = 6 ∧ j' = 0) → mm_ct (T.w 0 (mm_u2 (T 0) 8 0 v)) z ad k' i' j' = mm_ct T z ad k' i' j'
  | 0, 0, j', hl, hn => rfl
  | 0, 1, j', hl, hn => rfl
  | 0, 2, j', hl, hn => rfl
  | 0, 3, j', hl, hn => rfl
  | 0, 4, j', hl, hn => rfl
  | 0, 5, j', hl, hn => rfl
  | 0, 6, j', hl, hn => absurd ⟨rfl, rfl, hl.2⟩ hn
  | 0, 7, j', hl, hn => rfl
  | 0, i' + 8, j', hl, hn => absurd hl.1 (by omega)
  | 1, i', j', hl, hn => rfl
  | 2, i', j', hl, hn => rfl
  | 3, i', j', hl, hn => rfl
  | 4, i', j', hl, hn => rfl
  | 5, i', j', hl, hn => rfl
  | 6, i', j', hl, hn => rfl
  | 7, i', j', hl, hn => rfl
  | n + 8, i', j', hl, hn => False.elim hl
theorem mm_ve0 {T : mm_T} {z : mm_Z} {ad : Nat → Nat → Nat → Nat} {v : Nat} : ∀ k' i' j', mm_lv T k' i' j' → ¬ (k' = 0 ∧ i' = 5 ∧ j' = 0) → mm_ct (T.w 12 (mm_u2 (T 12) 0 0 v)) z ad k' i' j' = mm_ct T z ad k' i' j'
  | 0, 0, j', hl, hn => rfl
  | 0, 1, j', hl, hn => rfl
  | 0, 2, j', hl, hn => rfl
  | 0, 3, j', hl, hn => rfl
  | 0, 4, j', hl, hn => rfl
  | 0, 5, j', hl, hn => absurd ⟨rfl, rfl, hl.2⟩ hn
  | 0, 6, j', hl, hn => rfl
  | 0, 7, j', hl, hn => rfl
  | 0, i' + 8, j', hl, hn => absurd hl.1 (by omega)
  | 1, i', j', hl, hn => rfl
  | 2, i', j', hl, hn => rfl
  | 3, i', j', hl, hn => rfl
  | 4, i', j', hl, hn => rfl
  | 5, i', j', hl, hn => rfl
  | 6, i', j', hl, hn => rfl
  | 7, i', j', hl, hn => rfl
  | n + 8, i', j', hl, hn => False.elim hl
theorem mm_ve1 {T : mm_T} {z : mm_Z} {ad : Nat → Nat → Nat → Nat} {v : Nat} : ∀ k' i' j', mm_lv T k' i' j' → ¬ (k' = 0 ∧ i' = 5 ∧ j' = 0) → mm_ct (T.w 12 (mm_u2 (T 12) 1 0 v)) z ad k' i' j' = mm_ct T z ad k' i' j'
  | 0, 0, j', hl, hn => rfl
  | 0, 1, j', hl, hn => rfl
  | 0, 2, j', hl, hn => rfl
  | 0, 3, j', hl, hn => rfl
  | 0, 4, j', hl, hn => rfl
  | 0, 5, j', hl, hn => absurd ⟨rfl, rfl, hl.2⟩ hn
  | 0, 6, j', hl, hn => rfl
  | 0, 7, j', hl, hn => rfl
  | 0, i' + 8, j', hl, hn => absurd hl.1 (by omega)
  | 1, i', j', hl, hn => rfl
  | 2, i', j', hl, hn => rfl
  | 3, i', j', hl, hn => rfl
  | 4, i', j', hl, hn => rfl
  | 5, i', j', hl, hn => rfl
  | 6, i', j', hl, hn => rfl
  | 7, i', j', hl, hn => rfl
  | n + 8, i', j', hl, hn => False.elim hl
def mm_q_setBound (T : mm_T) (n : Nat) : Nat := if 1 ≤ n ∧ n ≤ 24 then 0 else 0 * T.bo + 1
set_option maxHeartbeats 4000000 in
set_option maxRecDepth 100000 in
theorem a_setBound (l : Launch) (b : Nat) (D : mm_D) (hst : l.stackTraces = false) (T : mm_T) (z : mm_Z) (ad : Nat → Nat → Nat → Nat) (σ : mm_S) (hX : mm_X σ T z ad) (hW : mm_WF T) (n : Nat) (zn : n < 2 ^ 32) : mm_K l b D yX6_setBound (.code yX6_setBound cX6_setBound 3 (some .int)) ({ frames := 8, cells := 6, slots := 40, locals := 220 } : Room) [.ref ((ad 0 0 0)), .int (nI n)] σ
    (fun v σ2 => mm_q_setBound T n = 0 ∧ v = some (.int (nI (T.bo))) ∧ mm_Xt σ σ2 (T.w 0 (mm_u2 (T 0) 5 0 n)) (ad 0 0 0))
    (fun E σ2 => ((mm_q_setBound T n = 1 ∧ E = "java/lang/IllegalArgumentException")) ∧ mm_Xt σ σ2 T (ad 0 0 0)) := by
  refine mm_of (cc := cX6_setBound) (nL := 3) (ret := (some .int)) (by decide) rfl (Nat.le_of_ble_eq_true rfl) hst ?_
  intro p e s m args below meth c ls F ht hr hin hN hl
  have hl : lv_has ls 3 [(0, .ref ((ad 0 0 0))), (1, .int (nI n))] := hl
  have wnA := hW.hnA
  have wnP := hW.hnP
  have wnT := hW.hnT
  have wnR := hW.hnR
  have wpa := hW.hpa
  have wbo := hW.hbo
  have wen0 := hW.hen 0
  have wen1 := hW.hen 1
  refine lv_iload_n (pc := 0) F.1 F.2.1 dX6_setBound_0 rfl (lv_at hl 1 rfl) ?_
  refine lv_iconst (pc := 1) (v := nI 1) F.1 F.2.1 dX6_setBound_1 (by decide) ?_
  refine mm_icmp_ltB (pc := 2) F (x := n) (y := 1) (tgt := 11) (by omega) (by omega) dX6_setBound_2 (by decide) (fun cz2 => ?_) (fun cz2 => ?_)
  ·
    exact mm_throw F ht hN (by decide) (mm_tIAE mw_170) mw_125 mw_15 (List.mem_of_getElem? (i := 21) rfl) hl.1 dX6_setBound_11 dX6_setBound_14 dX6_setBound_15 dX6_setBound_17 dX6_setBound_20 ⟨(Nat.le_of_ble_eq_true rfl), (Nat.le_of_ble_eq_true rfl), (Nat.le_of_ble_eq_true rfl), (Nat.le_of_ble_eq_true rfl)⟩ (⟨⟨by unfold mm_q_setBound; (repeat' split) <;> omega, rfl⟩, mm_Xt.rf hX rfl⟩) (Nat.le_of_ble_eq_true rfl) (Nat.le_of_ble_eq_true rfl)
  ·
    refine lv_iload_n (pc := 5) F.1 F.2.1 dX6_setBound_5 rfl (lv_at hl 1 rfl) ?_
    refine lv_bipush (pc := 6) (v := nI 24) F.1 F.2.1 dX6_setBound_6 (by decide) ?_
    refine mm_icmp_leB (pc := 8) F (x := n) (y := 24) (tgt := 21) (by omega) (by omega) dX6_setBound_8 (by decide) (fun cz8 => ?_) (fun cz8 => ?_)
    ·
      refine lv_aload_n (pc := 21) F.1 F.2.1 dX6_setBound_21 rfl (lv_at hl 0 rfl) ?_
      refine mm_get (pc := 22) F hN (mm_X0 hX) (ci := 6) rfl 7 (by decide) mw_92 rfl dX6_setBound_22 ?_
      refine lv_istore_n (pc := 25) (lv' := [(2, .int (nI T.bo)), (0, .ref ((ad 0 0 0))), (1, .int (nI n))]) F.1 F.2.1 dX6_setBound_25 rfl hl (by decide) rfl (fun ls hl => ?_)
      refine lv_aload_n (pc := 26) F.1 F.2.1 dX6_setBound_26 rfl (lv_at hl 1 rfl) ?_
      refine lv_iload_n (pc := 27) F.1 F.2.1 dX6_setBound_27 rfl (lv_at hl 2 rfl) ?_
      refine mm_put (pc := 28) F hN (mm_X0 hX) (ci := 6) rfl 7 (by decide) mw_92 rfl (ty := .int) (by decide +kernel) (rfl) (rfl) (Nat.le_of_ble_eq_true rfl) dX6_setBound_28 (fun H locs hN => ?_)
      have hN : mm_N b D s (mm_u σ ((ad 0 0 0)) (mm_obj 0 6 [.ref ((ad 0 1 0)), .ref ((ad 0 2 0)), .ref ((ad 0 3 0)), .ref ((ad 0 4 0)), .ref ((ad 0 5 0)), .ref ((ad 0 6 0)), .ref ((ad 0 7 0)), .int (nI n)])) _ _ := hN
      have hX2 := mm_X_set hX (k := 0) (i := 0) (j := 0) ⟨by decide, rfl⟩ (T' := T.w 0 (mm_u2 (T 0) 5 0 n)) (z' := z) rfl mm_v5 (x := mm_O 6 [.ref ((ad 0 1 0)), .ref ((ad 0 2 0)), .ref ((ad 0 3 0)), .ref ((ad 0 4 0)), .ref ((ad 0 5 0)), .ref ((ad 0 6 0)), .ref ((ad 0 7 0)), .int (nI n)]) (rfl)
      have hF2 : mm_Fr 0 _ _ := mm_Fr.u (x := mm_obj 0 6 [.ref ((ad 0 1 0)), .ref ((ad 0 2 0)), .ref ((ad 0 3 0)), .ref ((ad 0 4 0)), .ref ((ad 0 5 0)), .ref ((ad 0 6 0)), .ref ((ad 0 7 0)), .int (nI n)]) (mm_X0 hX)
      obtain ⟨σ2, eσ2⟩ : ∃ q, q = mm_u σ ((ad 0 0 0)) (mm_obj 0 6 [.ref ((ad 0 1 0)), .ref ((ad 0 2 0)), .ref ((ad 0 3 0)), .ref ((ad 0 4 0)), .ref ((ad 0 5 0)), .ref ((ad 0 6 0)), .ref ((ad 0 7 0)), .int (nI n)]) := ⟨_, rfl⟩
      obtain ⟨T2, eT2⟩ : ∃ q, q = T.w 0 (mm_u2 (T 0) 5 0 n) := ⟨_, rfl⟩
      rw [← eσ2] at hN
      have hX2 : mm_X σ2 T2 z ad := by rw [eσ2, eT2]; exact hX2
      have hF2 : mm_Fr 0 σ σ2 := by rw [eσ2]; exact hF2
      have hqnA2 : T2.nA = T.nA := by rw [eT2]; rfl
      have hqnP2 : T2.nP = T.nP := by rw [eT2]; rfl
      have hqnT2 : T2.nT = T.nT := by rw [eT2]; rfl
      have hqnR2 : T2.nR = T.nR := by rw [eT2]; rfl
      refine lv_iload_n (pc := 31) F.1 F.2.1 dX6_setBound_31 rfl (lv_at hl 0 rfl) ?_
      exact mm_iret (pc := 32) F hr hN (⟨by unfold mm_q_setBound; (repeat' split) <;> omega, rfl, z, ad, mm_XeT hX2 (by rw [eT2]), rfl, hF2⟩) (Nat.le_of_ble_eq_true rfl) (Nat.le_of_ble_eq_true rfl) dX6_setBound_32
    ·
      exact mm_throw F ht hN (by decide) (mm_tIAE mw_170) mw_125 mw_15 (List.mem_of_getElem? (i := 21) rfl) hl.1 dX6_setBound_11 dX6_setBound_14 dX6_setBound_15 dX6_setBound_17 dX6_setBound_20 ⟨(Nat.le_of_ble_eq_true rfl), (Nat.le_of_ble_eq_true rfl), (Nat.le_of_ble_eq_true rfl), (Nat.le_of_ble_eq_true rfl)⟩ (⟨⟨by unfold mm_q_setBound; (repeat' split) <;> omega, rfl⟩, mm_Xt.rf hX rfl⟩) (Nat.le_of_ble_eq_true rfl) (Nat.le_of_ble_eq_true rfl)

def mm_q_buyPaper (T : mm_T) (n : Nat) : Nat := if 1 ≤ n ∧ n ≤ 500 then (if T.pa + n ≤ 5000 then 0 else 2) else 1
set_option maxHeartbeats 4000000 in
set_option maxRecDepth 100000 in
theorem a_buyPaper (l : Launch) (b : Nat) (D : mm_D) (hst : l.stackTraces = false) (T : mm_T) (z : mm_Z) (ad : Nat → Nat → Nat → Nat) (σ : mm_S) (hX : mm_X σ T z ad) (hW : mm_WF T) (n : Nat) (zn : n < 2 ^ 32) : mm_K l b D yX6_buyPaper (.code yX6_buyPaper cX6_buyPaper 2 (some .int)) ({ frames := 8, cells := 6, slots := 40, locals := 220 } : Room) [.ref ((ad 0 0 0)), .int (nI n)] σ
    (fun v σ2 => mm_q_buyPaper T n = 0 ∧ v = some (.int (nI (T.pa + n))) ∧ mm_Xt σ σ2 ((T.w 0 (mm_u2 (T 0) 4 0 (T.pa + n))).w 0 (mm_u2 (mm_u2 (T 0) 4 0 (T.pa + n)) 6 0 (T.b0 + n))) (ad 0 0 0))
    (fun E σ2 => ((mm_q_buyPaper T n = 1 ∧ E = "java/lang/IllegalArgumentException") ∨ (mm_q_buyPaper T n = 2 ∧ E = "java/lang/IllegalStateException")) ∧ mm_Xt σ σ2 T (ad 0 0 0)) := by
  refine mm_of (cc := cX6_buyPaper) (nL := 2) (ret := (some .int)) (by decide) rfl (Nat.le_of_ble_eq_true rfl) hst ?_
  intro p e s m args below meth c ls F ht hr hin hN hl
  have hl : lv_has ls 2 [(0, .ref ((ad 0 0 0))), (1, .int (nI n))] := hl
  have wnA := hW.hnA
  have wnP := hW.hnP
  have wnT := hW.hnT
  have wnR := hW.hnR
  have wpa := hW.hpa
  have wbo := hW.hbo
  have wen0 := hW.hen 0
  have wen1 := hW.hen 1
  refine lv_aload_n (pc := 0) F.1 F.2.1 dX6_buyPaper_0 rfl (lv_at hl 0 rfl) ?_
  refine mm_get (pc := 1) F hN (mm_X0 hX) (ci := 6) rfl 4 (by decide) mw_89 rfl dX6_buyPaper_1 ?_
  refine mm_get (pc := 4) F hN (mm_X5 hX) (ci := 4) rfl 0 (by decide) mw_75 rfl dX6_buyPaper_4 ?_
  refine lv_iload_n (pc := 7) F.1 F.2.1 dX6_buyPaper_7 rfl (lv_at hl 1 rfl) ?_
  refine mm_runS (pc := 8) (As := [.int (nI T.pa), .int (nI n)]) (rest := []) F hN (c_checkBuy l b D hst (T.pa) n (by omega) zn _) mw_525 mw_526 mw_1 mw_527 ⟨pmX6_checkBuying, (Nat.le_of_ble_eq_true rfl), (Nat.le_of_ble_eq_true rfl)⟩ hl.1 rfl (Nat.le_of_ble_eq_true rfl) ⟨(Nat.le_of_ble_eq_true rfl), (Nat.le_of_ble_eq_true rfl)⟩ dX6_buyPaper_8
    (fun E9 σ9 H9 l9 q9 ce9 hp9 hN9 hq9 hv9 hcl9 => mm_out F ht hN9 (by obtain ⟨g0, g3⟩ := hp9; rcases g0 with ⟨g1, g2⟩ | ⟨g1, g2, g4⟩; exact ⟨Or.inl (⟨by unfold mm_q_buyPaper; (repeat' split) <;> omega, g1⟩), mm_Xt.rf hX g3⟩; exact ⟨Or.inr (⟨by unfold mm_q_buyPaper; (repeat' split) <;> omega, g1⟩), mm_Xt.rf hX g3⟩) hq9 hv9 hcl9 (Nat.le_of_ble_eq_true rfl) (Nat.le_of_ble_eq_true rfl))
    (fun v9 σ9 H locs hp9 hN => ?_)
  obtain ⟨rfl, ⟨hb1, hb2, hb3⟩, h9⟩ := hp9
  refine W.eq (g2 := F0 m 11 ls []) rfl ?_
  refine W.widen (k := 1) (n := 6) (Nat.le_of_ble_eq_true rfl) (Nat.le_of_ble_eq_true rfl) ?_
  rw [h9] at hN
  refine lv_aload_n (pc := 11) F.1 F.2.1 dX6_buyPaper_11 rfl (lv_at hl 0 rfl) ?_
  refine mm_get (pc := 12) F hN (mm_X0 hX) (ci := 6) rfl 4 (by decide) mw_89 rfl dX6_buyPaper_12 ?_
  refine lv_dup (pc := 15) F.1 F.2.1 dX6_buyPaper_15 rfl ?_
  refine mm_get (pc := 16) F hN (mm_X5 hX) (ci := 4) rfl 0 (by decide) mw_75 rfl dX6_buyPaper_16 ?_
  refine lv_iload_n (pc := 19) F.1 F.2.1 dX6_buyPaper_19 rfl (lv_at hl 1 rfl) ?_
  refine mm_iadd (pc := 20) F (z := nI (T.pa + n)) (nI_add _ _) dX6_buyPaper_20 ?_
  refine mm_put (pc := 21) F hN (mm_X5 hX) (ci := 4) rfl 0 (by decide) mw_75 rfl (ty := .int) (by decide +kernel) (rfl) (rfl) (Nat.le_of_ble_eq_true rfl) dX6_buyPaper_21 (fun H locs hN => ?_)
  have hN : mm_N b D s (mm_u σ ((ad 0 5 0)) (mm_obj 0 4 [.int (nI (T.pa + n)), .int (nI (T.en 0)), .int (nI (T.en 1))])) _ _ := hN
  have hX2 := mm_X_set hX (k := 0) (i := 5) (j := 0) ⟨by decide, rfl⟩ (T' := T.w 0 (mm_u2 (T 0) 4 0 (T.pa + n))) (z' := z) rfl mm_v4 (x := mm_O 4 [.int (nI (T.pa + n)), .int (nI (T.en 0)), .int (nI (T.en 1))]) (rfl)
  have hF2 : mm_Fr 0 _ _ := mm_Fr.u (x := mm_obj 0 4 [.int (nI (T.pa + n)), .int (nI (T.en 0)), .int (nI (T.en 1))]) (mm_X5 hX)
  obtain ⟨σ2, eσ2⟩ : ∃ q, q = mm_u σ ((ad 0 5 0)) (mm_obj 0 4 [.int (nI (T.pa + n)), .int (nI (T.en 0)), .int (nI (T.en 1))]) := ⟨_, rfl⟩
  obtain ⟨T2, eT2⟩ : ∃ q, q = T.w 0 (mm_u2 (T 0) 4 0 (T.pa + n)) := ⟨_, rfl⟩
  rw [← eσ2] at hN
  have hX2 : mm_X σ2 T2 z ad := by rw [eσ2, eT2]; exact hX2
  have hF2 : mm_Fr 0 σ σ2 := by rw [eσ2]; exact hF2
  have hqnA2 : T2.nA = T.nA := by rw [eT2]; rfl
  have hqnP2 : T2.nP = T.nP := by rw [eT2]; rfl
  have hqnT2 : T2.nT = T.nT := by rw [eT2]; rfl
  have hqnR2 : T2.nR = T.nR := by rw [eT2]; rfl
  refine lv_aload_n (pc := 24) F.1 F.2.1 dX6_buyPaper_24 rfl (lv_at hl 0 rfl) ?_
  refine mm_get (pc := 25) F hN (mm_X0 hX2) (ci := 6) rfl 5 (by decide) mw_90 rfl dX6_buyPaper_25 ?_
  refine lv_dup (pc := 28) F.1 F.2.1 dX6_buyPaper_28 rfl ?_
  refine mm_get (pc := 29) F hN (mm_X6 hX2) (ci := 4) rfl 0 (by decide) mw_75 rfl dX6_buyPaper_29 ?_
  refine lv_iload_n (pc := 32) F.1 F.2.1 dX6_buyPaper_32 rfl (lv_at hl 1 rfl) ?_
  refine mm_iadd (pc := 33) F (z := nI (T2.b0 + n)) (nI_add _ _) dX6_buyPaper_33 ?_
  refine mm_put (pc := 34) F hN (mm_X6 hX2) (ci := 4) rfl 0 (by decide) mw_75 rfl (ty := .int) (by decide +kernel) (rfl) (rfl) (Nat.le_of_ble_eq_true rfl) dX6_buyPaper_34 (fun H locs hN => ?_)
  have hN : mm_N b D s (mm_u σ2 ((ad 0 6 0)) (mm_obj 0 4 [.int (nI (T2.b0 + n)), .int (nI T2.b1), .int (nI T2.b2)])) _ _ := hN
  have hX3 := mm_X_set hX2 (k := 0) (i := 6) (j := 0) ⟨by decide, rfl⟩ (T' := T2.w 0 (mm_u2 (T2 0) 6 0 (T2.b0 + n))) (z' := z) rfl mm_v6 (x := mm_O 4 [.int (nI (T2.b0 + n)), .int (nI T2.b1), .int (nI T2.b2)]) (rfl)
  have hF3 : mm_Fr 0 _ _ := mm_Fr.u (x := mm_obj 0 4 [.int (nI (T2.b0 + n)), .int (nI T2.b1), .int (nI T2.b2)]) (mm_X6 hX2)
  obtain ⟨σ3, eσ3⟩ : ∃ q, q = mm_u σ2 ((ad 0 6 0)) (mm_obj 0 4 [.int (nI (T2.b0 + n)), .int (nI T2.b1), .int (nI T2.b2)]) := ⟨_, rfl⟩
  obtain ⟨T3, eT3⟩ : ∃ q, q = T2.w 0 (mm_u2 (T2 0) 6 0 (T2.b0 + n)) := ⟨_, rfl⟩
  rw [← eσ3] at hN
  have hX3 : mm_X σ3 T3 z ad := by rw [eσ3, eT3]; exact hX3
  have hF3 : mm_Fr 0 σ2 σ3 := by rw [eσ3]; exact hF3
  have hqnA3 : T3.nA = T2.nA := by rw [eT3]; rfl
  have hqnP3 : T3.nP = T2.nP := by rw [eT3]; rfl
  have hqnT3 : T3.nT = T2.nT := by rw [eT3]; rfl
  have hqnR3 : T3.nR = T2.nR := by rw [eT3]; rfl
  refine lv_aload_n (pc := 37) F.1 F.2.1 dX6_buyPaper_37 rfl (lv_at hl 0 rfl) ?_
  refine mm_get (pc := 38) F hN (mm_X0 hX3) (ci := 6) rfl 4 (by decide) mw_89 rfl dX6_buyPaper_38 ?_
  refine mm_get (pc := 41) F hN (mm_X5 hX3) (ci := 4) rfl 0 (by decide) mw_75 rfl dX6_buyPaper_41 ?_
  exact mm_iret (pc := 44) F hr hN (⟨by unfold mm_q_buyPaper; (repeat' split) <;> omega, by rw [eT3, eT2]; rfl, z, ad, mm_XeT hX3 (by rw [eT3, eT2]; rfl), rfl, (hF2.tr hF3)⟩) (Nat.le_of_ble_eq_true rfl) (Nat.le_of_ble_eq_true rfl) dX6_buyPaper_44

def mm_q_buyEnvelopes (T : mm_T) (q n : Nat) : Nat := if 1 ≤ n ∧ n ≤ 500 then (if T.en q + n ≤ 5000 then 0 else 2) else 1
set_option maxHeartbeats 4000000 in
set_option maxRecDepth 100000 in
theorem a_buyEnv0 (l : Launch) (b : Nat) (D : mm_D) (hst : l.stackTraces = false) (T : mm_T) (z : mm_Z) (ad : Nat → Nat → Nat → Nat) (σ : mm_S) (hX : mm_X σ T z ad) (hW : mm_WF T) (n : Nat) (zn : n < 2 ^ 32) : mm_K l b D yX6_buyEnvelopes (.code yX6_buyEnvelopes cX6_buyEnvelopes 3 (some .int)) ({ frames := 8, cells := 6, slots := 40, locals := 220 } : Room) [.ref ((ad 0 0 0)), .int (nI 0), .int (nI n)] σ
    (fun v σ2 => mm_q_buyEnvelopes T 0 n = 0 ∧ v = some (.int (nI (T.en 0 + n))) ∧ mm_Xt σ σ2 ((T.w 12 (mm_u2 (T 12) 0 0 (T.en 0 + n))).w 0 (mm_u2 (T 0) 7 0 (T 0 7 0 + n))) (ad 0 0 0))
    (fun E σ2 => ((mm_q_buyEnvelopes T 0 n = 1 ∧ E = "java/lang/IllegalArgumentException") ∨ (mm_q_buyEnvelopes T 0 n = 2 ∧ E = "java/lang/IllegalStateException")) ∧ mm_Xt σ σ2 T (ad 0 0 0)) := by
  refine mm_of (cc := cX6_buyEnvelopes) (nL := 3) (ret := (some .int)) (by decide) rfl (Nat.le_of_ble_eq_true rfl) hst ?_
  intro p e s m args below meth c ls F ht hr hin hN hl
  have hl : lv_has ls 3 [(0, .ref ((ad 0 0 0))), (1, .int (nI 0)), (2, .int (nI n))] := hl
  have wnA := hW.hnA
  have wnP := hW.hnP
  have wnT := hW.hnT
  have wnR := hW.hnR
  have wpa := hW.hpa
  have wbo := hW.hbo
  have wen0 := hW.hen 0
  have wen1 := hW.hen 1
  have wenq := hW.hen 0
  refine lv_aload_n (pc := 0) F.1 F.2.1 dX6_buyEnvelopes_0 rfl (lv_at hl 0 rfl) ?_
  refine mm_get (pc := 1) F hN (mm_X0 hX) (ci := 6) rfl 4 (by decide) mw_89 rfl dX6_buyEnvelopes_1 ?_
  refine lv_iload_n (pc := 4) F.1 F.2.1 dX6_buyEnvelopes_4 rfl (lv_at hl 1 rfl) ?_
  refine mm_runV (pc := 5) (As := [.int (nI 0)]) (rest := []) F hN (c_envOf l b D hst 0 (by decide) 0 (ad 0 5 0) (T.pa) (T.en 0) (T.en 1) _ (mm_X5 hX)) mw_539 mw_540 mw_541 mw_5 mw_542 ⟨pmX4_envelopesOf, (Nat.le_of_ble_eq_true rfl), (Nat.le_of_ble_eq_true rfl)⟩ (mm_recv F.2.2.2.2.2.1 hN (mm_X5 hX) rfl) hl.1 rfl (Nat.le_of_ble_eq_true rfl) ⟨(Nat.le_of_ble_eq_true rfl), (Nat.le_of_ble_eq_true rfl)⟩ dX6_buyEnvelopes_5
    (fun _ _ _ _ _ _ h9 => False.elim h9)
    (fun v9 σ9 H locs hp9 hN => ?_)
  obtain ⟨rfl, h9⟩ := hp9
  rw [h9] at hN
  refine W.eq (g2 := F0 m 8 ls [.int (nI (T.en 0))]) rfl ?_
  refine W.widen (k := 0) (n := 0) (Nat.le_of_ble_eq_true rfl) (Nat.le_of_ble_eq_true rfl) ?_
  refine lv_iload_n (pc := 8) F.1 F.2.1 dX6_buyEnvelopes_8 rfl (lv_at hl 2 rfl) ?_
  refine mm_runS (pc := 9) (As := [.int (nI (T.en 0)), .int (nI n)]) (rest := []) F hN (c_checkBuy l b D hst (T.en 0) n (by omega) zn _) mw_525 mw_526 mw_1 mw_527 ⟨pmX6_checkBuying, (Nat.le_of_ble_eq_true rfl), (Nat.le_of_ble_eq_true rfl)⟩ hl.1 rfl (Nat.le_of_ble_eq_true rfl) ⟨(Nat.le_of_ble_eq_true rfl), (Nat.le_of_ble_eq_true rfl)⟩ dX6_buyEnvelopes_9
    (fun E9 σ9 H9 l9 q9 ce9 hp9 hN9 hq9 hv9 hcl9 => mm_out F ht hN9 (by obtain ⟨g0, g3⟩ := hp9; rcases g0 with ⟨g1, g2⟩ | ⟨g1, g2, g4⟩; exact ⟨Or.inl (⟨by unfold mm_q_buyEnvelopes; (repeat' split) <;> omega, g1⟩), mm_Xt.rf hX g3⟩; exact ⟨Or.inr (⟨by unfold mm_q_buyEnvelopes; (repeat' split) <;> omega, g1⟩), mm_Xt.rf hX g3⟩) hq9 hv9 hcl9 (Nat.le_of_ble_eq_true rfl) (Nat.le_of_ble_eq_true rfl))
    (fun v9 σ9 H locs hp9 hN => ?_)
  obtain ⟨rfl, ⟨hb1, hb2, hb3⟩, h9⟩ := hp9
  refine W.eq (g2 := F0 m 12 ls []) rfl ?_
  refine W.widen (k := 1) (n := 6) (Nat.le_of_ble_eq_true rfl) (Nat.le_of_ble_eq_true rfl) ?_
  rw [h9] at hN
  refine lv_aload_n (pc := 12) F.1 F.2.1 dX6_buyEnvelopes_12 rfl (lv_at hl 0 rfl) ?_
  refine mm_get (pc := 13) F hN (mm_X0 hX) (ci := 6) rfl 4 (by decide) mw_89 rfl dX6_buyEnvelopes_13 ?_
  refine lv_iload_n (pc := 16) F.1 F.2.1 dX6_buyEnvelopes_16 rfl (lv_at hl 1 rfl) ?_
  refine lv_iload_n (pc := 17) F.1 F.2.1 dX6_buyEnvelopes_17 rfl (lv_at hl 2 rfl) ?_
  refine mm_runV (pc := 18) (As := [.int (nI 0), .int (nI n)]) (rest := []) F hN (c_addEnv l b D hst 0 (by decide) (nI n) 0 (ad 0 5 0) (T.pa) (T.en 0) (T.en 1) _ (mm_X5 hX)) mw_543 mw_544 mw_545 mw_5 mw_546 ⟨pmX4_addEnvelopes, (Nat.le_of_ble_eq_true rfl), (Nat.le_of_ble_eq_true rfl)⟩ (mm_recv F.2.2.2.2.2.1 hN (mm_X5 hX) rfl) hl.1 rfl (Nat.le_of_ble_eq_true rfl) ⟨(Nat.le_of_ble_eq_true rfl), (Nat.le_of_ble_eq_true rfl)⟩ dX6_buyEnvelopes_18
    (fun _ _ _ _ _ _ h9 => False.elim h9)
    (fun v9 σ9 H locs hp9 hN => ?_)
  obtain ⟨rfl, hσ9⟩ := hp9
  refine W.eq (g2 := F0 m 21 ls []) rfl ?_
  refine W.widen (k := 1) (n := 6) (Nat.le_of_ble_eq_true rfl) (Nat.le_of_ble_eq_true rfl) ?_
  have hs9 : σ9 = mm_u σ (ad 0 5 0) (mm_obj 0 4 [.int (nI T.pa), .int (nI (T.en 0 + n)), .int (nI (T.en 1))]) := by rw [hσ9]; show mm_u _ _ (mm_obj 0 4 [.int (nI (T.pa)), .int (nI (T.en 0) + nI n), .int (nI (T.en 1))]) = _; rw [nI_add]
  rw [hs9] at hN
  have hX2 := mm_X_set hX (k := 0) (i := 5) (j := 0) ⟨by decide, rfl⟩ (T' := T.w 12 (mm_u2 (T 12) 0 0 (T.en 0 + n))) (z' := z) rfl mm_ve0 (x := mm_O 4 [.int (nI T.pa), .int (nI (T.en 0 + n)), .int (nI (T.en 1))]) (rfl)
  have hF2 : mm_Fr 0 _ _ := mm_Fr.u (x := mm_obj 0 4 [.int (nI T.pa), .int (nI (T.en 0 + n)), .int (nI (T.en 1))]) (mm_X5 hX)
  obtain ⟨σ2, eσ2⟩ : ∃ q, q = mm_u σ (ad 0 5 0) (mm_obj 0 4 [.int (nI T.pa), .int (nI (T.en 0 + n)), .int (nI (T.en 1))]) := ⟨_, rfl⟩
  obtain ⟨T2, eT2⟩ : ∃ q, q = T.w 12 (mm_u2 (T 12) 0 0 (T.en 0 + n)) := ⟨_, rfl⟩
  rw [← eσ2] at hN
  have hX2 : mm_X σ2 T2 z ad := by rw [eσ2, eT2]; exact hX2
  have hF2 : mm_Fr 0 σ σ2 := by rw [eσ2]; exact hF2
  have hqnA2 : T2.nA = T.nA := by rw [eT2]; rfl
  have hqnP2 : T2.nP = T.nP := by rw [eT2]; rfl
  have hqnT2 : T2.nT = T.nT := by rw [eT2]; rfl
  have hqnR2 : T2.nR = T.nR := by rw [eT2]; rfl
  refine lv_aload_n (pc := 21) F.1 F.2.1 dX6_buyEnvelopes_21 rfl (lv_at hl 0 rfl) ?_
  refine mm_get (pc := 22) F hN (mm_X0 hX2) (ci := 6) rfl 5 (by decide) mw_90 rfl dX6_buyEnvelopes_22 ?_
  refine lv_iload_n (pc := 25) F.1 F.2.1 dX6_buyEnvelopes_25 rfl (lv_at hl 1 rfl) ?_
  refine lv_iload_n (pc := 26) F.1 F.2.1 dX6_buyEnvelopes_26 rfl (lv_at hl 2 rfl) ?_
  refine mm_runV (pc := 27) (As := [.int (nI 0), .int (nI n)]) (rest := []) F hN (c_addEnv l b D hst 0 (by decide) (nI n) 0 (ad 0 6 0) (T2.b0) (T2.b1) (T2.b2) _ (mm_X6 hX2)) mw_543 mw_544 mw_545 mw_5 mw_546 ⟨pmX4_addEnvelopes, (Nat.le_of_ble_eq_true rfl), (Nat.le_of_ble_eq_true rfl)⟩ (mm_recv F.2.2.2.2.2.1 hN (mm_X6 hX2) rfl) hl.1 rfl (Nat.le_of_ble_eq_true rfl) ⟨(Nat.le_of_ble_eq_true rfl), (Nat.le_of_ble_eq_true rfl)⟩ dX6_buyEnvelopes_27
    (fun _ _ _ _ _ _ h9 => False.elim h9)
    (fun v9 σ9 H locs hp9 hN => ?_)
  obtain ⟨rfl, hσ9⟩ := hp9
  refine W.eq (g2 := F0 m 30 ls []) rfl ?_
  refine W.widen (k := 1) (n := 6) (Nat.le_of_ble_eq_true rfl) (Nat.le_of_ble_eq_true rfl) ?_
  have hs9 : σ9 = mm_u σ2 (ad 0 6 0) (mm_obj 0 4 [.int (nI T2.b0), .int (nI (T2.b1 + n)), .int (nI T2.b2)]) := by rw [hσ9]; show mm_u _ _ (mm_obj 0 4 [.int (nI (T2.b0)), .int (nI (T2.b1) + nI n), .int (nI (T2.b2))]) = _; rw [nI_add]
  rw [hs9] at hN
  have hX3 := mm_X_set hX2 (k := 0) (i := 6) (j := 0) ⟨by decide, rfl⟩ (T' := T2.w 0 (mm_u2 (T2 0) 7 0 (T2.b1 + n))) (z' := z) rfl mm_v7 (x := mm_O 4 [.int (nI T2.b0), .int (nI (T2.b1 + n)), .int (nI T2.b2)]) (rfl)
  have hF3 : mm_Fr 0 _ _ := mm_Fr.u (x := mm_obj 0 4 [.int (nI T2.b0), .int (nI (T2.b1 + n)), .int (nI T2.b2)]) (mm_X6 hX2)
  obtain ⟨σ3, eσ3⟩ : ∃ q, q = mm_u σ2 (ad 0 6 0) (mm_obj 0 4 [.int (nI T2.b0), .int (nI (T2.b1 + n)), .int (nI T2.b2)]) := ⟨_, rfl⟩
  obtain ⟨T3, eT3⟩ : ∃ q, q = T2.w 0 (mm_u2 (T2 0) 7 0 (T2.b1 + n)) := ⟨_, rfl⟩
  rw [← eσ3] at hN
  have hX3 : mm_X σ3 T3 z ad := by rw [eσ3, eT3]; exact hX3
  have hF3 : mm_Fr 0 σ2 σ3 := by rw [eσ3]; exact hF3
  have hqnA3 : T3.nA = T2.nA := by rw [eT3]; rfl
  have hqnP3 : T3.nP = T2.nP := by rw [eT3]; rfl
  have hqnT3 : T3.nT = T2.nT := by rw [eT3]; rfl
  have hqnR3 : T3.nR = T2.nR := by rw [eT3]; rfl
  refine lv_aload_n (pc := 30) F.1 F.2.1 dX6_buyEnvelopes_30 rfl (lv_at hl 0 rfl) ?_
  refine mm_get (pc := 31) F hN (mm_X0 hX3) (ci := 6) rfl 4 (by decide) mw_89 rfl dX6_buyEnvelopes_31 ?_
  refine lv_iload_n (pc := 34) F.1 F.2.1 dX6_buyEnvelopes_34 rfl (lv_at hl 1 rfl) ?_
  refine mm_runV (pc := 35) (As := [.int (nI 0)]) (rest := []) F hN (c_envOf l b D hst 0 (by decide) 0 (ad 0 5 0) (T3.pa) (T3.en 0) (T3.en 1) _ (mm_X5 hX3)) mw_539 mw_540 mw_541 mw_5 mw_542 ⟨pmX4_envelopesOf, (Nat.le_of_ble_eq_true rfl), (Nat.le_of_ble_eq_true rfl)⟩ (mm_recv F.2.2.2.2.2.1 hN (mm_X5 hX3) rfl) hl.1 rfl (Nat.le_of_ble_eq_true rfl) ⟨(Nat.le_of_ble_eq_true rfl), (Nat.le_of_ble_eq_true rfl)⟩ dX6_buyEnvelopes_35
    (fun _ _ _ _ _ _ h9 => False.elim h9)
    (fun v9 σ9 H locs hp9 hN => ?_)
  obtain ⟨rfl, h9⟩ := hp9
  rw [h9] at hN
  refine W.eq (g2 := F0 m 38 ls [.int (nI (T3.en 0))]) rfl ?_
  refine W.widen (k := 1) (n := 6) (Nat.le_of_ble_eq_true rfl) (Nat.le_of_ble_eq_true rfl) ?_
  exact mm_iret (pc := 38) F hr hN (⟨by unfold mm_q_buyEnvelopes; (repeat' split) <;> omega, by rw [eT3, eT2]; rfl, z, ad, mm_XeT hX3 (by rw [eT3, eT2]; rfl), rfl, (hF2.tr hF3)⟩) (Nat.le_of_ble_eq_true rfl) (Nat.le_of_ble_eq_true rfl) dX6_buyEnvelopes_38

set_option maxHeartbeats 4000000 in
set_option maxRecDepth 100000 in
theorem a_buyEnv1 (l : Launch) (b : Nat) (D : mm_D) (hst : l.stackTraces = false) (T : mm_T) (z : mm_Z) (ad : Nat → Nat → Nat → Nat) (σ : mm_S) (hX : mm_X σ T z ad) (hW : mm_WF T) (n : Nat) (zn : n < 2 ^ 32) : mm_K l b D yX6_buyEnvelopes (.code yX6_buyEnvelopes cX6_buyEnvelopes 3 (some .int)) ({ frames := 8, cells := 6, slots := 40, locals := 220 } : Room) [.ref ((ad 0 0 0)), .int (nI 1), .int (nI n)] σ
    (fun v σ2 => mm_q_buyEnvelopes T 1 n = 0 ∧ v = some (.int (nI (T.en 1 + n))) ∧ mm_Xt σ σ2 ((T.w 12 (mm_u2 (T 12) 1 0 (T.en 1 + n))).w 0 (mm_u2 (T 0) 8 0 (T 0 8 0 + n))) (ad 0 0 0))
    (fun E σ2 => ((mm_q_buyEnvelopes T 1 n = 1 ∧ E = "java/lang/IllegalArgumentException") ∨ (mm_q_buyEnvelopes T 1 n = 2 ∧ E = "java/lang/IllegalStateException")) ∧ mm_Xt σ σ2 T (ad 0 0 0)) := by
  refine mm_of (cc := cX6_buyEnvelopes) (nL := 3) (ret := (some .int)) (by decide) rfl (Nat.le_of_ble_eq_true rfl) hst ?_
  intro p e s m args below meth c ls F ht hr hin hN hl
  have hl : lv_has ls 3 [(0, .ref ((ad 0 0 0))), (1, .int (nI 1)), (2, .int (nI n))] := hl
  have wnA := hW.hnA
  have wnP := hW.hnP
  have wnT := hW.hnT
  have wnR := hW.hnR
  have wpa := hW.hpa
  have wbo := hW.hbo
  have wen0 := hW.hen 0
  have wen1 := hW.hen 1
  have wenq := hW.hen 1
  refine lv_aload_n (pc := 0) F.1 F.2.1 dX6_buyEnvelopes_0 rfl (lv_at hl 0 rfl) ?_
  refine mm_get (pc := 1) F hN (mm_X0 hX) (ci := 6) rfl 4 (by decide) mw_89 rfl dX6_buyEnvelopes_1 ?_
  refine lv_iload_n (pc := 4) F.1 F.2.1 dX6_buyEnvelopes_4 rfl (lv_at hl 1 rfl) ?_
  refine mm_runV (pc := 5) (As := [.int (nI 1)]) (rest := []) F hN (c_envOf l b D hst 1 (by decide) 0 (ad 0 5 0) (T.pa) (T.en 0) (T.en 1) _ (mm_X5 hX)) mw_539 mw_540 mw_541 mw_5 mw_542 ⟨pmX4_envelopesOf, (Nat.le_of_ble_eq_true rfl), (Nat.le_of_ble_eq_true rfl)⟩ (mm_recv F.2.2.2.2.2.1 hN (mm_X5 hX) rfl) hl.1 rfl (Nat.le_of_ble_eq_true rfl) ⟨(Nat.le_of_ble_eq_true rfl), (Nat.le_of_ble_eq_true rfl)⟩ dX6_buyEnvelopes_5
    (fun _ _ _ _ _ _ h9 => False.elim h9)
    (fun v9 σ9 H locs hp9 hN => ?_)
  obtain ⟨rfl, h9⟩ := hp9
  rw [h9] at hN
  refine W.eq (g2 := F0 m 8 ls [.int (nI (T.en 1))]) rfl ?_
  refine W.widen (k := 0) (n := 0) (Nat.le_of_ble_eq_true rfl) (Nat.le_of_ble_eq_true rfl) ?_
  refine lv_iload_n (pc := 8) F.1 F.2.1 dX6_buyEnvelopes_8 rfl (lv_at hl 2 rfl) ?_
  refine mm_runS (pc := 9) (As := [.int (nI (T.en 1)), .int (nI n)]) (rest := []) F hN (c_checkBuy l b D hst (T.en 1) n (by omega) zn _) mw_525 mw_526 mw_1 mw_527 ⟨pmX6_checkBuying, (Nat.le_of_ble_eq_true rfl), (Nat.le_of_ble_eq_true rfl)⟩ hl.1 rfl (Nat.le_of_ble_eq_true rfl) ⟨(Nat.le_of_ble_eq_true rfl), (Nat.le_of_ble_eq_true rfl)⟩ dX6_buyEnvelopes_9
    (fun E9 σ9 H9 l9 q9 ce9 hp9 hN9 hq9 hv9 hcl9 => mm_out F ht hN9 (by obtain ⟨g0, g3⟩ := hp9; rcases g0 with ⟨g1, g2⟩ | ⟨g1, g2, g4⟩; exact ⟨Or.inl (⟨by unfold mm_q_buyEnvelopes; (repeat' split) <;> omega, g1⟩), mm_Xt.rf hX g3⟩; exact ⟨Or.inr (⟨by unfold mm_q_buyEnvelopes; (repeat' split) <;> omega, g1⟩), mm_Xt.rf hX g3⟩) hq9 hv9 hcl9 (Nat.le_of_ble_eq_true rfl) (Nat.le_of_ble_eq_true rfl))
    (fun v9 σ9 H locs hp9 hN => ?_)
  obtain ⟨rfl, ⟨hb1, hb2, hb3⟩, h9⟩ := hp9
  refine W.eq (g2 := F0 m 12 ls []) rfl ?_
  refine W.widen (k := 1) (n := 6) (Nat.le_of_ble_eq_true rfl) (Nat.le_of_ble_eq_true rfl) ?_
  rw [h9] at hN
  refine lv_aload_n (pc := 12) F.1 F.2.1 dX6_buyEnvelopes_12 rfl (lv_at hl 0 rfl) ?_
  refine mm_get (pc := 13) F hN (mm_X0 hX) (ci := 6) rfl 4 (by decide) mw_89 rfl dX6_buyEnvelopes_13 ?_
  refine lv_iload_n (pc := 16) F.1 F.2.1 dX6_buyEnvelopes_16 rfl (lv_at hl 1 rfl) ?_
  refine lv_iload_n (pc := 17) F.1 F.2.1 dX6_buyEnvelopes_17 rfl (lv_at hl 2 rfl) ?_
  refine mm_runV (pc := 18) (As := [.int (nI 1), .int (nI n)]) (rest := []) F hN (c_addEnv l b D hst 1 (by decide) (nI n) 0 (ad 0 5 0) (T.pa) (T.en 0) (T.en 1) _ (mm_X5 hX)) mw_543 mw_544 mw_545 mw_5 mw_546 ⟨pmX4_addEnvelopes, (Nat.le_of_ble_eq_true rfl), (Nat.le_of_ble_eq_true rfl)⟩ (mm_recv F.2.2.2.2.2.1 hN (mm_X5 hX) rfl) hl.1 rfl (Nat.le_of_ble_eq_true rfl) ⟨(Nat.le_of_ble_eq_true rfl), (Nat.le_of_ble_eq_true rfl)⟩ dX6_buyEnvelopes_18
    (fun _ _ _ _ _ _ h9 => False.elim h9)
    (fun v9 σ9 H locs hp9 hN => ?_)
  obtain ⟨rfl, hσ9⟩ := hp9
  refine W.eq (g2 := F0 m 21 ls []) rfl ?_
  refine W.widen (k := 1) (n := 6) (Nat.le_of_ble_eq_true rfl) (Nat.le_of_ble_eq_true rfl) ?_
  have hs9 : σ9 = mm_u σ (ad 0 5 0) (mm_obj 0 4 [.int (nI T.pa), .int (nI (T.en 0)), .int (nI (T.en 1 + n))]) := by rw [hσ9]; show mm_u _ _ (mm_obj 0 4 [.int (nI (T.pa)), .int (nI (T.en 0)), .int (nI (T.en 1) + nI n)]) = _; rw [nI_add]
  rw [hs9] at hN
  have hX2 := mm_X_set hX (k := 0) (i := 5) (j := 0) ⟨by decide, rfl⟩ (T' := T.w 12 (mm_u2 (T 12) 1 0 (T.en 1 + n))) (z' := z) rfl mm_ve1 (x := mm_O 4 [.int (nI T.pa), .int (nI (T.en 0)), .int (nI (T.en 1 + n))]) (rfl)
  have hF2 : mm_Fr 0 _ _ := mm_Fr.u (x := mm_obj 0 4 [.int (nI T.pa), .int (nI (T.en 0)), .int (nI (T.en 1 + n))]) (mm_X5 hX)
  obtain ⟨σ2, eσ2⟩ : ∃ q, q = mm_u σ (ad 0 5 0) (mm_obj 0 4 [.int (nI T.pa), .int (nI (T.en 0)), .int (nI (T.en 1 + n))]) := ⟨_, rfl⟩
  obtain ⟨T2, eT2⟩ : ∃ q, q = T.w 12 (mm_u2 (T 12) 1 0 (T.en 1 + n)) := ⟨_, rfl⟩
  rw [← eσ2] at hN
  have hX2 : mm_X σ2 T2 z ad := by rw [eσ2, eT2]; exact hX2
  have hF2 : mm_Fr 0 σ σ2 := by rw [eσ2]; exact hF2
  have hqnA2 : T2.nA = T.nA := by rw [eT2]; rfl
  have hqnP2 : T2.nP = T.nP := by rw [eT2]; rfl
  have hqnT2 : T2.nT = T.nT := by rw [eT2]; rfl
  have hqnR2 : T2.nR = T.nR := by rw [eT2]; rfl
  refine lv_aload_n (pc := 21) F.1 F.2.1 dX6_buyEnvelopes_21 rfl (lv_at hl 0 rfl) ?_
  refine mm_get (pc := 22) F hN (mm_X0 hX2) (ci := 6) rfl 5 (by decide) mw_90 rfl dX6_buyEnvelopes_22 ?_
  refine lv_iload_n (pc := 25) F.1 F.2.1 dX6_buyEnvelopes_25 rfl (lv_at hl 1 rfl) ?_
  refine lv_iload_n (pc := 26) F.1 F.2.1 dX6_buyEnvelopes_26 rfl (lv_at hl 2 rfl) ?_
  refine mm_runV (pc := 27) (As := [.int (nI 1), .int (nI n)]) (rest := []) F hN (c_addEnv l b D hst 1 (by decide) (nI n) 0 (ad 0 6 0) (T2.b0) (T2.b1) (T2.b2) _ (mm_X6 hX2)) mw_543 mw_544 mw_545 mw_5 mw_546 ⟨pmX4_addEnvelopes, (Nat.le_of_ble_eq_true rfl), (Nat.le_of_ble_eq_true rfl)⟩ (mm_recv F.2.2.2.2.2.1 hN (mm_X6 hX2) rfl) hl.1 rfl (Nat.le_of_ble_eq_true rfl) ⟨(Nat.le_of_ble_eq_true rfl), (Nat.le_of_ble_eq_true rfl)⟩ dX6_buyEnvelopes_27
    (fun _ _ _ _ _ _ h9 => False.elim h9)
    (fun v9 σ9 H locs hp9 hN => ?_)
  obtain ⟨rfl, hσ9⟩ := hp9
  refine W.eq (g2 := F0 m 30 ls []) rfl ?_
  refine W.widen (k := 1) (n := 6) (Nat.le_of_ble_eq_true rfl) (Nat.le_of_ble_eq_true rfl) ?_
  have hs9 : σ9 = mm_u σ2 (ad 0 6 0) (mm_obj 0 4 [.int (nI T2.b0), .int (nI T2.b1), .int (nI (T2.b2 + n))]) := by rw [hσ9]; show mm_u _ _ (mm_obj 0 4 [.int (nI (T2.b0)), .int (nI (T2.b1)), .int (nI (T2.b2) + nI n)]) = _; rw [nI_add]
  rw [hs9] at hN
  have hX3 := mm_X_set hX2 (k := 0) (i := 6) (j := 0) ⟨by decide, rfl⟩ (T' := T2.w 0 (mm_u2 (T2 0) 8 0 (T2.b2 + n))) (z' := z) rfl mm_v8 (x := mm_O 4 [.int (nI T2.b0), .int (nI T2.b1), .int (nI (T2.b2 + n))]) (rfl)
  have hF3 : mm_Fr 0 _ _ := mm_Fr.u (x := mm_obj 0 4 [.int (nI T2.b0), .int (nI T2.b1), .int (nI (T2.b2 + n))]) (mm_X6 hX2)
  obtain ⟨σ3, eσ3⟩ : ∃ q, q = mm_u σ2 (ad 0 6 0) (mm_obj 0 4 [.int (nI T2.b0), .int (nI T2.b1), .int (nI (T2.b2 + n))]) := ⟨_, rfl⟩
  obtain ⟨T3, eT3⟩ : ∃ q, q = T2.w 0 (mm_u2 (T2 0) 8 0 (T2.b2 + n)) := ⟨_, rfl⟩
  rw [← eσ3] at hN
  have hX3 : mm_X σ3 T3 z ad := by rw [eσ3, eT3]; exact hX3
  have hF3 : mm_Fr 0 σ2 σ3 := by rw [eσ3]; exact hF3
  have hqnA3 : T3.nA = T2.nA := by rw [eT3]; rfl
  have hqnP3 : T3.nP = T2.nP := by rw [eT3]; rfl
  have hqnT3 : T3.nT = T2.nT := by rw [eT3]; rfl
  have hqnR3 : T3.nR = T2.nR := by rw [eT3]; rfl
  refine lv_aload_n (pc := 30) F.1 F.2.1 dX6_buyEnvelopes_30 rfl (lv_at hl 0 rfl) ?_
  refine mm_get (pc := 31) F hN (mm_X0 hX3) (ci := 6) rfl 4 (by decide) mw_89 rfl dX6_buyEnvelopes_31 ?_
  refine lv_iload_n (pc := 34) F.1 F.2.1 dX6_buyEnvelopes_34 rfl (lv_at hl 1 rfl) ?_
  refine mm_runV (pc := 35) (As := [.int (nI 1)]) (rest := []) F hN (c_envOf l b D hst 1 (by decide) 0 (ad 0 5 0) (T3.pa) (T3.en 0) (T3.en 1) _ (mm_X5 hX3)) mw_539 mw_540 mw_541 mw_5 mw_542 ⟨pmX4_envelopesOf, (Nat.le_of_ble_eq_true rfl), (Nat.le_of_ble_eq_true rfl)⟩ (mm_recv F.2.2.2.2.2.1 hN (mm_X5 hX3) rfl) hl.1 rfl (Nat.le_of_ble_eq_true rfl) ⟨(Nat.le_of_ble_eq_true rfl), (Nat.le_of_ble_eq_true rfl)⟩ dX6_buyEnvelopes_35
    (fun _ _ _ _ _ _ h9 => False.elim h9)
    (fun v9 σ9 H locs hp9 hN => ?_)
  obtain ⟨rfl, h9⟩ := hp9
  rw [h9] at hN
  refine W.eq (g2 := F0 m 38 ls [.int (nI (T3.en 1))]) rfl ?_
  refine W.widen (k := 1) (n := 6) (Nat.le_of_ble_eq_true rfl) (Nat.le_of_ble_eq_true rfl) ?_
  exact mm_iret (pc := 38) F hr hN (⟨by unfold mm_q_buyEnvelopes; (repeat' split) <;> omega, by rw [eT3, eT2]; rfl, z, ad, mm_XeT hX3 (by rw [eT3, eT2]; rfl), rfl, (hF2.tr hF3)⟩) (Nat.le_of_ble_eq_true rfl) (Nat.le_of_ble_eq_true rfl) dX6_buyEnvelopes_38

