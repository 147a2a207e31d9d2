/-- what a call of the reference leaves, where it answers no int -/
def mm_Mu (rd : Nat → Nat → Nat) (σ σ2 : mm_S) (T T' : mm_T) (q : Nat) (v ans dv : Option Value) : Prop :=
  (q = 0 ∧ v = ans ∧ mm_M σ2 T' 0 rd ∧ mm_Fr 1 σ σ2) ∨ (0 < q ∧ v = dv ∧ mm_M σ2 T q rd ∧ mm_Fr 1 σ σ2)
set_option maxHeartbeats 4000000 in
set_option maxRecDepth 100000 in
theorem r_outcome (l : Launch) (b : Nat) (D : mm_D) (hst : l.stackTraces = false) (T : mm_T) (th : Nat) (rd : Nat → Nat → Nat) (σ : mm_S) (hM : mm_M σ T th rd) (hW : mm_WF T) (k : Nat) (zk : k < 2 ^ 32) (i : Nat) (zi : i < 2 ^ 32) : mm_K l b D yX7_outcome (.code yX7_outcome cX7_outcome 3 (some .char)) ({ frames := 6, cells := 0, slots := 0, locals := 160 } : Room) [.ref ((rd 0 0)), .int (nI k), .int (nI i)] σ
    (fun v σ2 => mm_Mt rd σ σ2 T (T) (mm_q_outcome T k i) v (some (.int (nI (T.oc k i)))))
    (fun _ _ => False) := by
  refine mm_of (cc := cX7_outcome) (nL := 3) (ret := (some .char)) (by decide) rfl (Nat.le_of_ble_eq_true rfl) hst ?_
  intro p e s m args below meth c ls F ht hr hin hN hl
  have hl : lv_has ls 3 [(0, .ref ((rd 0 0))), (1, .int (nI k)), (2, .int (nI i))] := hl
  have wnA := hW.hnA
  have wnP := hW.hnP
  have wnT := hW.hnT
  have wnR := hW.hnR
  have wpa := hW.hpa
  have wbo := hW.hbo
  have wen0 := hW.hen 0
  have wen1 := hW.hen 1
  refine lv_aload_n (pc := 0) F.1 F.2.1 dX7_outcome_0 rfl (lv_at hl 0 rfl) ?_
  refine lv_aload_n (pc := 1) F.1 F.2.1 dX7_outcome_1 rfl (lv_at hl 0 rfl) ?_
  refine lv_iload_n (pc := 2) F.1 F.2.1 dX7_outcome_2 rfl (lv_at hl 1 rfl) ?_
  refine lv_iload_n (pc := 3) F.1 F.2.1 dX7_outcome_3 rfl (lv_at hl 2 rfl) ?_
  refine mm_runV (pc := 4) (As := [.int (nI k), .int (nI i)]) (rest := [.ref ((rd 0 0))]) F hN (c_was l b D hst T th rd σ hM hW k i (by omega) (by omega)) mw_1387 mw_1389 mw_p32 mw_6 mw_1390 ⟨pmX7_wasThere, (Nat.le_of_ble_eq_true rfl), (Nat.le_of_ble_eq_true rfl)⟩ (mm_recv F.2.2.2.2.2.1 hN (mm_r0 hM) rfl) hl.1 rfl (Nat.le_of_ble_eq_true rfl) ⟨(Nat.le_of_ble_eq_true rfl), (Nat.le_of_ble_eq_true rfl)⟩ dX7_outcome_4
    (fun _ _ _ _ _ _ h9 => False.elim h9)
    (fun v9 σ9 H locs hp9 hN => ?_)
  obtain ⟨rfl, h9⟩ := hp9
  rw [h9] at hN
  refine W.eq (g2 := F0 m 7 ls [.int (nI (if k < T.nR ∧ i < T.rp k then 1 else 0)), .ref ((rd 0 0))]) rfl ?_
  refine W.widen (k := 0) (n := 0) (Nat.le_of_ble_eq_true rfl) (Nat.le_of_ble_eq_true rfl) ?_
  by_cases hw9 : k < T.nR ∧ i < T.rp k
  ·
    refine W.eq (g2 := F0 m 7 ls [.int (nI 1), .ref ((rd 0 0))]) (by rw [if_pos hw9]) ?_
    obtain ⟨hwk, hwi⟩ := hw9
    obtain ⟨wr1, wr2, wr3, wr4⟩ := hW.hru k hwk
    obtain ⟨wp1, wp2, wp3, wp4, wp5, wp6, wp7⟩ := wr4 i hwi
    obtain ⟨who, wfl, wre⟩ := hW.hpe i (by omega)
    refine mm_if_eq (pc := 7) F (tgt := 14) (by omega) dX7_outcome_7 (by decide) (fun h9 => absurd h9 (by decide)) (fun cz7 => ?_)
    refine lv_iconst (pc := 10) (v := nI 0) F.1 F.2.1 dX7_outcome_10 (by decide) ?_
    refine lv_goto (pc := 11) (tgt := 15) F.1 F.2.1 dX7_outcome_11 (by decide) ?_
    refine mm_put (pc := 15) F hN (mm_r0 hM) (ci := 7) rfl 25 (by decide) mw_1204 rfl (ty := .int) (by decide +kernel) (rfl) (rfl) (Nat.le_of_ble_eq_true rfl) dX7_outcome_15 (fun H locs hN => ?_)
    have hN : mm_N b D s (mm_u σ ((rd 0 0)) (mm_obj 1 7 [.ref ((rd 1 0)), .ref ((rd 2 0)), .ref ((rd 3 0)), .int (nI T.nA), .ref ((rd 4 0)), .ref ((rd 5 0)), .ref ((rd 6 0)), .int (nI T.nP), .ref ((rd 7 0)), .ref ((rd 8 0)), .ref ((rd 9 0)), .ref ((rd 10 0)), .ref ((rd 11 0)), .int (nI T.nT), .int (nI T.pa), .ref ((rd 12 0)), .int (nI T.bo), .ref ((rd 13 0)), .ref ((rd 14 0)), .ref ((rd 15 0)), .ref ((rd 16 0)), .ref ((rd 17 0)), .ref ((rd 18 0)), .ref ((rd 19 0)), .int (nI T.nR), .int (nI 0)])) _ _ := hN
    obtain ⟨σ2, eσ2⟩ : ∃ q, q = mm_u σ ((rd 0 0)) (mm_obj 1 7 [.ref ((rd 1 0)), .ref ((rd 2 0)), .ref ((rd 3 0)), .int (nI T.nA), .ref ((rd 4 0)), .ref ((rd 5 0)), .ref ((rd 6 0)), .int (nI T.nP), .ref ((rd 7 0)), .ref ((rd 8 0)), .ref ((rd 9 0)), .ref ((rd 10 0)), .ref ((rd 11 0)), .int (nI T.nT), .int (nI T.pa), .ref ((rd 12 0)), .int (nI T.bo), .ref ((rd 13 0)), .ref ((rd 14 0)), .ref ((rd 15 0)), .ref ((rd 16 0)), .ref ((rd 17 0)), .ref ((rd 18 0)), .ref ((rd 19 0)), .int (nI T.nR), .int (nI 0)]) := ⟨_, rfl⟩
    rw [← eσ2] at hN
    have hM2 : mm_M σ2 T 0 rd := by rw [eσ2]; exact mm_Mo hM (fun _ _ => rfl) rfl
    have hF2 : mm_Fr 1 σ σ2 := by rw [eσ2]; exact (mm_Fr.rf).tr (mm_Fr.u (mm_r0 hM))
    refine lv_aload_n (pc := 18) F.1 F.2.1 dX7_outcome_18 rfl (lv_at hl 0 rfl) ?_
    refine mm_get (pc := 19) F hN ((show σ2 (rd 0 0) = mm_obj 1 7 [.ref ((rd 1 0)), .ref ((rd 2 0)), .ref ((rd 3 0)), .int (nI T.nA), .ref ((rd 4 0)), .ref ((rd 5 0)), .ref ((rd 6 0)), .int (nI T.nP), .ref ((rd 7 0)), .ref ((rd 8 0)), .ref ((rd 9 0)), .ref ((rd 10 0)), .ref ((rd 11 0)), .int (nI T.nT), .int (nI T.pa), .ref ((rd 12 0)), .int (nI T.bo), .ref ((rd 13 0)), .ref ((rd 14 0)), .ref ((rd 15 0)), .ref ((rd 16 0)), .ref ((rd 17 0)), .ref ((rd 18 0)), .ref ((rd 19 0)), .int (nI T.nR), .int (nI 0)] from mm_r0 (T := T) hM2)) (ci := 7) rfl 25 (by decide) mw_1204 rfl dX7_outcome_19 ?_
    refine mm_if_le (pc := 22) F (tgt := 30) (by omega) dX7_outcome_22 (by decide) (fun cz22 => ?_) (fun h9 => absurd h9 (by decide))
    refine lv_aload_n (pc := 30) F.1 F.2.1 dX7_outcome_30 rfl (lv_at hl 0 rfl) ?_
    refine mm_get (pc := 31) F hN ((show σ2 (rd 0 0) = mm_obj 1 7 [.ref ((rd 1 0)), .ref ((rd 2 0)), .ref ((rd 3 0)), .int (nI T.nA), .ref ((rd 4 0)), .ref ((rd 5 0)), .ref ((rd 6 0)), .int (nI T.nP), .ref ((rd 7 0)), .ref ((rd 8 0)), .ref ((rd 9 0)), .ref ((rd 10 0)), .ref ((rd 11 0)), .int (nI T.nT), .int (nI T.pa), .ref ((rd 12 0)), .int (nI T.bo), .ref ((rd 13 0)), .ref ((rd 14 0)), .ref ((rd 15 0)), .ref ((rd 16 0)), .ref ((rd 17 0)), .ref ((rd 18 0)), .ref ((rd 19 0)), .int (nI T.nR), .int (nI 0)] from mm_r0 (T := T) hM2)) (ci := 7) rfl 18 (by decide) mw_1197 rfl dX7_outcome_31 ?_
    refine lv_iload_n (pc := 34) F.1 F.2.1 dX7_outcome_34 rfl (lv_at hl 1 rfl) ?_
    refine mm_aald (pc := 35) F hN ((show σ2 (rd 14 0) = mm_arq 1 6 10 (fun i => if i < 10 then some (rd 14 (i + 1)) else none) from mm_rq14 (T := T) hM2)) rfl rfl (j := k) (rfl) (by omega) (by decide) (if_pos (by omega)) dX7_outcome_35 ?_
    refine lv_iload_n (pc := 36) F.1 F.2.1 dX7_outcome_36 rfl (lv_at hl 2 rfl) ?_
    refine mm_cald (pc := 37) F hN ((show σ2 (rd 14 (k + 1)) = mm_ari 1 3 24 (fun j => nI (T.oc k j)) from mm_rr14 (T := T) hM2 (i := k) (by omega))) (j := i) (rfl) (by omega) (by decide) dX7_outcome_37 ?_
    exact mm_zret (pc := 38) F (ty := .char) hr hN (mm_narC (by omega)) (Or.inl ⟨by show mm_q_outcome T k i = 0; unfold mm_q_outcome; (repeat' split) <;> omega, rfl, hM2, hF2⟩) (Nat.le_of_ble_eq_true rfl) (Nat.le_of_ble_eq_true rfl) dX7_outcome_38
  ·
    refine W.eq (g2 := F0 m 7 ls [.int (nI 0), .ref ((rd 0 0))]) (by rw [if_neg hw9]) ?_
    refine mm_if_eq (pc := 7) F (tgt := 14) (by omega) dX7_outcome_7 (by decide) (fun cz7 => ?_) (fun h9 => absurd h9 (by decide))
    refine lv_iconst (pc := 14) (v := nI 1) F.1 F.2.1 dX7_outcome_14 (by decide) ?_
    refine mm_put (pc := 15) F hN (mm_r0 hM) (ci := 7) rfl 25 (by decide) mw_1204 rfl (ty := .int) (by decide +kernel) (rfl) (rfl) (Nat.le_of_ble_eq_true rfl) dX7_outcome_15 (fun H locs hN => ?_)
    have hN : mm_N b D s (mm_u σ ((rd 0 0)) (mm_obj 1 7 [.ref ((rd 1 0)), .ref ((rd 2 0)), .ref ((rd 3 0)), .int (nI T.nA), .ref ((rd 4 0)), .ref ((rd 5 0)), .ref ((rd 6 0)), .int (nI T.nP), .ref ((rd 7 0)), .ref ((rd 8 0)), .ref ((rd 9 0)), .ref ((rd 10 0)), .ref ((rd 11 0)), .int (nI T.nT), .int (nI T.pa), .ref ((rd 12 0)), .int (nI T.bo), .ref ((rd 13 0)), .ref ((rd 14 0)), .ref ((rd 15 0)), .ref ((rd 16 0)), .ref ((rd 17 0)), .ref ((rd 18 0)), .ref ((rd 19 0)), .int (nI T.nR), .int (nI 1)])) _ _ := hN
    obtain ⟨σ3, eσ3⟩ : ∃ q, q = mm_u σ ((rd 0 0)) (mm_obj 1 7 [.ref ((rd 1 0)), .ref ((rd 2 0)), .ref ((rd 3 0)), .int (nI T.nA), .ref ((rd 4 0)), .ref ((rd 5 0)), .ref ((rd 6 0)), .int (nI T.nP), .ref ((rd 7 0)), .ref ((rd 8 0)), .ref ((rd 9 0)), .ref ((rd 10 0)), .ref ((rd 11 0)), .int (nI T.nT), .int (nI T.pa), .ref ((rd 12 0)), .int (nI T.bo), .ref ((rd 13 0)), .ref ((rd 14 0)), .ref ((rd 15 0)), .ref ((rd 16 0)), .ref ((rd 17 0)), .ref ((rd 18 0)), .ref ((rd 19 0)), .int (nI T.nR), .int (nI 1)]) := ⟨_, rfl⟩
    rw [← eσ3] at hN
    have hM3 : mm_M σ3 T 1 rd := by rw [eσ3]; exact mm_Mo hM (fun _ _ => rfl) rfl
    have hF3 : mm_Fr 1 σ σ3 := by rw [eσ3]; exact (mm_Fr.rf).tr (mm_Fr.u (mm_r0 hM))
    refine lv_aload_n (pc := 18) F.1 F.2.1 dX7_outcome_18 rfl (lv_at hl 0 rfl) ?_
    refine mm_get (pc := 19) F hN ((show σ3 (rd 0 0) = mm_obj 1 7 [.ref ((rd 1 0)), .ref ((rd 2 0)), .ref ((rd 3 0)), .int (nI T.nA), .ref ((rd 4 0)), .ref ((rd 5 0)), .ref ((rd 6 0)), .int (nI T.nP), .ref ((rd 7 0)), .ref ((rd 8 0)), .ref ((rd 9 0)), .ref ((rd 10 0)), .ref ((rd 11 0)), .int (nI T.nT), .int (nI T.pa), .ref ((rd 12 0)), .int (nI T.bo), .ref ((rd 13 0)), .ref ((rd 14 0)), .ref ((rd 15 0)), .ref ((rd 16 0)), .ref ((rd 17 0)), .ref ((rd 18 0)), .ref ((rd 19 0)), .int (nI T.nR), .int (nI 1)] from mm_r0 (T := T) hM3)) (ci := 7) rfl 25 (by decide) mw_1204 rfl dX7_outcome_19 ?_
    refine mm_if_le (pc := 22) F (tgt := 30) (by omega) dX7_outcome_22 (by decide) (fun h9 => absurd h9 (by decide)) (fun cz22 => ?_)
    refine lv_bipush (pc := 25) (v := nI 45) F.1 F.2.1 dX7_outcome_25 (by decide) ?_
    refine lv_goto (pc := 27) (tgt := 38) F.1 F.2.1 dX7_outcome_27 (by decide) ?_
    exact mm_zret (pc := 38) F (ty := .char) hr hN (by decide) (Or.inr ⟨by rw [show mm_q_outcome T k i = 1 from by show mm_q_outcome T k i = 1; unfold mm_q_outcome; (repeat' split) <;> omega]; decide, ⟨_, rfl⟩, by rw [show mm_q_outcome T k i = 1 from by show mm_q_outcome T k i = 1; unfold mm_q_outcome; (repeat' split) <;> omega]; exact hM3, hF3⟩) (Nat.le_of_ble_eq_true rfl) (Nat.le_of_ble_eq_true rfl) dX7_outcome_38

set_option maxHeartbeats 4000000 in
set_option maxRecDepth 100000 in
theorem r_postage (l : Launch) (b : Nat) (D : mm_D) (hst : l.stackTraces = false) (T : mm_T) (th : Nat) (rd : Nat → Nat → Nat) (σ : mm_S) (hM : mm_M σ T th rd) (hW : mm_WF T) (k : Nat) (zk : k < 2 ^ 32) (i : Nat) (zi : i < 2 ^ 32) : mm_K l b D yX7_postage (.code yX7_postage cX7_postage 3 (some .int)) ({ frames := 6, cells := 0, slots := 0, locals := 160 } : Room) [.ref ((rd 0 0)), .int (nI k), .int (nI i)] σ
    (fun v σ2 => mm_Mt rd σ σ2 T (T) (mm_q_postage T k i) v (some (.int (nI (T.ps k i)))))
    (fun _ _ => False) := by
  refine mm_of (cc := cX7_postage) (nL := 3) (ret := (some .int)) (by decide) rfl (Nat.le_of_ble_eq_true rfl) hst ?_
  intro p e s m args below meth c ls F ht hr hin hN hl
  have hl : lv_has ls 3 [(0, .ref ((rd 0 0))), (1, .int (nI k)), (2, .int (nI i))] := hl
  have wnA := hW.hnA
  have wnP := hW.hnP
  have wnT := hW.hnT
  have wnR := hW.hnR
  have wpa := hW.hpa
  have wbo := hW.hbo
  have wen0 := hW.hen 0
  have wen1 := hW.hen 1
  refine lv_aload_n (pc := 0) F.1 F.2.1 dX7_postage_0 rfl (lv_at hl 0 rfl) ?_
  refine lv_iload_n (pc := 1) F.1 F.2.1 dX7_postage_1 rfl (lv_at hl 1 rfl) ?_
  refine lv_iload_n (pc := 2) F.1 F.2.1 dX7_postage_2 rfl (lv_at hl 2 rfl) ?_
  refine mm_runV (pc := 3) (As := [.int (nI k), .int (nI i)]) (rest := []) F hN (c_was l b D hst T th rd σ hM hW k i (by omega) (by omega)) mw_1387 mw_1389 mw_p32 mw_6 mw_1390 ⟨pmX7_wasThere, (Nat.le_of_ble_eq_true rfl), (Nat.le_of_ble_eq_true rfl)⟩ (mm_recv F.2.2.2.2.2.1 hN (mm_r0 hM) rfl) hl.1 rfl (Nat.le_of_ble_eq_true rfl) ⟨(Nat.le_of_ble_eq_true rfl), (Nat.le_of_ble_eq_true rfl)⟩ dX7_postage_3
    (fun _ _ _ _ _ _ h9 => False.elim h9)
    (fun v9 σ9 H locs hp9 hN => ?_)
  obtain ⟨rfl, h9⟩ := hp9
  rw [h9] at hN
  refine W.eq (g2 := F0 m 6 ls [.int (nI (if k < T.nR ∧ i < T.rp k then 1 else 0))]) rfl ?_
  refine W.widen (k := 0) (n := 0) (Nat.le_of_ble_eq_true rfl) (Nat.le_of_ble_eq_true rfl) ?_
  by_cases hw9 : k < T.nR ∧ i < T.rp k
  ·
    refine W.eq (g2 := F0 m 6 ls [.int (nI 1)]) (by rw [if_pos hw9]) ?_
    obtain ⟨hwk, hwi⟩ := hw9
    obtain ⟨wr1, wr2, wr3, wr4⟩ := hW.hru k hwk
    obtain ⟨wp1, wp2, wp3, wp4, wp5, wp6, wp7⟩ := wr4 i hwi
    obtain ⟨who, wfl, wre⟩ := hW.hpe i (by omega)
    refine mm_if_ne (pc := 6) F (tgt := 15) (by omega) dX7_postage_6 (by decide) (fun cz6 => ?_) (fun h9 => absurd h9 (by decide))
    refine lv_aload_n (pc := 15) F.1 F.2.1 dX7_postage_15 rfl (lv_at hl 0 rfl) ?_
    refine lv_aload_n (pc := 16) F.1 F.2.1 dX7_postage_16 rfl (lv_at hl 0 rfl) ?_
    refine lv_iload_n (pc := 17) F.1 F.2.1 dX7_postage_17 rfl (lv_at hl 1 rfl) ?_
    refine lv_iload_n (pc := 18) F.1 F.2.1 dX7_postage_18 rfl (lv_at hl 2 rfl) ?_
    refine mm_runV (pc := 19) (As := [.int (nI k), .int (nI i)]) (rest := [.ref ((rd 0 0))]) F hN (c_isLett l b D hst T th rd σ hM hW k i (by omega) (by omega)) mw_1411 mw_1413 mw_p35 mw_6 mw_1414 ⟨pmX7_isLetter, (Nat.le_of_ble_eq_true rfl), (Nat.le_of_ble_eq_true rfl)⟩ (mm_recv F.2.2.2.2.2.1 hN (mm_r0 hM) rfl) hl.1 rfl (Nat.le_of_ble_eq_true rfl) ⟨(Nat.le_of_ble_eq_true rfl), (Nat.le_of_ble_eq_true rfl)⟩ dX7_postage_19
      (fun _ _ _ _ _ _ h9 => False.elim h9)
      (fun v9 σ9 H locs hp9 hN => ?_)
    obtain ⟨rfl, h9⟩ := hp9
    rw [h9] at hN
    refine W.eq (g2 := F0 m 22 ls [.int (nI (if T.oc k i = 108 then 1 else 0)), .ref ((rd 0 0))]) rfl ?_
    refine W.widen (k := 0) (n := 0) (Nat.le_of_ble_eq_true rfl) (Nat.le_of_ble_eq_true rfl) ?_
    by_cases hl9 : T.oc k i = 108
    ·
      refine W.eq (g2 := F0 m 22 ls [.int (nI 1), .ref ((rd 0 0))]) (by rw [if_pos hl9]) ?_
      refine mm_if_eq (pc := 22) F (tgt := 29) (by omega) dX7_postage_22 (by decide) (fun h9 => absurd h9 (by decide)) (fun cz22 => ?_)
      refine lv_iconst (pc := 25) (v := nI 0) F.1 F.2.1 dX7_postage_25 (by decide) ?_
      refine lv_goto (pc := 26) (tgt := 30) F.1 F.2.1 dX7_postage_26 (by decide) ?_
      refine mm_put (pc := 30) F hN (mm_r0 hM) (ci := 7) rfl 25 (by decide) mw_1204 rfl (ty := .int) (by decide +kernel) (rfl) (rfl) (Nat.le_of_ble_eq_true rfl) dX7_postage_30 (fun H locs hN => ?_)
      have hN : mm_N b D s (mm_u σ ((rd 0 0)) (mm_obj 1 7 [.ref ((rd 1 0)), .ref ((rd 2 0)), .ref ((rd 3 0)), .int (nI T.nA), .ref ((rd 4 0)), .ref ((rd 5 0)), .ref ((rd 6 0)), .int (nI T.nP), .ref ((rd 7 0)), .ref ((rd 8 0)), .ref ((rd 9 0)), .ref ((rd 10 0)), .ref ((rd 11 0)), .int (nI T.nT), .int (nI T.pa), .ref ((rd 12 0)), .int (nI T.bo), .ref ((rd 13 0)), .ref ((rd 14 0)), .ref ((rd 15 0)), .ref ((rd 16 0)), .ref ((rd 17 0)), .ref ((rd 18 0)), .ref ((rd 19 0)), .int (nI T.nR), .int (nI 0)])) _ _ := hN
      obtain ⟨σ2, eσ2⟩ : ∃ q, q = mm_u σ ((rd 0 0)) (mm_obj 1 7 [.ref ((rd 1 0)), .ref ((rd 2 0)), .ref ((rd 3 0)), .int (nI T.nA), .ref ((rd 4 0)), .ref ((rd 5 0)), .ref ((rd 6 0)), .int (nI T.nP), .ref ((rd 7 0)), .ref ((rd 8 0)), .ref ((rd 9 0)), .ref ((rd 10 0)), .ref ((rd 11 0)), .int (nI T.nT), .int (nI T.pa), .ref ((rd 12 0)), .int (nI T.bo), .ref ((rd 13 0)), .ref ((rd 14 0)), .ref ((rd 15 0)), .ref ((rd 16 0)), .ref ((rd 17 0)), .ref ((rd 18 0)), .ref ((rd 19 0)), .int (nI T.nR), .int (nI 0)]) := ⟨_, rfl⟩
      rw [← eσ2] at hN
      have hM2 : mm_M σ2 T 0 rd := by rw [eσ2]; exact mm_Mo hM (fun _ _ => rfl) rfl
      have hF2 : mm_Fr 1 σ σ2 := by rw [eσ2]; exact (mm_Fr.rf).tr (mm_Fr.u (mm_r0 hM))
      refine lv_aload_n (pc := 33) F.1 F.2.1 dX7_postage_33 rfl (lv_at hl 0 rfl) ?_
      refine mm_get (pc := 34) F hN ((show σ2 (rd 0 0) = mm_obj 1 7 [.ref ((rd 1 0)), .ref ((rd 2 0)), .ref ((rd 3 0)), .int (nI T.nA), .ref ((rd 4 0)), .ref ((rd 5 0)), .ref ((rd 6 0)), .int (nI T.nP), .ref ((rd 7 0)), .ref ((rd 8 0)), .ref ((rd 9 0)), .ref ((rd 10 0)), .ref ((rd 11 0)), .int (nI T.nT), .int (nI T.pa), .ref ((rd 12 0)), .int (nI T.bo), .ref ((rd 13 0)), .ref ((rd 14 0)), .ref ((rd 15 0)), .ref ((rd 16 0)), .ref ((rd 17 0)), .ref ((rd 18 0)), .ref ((rd 19 0)), .int (nI T.nR), .int (nI 0)] from mm_r0 (T := T) hM2)) (ci := 7) rfl 25 (by decide) mw_1204 rfl dX7_postage_34 ?_
      refine mm_if_le (pc := 37) F (tgt := 44) (by omega) dX7_postage_37 (by decide) (fun cz37 => ?_) (fun h9 => absurd h9 (by decide))
      refine lv_aload_n (pc := 44) F.1 F.2.1 dX7_postage_44 rfl (lv_at hl 0 rfl) ?_
      refine mm_get (pc := 45) F hN ((show σ2 (rd 0 0) = mm_obj 1 7 [.ref ((rd 1 0)), .ref ((rd 2 0)), .ref ((rd 3 0)), .int (nI T.nA), .ref ((rd 4 0)), .ref ((rd 5 0)), .ref ((rd 6 0)), .int (nI T.nP), .ref ((rd 7 0)), .ref ((rd 8 0)), .ref ((rd 9 0)), .ref ((rd 10 0)), .ref ((rd 11 0)), .int (nI T.nT), .int (nI T.pa), .ref ((rd 12 0)), .int (nI T.bo), .ref ((rd 13 0)), .ref ((rd 14 0)), .ref ((rd 15 0)), .ref ((rd 16 0)), .ref ((rd 17 0)), .ref ((rd 18 0)), .ref ((rd 19 0)), .int (nI T.nR), .int (nI 0)] from mm_r0 (T := T) hM2)) (ci := 7) rfl 22 (by decide) mw_1201 rfl dX7_postage_45 ?_
      refine lv_iload_n (pc := 48) F.1 F.2.1 dX7_postage_48 rfl (lv_at hl 1 rfl) ?_
      refine mm_aald (pc := 49) F hN ((show σ2 (rd 18 0) = mm_arq 1 5 10 (fun i => if i < 10 then some (rd 18 (i + 1)) else none) from mm_rq18 (T := T) hM2)) rfl rfl (j := k) (rfl) (by omega) (by decide) (if_pos (by omega)) dX7_postage_49 ?_
      refine lv_iload_n (pc := 50) F.1 F.2.1 dX7_postage_50 rfl (lv_at hl 2 rfl) ?_
      refine mm_iald (pc := 51) F hN ((show σ2 (rd 18 (k + 1)) = mm_ari 1 0 24 (fun j => nI (T.ps k j)) from mm_rr18 (T := T) hM2 (i := k) (by omega))) (j := i) (rfl) (by omega) (by decide) dX7_postage_51 ?_
      exact mm_iret (pc := 52) F hr hN (Or.inl ⟨by show mm_q_postage T k i = 0; unfold mm_q_postage; (repeat' split) <;> omega, rfl, hM2, hF2⟩) (Nat.le_of_ble_eq_true rfl) (Nat.le_of_ble_eq_true rfl) dX7_postage_52
    ·
      refine W.eq (g2 := F0 m 22 ls [.int (nI 0), .ref ((rd 0 0))]) (by rw [if_neg hl9]) ?_
      refine mm_if_eq (pc := 22) F (tgt := 29) (by omega) dX7_postage_22 (by decide) (fun cz22 => ?_) (fun h9 => absurd h9 (by decide))
      refine lv_iconst (pc := 29) (v := nI 2) F.1 F.2.1 dX7_postage_29 (by decide) ?_
      refine mm_put (pc := 30) F hN (mm_r0 hM) (ci := 7) rfl 25 (by decide) mw_1204 rfl (ty := .int) (by decide +kernel) (rfl) (rfl) (Nat.le_of_ble_eq_true rfl) dX7_postage_30 (fun H locs hN => ?_)
      have hN : mm_N b D s (mm_u σ ((rd 0 0)) (mm_obj 1 7 [.ref ((rd 1 0)), .ref ((rd 2 0)), .ref ((rd 3 0)), .int (nI T.nA), .ref ((rd 4 0)), .ref ((rd 5 0)), .ref ((rd 6 0)), .int (nI T.nP), .ref ((rd 7 0)), .ref ((rd 8 0)), .ref ((rd 9 0)), .ref ((rd 10 0)), .ref ((rd 11 0)), .int (nI T.nT), .int (nI T.pa), .ref ((rd 12 0)), .int (nI T.bo), .ref ((rd 13 0)), .ref ((rd 14 0)), .ref ((rd 15 0)), .ref ((rd 16 0)), .ref ((rd 17 0)), .ref ((rd 18 0)), .ref ((rd 19 0)), .int (nI T.nR), .int (nI 2)])) _ _ := hN
      obtain ⟨σ3, eσ3⟩ : ∃ q, q = mm_u σ ((rd 0 0)) (mm_obj 1 7 [.ref ((rd 1 0)), .ref ((rd 2 0)), .ref ((rd 3 0)), .int (nI T.nA), .ref ((rd 4 0)), .ref ((rd 5 0)), .ref ((rd 6 0)), .int (nI T.nP), .ref ((rd 7 0)), .ref ((rd 8 0)), .ref ((rd 9 0)), .ref ((rd 10 0)), .ref ((rd 11 0)), .int (nI T.nT), .int (nI T.pa), .ref ((rd 12 0)), .int (nI T.bo), .ref ((rd 13 0)), .ref ((rd 14 0)), .ref ((rd 15 0)), .ref ((rd 16 0)), .ref ((rd 17 0)), .ref ((rd 18 0)), .ref ((rd 19 0)), .int (nI T.nR), .int (nI 2)]) := ⟨_, rfl⟩
      rw [← eσ3] at hN
      have hM3 : mm_M σ3 T 2 rd := by rw [eσ3]; exact mm_Mo hM (fun _ _ => rfl) rfl
      have hF3 : mm_Fr 1 σ σ3 := by rw [eσ3]; exact (mm_Fr.rf).tr (mm_Fr.u (mm_r0 hM))
      refine lv_aload_n (pc := 33) F.1 F.2.1 dX7_postage_33 rfl (lv_at hl 0 rfl) ?_
      refine mm_get (pc := 34) F hN ((show σ3 (rd 0 0) = mm_obj 1 7 [.ref ((rd 1 0)), .ref ((rd 2 0)), .ref ((rd 3 0)), .int (nI T.nA), .ref ((rd 4 0)), .ref ((rd 5 0)), .ref ((rd 6 0)), .int (nI T.nP), .ref ((rd 7 0)), .ref ((rd 8 0)), .ref ((rd 9 0)), .ref ((rd 10 0)), .ref ((rd 11 0)), .int (nI T.nT), .int (nI T.pa), .ref ((rd 12 0)), .int (nI T.bo), .ref ((rd 13 0)), .ref ((rd 14 0)), .ref ((rd 15 0)), .ref ((rd 16 0)), .ref ((rd 17 0)), .ref ((rd 18 0)), .ref ((rd 19 0)), .int (nI T.nR), .int (nI 2)] from mm_r0 (T := T) hM3)) (ci := 7) rfl 25 (by decide) mw_1204 rfl dX7_postage_34 ?_
      refine mm_if_le (pc := 37) F (tgt := 44) (by omega) dX7_postage_37 (by decide) (fun h9 => absurd h9 (by decide)) (fun cz37 => ?_)
      refine lv_iconst (pc := 40) (v := nI 0) F.1 F.2.1 dX7_postage_40 (by decide) ?_
      refine lv_goto (pc := 41) (tgt := 52) F.1 F.2.1 dX7_postage_41 (by decide) ?_
      exact mm_iret (pc := 52) F hr hN (Or.inr ⟨by rw [show mm_q_postage T k i = 2 from by show mm_q_postage T k i = 2; unfold mm_q_postage; (repeat' split) <;> omega]; decide, ⟨_, rfl⟩, by rw [show mm_q_postage T k i = 2 from by show mm_q_postage T k i = 2; unfold mm_q_postage; (repeat' split) <;> omega]; exact hM3, hF3⟩) (Nat.le_of_ble_eq_true rfl) (Nat.le_of_ble_eq_true rfl) dX7_postage_52
  ·
    refine W.eq (g2 := F0 m 6 ls [.int (nI 0)]) (by rw [if_neg hw9]) ?_
    refine mm_if_ne (pc := 6) F (tgt := 15) (by omega) dX7_postage_6 (by decide) (fun h9 => absurd h9 (by decide)) (fun cz6 => ?_)
    refine lv_aload_n (pc := 9) F.1 F.2.1 dX7_postage_9 rfl (lv_at hl 0 rfl) ?_
    refine lv_iconst (pc := 10) (v := nI 1) F.1 F.2.1 dX7_postage_10 (by decide) ?_
    refine mm_runV (pc := 11) (As := [.int (nI 1)]) (rest := []) F hN (r_raises l b D hst T th rd σ hM 1) mw_1399 mw_1401 mw_p34 mw_6 mw_1402 ⟨pmX7_raises, (Nat.le_of_ble_eq_true rfl), (Nat.le_of_ble_eq_true rfl)⟩ (mm_recv F.2.2.2.2.2.1 hN (mm_r0 hM) rfl) hl.1 rfl (Nat.le_of_ble_eq_true rfl) ⟨(Nat.le_of_ble_eq_true rfl), (Nat.le_of_ble_eq_true rfl)⟩ dX7_postage_11
      (fun _ _ _ _ _ _ h9 => False.elim h9)
      (fun v9 σ4 H locs hp9 hN => ?_)
    obtain ⟨rfl, hM4, hF4⟩ := hp9
    refine W.eq (g2 := F0 m 14 ls [.int (nI 0)]) rfl ?_
    refine W.widen (k := 0) (n := 0) (Nat.le_of_ble_eq_true rfl) (Nat.le_of_ble_eq_true rfl) ?_
    exact mm_iret (pc := 14) F hr hN (Or.inr ⟨by rw [show mm_q_postage T k i = 1 from by show mm_q_postage T k i = 1; unfold mm_q_postage; (repeat' split) <;> omega]; decide, ⟨_, rfl⟩, by rw [show mm_q_postage T k i = 1 from by show mm_q_postage T k i = 1; unfold mm_q_postage; (repeat' split) <;> omega]; exact hM4, ((mm_Fr.rf).tr hF4)⟩) (Nat.le_of_ble_eq_true rfl) (Nat.le_of_ble_eq_true rfl) dX7_postage_14

set_option maxHeartbeats 4000000 in
set_option maxRecDepth 100000 in
theorem r_letters (l : Launch) (b : Nat) (D : mm_D) (hst : l.stackTraces = false) (T : mm_T) (th : Nat) (rd : Nat → Nat → Nat) (σ : mm_S) (hM : mm_M σ T th rd) (hW : mm_WF T) (k : Nat) (zk : k < 2 ^ 32) : mm_K l b D yX7_letters (.code yX7_letters cX7_letters 4 (some .int)) ({ frames := 6, cells := 0, slots := 0, locals := 160 } : Room) [.ref ((rd 0 0)), .int (nI k)] σ
    (fun v σ2 => mm_Mt rd σ σ2 T (T) (mm_q_letters T k) v (some (.int (nI (mm_sm (fun p => if T.oc k p = 108 then 1 else 0) (T.rp k))))))
    (fun _ _ => False) := by
  refine mm_of (cc := cX7_letters) (nL := 4) (ret := (some .int)) (by decide) rfl (Nat.le_of_ble_eq_true rfl) hst ?_
  intro p e s m args below meth c ls F ht hr hin hN hl
  have hl : lv_has ls 4 [(0, .ref ((rd 0 0))), (1, .int (nI k))] := hl
  have wnA := hW.hnA
  have wnP := hW.hnP
  have wnT := hW.hnT
  have wnR := hW.hnR
  have wpa := hW.hpa
  have wbo := hW.hbo
  have wen0 := hW.hen 0
  have wen1 := hW.hen 1
  refine lv_aload_n (pc := 0) F.1 F.2.1 dX7_letters_0 rfl (lv_at hl 0 rfl) ?_
  refine lv_aload_n (pc := 1) F.1 F.2.1 dX7_letters_1 rfl (lv_at hl 0 rfl) ?_
  refine lv_iload_n (pc := 2) F.1 F.2.1 dX7_letters_2 rfl (lv_at hl 1 rfl) ?_
  refine mm_runV (pc := 3) (As := [.int (nI k)]) (rest := [.ref ((rd 0 0))]) F hN (c_isRun l b D hst T th rd σ hM hW k (by omega)) mw_1391 mw_1393 mw_p33 mw_6 mw_1394 ⟨pmX7_isRun, (Nat.le_of_ble_eq_true rfl), (Nat.le_of_ble_eq_true rfl)⟩ (mm_recv F.2.2.2.2.2.1 hN (mm_r0 hM) rfl) hl.1 rfl (Nat.le_of_ble_eq_true rfl) ⟨(Nat.le_of_ble_eq_true rfl), (Nat.le_of_ble_eq_true rfl)⟩ dX7_letters_3
    (fun _ _ _ _ _ _ h9 => False.elim h9)
    (fun v9 σ9 H locs hp9 hN => ?_)
  obtain ⟨rfl, h9⟩ := hp9
  rw [h9] at hN
  refine W.eq (g2 := F0 m 6 ls [.int (nI (if k < T.nR then 1 else 0)), .ref ((rd 0 0))]) rfl ?_
  refine W.widen (k := 0) (n := 0) (Nat.le_of_ble_eq_true rfl) (Nat.le_of_ble_eq_true rfl) ?_
  by_cases hrk : k < T.nR
  ·
    refine W.eq (g2 := F0 m 6 ls [.int (nI 1), .ref ((rd 0 0))]) (by rw [if_pos hrk]) ?_
    obtain ⟨wr1k, wr2k, wr3k, wr4k⟩ := hW.hru k hrk
    refine mm_if_eq (pc := 6) F (tgt := 13) (by omega) dX7_letters_6 (by decide) (fun h9 => absurd h9 (by decide)) (fun cz6 => ?_)
    refine lv_iconst (pc := 9) (v := nI 0) F.1 F.2.1 dX7_letters_9 (by decide) ?_
    refine lv_goto (pc := 10) (tgt := 14) F.1 F.2.1 dX7_letters_10 (by decide) ?_
    refine mm_put (pc := 14) F hN (mm_r0 hM) (ci := 7) rfl 25 (by decide) mw_1204 rfl (ty := .int) (by decide +kernel) (rfl) (rfl) (Nat.le_of_ble_eq_true rfl) dX7_letters_14 (fun H locs hN => ?_)
    have hN : mm_N b D s (mm_u σ ((rd 0 0)) (mm_obj 1 7 [.ref ((rd 1 0)), .ref ((rd 2 0)), .ref ((rd 3 0)), .int (nI T.nA), .ref ((rd 4 0)), .ref ((rd 5 0)), .ref ((rd 6 0)), .int (nI T.nP), .ref ((rd 7 0)), .ref ((rd 8 0)), .ref ((rd 9 0)), .ref ((rd 10 0)), .ref ((rd 11 0)), .int (nI T.nT), .int (nI T.pa), .ref ((rd 12 0)), .int (nI T.bo), .ref ((rd 13 0)), .ref ((rd 14 0)), .ref ((rd 15 0)), .ref ((rd 16 0)), .ref ((rd 17 0)), .ref ((rd 18 0)), .ref ((rd 19 0)), .int (nI T.nR), .int (nI 0)])) _ _ := hN
    obtain ⟨σ2, eσ2⟩ : ∃ q, q = mm_u σ ((rd 0 0)) (mm_obj 1 7 [.ref ((rd 1 0)), .ref ((rd 2 0)), .ref ((rd 3 0)), .int (nI T.nA), .ref ((rd 4 0)), .ref ((rd 5 0)), .ref ((rd 6 0)), .int (nI T.nP), .ref ((rd 7 0)), .ref ((rd 8 0)), .ref ((rd 9 0)), .ref ((rd 10 0)), .ref ((rd 11 0)), .int (nI T.nT), .int (nI T.pa), .ref ((rd 12 0)), .int (nI T.bo), .ref ((rd 13 0)), .ref ((rd 14 0)), .ref ((rd 15 0)), .ref ((rd 16 0)), .ref ((rd 17 0)), .ref ((rd 18 0)), .ref ((rd 19 0)), .int (nI T.nR), .int (nI 0)]) := ⟨_, rfl⟩
    rw [← eσ2] at hN
    have hM2 : mm_M σ2 T 0 rd := by rw [eσ2]; exact mm_Mo hM (fun _ _ => rfl) rfl
    have hF2 : mm_Fr 1 σ σ2 := by rw [eσ2]; exact (mm_Fr.rf).tr (mm_Fr.u (mm_r0 hM))
    refine lv_iconst (pc := 17) (v := nI 0) F.1 F.2.1 dX7_letters_17 (by decide) ?_
    refine lv_istore_n (pc := 18) (lv' := [(2, .int (nI 0)), (0, .ref ((rd 0 0))), (1, .int (nI k))]) F.1 F.2.1 dX7_letters_18 rfl hl (by decide) rfl (fun ls hl => ?_)
    refine lv_iconst (pc := 19) (v := nI 0) F.1 F.2.1 dX7_letters_19 (by decide) ?_
    refine lv_istore_n (pc := 20) (lv' := [(3, .int (nI 0)), (2, .int (nI 0)), (0, .ref ((rd 0 0))), (1, .int (nI k))]) F.1 F.2.1 dX7_letters_20 rfl hl (by decide) rfl (fun ls hl => ?_)
    obtain ⟨wr1, wr2, wr3, wr4⟩ := hW.hru k hrk
    have lp21 : ∀ (k21 u : Nat) (ls : Array Slot) (H : Heap) (locs : List Loc), T.rp k < u + k21 → u ≤ T.rp k → mm_N b D s σ2 H locs → lv_has ls 4 [(0, .ref ((rd 0 0))), (1, .int (nI k)), (2, .int (nI (mm_sm (fun p => if T.oc k p = 108 then 1 else 0) u))), (3, .int (nI u))] →
        W p l e ({ frames := 6, cells := 0, slots := 0, locals := 160 } : Room) s m args below meth c H locs (0) (0) (mm_Q b D (fun v σ2 => mm_Mt rd σ σ2 T (T) (mm_q_letters T k) v (some (.int (nI (mm_sm (fun p => if T.oc k p = 108 then 1 else 0) (T.rp k)))))) (fun _ _ => False) below args s ({ frames := 6, cells := 0, slots := 0, locals := 160 } : Room)) (F0 m 21 ls []) := by
      intro k21
      induction k21 with
      | zero => intro u  ls H locs hk21 hi21  hN hl; omega
      | succ k21 ih21 =>
        intro u  ls H locs hk21 hi21  hN hl
        refine lv_aload_n (pc := 21) F.1 F.2.1 dX7_letters_21 rfl (lv_at hl 0 rfl) ?_
        refine mm_get (pc := 22) F hN ((show σ2 (rd 0 0) = mm_obj 1 7 [.ref ((rd 1 0)), .ref ((rd 2 0)), .ref ((rd 3 0)), .int (nI T.nA), .ref ((rd 4 0)), .ref ((rd 5 0)), .ref ((rd 6 0)), .int (nI T.nP), .ref ((rd 7 0)), .ref ((rd 8 0)), .ref ((rd 9 0)), .ref ((rd 10 0)), .ref ((rd 11 0)), .int (nI T.nT), .int (nI T.pa), .ref ((rd 12 0)), .int (nI T.bo), .ref ((rd 13 0)), .ref ((rd 14 0)), .ref ((rd 15 0)), .ref ((rd 16 0)), .ref ((rd 17 0)), .ref ((rd 18 0)), .ref ((rd 19 0)), .int (nI T.nR), .int (nI 0)] from mm_r0 (T := T) hM2)) (ci := 7) rfl 25 (by decide) mw_1204 rfl dX7_letters_22 ?_
        refine mm_if_ne (pc := 25) F (tgt := 61) (by omega) dX7_letters_25 (by decide) (fun h9 => absurd h9 (by decide)) (fun cz25 => ?_)
        refine lv_iload_n (pc := 28) F.1 F.2.1 dX7_letters_28 rfl (lv_at hl 3 rfl) ?_
        refine lv_aload_n (pc := 29) F.1 F.2.1 dX7_letters_29 rfl (lv_at hl 0 rfl) ?_
        refine mm_get (pc := 30) F hN ((show σ2 (rd 0 0) = mm_obj 1 7 [.ref ((rd 1 0)), .ref ((rd 2 0)), .ref ((rd 3 0)), .int (nI T.nA), .ref ((rd 4 0)), .ref ((rd 5 0)), .ref ((rd 6 0)), .int (nI T.nP), .ref ((rd 7 0)), .ref ((rd 8 0)), .ref ((rd 9 0)), .ref ((rd 10 0)), .ref ((rd 11 0)), .int (nI T.nT), .int (nI T.pa), .ref ((rd 12 0)), .int (nI T.bo), .ref ((rd 13 0)), .ref ((rd 14 0)), .ref ((rd 15 0)), .ref ((rd 16 0)), .ref ((rd 17 0)), .ref ((rd 18 0)), .ref ((rd 19 0)), .int (nI T.nR), .int (nI 0)] from mm_r0 (T := T) hM2)) (ci := 7) rfl 17 (by decide) mw_1196 rfl dX7_letters_30 ?_
        refine lv_iload_n (pc := 33) F.1 F.2.1 dX7_letters_33 rfl (lv_at hl 1 rfl) ?_
        refine mm_iald (pc := 34) F hN ((show σ2 (rd 13 0) = mm_ari 1 0 10 (fun i => nI (T.rp i)) from mm_r13 (T := T) hM2)) (j := k) (rfl) (by omega) (by decide) dX7_letters_34 ?_
        refine mm_icmp_ge (pc := 35) F (x := u) (y := T.rp k) (tgt := 61) (by omega) (by omega) dX7_letters_35 (by decide) (fun cz35 => ?_) (fun cz35 => ?_)
        ·
          refine lv_iload_n (pc := 61) F.1 F.2.1 dX7_letters_61 rfl (lv_at hl 2 rfl) ?_
          exact mm_iret (pc := 62) F hr hN (Or.inl ⟨by show mm_q_letters T k = 0; unfold mm_q_letters; (repeat' split) <;> omega, by rw [show T.rp k = u by omega], hM2, hF2⟩) (Nat.le_of_ble_eq_true rfl) (Nat.le_of_ble_eq_true rfl) dX7_letters_62
        ·
          obtain ⟨wp1, wp2, wp3, wp4, wp5, wp6, wp7⟩ := wr4 u (by omega)
          refine lv_iload_n (pc := 38) F.1 F.2.1 dX7_letters_38 rfl (lv_at hl 2 rfl) ?_
          refine lv_aload_n (pc := 39) F.1 F.2.1 dX7_letters_39 rfl (lv_at hl 0 rfl) ?_
          refine lv_iload_n (pc := 40) F.1 F.2.1 dX7_letters_40 rfl (lv_at hl 1 rfl) ?_
          refine lv_iload_n (pc := 41) F.1 F.2.1 dX7_letters_41 rfl (lv_at hl 3 rfl) ?_
          refine mm_runV (pc := 42) (As := [.int (nI k), .int (nI u)]) (rest := [.int (nI (mm_sm (fun p => if T.oc k p = 108 then 1 else 0) u))]) F hN (c_isLett l b D hst T 0 rd σ2 hM2 hW k u (by omega) (by omega)) mw_1411 mw_1413 mw_p35 mw_6 mw_1414 ⟨pmX7_isLetter, (Nat.le_of_ble_eq_true rfl), (Nat.le_of_ble_eq_true rfl)⟩ (mm_recv F.2.2.2.2.2.1 hN ((show σ2 (rd 0 0) = mm_obj 1 7 [.ref ((rd 1 0)), .ref ((rd 2 0)), .ref ((rd 3 0)), .int (nI T.nA), .ref ((rd 4 0)), .ref ((rd 5 0)), .ref ((rd 6 0)), .int (nI T.nP), .ref ((rd 7 0)), .ref ((rd 8 0)), .ref ((rd 9 0)), .ref ((rd 10 0)), .ref ((rd 11 0)), .int (nI T.nT), .int (nI T.pa), .ref ((rd 12 0)), .int (nI T.bo), .ref ((rd 13 0)), .ref ((rd 14 0)), .ref ((rd 15 0)), .ref ((rd 16 0)), .ref ((rd 17 0)), .ref ((rd 18 0)), .ref ((rd 19 0)), .int (nI T.nR), .int (nI 0)] from mm_r0 (T := T) hM2)) rfl) hl.1 rfl (Nat.le_of_ble_eq_true rfl) ⟨(Nat.le_of_ble_eq_true rfl), (Nat.le_of_ble_eq_true rfl)⟩ dX7_letters_42
            (fun _ _ _ _ _ _ h9 => False.elim h9)
            (fun v9 σ9 H locs hp9 hN => ?_)
          obtain ⟨rfl, h9⟩ := hp9
          rw [h9] at hN
          refine W.eq (g2 := F0 m 45 ls [.int (nI (if T.oc k u = 108 then 1 else 0)), .int (nI (mm_sm (fun p => if T.oc k p = 108 then 1 else 0) u))]) rfl ?_
          refine W.widen (k := 0) (n := 0) (Nat.le_of_ble_eq_true rfl) (Nat.le_of_ble_eq_true rfl) ?_
          by_cases hl9 : T.oc k u = 108
          ·
            refine W.eq (g2 := F0 m 45 ls [.int (nI 1), .int (nI (mm_sm (fun p => if T.oc k p = 108 then 1 else 0) u))]) (by rw [if_pos hl9]) ?_
            refine mm_if_eq (pc := 45) F (tgt := 52) (by omega) dX7_letters_45 (by decide) (fun h9 => absurd h9 (by decide)) (fun cz45 => ?_)
            refine lv_iconst (pc := 48) (v := nI 1) F.1 F.2.1 dX7_letters_48 (by decide) ?_
            refine lv_goto (pc := 49) (tgt := 53) F.1 F.2.1 dX7_letters_49 (by decide) ?_
            refine mm_iadd (pc := 53) F (z := nI ((mm_sm (fun p => if T.oc k p = 108 then 1 else 0) u) + 1)) (nI_add _ _) dX7_letters_53 ?_
            refine W.eq (g2 := F0 m 54 ls [.int (nI (mm_sm (fun p => if T.oc k p = 108 then 1 else 0) (u + 1)))]) (congrArg (fun q => F0 m 54 ls [Value.int (nI q)]) (congrArg (mm_sm (fun p => if T.oc k p = 108 then 1 else 0) u + ·) (if_pos hl9).symm)) ?_
            refine lv_istore_n (pc := 54) (lv' := [(2, .int (nI (mm_sm (fun p => if T.oc k p = 108 then 1 else 0) (u + 1)))), (0, .ref ((rd 0 0))), (1, .int (nI k)), (3, .int (nI u))]) F.1 F.2.1 dX7_letters_54 rfl hl (by decide) rfl (fun ls hl => ?_)
            refine lv_iinc (pc := 55) (v := nI (u + 1)) (lv' := [(3, .int (nI (u + 1))), (2, .int (nI (mm_sm (fun p => if T.oc k p = 108 then 1 else 0) (u + 1)))), (0, .ref ((rd 0 0))), (1, .int (nI k))]) F.1 F.2.1 dX7_letters_55 hl (k := 3) rfl (by rw [← nI_add]; rfl) (by decide) rfl (fun ls hl => ?_)
            refine lv_goto (pc := 58) (tgt := 21) F.1 F.2.1 dX7_letters_58 (by decide) ?_
            exact ih21 (u + 1) ls _ _ (by omega) (by omega) hN (lv_sub hl [2, 3, 1, 0] rfl)
          ·
            refine W.eq (g2 := F0 m 45 ls [.int (nI 0), .int (nI (mm_sm (fun p => if T.oc k p = 108 then 1 else 0) u))]) (by rw [if_neg hl9]) ?_
            refine mm_if_eq (pc := 45) F (tgt := 52) (by omega) dX7_letters_45 (by decide) (fun cz45 => ?_) (fun h9 => absurd h9 (by decide))
            refine lv_iconst (pc := 52) (v := nI 0) F.1 F.2.1 dX7_letters_52 (by decide) ?_
            refine mm_iadd (pc := 53) F (z := nI ((mm_sm (fun p => if T.oc k p = 108 then 1 else 0) u) + 0)) (nI_add _ _) dX7_letters_53 ?_
            refine W.eq (g2 := F0 m 54 ls [.int (nI (mm_sm (fun p => if T.oc k p = 108 then 1 else 0) (u + 1)))]) (congrArg (fun q => F0 m 54 ls [Value.int (nI q)]) (congrArg (mm_sm (fun p => if T.oc k p = 108 then 1 else 0) u + ·) (if_neg hl9).symm)) ?_
            refine lv_istore_n (pc := 54) (lv' := [(2, .int (nI (mm_sm (fun p => if T.oc k p = 108 then 1 else 0) (u + 1)))), (0, .ref ((rd 0 0))), (1, .int (nI k)), (3, .int (nI u))]) F.1 F.2.1 dX7_letters_54 rfl hl (by decide) rfl (fun ls hl => ?_)
            refine lv_iinc (pc := 55) (v := nI (u + 1)) (lv' := [(3, .int (nI (u + 1))), (2, .int (nI (mm_sm (fun p => if T.oc k p = 108 then 1 else 0) (u + 1)))), (0, .ref ((rd 0 0))), (1, .int (nI k))]) F.1 F.2.1 dX7_letters_55 hl (k := 3) rfl (by rw [← nI_add]; rfl) (by decide) rfl (fun ls hl => ?_)
            refine lv_goto (pc := 58) (tgt := 21) F.1 F.2.1 dX7_letters_58 (by decide) ?_
            exact ih21 (u + 1) ls _ _ (by omega) (by omega) hN (lv_sub hl [2, 3, 1, 0] rfl)
    exact lp21 ((T.rp k) + 1) 0 ls _ _ (by omega) (by omega) hN (lv_sub hl [2, 3, 1, 0] rfl)
  ·
    refine W.eq (g2 := F0 m 6 ls [.int (nI 0), .ref ((rd 0 0))]) (by rw [if_neg hrk]) ?_
    refine mm_if_eq (pc := 6) F (tgt := 13) (by omega) dX7_letters_6 (by decide) (fun cz6 => ?_) (fun h9 => absurd h9 (by decide))
    refine lv_iconst (pc := 13) (v := nI 1) F.1 F.2.1 dX7_letters_13 (by decide) ?_
    refine mm_put (pc := 14) F hN (mm_r0 hM) (ci := 7) rfl 25 (by decide) mw_1204 rfl (ty := .int) (by decide +kernel) (rfl) (rfl) (Nat.le_of_ble_eq_true rfl) dX7_letters_14 (fun H locs hN => ?_)
    have hN : mm_N b D s (mm_u σ ((rd 0 0)) (mm_obj 1 7 [.ref ((rd 1 0)), .ref ((rd 2 0)), .ref ((rd 3 0)), .int (nI T.nA), .ref ((rd 4 0)), .ref ((rd 5 0)), .ref ((rd 6 0)), .int (nI T.nP), .ref ((rd 7 0)), .ref ((rd 8 0)), .ref ((rd 9 0)), .ref ((rd 10 0)), .ref ((rd 11 0)), .int (nI T.nT), .int (nI T.pa), .ref ((rd 12 0)), .int (nI T.bo), .ref ((rd 13 0)), .ref ((rd 14 0)), .ref ((rd 15 0)), .ref ((rd 16 0)), .ref ((rd 17 0)), .ref ((rd 18 0)), .ref ((rd 19 0)), .int (nI T.nR), .int (nI 1)])) _ _ := hN
    obtain ⟨σ3, eσ3⟩ : ∃ q, q = mm_u σ ((rd 0 0)) (mm_obj 1 7 [.ref ((rd 1 0)), .ref ((rd 2 0)), .ref ((rd 3 0)), .int (nI T.nA), .ref ((rd 4 0)), .ref ((rd 5 0)), .ref ((rd 6 0)), .int (nI T.nP), .ref ((rd 7 0)), .ref ((rd 8 0)), .ref ((rd 9 0)), .ref ((rd 10 0)), .ref ((rd 11 0)), .int (nI T.nT), .int (nI T.pa), .ref ((rd 12 0)), .int (nI T.bo), .ref ((rd 13 0)), .ref ((rd 14 0)), .ref ((rd 15 0)), .ref ((rd 16 0)), .ref ((rd 17 0)), .ref ((rd 18 0)), .ref ((rd 19 0)), .int (nI T.nR), .int (nI 1)]) := ⟨_, rfl⟩
    rw [← eσ3] at hN
    have hM3 : mm_M σ3 T 1 rd := by rw [eσ3]; exact mm_Mo hM (fun _ _ => rfl) rfl
    have hF3 : mm_Fr 1 σ σ3 := by rw [eσ3]; exact (mm_Fr.rf).tr (mm_Fr.u (mm_r0 hM))
    refine lv_iconst (pc := 17) (v := nI 0) F.1 F.2.1 dX7_letters_17 (by decide) ?_
    refine lv_istore_n (pc := 18) (lv' := [(2, .int (nI 0)), (0, .ref ((rd 0 0))), (1, .int (nI k))]) F.1 F.2.1 dX7_letters_18 rfl hl (by decide) rfl (fun ls hl => ?_)
    refine lv_iconst (pc := 19) (v := nI 0) F.1 F.2.1 dX7_letters_19 (by decide) ?_
    refine lv_istore_n (pc := 20) (lv' := [(3, .int (nI 0)), (2, .int (nI 0)), (0, .ref ((rd 0 0))), (1, .int (nI k))]) F.1 F.2.1 dX7_letters_20 rfl hl (by decide) rfl (fun ls hl => ?_)
    refine lv_aload_n (pc := 21) F.1 F.2.1 dX7_letters_21 rfl (lv_at hl 2 rfl) ?_
    refine mm_get (pc := 22) F hN ((show σ3 (rd 0 0) = mm_obj 1 7 [.ref ((rd 1 0)), .ref ((rd 2 0)), .ref ((rd 3 0)), .int (nI T.nA), .ref ((rd 4 0)), .ref ((rd 5 0)), .ref ((rd 6 0)), .int (nI T.nP), .ref ((rd 7 0)), .ref ((rd 8 0)), .ref ((rd 9 0)), .ref ((rd 10 0)), .ref ((rd 11 0)), .int (nI T.nT), .int (nI T.pa), .ref ((rd 12 0)), .int (nI T.bo), .ref ((rd 13 0)), .ref ((rd 14 0)), .ref ((rd 15 0)), .ref ((rd 16 0)), .ref ((rd 17 0)), .ref ((rd 18 0)), .ref ((rd 19 0)), .int (nI T.nR), .int (nI 1)] from mm_r0 (T := T) hM3)) (ci := 7) rfl 25 (by decide) mw_1204 rfl dX7_letters_22 ?_
    refine mm_if_ne (pc := 25) F (tgt := 61) (by omega) dX7_letters_25 (by decide) (fun cz25 => ?_) (fun h9 => absurd h9 (by decide))
    refine lv_iload_n (pc := 61) F.1 F.2.1 dX7_letters_61 rfl (lv_at hl 1 rfl) ?_
    exact mm_iret (pc := 62) F hr hN (Or.inr ⟨by rw [show mm_q_letters T k = 1 from by show mm_q_letters T k = 1; unfold mm_q_letters; (repeat' split) <;> omega]; decide, ⟨_, rfl⟩, by rw [show mm_q_letters T k = 1 from by show mm_q_letters T k = 1; unfold mm_q_letters; (repeat' split) <;> omega]; exact hM3, hF3⟩) (Nat.le_of_ble_eq_true rfl) (Nat.le_of_ble_eq_true rfl) dX7_letters_62

set_option maxHeartbeats 4000000 in
set_option maxRecDepth 100000 in
theorem r_onRoute (l : Launch) (b : Nat) (D : mm_D) (hst : l.stackTraces = false) (T : mm_T) (th : Nat) (rd : Nat → Nat → Nat) (σ : mm_S) (hM : mm_M σ T th rd) (hW : mm_WF T) (k : Nat) (zk : k < 2 ^ 32) (te : Nat) (zte : te < 2 ^ 32) : mm_K l b D yX7_onRoute (.code yX7_onRoute cX7_onRoute 5 (some .int)) ({ frames := 6, cells := 0, slots := 0, locals := 160 } : Room) [.ref ((rd 0 0)), .int (nI k), .int (nI te)] σ
    (fun v σ2 => mm_Mt rd σ σ2 T (T) (mm_q_onRoute T k te) v (some (.int (nI (mm_sm (fun p => if T.oc k p = 108 ∧ T.rc k p / 10 = te then 1 else 0) (T.rp k))))))
    (fun _ _ => False) := by
  refine mm_of (cc := cX7_onRoute) (nL := 5) (ret := (some .int)) (by decide) rfl (Nat.le_of_ble_eq_true rfl) hst ?_
  intro p e s m args below meth c ls F ht hr hin hN hl
  have hl : lv_has ls 5 [(0, .ref ((rd 0 0))), (1, .int (nI k)), (2, .int (nI te))] := hl
  have wnA := hW.hnA
  have wnP := hW.hnP
  have wnT := hW.hnT
  have wnR := hW.hnR
  have wpa := hW.hpa
  have wbo := hW.hbo
  have wen0 := hW.hen 0
  have wen1 := hW.hen 1
  refine lv_aload_n (pc := 0) F.1 F.2.1 dX7_onRoute_0 rfl (lv_at hl 0 rfl) ?_
  refine lv_aload_n (pc := 1) F.1 F.2.1 dX7_onRoute_1 rfl (lv_at hl 0 rfl) ?_
  refine lv_iload_n (pc := 2) F.1 F.2.1 dX7_onRoute_2 rfl (lv_at hl 1 rfl) ?_
  refine mm_runV (pc := 3) (As := [.int (nI k)]) (rest := [.ref ((rd 0 0))]) F hN (c_isRun l b D hst T th rd σ hM hW k (by omega)) mw_1391 mw_1393 mw_p33 mw_6 mw_1394 ⟨pmX7_isRun, (Nat.le_of_ble_eq_true rfl), (Nat.le_of_ble_eq_true rfl)⟩ (mm_recv F.2.2.2.2.2.1 hN (mm_r0 hM) rfl) hl.1 rfl (Nat.le_of_ble_eq_true rfl) ⟨(Nat.le_of_ble_eq_true rfl), (Nat.le_of_ble_eq_true rfl)⟩ dX7_onRoute_3
    (fun _ _ _ _ _ _ h9 => False.elim h9)
    (fun v9 σ9 H locs hp9 hN => ?_)
  obtain ⟨rfl, h9⟩ := hp9
  rw [h9] at hN
  refine W.eq (g2 := F0 m 6 ls [.int (nI (if k < T.nR then 1 else 0)), .ref ((rd 0 0))]) rfl ?_
  refine W.widen (k := 0) (n := 0) (Nat.le_of_ble_eq_true rfl) (Nat.le_of_ble_eq_true rfl) ?_
  by_cases hrk : k < T.nR
  ·
    refine W.eq (g2 := F0 m 6 ls [.int (nI 1), .ref ((rd 0 0))]) (by rw [if_pos hrk]) ?_
    obtain ⟨wr1k, wr2k, wr3k, wr4k⟩ := hW.hru k hrk
    refine mm_if_ne (pc := 6) F (tgt := 13) (by omega) dX7_onRoute_6 (by decide) (fun cz6 => ?_) (fun h9 => absurd h9 (by decide))
    refine lv_iload_n (pc := 13) F.1 F.2.1 dX7_onRoute_13 rfl (lv_at hl 2 rfl) ?_
    refine lv_iconst (pc := 14) (v := nI 0) F.1 F.2.1 dX7_onRoute_14 (by decide) ?_
    refine lv_bipush (pc := 15) (v := nI 9) F.1 F.2.1 dX7_onRoute_15 (by decide) ?_
    refine mm_runS (pc := 17) (As := [.int (nI te), .int (nI 0), .int (nI 9)]) (rest := [.ref ((rd 0 0))]) F hN (c_in l b D hst (nI te) (nI 0) (nI 9) σ) mw_1268 mw_1269 mw_6 mw_1270 ⟨pmX7_in, (Nat.le_of_ble_eq_true rfl), (Nat.le_of_ble_eq_true rfl)⟩ hl.1 rfl (Nat.le_of_ble_eq_true rfl) ⟨(Nat.le_of_ble_eq_true rfl), (Nat.le_of_ble_eq_true rfl)⟩ dX7_onRoute_17
      (fun _ _ _ _ _ _ h9 => False.elim h9)
      (fun v9 σ9 H locs hp9 hN => ?_)
    obtain ⟨rfl, h9⟩ := hp9
    rw [h9] at hN
    refine W.eq (g2 := F0 m 20 ls [.int (nI (if nI 0 ≤ nI te ∧ nI te ≤ nI 9 then 1 else 0)), .ref ((rd 0 0))]) rfl ?_
    refine W.widen (k := 0) (n := 0) (Nat.le_of_ble_eq_true rfl) (Nat.le_of_ble_eq_true rfl) ?_
    by_cases hi17 : 0 ≤ te ∧ te ≤ 9
    ·
      refine W.eq (g2 := F0 m 20 ls [.int (nI 1), .ref ((rd 0 0))]) (by rw [if_pos ((mm_inC (a := te) (lo := 0) (hi := 9) (by omega) (by decide) (by decide)).mpr hi17)]) ?_
      refine mm_if_ne (pc := 20) F (tgt := 27) (by omega) dX7_onRoute_20 (by decide) (fun cz20 => ?_) (fun h9 => absurd h9 (by decide))
      refine lv_iconst (pc := 27) (v := nI 0) F.1 F.2.1 dX7_onRoute_27 (by decide) ?_
      refine mm_put (pc := 28) F hN (mm_r0 hM) (ci := 7) rfl 25 (by decide) mw_1204 rfl (ty := .int) (by decide +kernel) (rfl) (rfl) (Nat.le_of_ble_eq_true rfl) dX7_onRoute_28 (fun H locs hN => ?_)
      have hN : mm_N b D s (mm_u σ ((rd 0 0)) (mm_obj 1 7 [.ref ((rd 1 0)), .ref ((rd 2 0)), .ref ((rd 3 0)), .int (nI T.nA), .ref ((rd 4 0)), .ref ((rd 5 0)), .ref ((rd 6 0)), .int (nI T.nP), .ref ((rd 7 0)), .ref ((rd 8 0)), .ref ((rd 9 0)), .ref ((rd 10 0)), .ref ((rd 11 0)), .int (nI T.nT), .int (nI T.pa), .ref ((rd 12 0)), .int (nI T.bo), .ref ((rd 13 0)), .ref ((rd 14 0)), .ref ((rd 15 0)), .ref ((rd 16 0)), .ref ((rd 17 0)), .ref ((rd 18 0)), .ref ((rd 19 0)), .int (nI T.nR), .int (nI 0)])) _ _ := hN
      obtain ⟨σ2, eσ2⟩ : ∃ q, q = mm_u σ ((rd 0 0)) (mm_obj 1 7 [.ref ((rd 1 0)), .ref ((rd 2 0)), .ref ((rd 3 0)), .int (nI T.nA), .ref ((rd 4 0)), .ref ((rd 5 0)), .ref ((rd 6 0)), .int (nI T.nP), .ref ((rd 7 0)), .ref ((rd 8 0)), .ref ((rd 9 0)), .ref ((rd 10 0)), .ref ((rd 11 0)), .int (nI T.nT), .int (nI T.pa), .ref ((rd 12 0)), .int (nI T.bo), .ref ((rd 13 0)), .ref ((rd 14 0)), .ref ((rd 15 0)), .ref ((rd 16 0)), .ref ((rd 17 0)), .ref ((rd 18 0)), .ref ((rd 19 0)), .int (nI T.nR), .int (nI 0)]) := ⟨_, rfl⟩
      rw [← eσ2] at hN
      have hM2 : mm_M σ2 T 0 rd := by rw [eσ2]; exact mm_Mo hM (fun _ _ => rfl) rfl
      have hF2 : mm_Fr 1 σ σ2 := by rw [eσ2]; exact (mm_Fr.rf).tr (mm_Fr.u (mm_r0 hM))
      refine lv_iconst (pc := 31) (v := nI 0) F.1 F.2.1 dX7_onRoute_31 (by decide) ?_
      refine lv_istore_n (pc := 32) (lv' := [(3, .int (nI 0)), (0, .ref ((rd 0 0))), (1, .int (nI k)), (2, .int (nI te))]) F.1 F.2.1 dX7_onRoute_32 rfl hl (by decide) rfl (fun ls hl => ?_)
      refine lv_iconst (pc := 33) (v := nI 0) F.1 F.2.1 dX7_onRoute_33 (by decide) ?_
      refine lv_istore (pc := 34) (lv' := [(4, .int (nI 0)), (3, .int (nI 0)), (0, .ref ((rd 0 0))), (1, .int (nI k)), (2, .int (nI te))]) F.1 F.2.1 dX7_onRoute_34 hl (by decide) rfl (fun ls hl => ?_)
      obtain ⟨wr1, wr2, wr3, wr4⟩ := hW.hru k hrk
      have lp36 : ∀ (k36 u : Nat) (ls : Array Slot) (H : Heap) (locs : List Loc), T.rp k < u + k36 → u ≤ T.rp k → mm_N b D s σ2 H locs → lv_has ls 5 [(0, .ref ((rd 0 0))), (1, .int (nI k)), (2, .int (nI te)), (3, .int (nI (mm_sm (fun p => if T.oc k p = 108 ∧ T.rc k p / 10 = te then 1 else 0) u))), (4, .int (nI u))] →
          W p l e ({ frames := 6, cells := 0, slots := 0, locals := 160 } : Room) s m args below meth c H locs (0) (0) (mm_Q b D (fun v σ2 => mm_Mt rd σ σ2 T (T) (mm_q_onRoute T k te) v (some (.int (nI (mm_sm (fun p => if T.oc k p = 108 ∧ T.rc k p / 10 = te then 1 else 0) (T.rp k)))))) (fun _ _ => False) below args s ({ frames := 6, cells := 0, slots := 0, locals := 160 } : Room)) (F0 m 36 ls []) := by
        intro k36
        induction k36 with
        | zero => intro u  ls H locs hk36 hi36  hN hl; omega
        | succ k36 ih36 =>
          intro u  ls H locs hk36 hi36  hN hl
          refine lv_aload_n (pc := 36) F.1 F.2.1 dX7_onRoute_36 rfl (lv_at hl 0 rfl) ?_
          refine mm_get (pc := 37) F hN ((show σ2 (rd 0 0) = mm_obj 1 7 [.ref ((rd 1 0)), .ref ((rd 2 0)), .ref ((rd 3 0)), .int (nI T.nA), .ref ((rd 4 0)), .ref ((rd 5 0)), .ref ((rd 6 0)), .int (nI T.nP), .ref ((rd 7 0)), .ref ((rd 8 0)), .ref ((rd 9 0)), .ref ((rd 10 0)), .ref ((rd 11 0)), .int (nI T.nT), .int (nI T.pa), .ref ((rd 12 0)), .int (nI T.bo), .ref ((rd 13 0)), .ref ((rd 14 0)), .ref ((rd 15 0)), .ref ((rd 16 0)), .ref ((rd 17 0)), .ref ((rd 18 0)), .ref ((rd 19 0)), .int (nI T.nR), .int (nI 0)] from mm_r0 (T := T) hM2)) (ci := 7) rfl 25 (by decide) mw_1204 rfl dX7_onRoute_37 ?_
          refine mm_if_ne (pc := 40) F (tgt := 94) (by omega) dX7_onRoute_40 (by decide) (fun h9 => absurd h9 (by decide)) (fun cz40 => ?_)
          refine lv_iload (pc := 43) F.1 F.2.1 dX7_onRoute_43 (lv_at hl 4 rfl) ?_
          refine lv_aload_n (pc := 45) F.1 F.2.1 dX7_onRoute_45 rfl (lv_at hl 0 rfl) ?_
          refine mm_get (pc := 46) F hN ((show σ2 (rd 0 0) = mm_obj 1 7 [.ref ((rd 1 0)), .ref ((rd 2 0)), .ref ((rd 3 0)), .int (nI T.nA), .ref ((rd 4 0)), .ref ((rd 5 0)), .ref ((rd 6 0)), .int (nI T.nP), .ref ((rd 7 0)), .ref ((rd 8 0)), .ref ((rd 9 0)), .ref ((rd 10 0)), .ref ((rd 11 0)), .int (nI T.nT), .int (nI T.pa), .ref ((rd 12 0)), .int (nI T.bo), .ref ((rd 13 0)), .ref ((rd 14 0)), .ref ((rd 15 0)), .ref ((rd 16 0)), .ref ((rd 17 0)), .ref ((rd 18 0)), .ref ((rd 19 0)), .int (nI T.nR), .int (nI 0)] from mm_r0 (T := T) hM2)) (ci := 7) rfl 17 (by decide) mw_1196 rfl dX7_onRoute_46 ?_
          refine lv_iload_n (pc := 49) F.1 F.2.1 dX7_onRoute_49 rfl (lv_at hl 1 rfl) ?_
          refine mm_iald (pc := 50) F hN ((show σ2 (rd 13 0) = mm_ari 1 0 10 (fun i => nI (T.rp i)) from mm_r13 (T := T) hM2)) (j := k) (rfl) (by omega) (by decide) dX7_onRoute_50 ?_
          refine mm_icmp_ge (pc := 51) F (x := u) (y := T.rp k) (tgt := 94) (by omega) (by omega) dX7_onRoute_51 (by decide) (fun cz51 => ?_) (fun cz51 => ?_)
          ·
            refine lv_iload_n (pc := 94) F.1 F.2.1 dX7_onRoute_94 rfl (lv_at hl 3 rfl) ?_
            exact mm_iret (pc := 95) F hr hN (Or.inl ⟨by show mm_q_onRoute T k te = 0; unfold mm_q_onRoute; (repeat' split) <;> omega, by rw [show T.rp k = u by omega], hM2, hF2⟩) (Nat.le_of_ble_eq_true rfl) (Nat.le_of_ble_eq_true rfl) dX7_onRoute_95
          ·
            obtain ⟨wp1, wp2, wp3, wp4, wp5, wp6, wp7⟩ := wr4 u (by omega)
            refine lv_iload_n (pc := 54) F.1 F.2.1 dX7_onRoute_54 rfl (lv_at hl 3 rfl) ?_
            refine lv_aload_n (pc := 55) F.1 F.2.1 dX7_onRoute_55 rfl (lv_at hl 0 rfl) ?_
            refine lv_iload_n (pc := 56) F.1 F.2.1 dX7_onRoute_56 rfl (lv_at hl 1 rfl) ?_
            refine lv_iload (pc := 57) F.1 F.2.1 dX7_onRoute_57 (lv_at hl 4 rfl) ?_
            refine mm_runV (pc := 59) (As := [.int (nI k), .int (nI u)]) (rest := [.int (nI (mm_sm (fun p => if T.oc k p = 108 ∧ T.rc k p / 10 = te then 1 else 0) u))]) F hN (c_isLett l b D hst T 0 rd σ2 hM2 hW k u (by omega) (by omega)) mw_1411 mw_1413 mw_p35 mw_6 mw_1414 ⟨pmX7_isLetter, (Nat.le_of_ble_eq_true rfl), (Nat.le_of_ble_eq_true rfl)⟩ (mm_recv F.2.2.2.2.2.1 hN ((show σ2 (rd 0 0) = mm_obj 1 7 [.ref ((rd 1 0)), .ref ((rd 2 0)), .ref ((rd 3 0)), .int (nI T.nA), .ref ((rd 4 0)), .ref ((rd 5 0)), .ref ((rd 6 0)), .int (nI T.nP), .ref ((rd 7 0)), .ref ((rd 8 0)), .ref ((rd 9 0)), .ref ((rd 10 0)), .ref ((rd 11 0)), .int (nI T.nT), .int (nI T.pa), .ref ((rd 12 0)), .int (nI T.bo), .ref ((rd 13 0)), .ref ((rd 14 0)), .ref ((rd 15 0)), .ref ((rd 16 0)), .ref ((rd 17 0)), .ref ((rd 18 0)), .ref ((rd 19 0)), .int (nI T.nR), .int (nI 0)] from mm_r0 (T := T) hM2)) rfl) hl.1 rfl (Nat.le_of_ble_eq_true rfl) ⟨(Nat.le_of_ble_eq_true rfl), (Nat.le_of_ble_eq_true rfl)⟩ dX7_onRoute_59
              (fun _ _ _ _ _ _ h9 => False.elim h9)
              (fun v9 σ9 H locs hp9 hN => ?_)
            obtain ⟨rfl, h9⟩ := hp9
            rw [h9] at hN
            refine W.eq (g2 := F0 m 62 ls [.int (nI (if T.oc k u = 108 then 1 else 0)), .int (nI (mm_sm (fun p => if T.oc k p = 108 ∧ T.rc k p / 10 = te then 1 else 0) u))]) rfl ?_
            refine W.widen (k := 0) (n := 0) (Nat.le_of_ble_eq_true rfl) (Nat.le_of_ble_eq_true rfl) ?_
            by_cases hl9 : T.oc k u = 108
            ·
              refine W.eq (g2 := F0 m 62 ls [.int (nI 1), .int (nI (mm_sm (fun p => if T.oc k p = 108 ∧ T.rc k p / 10 = te then 1 else 0) u))]) (by rw [if_pos hl9]) ?_
              refine mm_if_eq (pc := 62) F (tgt := 85) (by omega) dX7_onRoute_62 (by decide) (fun h9 => absurd h9 (by decide)) (fun cz62 => ?_)
              refine lv_aload_n (pc := 65) F.1 F.2.1 dX7_onRoute_65 rfl (lv_at hl 0 rfl) ?_
              refine mm_get (pc := 66) F hN ((show σ2 (rd 0 0) = mm_obj 1 7 [.ref ((rd 1 0)), .ref ((rd 2 0)), .ref ((rd 3 0)), .int (nI T.nA), .ref ((rd 4 0)), .ref ((rd 5 0)), .ref ((rd 6 0)), .int (nI T.nP), .ref ((rd 7 0)), .ref ((rd 8 0)), .ref ((rd 9 0)), .ref ((rd 10 0)), .ref ((rd 11 0)), .int (nI T.nT), .int (nI T.pa), .ref ((rd 12 0)), .int (nI T.bo), .ref ((rd 13 0)), .ref ((rd 14 0)), .ref ((rd 15 0)), .ref ((rd 16 0)), .ref ((rd 17 0)), .ref ((rd 18 0)), .ref ((rd 19 0)), .int (nI T.nR), .int (nI 0)] from mm_r0 (T := T) hM2)) (ci := 7) rfl 20 (by decide) mw_1199 rfl dX7_onRoute_66 ?_
              refine lv_iload_n (pc := 69) F.1 F.2.1 dX7_onRoute_69 rfl (lv_at hl 1 rfl) ?_
              refine mm_aald (pc := 70) F hN ((show σ2 (rd 16 0) = mm_arq 1 5 10 (fun i => if i < 10 then some (rd 16 (i + 1)) else none) from mm_rq16 (T := T) hM2)) rfl rfl (j := k) (rfl) (by omega) (by decide) (if_pos (by omega)) dX7_onRoute_70 ?_
              refine lv_iload (pc := 71) F.1 F.2.1 dX7_onRoute_71 (lv_at hl 4 rfl) ?_
              refine mm_iald (pc := 73) F hN ((show σ2 (rd 16 (k + 1)) = mm_ari 1 0 24 (fun j => nI (T.rc k j)) from mm_rr16 (T := T) hM2 (i := k) (by omega))) (j := u) (rfl) (by omega) (by decide) dX7_onRoute_73 ?_
              refine lv_bipush (pc := 74) (v := nI 10) F.1 F.2.1 dX7_onRoute_74 (by decide) ?_
              refine mm_idiv (pc := 76) F (z := nI ((T.rc k u) / 10)) (pk_div (by omega) (by omega) (by omega)) (by decide) dX7_onRoute_76 ?_
              refine lv_iload_n (pc := 77) F.1 F.2.1 dX7_onRoute_77 rfl (lv_at hl 2 rfl) ?_
              refine mm_icmp_neB (pc := 78) F (x := (T.rc k u) / 10) (y := te) (tgt := 85) (by omega) (by omega) dX7_onRoute_78 (by decide) (fun cz78 => ?_) (fun cz78 => ?_)
              ·
                refine lv_iconst (pc := 85) (v := nI 0) F.1 F.2.1 dX7_onRoute_85 (by decide) ?_
                refine mm_iadd (pc := 86) F (z := nI ((mm_sm (fun p => if T.oc k p = 108 ∧ T.rc k p / 10 = te then 1 else 0) u) + 0)) (nI_add _ _) dX7_onRoute_86 ?_
                refine W.eq (g2 := F0 m 87 ls [.int (nI (mm_sm (fun p => if T.oc k p = 108 ∧ T.rc k p / 10 = te then 1 else 0) (u + 1)))]) (congrArg (fun q => F0 m 87 ls [Value.int (nI q)]) (congrArg (mm_sm (fun p => if T.oc k p = 108 ∧ T.rc k p / 10 = te then 1 else 0) u + ·) (if_neg (fun q => cz78 q.2)).symm)) ?_
                refine lv_istore_n (pc := 87) (lv' := [(3, .int (nI (mm_sm (fun p => if T.oc k p = 108 ∧ T.rc k p / 10 = te then 1 else 0) (u + 1)))), (0, .ref ((rd 0 0))), (1, .int (nI k)), (2, .int (nI te)), (4, .int (nI u))]) F.1 F.2.1 dX7_onRoute_87 rfl hl (by decide) rfl (fun ls hl => ?_)
                refine lv_iinc (pc := 88) (v := nI (u + 1)) (lv' := [(4, .int (nI (u + 1))), (3, .int (nI (mm_sm (fun p => if T.oc k p = 108 ∧ T.rc k p / 10 = te then 1 else 0) (u + 1)))), (0, .ref ((rd 0 0))), (1, .int (nI k)), (2, .int (nI te))]) F.1 F.2.1 dX7_onRoute_88 hl (k := 4) rfl (by rw [← nI_add]; rfl) (by decide) rfl (fun ls hl => ?_)
                refine lv_goto (pc := 91) (tgt := 36) F.1 F.2.1 dX7_onRoute_91 (by decide) ?_
                exact ih36 (u + 1) ls _ _ (by omega) (by omega) hN (lv_sub hl [2, 3, 4, 1, 0] rfl)
              ·
                refine lv_iconst (pc := 81) (v := nI 1) F.1 F.2.1 dX7_onRoute_81 (by decide) ?_
                refine lv_goto (pc := 82) (tgt := 86) F.1 F.2.1 dX7_onRoute_82 (by decide) ?_
                refine mm_iadd (pc := 86) F (z := nI ((mm_sm (fun p => if T.oc k p = 108 ∧ T.rc k p / 10 = te then 1 else 0) u) + 1)) (nI_add _ _) dX7_onRoute_86 ?_
                refine W.eq (g2 := F0 m 87 ls [.int (nI (mm_sm (fun p => if T.oc k p = 108 ∧ T.rc k p / 10 = te then 1 else 0) (u + 1)))]) (congrArg (fun q => F0 m 87 ls [Value.int (nI q)]) (congrArg (mm_sm (fun p => if T.oc k p = 108 ∧ T.rc k p / 10 = te then 1 else 0) u + ·) (if_pos ⟨hl9, cz78⟩).symm)) ?_
                refine lv_istore_n (pc := 87) (lv' := [(3, .int (nI (mm_sm (fun p => if T.oc k p = 108 ∧ T.rc k p / 10 = te then 1 else 0) (u + 1)))), (0, .ref ((rd 0 0))), (1, .int (nI k)), (2, .int (nI te)), (4, .int (nI u))]) F.1 F.2.1 dX7_onRoute_87 rfl hl (by decide) rfl (fun ls hl => ?_)
                refine lv_iinc (pc := 88) (v := nI (u + 1)) (lv' := [(4, .int (nI (u + 1))), (3, .int (nI (mm_sm (fun p => if T.oc k p = 108 ∧ T.rc k p / 10 = te then 1 else 0) (u + 1)))), (0, .ref ((rd 0 0))), (1, .int (nI k)), (2, .int (nI te))]) F.1 F.2.1 dX7_onRoute_88 hl (k := 4) rfl (by rw [← nI_add]; rfl) (by decide) rfl (fun ls hl => ?_)
                refine lv_goto (pc := 91) (tgt := 36) F.1 F.2.1 dX7_onRoute_91 (by decide) ?_
                exact ih36 (u + 1) ls _ _ (by omega) (by omega) hN (lv_sub hl [2, 3, 4, 1, 0] rfl)
            ·
              refine W.eq (g2 := F0 m 62 ls [.int (nI 0), .int (nI (mm_sm (fun p => if T.oc k p = 108 ∧ T.rc k p / 10 = te then 1 else 0) u))]) (by rw [if_neg hl9]) ?_
              refine mm_if_eq (pc := 62) F (tgt := 85) (by omega) dX7_onRoute_62 (by decide) (fun cz62 => ?_) (fun h9 => absurd h9 (by decide))
              refine lv_iconst (pc := 85) (v := nI 0) F.1 F.2.1 dX7_onRoute_85 (by decide) ?_
              refine mm_iadd (pc := 86) F (z := nI ((mm_sm (fun p => if T.oc k p = 108 ∧ T.rc k p / 10 = te then 1 else 0) u) + 0)) (nI_add _ _) dX7_onRoute_86 ?_
              refine W.eq (g2 := F0 m 87 ls [.int (nI (mm_sm (fun p => if T.oc k p = 108 ∧ T.rc k p / 10 = te then 1 else 0) (u + 1)))]) (congrArg (fun q => F0 m 87 ls [Value.int (nI q)]) (congrArg (mm_sm (fun p => if T.oc k p = 108 ∧ T.rc k p / 10 = te then 1 else 0) u + ·) (if_neg (fun q => hl9 q.1)).symm)) ?_
              refine lv_istore_n (pc := 87) (lv' := [(3, .int (nI (mm_sm (fun p => if T.oc k p = 108 ∧ T.rc k p / 10 = te then 1 else 0) (u + 1)))), (0, .ref ((rd 0 0))), (1, .int (nI k)), (2, .int (nI te)), (4, .int (nI u))]) F.1 F.2.1 dX7_onRoute_87 rfl hl (by decide) rfl (fun ls hl => ?_)
              refine lv_iinc (pc := 88) (v := nI (u + 1)) (lv' := [(4, .int (nI (u + 1))), (3, .int (nI (mm_sm (fun p => if T.oc k p = 108 ∧ T.rc k p / 10 = te then 1 else 0) (u + 1)))), (0, .ref ((rd 0 0))), (1, .int (nI k)), (2, .int (nI te))]) F.1 F.2.1 dX7_onRoute_88 hl (k := 4) rfl (by rw [← nI_add]; rfl) (by decide) rfl (fun ls hl => ?_)
              refine lv_goto (pc := 91) (tgt := 36) F.1 F.2.1 dX7_onRoute_91 (by decide) ?_
              exact ih36 (u + 1) ls _ _ (by omega) (by omega) hN (lv_sub hl [2, 3, 4, 1, 0] rfl)
      exact lp36 ((T.rp k) + 1) 0 ls _ _ (by omega) (by omega) hN (lv_sub hl [2, 3, 4, 1, 0] rfl)
    ·
      refine W.eq (g2 := F0 m 20 ls [.int (nI 0), .ref ((rd 0 0))]) (by rw [if_neg (fun q => hi17 ((mm_inC (a := te) (lo := 0) (hi := 9) (by omega) (by decide) (by decide)).mp q))]) ?_
      refine mm_if_ne (pc := 20) F (tgt := 27) (by omega) dX7_onRoute_20 (by decide) (fun h9 => absurd h9 (by decide)) (fun cz20 => ?_)
      refine lv_iconst (pc := 23) (v := nI 2) F.1 F.2.1 dX7_onRoute_23 (by decide) ?_
      refine lv_goto (pc := 24) (tgt := 28) F.1 F.2.1 dX7_onRoute_24 (by decide) ?_
      refine mm_put (pc := 28) F hN (mm_r0 hM) (ci := 7) rfl 25 (by decide) mw_1204 rfl (ty := .int) (by decide +kernel) (rfl) (rfl) (Nat.le_of_ble_eq_true rfl) dX7_onRoute_28 (fun H locs hN => ?_)
      have hN : mm_N b D s (mm_u σ ((rd 0 0)) (mm_obj 1 7 [.ref ((rd 1 0)), .ref ((rd 2 0)), .ref ((rd 3 0)), .int (nI T.nA), .ref ((rd 4 0)), .ref ((rd 5 0)), .ref ((rd 6 0)), .int (nI T.nP), .ref ((rd 7 0)), .ref ((rd 8 0)), .ref ((rd 9 0)), .ref ((rd 10 0)), .ref ((rd 11 0)), .int (nI T.nT), .int (nI T.pa), .ref ((rd 12 0)), .int (nI T.bo), .ref ((rd 13 0)), .ref ((rd 14 0)), .ref ((rd 15 0)), .ref ((rd 16 0)), .ref ((rd 17 0)), .ref ((rd 18 0)), .ref ((rd 19 0)), .int (nI T.nR), .int (nI 2)])) _ _ := hN
      obtain ⟨σ3, eσ3⟩ : ∃ q, q = mm_u σ ((rd 0 0)) (mm_obj 1 7 [.ref ((rd 1 0)), .ref ((rd 2 0)), .ref ((rd 3 0)), .int (nI T.nA), .ref ((rd 4 0)), .ref ((rd 5 0)), .ref ((rd 6 0)), .int (nI T.nP), .ref ((rd 7 0)), .ref ((rd 8 0)), .ref ((rd 9 0)), .ref ((rd 10 0)), .ref ((rd 11 0)), .int (nI T.nT), .int (nI T.pa), .ref ((rd 12 0)), .int (nI T.bo), .ref ((rd 13 0)), .ref ((rd 14 0)), .ref ((rd 15 0)), .ref ((rd 16 0)), .ref ((rd 17 0)), .ref ((rd 18 0)), .ref ((rd 19 0)), .int (nI T.nR), .int (nI 2)]) := ⟨_, rfl⟩
      rw [← eσ3] at hN
      have hM3 : mm_M σ3 T 2 rd := by rw [eσ3]; exact mm_Mo hM (fun _ _ => rfl) rfl
      have hF3 : mm_Fr 1 σ σ3 := by rw [eσ3]; exact (mm_Fr.rf).tr (mm_Fr.u (mm_r0 hM))
      refine lv_iconst (pc := 31) (v := nI 0) F.1 F.2.1 dX7_onRoute_31 (by decide) ?_
      refine lv_istore_n (pc := 32) (lv' := [(3, .int (nI 0)), (0, .ref ((rd 0 0))), (1, .int (nI k)), (2, .int (nI te))]) F.1 F.2.1 dX7_onRoute_32 rfl hl (by decide) rfl (fun ls hl => ?_)
      refine lv_iconst (pc := 33) (v := nI 0) F.1 F.2.1 dX7_onRoute_33 (by decide) ?_
      refine lv_istore (pc := 34) (lv' := [(4, .int (nI 0)), (3, .int (nI 0)), (0, .ref ((rd 0 0))), (1, .int (nI k)), (2, .int (nI te))]) F.1 F.2.1 dX7_onRoute_34 hl (by decide) rfl (fun ls hl => ?_)
      refine lv_aload_n (pc := 36) F.1 F.2.1 dX7_onRoute_36 rfl (lv_at hl 2 rfl) ?_
      refine mm_get (pc := 37) F hN ((show σ3 (rd 0 0) = mm_obj 1 7 [.ref ((rd 1 0)), .ref ((rd 2 0)), .ref ((rd 3 0)), .int (nI T.nA), .ref ((rd 4 0)), .ref ((rd 5 0)), .ref ((rd 6 0)), .int (nI T.nP), .ref ((rd 7 0)), .ref ((rd 8 0)), .ref ((rd 9 0)), .ref ((rd 10 0)), .ref ((rd 11 0)), .int (nI T.nT), .int (nI T.pa), .ref ((rd 12 0)), .int (nI T.bo), .ref ((rd 13 0)), .ref ((rd 14 0)), .ref ((rd 15 0)), .ref ((rd 16 0)), .ref ((rd 17 0)), .ref ((rd 18 0)), .ref ((rd 19 0)), .int (nI T.nR), .int (nI 2)] from mm_r0 (T := T) hM3)) (ci := 7) rfl 25 (by decide) mw_1204 rfl dX7_onRoute_37 ?_
      refine mm_if_ne (pc := 40) F (tgt := 94) (by omega) dX7_onRoute_40 (by decide) (fun cz40 => ?_) (fun h9 => absurd h9 (by decide))
      refine lv_iload_n (pc := 94) F.1 F.2.1 dX7_onRoute_94 rfl (lv_at hl 1 rfl) ?_
      exact mm_iret (pc := 95) F hr hN (Or.inr ⟨by rw [show mm_q_onRoute T k te = 2 from by show mm_q_onRoute T k te = 2; unfold mm_q_onRoute; (repeat' split) <;> omega]; decide, ⟨_, rfl⟩, by rw [show mm_q_onRoute T k te = 2 from by show mm_q_onRoute T k te = 2; unfold mm_q_onRoute; (repeat' split) <;> omega]; exact hM3, hF3⟩) (Nat.le_of_ble_eq_true rfl) (Nat.le_of_ble_eq_true rfl) dX7_onRoute_95
  ·
    refine W.eq (g2 := F0 m 6 ls [.int (nI 0), .ref ((rd 0 0))]) (by rw [if_neg hrk]) ?_
    refine mm_if_ne (pc := 6) F (tgt := 13) (by omega) dX7_onRoute_6 (by decide) (fun h9 => absurd h9 (by decide)) (fun cz6 => ?_)
    refine lv_iconst (pc := 9) (v := nI 1) F.1 F.2.1 dX7_onRoute_9 (by decide) ?_
    refine lv_goto (pc := 10) (tgt := 28) F.1 F.2.1 dX7_onRoute_10 (by decide) ?_
    refine mm_put (pc := 28) F hN (mm_r0 hM) (ci := 7) rfl 25 (by decide) mw_1204 rfl (ty := .int) (by decide +kernel) (rfl) (rfl) (Nat.le_of_ble_eq_true rfl) dX7_onRoute_28 (fun H locs hN => ?_)
    have hN : mm_N b D s (mm_u σ ((rd 0 0)) (mm_obj 1 7 [.ref ((rd 1 0)), .ref ((rd 2 0)), .ref ((rd 3 0)), .int (nI T.nA), .ref ((rd 4 0)), .ref ((rd 5 0)), .ref ((rd 6 0)), .int (nI T.nP), .ref ((rd 7 0)), .ref ((rd 8 0)), .ref ((rd 9 0)), .ref ((rd 10 0)), .ref ((rd 11 0)), .int (nI T.nT), .int (nI T.pa), .ref ((rd 12 0)), .int (nI T.bo), .ref ((rd 13 0)), .ref ((rd 14 0)), .ref ((rd 15 0)), .ref ((rd 16 0)), .ref ((rd 17 0)), .ref ((rd 18 0)), .ref ((rd 19 0)), .int (nI T.nR), .int (nI 1)])) _ _ := hN
    obtain ⟨σ4, eσ4⟩ : ∃ q, q = mm_u σ ((rd 0 0)) (mm_obj 1 7 [.ref ((rd 1 0)), .ref ((rd 2 0)), .ref ((rd 3 0)), .int (nI T.nA), .ref ((rd 4 0)), .ref ((rd 5 0)), .ref ((rd 6 0)), .int (nI T.nP), .ref ((rd 7 0)), .ref ((rd 8 0)), .ref ((rd 9 0)), .ref ((rd 10 0)), .ref ((rd 11 0)), .int (nI T.nT), .int (nI T.pa), .ref ((rd 12 0)), .int (nI T.bo), .ref ((rd 13 0)), .ref ((rd 14 0)), .ref ((rd 15 0)), .ref ((rd 16 0)), .ref ((rd 17 0)), .ref ((rd 18 0)), .ref ((rd 19 0)), .int (nI T.nR), .int (nI 1)]) := ⟨_, rfl⟩
    rw [← eσ4] at hN
    have hM4 : mm_M σ4 T 1 rd := by rw [eσ4]; exact mm_Mo hM (fun _ _ => rfl) rfl
    have hF4 : mm_Fr 1 σ σ4 := by rw [eσ4]; exact (mm_Fr.rf).tr (mm_Fr.u (mm_r0 hM))
    refine lv_iconst (pc := 31) (v := nI 0) F.1 F.2.1 dX7_onRoute_31 (by decide) ?_
    refine lv_istore_n (pc := 32) (lv' := [(3, .int (nI 0)), (0, .ref ((rd 0 0))), (1, .int (nI k)), (2, .int (nI te))]) F.1 F.2.1 dX7_onRoute_32 rfl hl (by decide) rfl (fun ls hl => ?_)
    refine lv_iconst (pc := 33) (v := nI 0) F.1 F.2.1 dX7_onRoute_33 (by decide) ?_
    refine lv_istore (pc := 34) (lv' := [(4, .int (nI 0)), (3, .int (nI 0)), (0, .ref ((rd 0 0))), (1, .int (nI k)), (2, .int (nI te))]) F.1 F.2.1 dX7_onRoute_34 hl (by decide) rfl (fun ls hl => ?_)
    refine lv_aload_n (pc := 36) F.1 F.2.1 dX7_onRoute_36 rfl (lv_at hl 2 rfl) ?_
    refine mm_get (pc := 37) F hN ((show σ4 (rd 0 0) = mm_obj 1 7 [.ref ((rd 1 0)), .ref ((rd 2 0)), .ref ((rd 3 0)), .int (nI T.nA), .ref ((rd 4 0)), .ref ((rd 5 0)), .ref ((rd 6 0)), .int (nI T.nP), .ref ((rd 7 0)), .ref ((rd 8 0)), .ref ((rd 9 0)), .ref ((rd 10 0)), .ref ((rd 11 0)), .int (nI T.nT), .int (nI T.pa), .ref ((rd 12 0)), .int (nI T.bo), .ref ((rd 13 0)), .ref ((rd 14 0)), .ref ((rd 15 0)), .ref ((rd 16 0)), .ref ((rd 17 0)), .ref ((rd 18 0)), .ref ((rd 19 0)), .int (nI T.nR), .int (nI 1)] from mm_r0 (T := T) hM4)) (ci := 7) rfl 25 (by decide) mw_1204 rfl dX7_onRoute_37 ?_
    refine mm_if_ne (pc := 40) F (tgt := 94) (by omega) dX7_onRoute_40 (by decide) (fun cz40 => ?_) (fun h9 => absurd h9 (by decide))
    refine lv_iload_n (pc := 94) F.1 F.2.1 dX7_onRoute_94 rfl (lv_at hl 1 rfl) ?_
    exact mm_iret (pc := 95) F hr hN (Or.inr ⟨by rw [show mm_q_onRoute T k te = 1 from by show mm_q_onRoute T k te = 1; unfold mm_q_onRoute; (repeat' split) <;> omega]; decide, ⟨_, rfl⟩, by rw [show mm_q_onRoute T k te = 1 from by show mm_q_onRoute T k te = 1; unfold mm_q_onRoute; (repeat' split) <;> omega]; exact hM4, hF4⟩) (Nat.le_of_ble_eq_true rfl) (Nat.le_of_ble_eq_true rfl) dX7_onRoute_95

set_option maxHeartbeats 4000000 in
set_option maxRecDepth 100000 in
theorem r_costOf (l : Launch) (b : Nat) (D : mm_D) (hst : l.stackTraces = false) (T : mm_T) (th : Nat) (rd : Nat → Nat → Nat) (σ : mm_S) (hM : mm_M σ T th rd) (hW : mm_WF T) (k : Nat) (zk : k < 2 ^ 32) : mm_K l b D yX7_costOf (.code yX7_costOf cX7_costOf 5 (some .long)) ({ frames := 6, cells := 0, slots := 0, locals := 160 } : Room) [.ref ((rd 0 0)), .int (nI k)] σ
    (fun v σ2 => mm_Mu rd σ σ2 T (T) (mm_q_costOf T k) v (some (.long (lN (mm_sm (fun p => if T.oc k p = 108 then T.ps k p else 0) (T.rp k))))) (some (.long (lN 0))))
    (fun _ _ => False) := by
  refine mm_of (cc := cX7_costOf) (nL := 5) (ret := (some .long)) (by decide) rfl (Nat.le_of_ble_eq_true rfl) hst ?_
  intro p e s m args below meth c ls F ht hr hin hN hl
  have hl : lv_has ls 5 [(0, .ref ((rd 0 0))), (1, .int (nI k))] := hl
  have wnA := hW.hnA
  have wnP := hW.hnP
  have wnT := hW.hnT
  have wnR := hW.hnR
  have wpa := hW.hpa
  have wbo := hW.hbo
  have wen0 := hW.hen 0
  have wen1 := hW.hen 1
  refine lv_aload_n (pc := 0) F.1 F.2.1 dX7_costOf_0 rfl (lv_at hl 0 rfl) ?_
  refine lv_aload_n (pc := 1) F.1 F.2.1 dX7_costOf_1 rfl (lv_at hl 0 rfl) ?_
  refine lv_iload_n (pc := 2) F.1 F.2.1 dX7_costOf_2 rfl (lv_at hl 1 rfl) ?_
  refine mm_runV (pc := 3) (As := [.int (nI k)]) (rest := [.ref ((rd 0 0))]) F hN (c_isRun l b D hst T th rd σ hM hW k (by omega)) mw_1391 mw_1393 mw_p33 mw_6 mw_1394 ⟨pmX7_isRun, (Nat.le_of_ble_eq_true rfl), (Nat.le_of_ble_eq_true rfl)⟩ (mm_recv F.2.2.2.2.2.1 hN (mm_r0 hM) rfl) hl.1 rfl (Nat.le_of_ble_eq_true rfl) ⟨(Nat.le_of_ble_eq_true rfl), (Nat.le_of_ble_eq_true rfl)⟩ dX7_costOf_3
    (fun _ _ _ _ _ _ h9 => False.elim h9)
    (fun v9 σ9 H locs hp9 hN => ?_)
  obtain ⟨rfl, h9⟩ := hp9
  rw [h9] at hN
  refine W.eq (g2 := F0 m 6 ls [.int (nI (if k < T.nR then 1 else 0)), .ref ((rd 0 0))]) rfl ?_
  refine W.widen (k := 0) (n := 0) (Nat.le_of_ble_eq_true rfl) (Nat.le_of_ble_eq_true rfl) ?_
  by_cases hrk : k < T.nR
  ·
    refine W.eq (g2 := F0 m 6 ls [.int (nI 1), .ref ((rd 0 0))]) (by rw [if_pos hrk]) ?_
    obtain ⟨wr1k, wr2k, wr3k, wr4k⟩ := hW.hru k hrk
    refine mm_if_eq (pc := 6) F (tgt := 13) (by omega) dX7_costOf_6 (by decide) (fun h9 => absurd h9 (by decide)) (fun cz6 => ?_)
    refine lv_iconst (pc := 9) (v := nI 0) F.1 F.2.1 dX7_costOf_9 (by decide) ?_
    refine lv_goto (pc := 10) (tgt := 14) F.1 F.2.1 dX7_costOf_10 (by decide) ?_
    refine mm_put (pc := 14) F hN (mm_r0 hM) (ci := 7) rfl 25 (by decide) mw_1204 rfl (ty := .int) (by decide +kernel) (rfl) (rfl) (Nat.le_of_ble_eq_true rfl) dX7_costOf_14 (fun H locs hN => ?_)
    have hN : mm_N b D s (mm_u σ ((rd 0 0)) (mm_obj 1 7 [.ref ((rd 1 0)), .ref ((rd 2 0)), .ref ((rd 3 0)), .int (nI T.nA), .ref ((rd 4 0)), .ref ((rd 5 0)), .ref ((rd 6 0)), .int (nI T.nP), .ref ((rd 7 0)), .ref ((rd 8 0)), .ref ((rd 9 0)), .ref ((rd 10 0)), .ref ((rd 11 0)), .int (nI T.nT), .int (nI T.pa), .ref ((rd 12 0)), .int (nI T.bo), .ref ((rd 13 0)), .ref ((rd 14 0)), .ref ((rd 15 0)), .ref ((rd 16 0)), .ref ((rd 17 0)), .ref ((rd 18 0)), .ref ((rd 19 0)), .int (nI T.nR), .int (nI 0)])) _ _ := hN
    obtain ⟨σ2, eσ2⟩ : ∃ q, q = mm_u σ ((rd 0 0)) (mm_obj 1 7 [.ref ((rd 1 0)), .ref ((rd 2 0)), .ref ((rd 3 0)), .int (nI T.nA), .ref ((rd 4 0)), .ref ((rd 5 0)), .ref ((rd 6 0)), .int (nI T.nP), .ref ((rd 7 0)), .ref ((rd 8 0)), .ref ((rd 9 0)), .ref ((rd 10 0)), .ref ((rd 11 0)), .int (nI T.nT), .int (nI T.pa), .ref ((rd 12 0)), .int (nI T.bo), .ref ((rd 13 0)), .ref ((rd 14 0)), .ref ((rd 15 0)), .ref ((rd 16 0)), .ref ((rd 17 0)), .ref ((rd 18 0)), .ref ((rd 19 0)), .int (nI T.nR), .int (nI 0)]) := ⟨_, rfl⟩
    rw [← eσ2] at hN
    have hM2 : mm_M σ2 T 0 rd := by rw [eσ2]; exact mm_Mo hM (fun _ _ => rfl) rfl
    have hF2 : mm_Fr 1 σ σ2 := by rw [eσ2]; exact (mm_Fr.rf).tr (mm_Fr.u (mm_r0 hM))
    refine lv_lconst (pc := 17) (v := lN 0) F.1 F.2.1 dX7_costOf_17 (by decide) ?_
    refine lv_lstore_n (pc := 18) (lv' := [(2, .long (lN 0)), (0, .ref ((rd 0 0))), (1, .int (nI k))]) F.1 F.2.1 dX7_costOf_18 rfl hl (by decide) rfl (fun ls hl => ?_)
    refine lv_iconst (pc := 19) (v := nI 0) F.1 F.2.1 dX7_costOf_19 (by decide) ?_
    refine lv_istore (pc := 20) (lv' := [(4, .int (nI 0)), (2, .long (lN 0)), (0, .ref ((rd 0 0))), (1, .int (nI k))]) F.1 F.2.1 dX7_costOf_20 hl (by decide) rfl (fun ls hl => ?_)
    obtain ⟨wr1, wr2, wr3, wr4⟩ := hW.hru k hrk
    have lp22 : ∀ (k22 u : Nat) (ls : Array Slot) (H : Heap) (locs : List Loc), T.rp k < u + k22 → u ≤ T.rp k → mm_N b D s σ2 H locs → lv_has ls 5 [(0, .ref ((rd 0 0))), (1, .int (nI k)), (2, .long (lN (mm_sm (fun p => if T.oc k p = 108 then T.ps k p else 0) u))), (4, .int (nI u))] →
        W p l e ({ frames := 6, cells := 0, slots := 0, locals := 160 } : Room) s m args below meth c H locs (0) (0) (mm_Q b D (fun v σ2 => mm_Mu rd σ σ2 T (T) (mm_q_costOf T k) v (some (.long (lN (mm_sm (fun p => if T.oc k p = 108 then T.ps k p else 0) (T.rp k))))) (some (.long (lN 0)))) (fun _ _ => False) below args s ({ frames := 6, cells := 0, slots := 0, locals := 160 } : Room)) (F0 m 22 ls []) := by
      intro k22
      induction k22 with
      | zero => intro u  ls H locs hk22 hi22  hN hl; omega
      | succ k22 ih22 =>
        intro u  ls H locs hk22 hi22  hN hl
        refine lv_aload_n (pc := 22) F.1 F.2.1 dX7_costOf_22 rfl (lv_at hl 0 rfl) ?_
        refine mm_get (pc := 23) F hN ((show σ2 (rd 0 0) = mm_obj 1 7 [.ref ((rd 1 0)), .ref ((rd 2 0)), .ref ((rd 3 0)), .int (nI T.nA), .ref ((rd 4 0)), .ref ((rd 5 0)), .ref ((rd 6 0)), .int (nI T.nP), .ref ((rd 7 0)), .ref ((rd 8 0)), .ref ((rd 9 0)), .ref ((rd 10 0)), .ref ((rd 11 0)), .int (nI T.nT), .int (nI T.pa), .ref ((rd 12 0)), .int (nI T.bo), .ref ((rd 13 0)), .ref ((rd 14 0)), .ref ((rd 15 0)), .ref ((rd 16 0)), .ref ((rd 17 0)), .ref ((rd 18 0)), .ref ((rd 19 0)), .int (nI T.nR), .int (nI 0)] from mm_r0 (T := T) hM2)) (ci := 7) rfl 25 (by decide) mw_1204 rfl dX7_costOf_23 ?_
        refine mm_if_ne (pc := 26) F (tgt := 73) (by omega) dX7_costOf_26 (by decide) (fun h9 => absurd h9 (by decide)) (fun cz26 => ?_)
        refine lv_iload (pc := 29) F.1 F.2.1 dX7_costOf_29 (lv_at hl 3 rfl) ?_
        refine lv_aload_n (pc := 31) F.1 F.2.1 dX7_costOf_31 rfl (lv_at hl 0 rfl) ?_
        refine mm_get (pc := 32) F hN ((show σ2 (rd 0 0) = mm_obj 1 7 [.ref ((rd 1 0)), .ref ((rd 2 0)), .ref ((rd 3 0)), .int (nI T.nA), .ref ((rd 4 0)), .ref ((rd 5 0)), .ref ((rd 6 0)), .int (nI T.nP), .ref ((rd 7 0)), .ref ((rd 8 0)), .ref ((rd 9 0)), .ref ((rd 10 0)), .ref ((rd 11 0)), .int (nI T.nT), .int (nI T.pa), .ref ((rd 12 0)), .int (nI T.bo), .ref ((rd 13 0)), .ref ((rd 14 0)), .ref ((rd 15 0)), .ref ((rd 16 0)), .ref ((rd 17 0)), .ref ((rd 18 0)), .ref ((rd 19 0)), .int (nI T.nR), .int (nI 0)] from mm_r0 (T := T) hM2)) (ci := 7) rfl 17 (by decide) mw_1196 rfl dX7_costOf_32 ?_
        refine lv_iload_n (pc := 35) F.1 F.2.1 dX7_costOf_35 rfl (lv_at hl 1 rfl) ?_
        refine mm_iald (pc := 36) F hN ((show σ2 (rd 13 0) = mm_ari 1 0 10 (fun i => nI (T.rp i)) from mm_r13 (T := T) hM2)) (j := k) (rfl) (by omega) (by decide) dX7_costOf_36 ?_
        refine mm_icmp_ge (pc := 37) F (x := u) (y := T.rp k) (tgt := 73) (by omega) (by omega) dX7_costOf_37 (by decide) (fun cz37 => ?_) (fun cz37 => ?_)
        ·
          refine lv_lload_n (pc := 73) F.1 F.2.1 dX7_costOf_73 rfl (lv_at hl 2 rfl) ?_
          exact mm_lret (pc := 74) F hr hN (Or.inl ⟨by show mm_q_costOf T k = 0; unfold mm_q_costOf; (repeat' split) <;> omega, by rw [show T.rp k = u by omega], hM2, hF2⟩) (Nat.le_of_ble_eq_true rfl) (Nat.le_of_ble_eq_true rfl) dX7_costOf_74
        ·
          obtain ⟨wp1, wp2, wp3, wp4, wp5, wp6, wp7⟩ := wr4 u (by omega)
          have wps : T.oc k u = 108 → T.ps k u ≤ 160 := fun h => by rw [wp7 h]; exact mm_cf_le _ _ _
          refine lv_lload_n (pc := 40) F.1 F.2.1 dX7_costOf_40 rfl (lv_at hl 2 rfl) ?_
          refine lv_aload_n (pc := 41) F.1 F.2.1 dX7_costOf_41 rfl (lv_at hl 0 rfl) ?_
          refine lv_iload_n (pc := 42) F.1 F.2.1 dX7_costOf_42 rfl (lv_at hl 1 rfl) ?_
          refine lv_iload (pc := 43) F.1 F.2.1 dX7_costOf_43 (lv_at hl 3 rfl) ?_
          refine mm_runV (pc := 45) (As := [.int (nI k), .int (nI u)]) (rest := [.long (lN (mm_sm (fun p => if T.oc k p = 108 then T.ps k p else 0) u))]) F hN (c_isLett l b D hst T 0 rd σ2 hM2 hW k u (by omega) (by omega)) mw_1411 mw_1413 mw_p35 mw_6 mw_1414 ⟨pmX7_isLetter, (Nat.le_of_ble_eq_true rfl), (Nat.le_of_ble_eq_true rfl)⟩ (mm_recv F.2.2.2.2.2.1 hN ((show σ2 (rd 0 0) = mm_obj 1 7 [.ref ((rd 1 0)), .ref ((rd 2 0)), .ref ((rd 3 0)), .int (nI T.nA), .ref ((rd 4 0)), .ref ((rd 5 0)), .ref ((rd 6 0)), .int (nI T.nP), .ref ((rd 7 0)), .ref ((rd 8 0)), .ref ((rd 9 0)), .ref ((rd 10 0)), .ref ((rd 11 0)), .int (nI T.nT), .int (nI T.pa), .ref ((rd 12 0)), .int (nI T.bo), .ref ((rd 13 0)), .ref ((rd 14 0)), .ref ((rd 15 0)), .ref ((rd 16 0)), .ref ((rd 17 0)), .ref ((rd 18 0)), .ref ((rd 19 0)), .int (nI T.nR), .int (nI 0)] from mm_r0 (T := T) hM2)) rfl) hl.1 rfl (Nat.le_of_ble_eq_true rfl) ⟨(Nat.le_of_ble_eq_true rfl), (Nat.le_of_ble_eq_true rfl)⟩ dX7_costOf_45
            (fun _ _ _ _ _ _ h9 => False.elim h9)
            (fun v9 σ9 H locs hp9 hN => ?_)
          obtain ⟨rfl, h9⟩ := hp9
          rw [h9] at hN
          refine W.eq (g2 := F0 m 48 ls [.int (nI (if T.oc k u = 108 then 1 else 0)), .long (lN (mm_sm (fun p => if T.oc k p = 108 then T.ps k p else 0) u))]) rfl ?_
          refine W.widen (k := 0) (n := 0) (Nat.le_of_ble_eq_true rfl) (Nat.le_of_ble_eq_true rfl) ?_
          by_cases hl9 : T.oc k u = 108
          ·
            refine W.eq (g2 := F0 m 48 ls [.int (nI 1), .long (lN (mm_sm (fun p => if T.oc k p = 108 then T.ps k p else 0) u))]) (by rw [if_pos hl9]) ?_
            have wps9 := wps hl9
            refine mm_if_eq (pc := 48) F (tgt := 64) (by omega) dX7_costOf_48 (by decide) (fun h9 => absurd h9 (by decide)) (fun cz48 => ?_)
            refine lv_aload_n (pc := 51) F.1 F.2.1 dX7_costOf_51 rfl (lv_at hl 0 rfl) ?_
            refine mm_get (pc := 52) F hN ((show σ2 (rd 0 0) = mm_obj 1 7 [.ref ((rd 1 0)), .ref ((rd 2 0)), .ref ((rd 3 0)), .int (nI T.nA), .ref ((rd 4 0)), .ref ((rd 5 0)), .ref ((rd 6 0)), .int (nI T.nP), .ref ((rd 7 0)), .ref ((rd 8 0)), .ref ((rd 9 0)), .ref ((rd 10 0)), .ref ((rd 11 0)), .int (nI T.nT), .int (nI T.pa), .ref ((rd 12 0)), .int (nI T.bo), .ref ((rd 13 0)), .ref ((rd 14 0)), .ref ((rd 15 0)), .ref ((rd 16 0)), .ref ((rd 17 0)), .ref ((rd 18 0)), .ref ((rd 19 0)), .int (nI T.nR), .int (nI 0)] from mm_r0 (T := T) hM2)) (ci := 7) rfl 22 (by decide) mw_1201 rfl dX7_costOf_52 ?_
            refine lv_iload_n (pc := 55) F.1 F.2.1 dX7_costOf_55 rfl (lv_at hl 1 rfl) ?_
            refine mm_aald (pc := 56) F hN ((show σ2 (rd 18 0) = mm_arq 1 5 10 (fun i => if i < 10 then some (rd 18 (i + 1)) else none) from mm_rq18 (T := T) hM2)) rfl rfl (j := k) (rfl) (by omega) (by decide) (if_pos (by omega)) dX7_costOf_56 ?_
            refine lv_iload (pc := 57) F.1 F.2.1 dX7_costOf_57 (lv_at hl 3 rfl) ?_
            refine mm_iald (pc := 59) F hN ((show σ2 (rd 18 (k + 1)) = mm_ari 1 0 24 (fun j => nI (T.ps k j)) from mm_rr18 (T := T) hM2 (i := k) (by omega))) (j := u) (rfl) (by omega) (by decide) dX7_costOf_59 ?_
            refine lv_i2l (pc := 60) (v := lN (T.ps k u)) F.1 F.2.1 dX7_costOf_60 (nI_l (by omega)) ?_
            refine lv_goto (pc := 61) (tgt := 65) F.1 F.2.1 dX7_costOf_61 (by decide) ?_
            refine lv_ladd (pc := 65) F.1 F.2.1 dX7_costOf_65 ?_
            refine W.eq (g2 := F0 m 66 ls [.long (lN ((mm_sm (fun p => if T.oc k p = 108 then T.ps k p else 0) u) + (T.ps k u)))]) (by rw [lN_add]) ?_
            refine W.eq (g2 := F0 m 66 ls [.long (lN (mm_sm (fun p => if T.oc k p = 108 then T.ps k p else 0) (u + 1)))]) (congrArg (fun q => F0 m 66 ls [Value.long (lN q)]) (congrArg (mm_sm (fun p => if T.oc k p = 108 then T.ps k p else 0) u + ·) (if_pos hl9).symm)) ?_
            refine lv_lstore_n (pc := 66) (lv' := [(2, .long (lN (mm_sm (fun p => if T.oc k p = 108 then T.ps k p else 0) (u + 1)))), (0, .ref ((rd 0 0))), (1, .int (nI k)), (4, .int (nI u))]) F.1 F.2.1 dX7_costOf_66 rfl hl (by decide) rfl (fun ls hl => ?_)
            refine lv_iinc (pc := 67) (v := nI (u + 1)) (lv' := [(4, .int (nI (u + 1))), (2, .long (lN (mm_sm (fun p => if T.oc k p = 108 then T.ps k p else 0) (u + 1)))), (0, .ref ((rd 0 0))), (1, .int (nI k))]) F.1 F.2.1 dX7_costOf_67 hl (k := 3) rfl (by rw [← nI_add]; rfl) (by decide) rfl (fun ls hl => ?_)
            refine lv_goto (pc := 70) (tgt := 22) F.1 F.2.1 dX7_costOf_70 (by decide) ?_
            exact ih22 (u + 1) ls _ _ (by omega) (by omega) hN (lv_sub hl [2, 3, 1, 0] rfl)
          ·
            refine W.eq (g2 := F0 m 48 ls [.int (nI 0), .long (lN (mm_sm (fun p => if T.oc k p = 108 then T.ps k p else 0) u))]) (by rw [if_neg hl9]) ?_
            refine mm_if_eq (pc := 48) F (tgt := 64) (by omega) dX7_costOf_48 (by decide) (fun cz48 => ?_) (fun h9 => absurd h9 (by decide))
            refine lv_lconst (pc := 64) (v := lN 0) F.1 F.2.1 dX7_costOf_64 (by decide) ?_
            refine lv_ladd (pc := 65) F.1 F.2.1 dX7_costOf_65 ?_
            refine W.eq (g2 := F0 m 66 ls [.long (lN ((mm_sm (fun p => if T.oc k p = 108 then T.ps k p else 0) u) + 0))]) (by rw [lN_add]) ?_
            refine W.eq (g2 := F0 m 66 ls [.long (lN (mm_sm (fun p => if T.oc k p = 108 then T.ps k p else 0) (u + 1)))]) (congrArg (fun q => F0 m 66 ls [Value.long (lN q)]) (congrArg (mm_sm (fun p => if T.oc k p = 108 then T.ps k p else 0) u + ·) (if_neg hl9).symm)) ?_
            refine lv_lstore_n (pc := 66) (lv' := [(2, .long (lN (mm_sm (fun p => if T.oc k p = 108 then T.ps k p else 0) (u + 1)))), (0, .ref ((rd 0 0))), (1, .int (nI k)), (4, .int (nI u))]) F.1 F.2.1 dX7_costOf_66 rfl hl (by decide) rfl (fun ls hl => ?_)
            refine lv_iinc (pc := 67) (v := nI (u + 1)) (lv' := [(4, .int (nI (u + 1))), (2, .long (lN (mm_sm (fun p => if T.oc k p = 108 then T.ps k p else 0) (u + 1)))), (0, .ref ((rd 0 0))), (1, .int (nI k))]) F.1 F.2.1 dX7_costOf_67 hl (k := 3) rfl (by rw [← nI_add]; rfl) (by decide) rfl (fun ls hl => ?_)
            refine lv_goto (pc := 70) (tgt := 22) F.1 F.2.1 dX7_costOf_70 (by decide) ?_
            exact ih22 (u + 1) ls _ _ (by omega) (by omega) hN (lv_sub hl [2, 3, 1, 0] rfl)
    exact lp22 ((T.rp k) + 1) 0 ls _ _ (by omega) (by omega) hN (lv_sub hl [2, 3, 1, 0] rfl)
  ·
    refine W.eq (g2 := F0 m 6 ls [.int (nI 0), .ref ((rd 0 0))]) (by rw [if_neg hrk]) ?_
    refine mm_if_eq (pc := 6) F (tgt := 13) (by omega) dX7_costOf_6 (by decide) (fun cz6 => ?_) (fun h9 => absurd h9 (by decide))
    refine lv_iconst (pc := 13) (v := nI 1) F.1 F.2.1 dX7_costOf_13 (by decide) ?_
    refine mm_put (pc := 14) F hN (mm_r0 hM) (ci := 7) rfl 25 (by decide) mw_1204 rfl (ty := .int) (by decide +kernel) (rfl) (rfl) (Nat.le_of_ble_eq_true rfl) dX7_costOf_14 (fun H locs hN => ?_)
    have hN : mm_N b D s (mm_u σ ((rd 0 0)) (mm_obj 1 7 [.ref ((rd 1 0)), .ref ((rd 2 0)), .ref ((rd 3 0)), .int (nI T.nA), .ref ((rd 4 0)), .ref ((rd 5 0)), .ref ((rd 6 0)), .int (nI T.nP), .ref ((rd 7 0)), .ref ((rd 8 0)), .ref ((rd 9 0)), .ref ((rd 10 0)), .ref ((rd 11 0)), .int (nI T.nT), .int (nI T.pa), .ref ((rd 12 0)), .int (nI T.bo), .ref ((rd 13 0)), .ref ((rd 14 0)), .ref ((rd 15 0)), .ref ((rd 16 0)), .ref ((rd 17 0)), .ref ((rd 18 0)), .ref ((rd 19 0)), .int (nI T.nR), .int (nI 1)])) _ _ := hN
    obtain ⟨σ3, eσ3⟩ : ∃ q, q = mm_u σ ((rd 0 0)) (mm_obj 1 7 [.ref ((rd 1 0)), .ref ((rd 2 0)), .ref ((rd 3 0)), .int (nI T.nA), .ref ((rd 4 0)), .ref ((rd 5 0)), .ref ((rd 6 0)), .int (nI T.nP), .ref ((rd 7 0)), .ref ((rd 8 0)), .ref ((rd 9 0)), .ref ((rd 10 0)), .ref ((rd 11 0)), .int (nI T.nT), .int (nI T.pa), .ref ((rd 12 0)), .int (nI T.bo), .ref ((rd 13 0)), .ref ((rd 14 0)), .ref ((rd 15 0)), .ref ((rd 16 0)), .ref ((rd 17 0)), .ref ((rd 18 0)), .ref ((rd 19 0)), .int (nI T.nR), .int (nI 1)]) := ⟨_, rfl⟩
    rw [← eσ3] at hN
    have hM3 : mm_M σ3 T 1 rd := by rw [eσ3]; exact mm_Mo hM (fun _ _ => rfl) rfl
    have hF3 : mm_Fr 1 σ σ3 := by rw [eσ3]; exact (mm_Fr.rf).tr (mm_Fr.u (mm_r0 hM))
    refine lv_lconst (pc := 17) (v := lN 0) F.1 F.2.1 dX7_costOf_17 (by decide) ?_
    refine lv_lstore_n (pc := 18) (lv' := [(2, .long (lN 0)), (0, .ref ((rd 0 0))), (1, .int (nI k))]) F.1 F.2.1 dX7_costOf_18 rfl hl (by decide) rfl (fun ls hl => ?_)
    refine lv_iconst (pc := 19) (v := nI 0) F.1 F.2.1 dX7_costOf_19 (by decide) ?_
    refine lv_istore (pc := 20) (lv' := [(4, .int (nI 0)), (2, .long (lN 0)), (0, .ref ((rd 0 0))), (1, .int (nI k))]) F.1 F.2.1 dX7_costOf_20 hl (by decide) rfl (fun ls hl => ?_)
    refine lv_aload_n (pc := 22) F.1 F.2.1 dX7_costOf_22 rfl (lv_at hl 2 rfl) ?_
    refine mm_get (pc := 23) F hN ((show σ3 (rd 0 0) = mm_obj 1 7 [.ref ((rd 1 0)), .ref ((rd 2 0)), .ref ((rd 3 0)), .int (nI T.nA), .ref ((rd 4 0)), .ref ((rd 5 0)), .ref ((rd 6 0)), .int (nI T.nP), .ref ((rd 7 0)), .ref ((rd 8 0)), .ref ((rd 9 0)), .ref ((rd 10 0)), .ref ((rd 11 0)), .int (nI T.nT), .int (nI T.pa), .ref ((rd 12 0)), .int (nI T.bo), .ref ((rd 13 0)), .ref ((rd 14 0)), .ref ((rd 15 0)), .ref ((rd 16 0)), .ref ((rd 17 0)), .ref ((rd 18 0)), .ref ((rd 19 0)), .int (nI T.nR), .int (nI 1)] from mm_r0 (T := T) hM3)) (ci := 7) rfl 25 (by decide) mw_1204 rfl dX7_costOf_23 ?_
    refine mm_if_ne (pc := 26) F (tgt := 73) (by omega) dX7_costOf_26 (by decide) (fun cz26 => ?_) (fun h9 => absurd h9 (by decide))
    refine lv_lload_n (pc := 73) F.1 F.2.1 dX7_costOf_73 rfl (lv_at hl 1 rfl) ?_
    exact mm_lret (pc := 74) F hr hN (Or.inr ⟨by rw [show mm_q_costOf T k = 1 from by show mm_q_costOf T k = 1; unfold mm_q_costOf; (repeat' split) <;> omega]; decide, rfl, by rw [show mm_q_costOf T k = 1 from by show mm_q_costOf T k = 1; unfold mm_q_costOf; (repeat' split) <;> omega]; exact hM3, hF3⟩) (Nat.le_of_ble_eq_true rfl) (Nat.le_of_ble_eq_true rfl) dX7_costOf_74

set_option maxHeartbeats 4000000 in
set_option maxRecDepth 100000 in
theorem r_returnShare (l : Launch) (b : Nat) (D : mm_D) (hst : l.stackTraces = false) (T : mm_T) (th : Nat) (rd : Nat → Nat → Nat) (σ : mm_S) (hM : mm_M σ T th rd) (hW : mm_WF T) : mm_K l b D yX7_returnShare (.code yX7_returnShare cX7_returnShare 5 (some .float)) ({ frames := 6, cells := 0, slots := 0, locals := 160 } : Room) [.ref ((rd 0 0))] σ
    (fun v σ2 => mm_Mu rd σ σ2 T (T) (mm_q_returnShare T) v (some (.float (FP.fdiv (FP.i2f (nI (mm_sm (mm_nb9 T) T.nR))) (FP.i2f (nI (mm_sm (mm_nl T) T.nR)))))) (some (.float FP.fconst0)))
    (fun _ _ => False) := by
  refine mm_of (cc := cX7_returnShare) (nL := 5) (ret := (some .float)) (by decide) rfl (Nat.le_of_ble_eq_true rfl) hst ?_
  intro p e s m args below meth c ls F ht hr hin hN hl
  have hl : lv_has ls 5 [(0, .ref ((rd 0 0)))] := hl
  have wnA := hW.hnA
  have wnP := hW.hnP
  have wnT := hW.hnT
  have wnR := hW.hnR
  have wpa := hW.hpa
  have wbo := hW.hbo
  have wen0 := hW.hen 0
  have wen1 := hW.hen 1
  refine lv_iconst (pc := 0) (v := nI 0) F.1 F.2.1 dX7_returnShare_0 (by decide) ?_
  refine lv_istore_n (pc := 1) (lv' := [(1, .int (nI 0)), (0, .ref ((rd 0 0)))]) F.1 F.2.1 dX7_returnShare_1 rfl hl (by decide) rfl (fun ls hl => ?_)
  refine lv_iconst (pc := 2) (v := nI 0) F.1 F.2.1 dX7_returnShare_2 (by decide) ?_
  refine lv_istore_n (pc := 3) (lv' := [(2, .int (nI 0)), (1, .int (nI 0)), (0, .ref ((rd 0 0)))]) F.1 F.2.1 dX7_returnShare_3 rfl hl (by decide) rfl (fun ls hl => ?_)
  refine lv_iconst (pc := 4) (v := nI 0) F.1 F.2.1 dX7_returnShare_4 (by decide) ?_
  refine lv_istore_n (pc := 5) (lv' := [(3, .int (nI 0)), (2, .int (nI 0)), (1, .int (nI 0)), (0, .ref ((rd 0 0)))]) F.1 F.2.1 dX7_returnShare_5 rfl hl (by decide) rfl (fun ls hl => ?_)
  have lp6 : ∀ (k6 r : Nat) (ls : Array Slot) (H : Heap) (locs : List Loc), T.nR < r + k6 → r ≤ T.nR → mm_N b D s σ H locs → lv_has ls 5 [(0, .ref ((rd 0 0))), (1, .int (nI (mm_sm (mm_nl T) r))), (2, .int (nI (mm_sm (mm_nb9 T) r))), (3, .int (nI r))] →
      W p l e ({ frames := 6, cells := 0, slots := 0, locals := 160 } : Room) s m args below meth c H locs (0) (0) (mm_Q b D (fun v σ2 => mm_Mu rd σ σ2 T (T) (mm_q_returnShare T) v (some (.float (FP.fdiv (FP.i2f (nI (mm_sm (mm_nb9 T) T.nR))) (FP.i2f (nI (mm_sm (mm_nl T) T.nR)))))) (some (.float FP.fconst0))) (fun _ _ => False) below args s ({ frames := 6, cells := 0, slots := 0, locals := 160 } : Room)) (F0 m 6 ls []) := by
    intro k6
    induction k6 with
    | zero => intro r  ls H locs hk6 hi6  hN hl; omega
    | succ k6 ih6 =>
      intro r  ls H locs hk6 hi6  hN hl
      refine lv_iload_n (pc := 6) F.1 F.2.1 dX7_returnShare_6 rfl (lv_at hl 3 rfl) ?_
      refine lv_aload_n (pc := 7) F.1 F.2.1 dX7_returnShare_7 rfl (lv_at hl 0 rfl) ?_
      refine mm_get (pc := 8) F hN (mm_r0 hM) (ci := 7) rfl 24 (by decide) mw_1203 rfl dX7_returnShare_8 ?_
      refine mm_icmp_ge (pc := 11) F (x := r) (y := T.nR) (tgt := 78) (by omega) (by omega) dX7_returnShare_11 (by decide) (fun cz11 => ?_) (fun cz11 => ?_)
      ·
        have hrn : r = T.nR := by omega
        rw [hrn] at hl
        have hnl := mm_nlw hW (Nat.le_refl T.nR)
        have hbw := mm_nbw hW (Nat.le_refl T.nR)
        refine lv_aload_n (pc := 78) F.1 F.2.1 dX7_returnShare_78 rfl (lv_at hl 0 rfl) ?_
        refine lv_iload_n (pc := 79) F.1 F.2.1 dX7_returnShare_79 rfl (lv_at hl 1 rfl) ?_
        refine mm_if_ne (pc := 80) F (tgt := 87) (by omega) dX7_returnShare_80 (by decide) (fun cz80 => ?_) (fun cz80 => ?_)
        ·
          refine lv_iconst (pc := 87) (v := nI 0) F.1 F.2.1 dX7_returnShare_87 (by decide) ?_
          refine mm_put (pc := 88) F hN (mm_r0 hM) (ci := 7) rfl 25 (by decide) mw_1204 rfl (ty := .int) (by decide +kernel) (rfl) (rfl) (Nat.le_of_ble_eq_true rfl) dX7_returnShare_88 (fun H locs hN => ?_)
          have hN : mm_N b D s (mm_u σ ((rd 0 0)) (mm_obj 1 7 [.ref ((rd 1 0)), .ref ((rd 2 0)), .ref ((rd 3 0)), .int (nI T.nA), .ref ((rd 4 0)), .ref ((rd 5 0)), .ref ((rd 6 0)), .int (nI T.nP), .ref ((rd 7 0)), .ref ((rd 8 0)), .ref ((rd 9 0)), .ref ((rd 10 0)), .ref ((rd 11 0)), .int (nI T.nT), .int (nI T.pa), .ref ((rd 12 0)), .int (nI T.bo), .ref ((rd 13 0)), .ref ((rd 14 0)), .ref ((rd 15 0)), .ref ((rd 16 0)), .ref ((rd 17 0)), .ref ((rd 18 0)), .ref ((rd 19 0)), .int (nI T.nR), .int (nI 0)])) _ _ := hN
          obtain ⟨σ2, eσ2⟩ : ∃ q, q = mm_u σ ((rd 0 0)) (mm_obj 1 7 [.ref ((rd 1 0)), .ref ((rd 2 0)), .ref ((rd 3 0)), .int (nI T.nA), .ref ((rd 4 0)), .ref ((rd 5 0)), .ref ((rd 6 0)), .int (nI T.nP), .ref ((rd 7 0)), .ref ((rd 8 0)), .ref ((rd 9 0)), .ref ((rd 10 0)), .ref ((rd 11 0)), .int (nI T.nT), .int (nI T.pa), .ref ((rd 12 0)), .int (nI T.bo), .ref ((rd 13 0)), .ref ((rd 14 0)), .ref ((rd 15 0)), .ref ((rd 16 0)), .ref ((rd 17 0)), .ref ((rd 18 0)), .ref ((rd 19 0)), .int (nI T.nR), .int (nI 0)]) := ⟨_, rfl⟩
          rw [← eσ2] at hN
          have hM2 : mm_M σ2 T 0 rd := by rw [eσ2]; exact mm_Mo hM (fun _ _ => rfl) rfl
          have hF2 : mm_Fr 1 σ σ2 := by rw [eσ2]; exact (mm_Fr.rf).tr (mm_Fr.u (mm_r0 hM))
          refine lv_aload_n (pc := 91) F.1 F.2.1 dX7_returnShare_91 rfl (lv_at hl 0 rfl) ?_
          refine mm_get (pc := 92) F hN ((show σ2 (rd 0 0) = mm_obj 1 7 [.ref ((rd 1 0)), .ref ((rd 2 0)), .ref ((rd 3 0)), .int (nI T.nA), .ref ((rd 4 0)), .ref ((rd 5 0)), .ref ((rd 6 0)), .int (nI T.nP), .ref ((rd 7 0)), .ref ((rd 8 0)), .ref ((rd 9 0)), .ref ((rd 10 0)), .ref ((rd 11 0)), .int (nI T.nT), .int (nI T.pa), .ref ((rd 12 0)), .int (nI T.bo), .ref ((rd 13 0)), .ref ((rd 14 0)), .ref ((rd 15 0)), .ref ((rd 16 0)), .ref ((rd 17 0)), .ref ((rd 18 0)), .ref ((rd 19 0)), .int (nI T.nR), .int (nI 0)] from mm_r0 (T := T) hM2)) (ci := 7) rfl 25 (by decide) mw_1204 rfl dX7_returnShare_92 ?_
          refine mm_if_le (pc := 95) F (tgt := 102) (by omega) dX7_returnShare_95 (by decide) (fun cz95 => ?_) (fun h9 => absurd h9 (by decide))
          refine lv_iload_n (pc := 102) F.1 F.2.1 dX7_returnShare_102 rfl (lv_at hl 2 rfl) ?_
          refine lv_i2f (pc := 103) F.1 F.2.1 dX7_returnShare_103 ?_
          refine lv_iload_n (pc := 104) F.1 F.2.1 dX7_returnShare_104 rfl (lv_at hl 1 rfl) ?_
          refine lv_i2f (pc := 105) F.1 F.2.1 dX7_returnShare_105 ?_
          refine lv_fdiv (pc := 106) F.1 F.2.1 dX7_returnShare_106 (mm_fdivn (by omega) (by omega) cz80) ?_
          exact mm_fret (pc := 107) F hr hN (Or.inl ⟨by show mm_q_returnShare T = 0; unfold mm_q_returnShare; (repeat' split) <;> omega, rfl, hM2, hF2⟩) (Nat.le_of_ble_eq_true rfl) (Nat.le_of_ble_eq_true rfl) dX7_returnShare_107
        ·
          refine lv_iconst (pc := 83) (v := nI 1) F.1 F.2.1 dX7_returnShare_83 (by decide) ?_
          refine lv_goto (pc := 84) (tgt := 88) F.1 F.2.1 dX7_returnShare_84 (by decide) ?_
          refine mm_put (pc := 88) F hN (mm_r0 hM) (ci := 7) rfl 25 (by decide) mw_1204 rfl (ty := .int) (by decide +kernel) (rfl) (rfl) (Nat.le_of_ble_eq_true rfl) dX7_returnShare_88 (fun H locs hN => ?_)
          have hN : mm_N b D s (mm_u σ ((rd 0 0)) (mm_obj 1 7 [.ref ((rd 1 0)), .ref ((rd 2 0)), .ref ((rd 3 0)), .int (nI T.nA), .ref ((rd 4 0)), .ref ((rd 5 0)), .ref ((rd 6 0)), .int (nI T.nP), .ref ((rd 7 0)), .ref ((rd 8 0)), .ref ((rd 9 0)), .ref ((rd 10 0)), .ref ((rd 11 0)), .int (nI T.nT), .int (nI T.pa), .ref ((rd 12 0)), .int (nI T.bo), .ref ((rd 13 0)), .ref ((rd 14 0)), .ref ((rd 15 0)), .ref ((rd 16 0)), .ref ((rd 17 0)), .ref ((rd 18 0)), .ref ((rd 19 0)), .int (nI T.nR), .int (nI 1)])) _ _ := hN
          obtain ⟨σ3, eσ3⟩ : ∃ q, q = mm_u σ ((rd 0 0)) (mm_obj 1 7 [.ref ((rd 1 0)), .ref ((rd 2 0)), .ref ((rd 3 0)), .int (nI T.nA), .ref ((rd 4 0)), .ref ((rd 5 0)), .ref ((rd 6 0)), .int (nI T.nP), .ref ((rd 7 0)), .ref ((rd 8 0)), .ref ((rd 9 0)), .ref ((rd 10 0)), .ref ((rd 11 0)), .int (nI T.nT), .int (nI T.pa), .ref ((rd 12 0)), .int (nI T.bo), .ref ((rd 13 0)), .ref ((rd 14 0)), .ref ((rd 15 0)), .ref ((rd 16 0)), .ref ((rd 17 0)), .ref ((rd 18 0)), .ref ((rd 19 0)), .int (nI T.nR), .int (nI 1)]) := ⟨_, rfl⟩
          rw [← eσ3] at hN
          have hM3 : mm_M σ3 T 1 rd := by rw [eσ3]; exact mm_Mo hM (fun _ _ => rfl) rfl
          have hF3 : mm_Fr 1 σ σ3 := by rw [eσ3]; exact (mm_Fr.rf).tr (mm_Fr.u (mm_r0 hM))
          refine lv_aload_n (pc := 91) F.1 F.2.1 dX7_returnShare_91 rfl (lv_at hl 0 rfl) ?_
          refine mm_get (pc := 92) F hN ((show σ3 (rd 0 0) = mm_obj 1 7 [.ref ((rd 1 0)), .ref ((rd 2 0)), .ref ((rd 3 0)), .int (nI T.nA), .ref ((rd 4 0)), .ref ((rd 5 0)), .ref ((rd 6 0)), .int (nI T.nP), .ref ((rd 7 0)), .ref ((rd 8 0)), .ref ((rd 9 0)), .ref ((rd 10 0)), .ref ((rd 11 0)), .int (nI T.nT), .int (nI T.pa), .ref ((rd 12 0)), .int (nI T.bo), .ref ((rd 13 0)), .ref ((rd 14 0)), .ref ((rd 15 0)), .ref ((rd 16 0)), .ref ((rd 17 0)), .ref ((rd 18 0)), .ref ((rd 19 0)), .int (nI T.nR), .int (nI 1)] from mm_r0 (T := T) hM3)) (ci := 7) rfl 25 (by decide) mw_1204 rfl dX7_returnShare_92 ?_
          refine mm_if_le (pc := 95) F (tgt := 102) (by omega) dX7_returnShare_95 (by decide) (fun h9 => absurd h9 (by decide)) (fun cz95 => ?_)
          refine lv_fconst0 (pc := 98) F.1 F.2.1 dX7_returnShare_98 ?_
          refine lv_goto (pc := 99) (tgt := 107) F.1 F.2.1 dX7_returnShare_99 (by decide) ?_
          exact mm_fret (pc := 107) F hr hN (Or.inr ⟨by rw [show mm_q_returnShare T = 1 from by show mm_q_returnShare T = 1; unfold mm_q_returnShare; (repeat' split) <;> omega]; decide, rfl, by rw [show mm_q_returnShare T = 1 from by show mm_q_returnShare T = 1; unfold mm_q_returnShare; (repeat' split) <;> omega]; exact hM3, hF3⟩) (Nat.le_of_ble_eq_true rfl) (Nat.le_of_ble_eq_true rfl) dX7_returnShare_107
      ·
        refine lv_iconst (pc := 14) (v := nI 0) F.1 F.2.1 dX7_returnShare_14 (by decide) ?_
        refine lv_istore (pc := 15) (lv' := [(4, .int (nI 0)), (0, .ref ((rd 0 0))), (1, .int (nI (mm_sm (mm_nl T) r))), (2, .int (nI (mm_sm (mm_nb9 T) r))), (3, .int (nI r))]) F.1 F.2.1 dX7_returnShare_15 hl (by decide) rfl (fun ls hl => ?_)
        obtain ⟨wr1, wr2, wr3, wr4⟩ := hW.hru r (by omega)
        have lp17 : ∀ (k17 u : Nat) (ls : Array Slot) (H : Heap) (locs : List Loc), T.rp r < u + k17 → u ≤ T.rp r → mm_N b D s σ H locs → lv_has ls 5 [(0, .ref ((rd 0 0))), (1, .int (nI (mm_sm (mm_nl T) r + mm_sm (fun p => if T.oc r p = 108 then 1 else 0) u))), (2, .int (nI (mm_sm (mm_nb9 T) r + mm_sm (fun p => if T.oc r p = 108 then T.bk r p else 0) u))), (3, .int (nI r)), (4, .int (nI u))] →
            W p l e ({ frames := 6, cells := 0, slots := 0, locals := 160 } : Room) s m args below meth c H locs (0) (0) (mm_Q b D (fun v σ2 => mm_Mu rd σ σ2 T (T) (mm_q_returnShare T) v (some (.float (FP.fdiv (FP.i2f (nI (mm_sm (mm_nb9 T) T.nR))) (FP.i2f (nI (mm_sm (mm_nl T) T.nR)))))) (some (.float FP.fconst0))) (fun _ _ => False) below args s ({ frames := 6, cells := 0, slots := 0, locals := 160 } : Room)) (F0 m 17 ls []) := by
          intro k17
          induction k17 with
          | zero => intro u  ls H locs hk17 hi17  hN hl; omega
          | succ k17 ih17 =>
            intro u  ls H locs hk17 hi17  hN hl
            refine lv_iload (pc := 17) F.1 F.2.1 dX7_returnShare_17 (lv_at hl 4 rfl) ?_
            refine lv_aload_n (pc := 19) F.1 F.2.1 dX7_returnShare_19 rfl (lv_at hl 0 rfl) ?_
            refine mm_get (pc := 20) F hN (mm_r0 hM) (ci := 7) rfl 17 (by decide) mw_1196 rfl dX7_returnShare_20 ?_
            refine lv_iload_n (pc := 23) F.1 F.2.1 dX7_returnShare_23 rfl (lv_at hl 3 rfl) ?_
            refine mm_iald (pc := 24) F hN ((show σ (rd 13 0) = mm_ari 1 0 10 (fun i => nI (T.rp i)) from mm_r13 (T := T) hM)) (j := r) (rfl) (by omega) (by decide) dX7_returnShare_24 ?_
            refine mm_icmp_ge (pc := 25) F (x := u) (y := T.rp r) (tgt := 72) (by omega) (by omega) dX7_returnShare_25 (by decide) (fun cz25 => ?_) (fun cz25 => ?_)
            ·
              have hur : u = T.rp r := by omega
              rw [hur] at hl
              have hl : lv_has ls 5 [(0, .ref ((rd 0 0))), (1, .int (nI (mm_sm (mm_nl T) (r + 1)))), (2, .int (nI (mm_sm (mm_nb9 T) (r + 1)))), (3, .int (nI r)), (4, .int (nI (T.rp r)))] := lv_sub hl [0, 1, 2, 3, 4] rfl
              refine lv_iinc (pc := 72) (v := nI (r + 1)) (lv' := [(3, .int (nI (r + 1))), (0, .ref ((rd 0 0))), (1, .int (nI (mm_sm (mm_nl T) (r + 1)))), (2, .int (nI (mm_sm (mm_nb9 T) (r + 1)))), (4, .int (nI (T.rp r)))]) F.1 F.2.1 dX7_returnShare_72 hl (k := 3) rfl (by rw [← nI_add]; rfl) (by decide) rfl (fun ls hl => ?_)
              refine lv_goto (pc := 75) (tgt := 6) F.1 F.2.1 dX7_returnShare_75 (by decide) ?_
              exact ih6 (r + 1) ls _ _ (by omega) (by omega) hN (lv_sub hl [1, 2, 3, 0] rfl)
            ·
              obtain ⟨wp1, wp2, wp3, wp4, wp5, wp6, wp7⟩ := wr4 u (by omega)
              refine lv_iload_n (pc := 28) F.1 F.2.1 dX7_returnShare_28 rfl (lv_at hl 1 rfl) ?_
              refine lv_aload_n (pc := 29) F.1 F.2.1 dX7_returnShare_29 rfl (lv_at hl 0 rfl) ?_
              refine lv_iload_n (pc := 30) F.1 F.2.1 dX7_returnShare_30 rfl (lv_at hl 3 rfl) ?_
              refine lv_iload (pc := 31) F.1 F.2.1 dX7_returnShare_31 (lv_at hl 4 rfl) ?_
              refine mm_runV (pc := 33) (As := [.int (nI r), .int (nI u)]) (rest := [.int (nI (mm_sm (mm_nl T) r + mm_sm (fun p => if T.oc r p = 108 then 1 else 0) u))]) F hN (c_isLett l b D hst T th rd σ hM hW r u (by omega) (by omega)) mw_1411 mw_1413 mw_p35 mw_6 mw_1414 ⟨pmX7_isLetter, (Nat.le_of_ble_eq_true rfl), (Nat.le_of_ble_eq_true rfl)⟩ (mm_recv F.2.2.2.2.2.1 hN (mm_r0 hM) rfl) hl.1 rfl (Nat.le_of_ble_eq_true rfl) ⟨(Nat.le_of_ble_eq_true rfl), (Nat.le_of_ble_eq_true rfl)⟩ dX7_returnShare_33
                (fun _ _ _ _ _ _ h9 => False.elim h9)
                (fun v9 σ9 H locs hp9 hN => ?_)
              obtain ⟨rfl, h9⟩ := hp9
              rw [h9] at hN
              refine W.eq (g2 := F0 m 36 ls [.int (nI (if T.oc r u = 108 then 1 else 0)), .int (nI (mm_sm (mm_nl T) r + mm_sm (fun p => if T.oc r p = 108 then 1 else 0) u))]) rfl ?_
              refine W.widen (k := 0) (n := 0) (Nat.le_of_ble_eq_true rfl) (Nat.le_of_ble_eq_true rfl) ?_
              by_cases hl9 : T.oc r u = 108
              ·
                refine W.eq (g2 := F0 m 36 ls [.int (nI 1), .int (nI (mm_sm (mm_nl T) r + mm_sm (fun p => if T.oc r p = 108 then 1 else 0) u))]) (by rw [if_pos hl9]) ?_
                refine mm_if_eq (pc := 36) F (tgt := 43) (by omega) dX7_returnShare_36 (by decide) (fun h9 => absurd h9 (by decide)) (fun cz36 => ?_)
                refine lv_iconst (pc := 39) (v := nI 1) F.1 F.2.1 dX7_returnShare_39 (by decide) ?_
                refine lv_goto (pc := 40) (tgt := 44) F.1 F.2.1 dX7_returnShare_40 (by decide) ?_
                refine mm_iadd (pc := 44) F (z := nI ((mm_sm (mm_nl T) r + mm_sm (fun p => if T.oc r p = 108 then 1 else 0) u) + 1)) (nI_add _ _) dX7_returnShare_44 ?_
                refine W.eq (g2 := F0 m 45 ls [.int (nI (mm_sm (mm_nl T) r + mm_sm (fun p => if T.oc r p = 108 then 1 else 0) (u + 1)))]) (congrArg (fun q => F0 m 45 ls [Value.int (nI q)]) ((Nat.add_assoc _ _ _).trans (congrArg (mm_sm (mm_nl T) r + ·) (congrArg (mm_sm (fun p => if T.oc r p = 108 then 1 else 0) u + ·) (if_pos hl9).symm)))) ?_
                refine lv_istore_n (pc := 45) (lv' := [(1, .int (nI (mm_sm (mm_nl T) r + mm_sm (fun p => if T.oc r p = 108 then 1 else 0) (u + 1)))), (0, .ref ((rd 0 0))), (2, .int (nI (mm_sm (mm_nb9 T) r + mm_sm (fun p => if T.oc r p = 108 then T.bk r p else 0) u))), (3, .int (nI r)), (4, .int (nI u))]) F.1 F.2.1 dX7_returnShare_45 rfl hl (by decide) rfl (fun ls hl => ?_)
                refine lv_iload_n (pc := 46) F.1 F.2.1 dX7_returnShare_46 rfl (lv_at hl 2 rfl) ?_
                refine lv_aload_n (pc := 47) F.1 F.2.1 dX7_returnShare_47 rfl (lv_at hl 1 rfl) ?_
                refine mm_get (pc := 48) F hN (mm_r0 hM) (ci := 7) rfl 23 (by decide) mw_1202 rfl dX7_returnShare_48 ?_
                refine lv_iload_n (pc := 51) F.1 F.2.1 dX7_returnShare_51 rfl (lv_at hl 3 rfl) ?_
                refine mm_aald (pc := 52) F hN ((show σ (rd 19 0) = mm_arq 1 7 10 (fun i => if i < 10 then some (rd 19 (i + 1)) else none) from mm_rq19 (T := T) hM)) rfl rfl (j := r) (rfl) (by omega) (by decide) (if_pos (by omega)) dX7_returnShare_52 ?_
                refine lv_iload (pc := 53) F.1 F.2.1 dX7_returnShare_53 (lv_at hl 4 rfl) ?_
                refine mm_zald (pc := 55) F hN ((show σ (rd 19 (r + 1)) = mm_ari 1 4 24 (fun j => nI (T.bk r j)) from mm_rr19 (T := T) hM (i := r) (by omega))) (j := u) (rfl) (by omega) (by decide) dX7_returnShare_55 ?_
                refine mm_if_eq (pc := 56) F (tgt := 63) (by omega) dX7_returnShare_56 (by decide) (fun cz56 => ?_) (fun cz56 => ?_)
                ·
                  refine lv_iconst (pc := 63) (v := nI 0) F.1 F.2.1 dX7_returnShare_63 (by decide) ?_
                  refine mm_iadd (pc := 64) F (z := nI ((mm_sm (mm_nb9 T) r + mm_sm (fun p => if T.oc r p = 108 then T.bk r p else 0) u) + 0)) (nI_add _ _) dX7_returnShare_64 ?_
                  refine W.eq (g2 := F0 m 65 ls [.int (nI (mm_sm (mm_nb9 T) r + mm_sm (fun p => if T.oc r p = 108 then T.bk r p else 0) (u + 1)))]) (congrArg (fun q => F0 m 65 ls [Value.int (nI q)]) ((Nat.add_assoc _ _ _).trans (congrArg (mm_sm (mm_nb9 T) r + ·) (congrArg (mm_sm (fun p => if T.oc r p = 108 then T.bk r p else 0) u + ·) (by show 0 = (if T.oc r u = 108 then T.bk r u else 0); split <;> omega))))) ?_
                  refine lv_istore_n (pc := 65) (lv' := [(2, .int (nI (mm_sm (mm_nb9 T) r + mm_sm (fun p => if T.oc r p = 108 then T.bk r p else 0) (u + 1)))), (1, .int (nI (mm_sm (mm_nl T) r + mm_sm (fun p => if T.oc r p = 108 then 1 else 0) (u + 1)))), (0, .ref ((rd 0 0))), (3, .int (nI r)), (4, .int (nI u))]) F.1 F.2.1 dX7_returnShare_65 rfl hl (by decide) rfl (fun ls hl => ?_)
                  refine lv_iinc (pc := 66) (v := nI (u + 1)) (lv' := [(4, .int (nI (u + 1))), (2, .int (nI (mm_sm (mm_nb9 T) r + mm_sm (fun p => if T.oc r p = 108 then T.bk r p else 0) (u + 1)))), (1, .int (nI (mm_sm (mm_nl T) r + mm_sm (fun p => if T.oc r p = 108 then 1 else 0) (u + 1)))), (0, .ref ((rd 0 0))), (3, .int (nI r))]) F.1 F.2.1 dX7_returnShare_66 hl (k := 4) rfl (by rw [← nI_add]; rfl) (by decide) rfl (fun ls hl => ?_)
                  refine lv_goto (pc := 69) (tgt := 17) F.1 F.2.1 dX7_returnShare_69 (by decide) ?_
                  exact ih17 (u + 1) ls _ _ (by omega) (by omega) hN (lv_sub hl [3, 2, 1, 4, 0] rfl)
                ·
                  refine lv_iconst (pc := 59) (v := nI 1) F.1 F.2.1 dX7_returnShare_59 (by decide) ?_
                  refine lv_goto (pc := 60) (tgt := 64) F.1 F.2.1 dX7_returnShare_60 (by decide) ?_
                  refine mm_iadd (pc := 64) F (z := nI ((mm_sm (mm_nb9 T) r + mm_sm (fun p => if T.oc r p = 108 then T.bk r p else 0) u) + 1)) (nI_add _ _) dX7_returnShare_64 ?_
                  refine W.eq (g2 := F0 m 65 ls [.int (nI (mm_sm (mm_nb9 T) r + mm_sm (fun p => if T.oc r p = 108 then T.bk r p else 0) (u + 1)))]) (congrArg (fun q => F0 m 65 ls [Value.int (nI q)]) ((Nat.add_assoc _ _ _).trans (congrArg (mm_sm (mm_nb9 T) r + ·) (congrArg (mm_sm (fun p => if T.oc r p = 108 then T.bk r p else 0) u + ·) (by have := wp6 (by omega); show 1 = (if T.oc r u = 108 then T.bk r u else 0); rw [if_pos this]; omega))))) ?_
                  refine lv_istore_n (pc := 65) (lv' := [(2, .int (nI (mm_sm (mm_nb9 T) r + mm_sm (fun p => if T.oc r p = 108 then T.bk r p else 0) (u + 1)))), (1, .int (nI (mm_sm (mm_nl T) r + mm_sm (fun p => if T.oc r p = 108 then 1 else 0) (u + 1)))), (0, .ref ((rd 0 0))), (3, .int (nI r)), (4, .int (nI u))]) F.1 F.2.1 dX7_returnShare_65 rfl hl (by decide) rfl (fun ls hl => ?_)
                  refine lv_iinc (pc := 66) (v := nI (u + 1)) (lv' := [(4, .int (nI (u + 1))), (2, .int (nI (mm_sm (mm_nb9 T) r + mm_sm (fun p => if T.oc r p = 108 then T.bk r p else 0) (u + 1)))), (1, .int (nI (mm_sm (mm_nl T) r + mm_sm (fun p => if T.oc r p = 108 then 1 else 0) (u + 1)))), (0, .ref ((rd 0 0))), (3, .int (nI r))]) F.1 F.2.1 dX7_returnShare_66 hl (k := 4) rfl (by rw [← nI_add]; rfl) (by decide) rfl (fun ls hl => ?_)
                  refine lv_goto (pc := 69) (tgt := 17) F.1 F.2.1 dX7_returnShare_69 (by decide) ?_
                  exact ih17 (u + 1) ls _ _ (by omega) (by omega) hN (lv_sub hl [3, 2, 1, 4, 0] rfl)
              ·
                refine W.eq (g2 := F0 m 36 ls [.int (nI 0), .int (nI (mm_sm (mm_nl T) r + mm_sm (fun p => if T.oc r p = 108 then 1 else 0) u))]) (by rw [if_neg hl9]) ?_
                refine mm_if_eq (pc := 36) F (tgt := 43) (by omega) dX7_returnShare_36 (by decide) (fun cz36 => ?_) (fun h9 => absurd h9 (by decide))
                refine lv_iconst (pc := 43) (v := nI 0) F.1 F.2.1 dX7_returnShare_43 (by decide) ?_
                refine mm_iadd (pc := 44) F (z := nI ((mm_sm (mm_nl T) r + mm_sm (fun p => if T.oc r p = 108 then 1 else 0) u) + 0)) (nI_add _ _) dX7_returnShare_44 ?_
                refine W.eq (g2 := F0 m 45 ls [.int (nI (mm_sm (mm_nl T) r + mm_sm (fun p => if T.oc r p = 108 then 1 else 0) (u + 1)))]) (congrArg (fun q => F0 m 45 ls [Value.int (nI q)]) ((Nat.add_assoc _ _ _).trans (congrArg (mm_sm (mm_nl T) r + ·) (congrArg (mm_sm (fun p => if T.oc r p = 108 then 1 else 0) u + ·) (if_neg hl9).symm)))) ?_
                refine lv_istore_n (pc := 45) (lv' := [(1, .int (nI (mm_sm (mm_nl T) r + mm_sm (fun p => if T.oc r p = 108 then 1 else 0) (u + 1)))), (0, .ref ((rd 0 0))), (2, .int (nI (mm_sm (mm_nb9 T) r + mm_sm (fun p => if T.oc r p = 108 then T.bk r p else 0) u))), (3, .int (nI r)), (4, .int (nI u))]) F.1 F.2.1 dX7_returnShare_45 rfl hl (by decide) rfl (fun ls hl => ?_)
                refine lv_iload_n (pc := 46) F.1 F.2.1 dX7_returnShare_46 rfl (lv_at hl 2 rfl) ?_
                refine lv_aload_n (pc := 47) F.1 F.2.1 dX7_returnShare_47 rfl (lv_at hl 1 rfl) ?_
                refine mm_get (pc := 48) F hN (mm_r0 hM) (ci := 7) rfl 23 (by decide) mw_1202 rfl dX7_returnShare_48 ?_
                refine lv_iload_n (pc := 51) F.1 F.2.1 dX7_returnShare_51 rfl (lv_at hl 3 rfl) ?_
                refine mm_aald (pc := 52) F hN ((show σ (rd 19 0) = mm_arq 1 7 10 (fun i => if i < 10 then some (rd 19 (i + 1)) else none) from mm_rq19 (T := T) hM)) rfl rfl (j := r) (rfl) (by omega) (by decide) (if_pos (by omega)) dX7_returnShare_52 ?_
                refine lv_iload (pc := 53) F.1 F.2.1 dX7_returnShare_53 (lv_at hl 4 rfl) ?_
                refine mm_zald (pc := 55) F hN ((show σ (rd 19 (r + 1)) = mm_ari 1 4 24 (fun j => nI (T.bk r j)) from mm_rr19 (T := T) hM (i := r) (by omega))) (j := u) (rfl) (by omega) (by decide) dX7_returnShare_55 ?_
                refine mm_if_eq (pc := 56) F (tgt := 63) (by omega) dX7_returnShare_56 (by decide) (fun cz56 => ?_) (fun cz56 => ?_)
                ·
                  refine lv_iconst (pc := 63) (v := nI 0) F.1 F.2.1 dX7_returnShare_63 (by decide) ?_
                  refine mm_iadd (pc := 64) F (z := nI ((mm_sm (mm_nb9 T) r + mm_sm (fun p => if T.oc r p = 108 then T.bk r p else 0) u) + 0)) (nI_add _ _) dX7_returnShare_64 ?_
                  refine W.eq (g2 := F0 m 65 ls [.int (nI (mm_sm (mm_nb9 T) r + mm_sm (fun p => if T.oc r p = 108 then T.bk r p else 0) (u + 1)))]) (congrArg (fun q => F0 m 65 ls [Value.int (nI q)]) ((Nat.add_assoc _ _ _).trans (congrArg (mm_sm (mm_nb9 T) r + ·) (congrArg (mm_sm (fun p => if T.oc r p = 108 then T.bk r p else 0) u + ·) (by show 0 = (if T.oc r u = 108 then T.bk r u else 0); split <;> omega))))) ?_
                  refine lv_istore_n (pc := 65) (lv' := [(2, .int (nI (mm_sm (mm_nb9 T) r + mm_sm (fun p => if T.oc r p = 108 then T.bk r p else 0) (u + 1)))), (1, .int (nI (mm_sm (mm_nl T) r + mm_sm (fun p => if T.oc r p = 108 then 1 else 0) (u + 1)))), (0, .ref ((rd 0 0))), (3, .int (nI r)), (4, .int (nI u))]) F.1 F.2.1 dX7_returnShare_65 rfl hl (by decide) rfl (fun ls hl => ?_)
                  refine lv_iinc (pc := 66) (v := nI (u + 1)) (lv' := [(4, .int (nI (u + 1))), (2, .int (nI (mm_sm (mm_nb9 T) r + mm_sm (fun p => if T.oc r p = 108 then T.bk r p else 0) (u + 1)))), (1, .int (nI (mm_sm (mm_nl T) r + mm_sm (fun p => if T.oc r p = 108 then 1 else 0) (u + 1)))), (0, .ref ((rd 0 0))), (3, .int (nI r))]) F.1 F.2.1 dX7_returnShare_66 hl (k := 4) rfl (by rw [← nI_add]; rfl) (by decide) rfl (fun ls hl => ?_)
                  refine lv_goto (pc := 69) (tgt := 17) F.1 F.2.1 dX7_returnShare_69 (by decide) ?_
                  exact ih17 (u + 1) ls _ _ (by omega) (by omega) hN (lv_sub hl [3, 2, 1, 4, 0] rfl)
                ·
                  refine lv_iconst (pc := 59) (v := nI 1) F.1 F.2.1 dX7_returnShare_59 (by decide) ?_
                  refine lv_goto (pc := 60) (tgt := 64) F.1 F.2.1 dX7_returnShare_60 (by decide) ?_
                  refine mm_iadd (pc := 64) F (z := nI ((mm_sm (mm_nb9 T) r + mm_sm (fun p => if T.oc r p = 108 then T.bk r p else 0) u) + 1)) (nI_add _ _) dX7_returnShare_64 ?_
                  refine W.eq (g2 := F0 m 65 ls [.int (nI (mm_sm (mm_nb9 T) r + mm_sm (fun p => if T.oc r p = 108 then T.bk r p else 0) (u + 1)))]) (congrArg (fun q => F0 m 65 ls [Value.int (nI q)]) ((Nat.add_assoc _ _ _).trans (congrArg (mm_sm (mm_nb9 T) r + ·) (congrArg (mm_sm (fun p => if T.oc r p = 108 then T.bk r p else 0) u + ·) (by have := wp6 (by omega); show 1 = (if T.oc r u = 108 then T.bk r u else 0); rw [if_pos this]; omega))))) ?_
                  refine lv_istore_n (pc := 65) (lv' := [(2, .int (nI (mm_sm (mm_nb9 T) r + mm_sm (fun p => if T.oc r p = 108 then T.bk r p else 0) (u + 1)))), (1, .int (nI (mm_sm (mm_nl T) r + mm_sm (fun p => if T.oc r p = 108 then 1 else 0) (u + 1)))), (0, .ref ((rd 0 0))), (3, .int (nI r)), (4, .int (nI u))]) F.1 F.2.1 dX7_returnShare_65 rfl hl (by decide) rfl (fun ls hl => ?_)
                  refine lv_iinc (pc := 66) (v := nI (u + 1)) (lv' := [(4, .int (nI (u + 1))), (2, .int (nI (mm_sm (mm_nb9 T) r + mm_sm (fun p => if T.oc r p = 108 then T.bk r p else 0) (u + 1)))), (1, .int (nI (mm_sm (mm_nl T) r + mm_sm (fun p => if T.oc r p = 108 then 1 else 0) (u + 1)))), (0, .ref ((rd 0 0))), (3, .int (nI r))]) F.1 F.2.1 dX7_returnShare_66 hl (k := 4) rfl (by rw [← nI_add]; rfl) (by decide) rfl (fun ls hl => ?_)
                  refine lv_goto (pc := 69) (tgt := 17) F.1 F.2.1 dX7_returnShare_69 (by decide) ?_
                  exact ih17 (u + 1) ls _ _ (by omega) (by omega) hN (lv_sub hl [3, 2, 1, 4, 0] rfl)
        exact lp17 ((T.rp r) + 1) 0 ls _ _ (by omega) (by omega) hN (lv_sub hl [1, 2, 3, 4, 0] rfl)
  exact lp6 (T.nR + 1) 0 ls _ _ (by omega) (by omega) hN (lv_sub hl [3, 2, 1, 0] rfl)

set_option maxHeartbeats 4000000 in
set_option maxRecDepth 100000 in
theorem r_meanPages (l : Launch) (b : Nat) (D : mm_D) (hst : l.stackTraces = false) (T : mm_T) (th : Nat) (rd : Nat → Nat → Nat) (σ : mm_S) (hM : mm_M σ T th rd) (hW : mm_WF T) : mm_K l b D yX7_meanPages (.code yX7_meanPages cX7_meanPages 5 (some .double)) ({ frames := 6, cells := 0, slots := 0, locals := 160 } : Room) [.ref ((rd 0 0))] σ
    (fun v σ2 => mm_Mu rd σ σ2 T (T) (mm_q_meanPages T) v (some (.double (FP.ddiv (FP.i2d (nI (mm_sm (mm_s0 T) T.nR))) (FP.i2d (nI (mm_sm (mm_nl T) T.nR)))))) (some (.double FP.dconst0)))
    (fun _ _ => False) := by
  refine mm_of (cc := cX7_meanPages) (nL := 5) (ret := (some .double)) (by decide) rfl (Nat.le_of_ble_eq_true rfl) hst ?_
  intro p e s m args below meth c ls F ht hr hin hN hl
  have hl : lv_has ls 5 [(0, .ref ((rd 0 0)))] := hl
  have wnA := hW.hnA
  have wnP := hW.hnP
  have wnT := hW.hnT
  have wnR := hW.hnR
  have wpa := hW.hpa
  have wbo := hW.hbo
  have wen0 := hW.hen 0
  have wen1 := hW.hen 1
  refine lv_iconst (pc := 0) (v := nI 0) F.1 F.2.1 dX7_meanPages_0 (by decide) ?_
  refine lv_istore_n (pc := 1) (lv' := [(1, .int (nI 0)), (0, .ref ((rd 0 0)))]) F.1 F.2.1 dX7_meanPages_1 rfl hl (by decide) rfl (fun ls hl => ?_)
  refine lv_iconst (pc := 2) (v := nI 0) F.1 F.2.1 dX7_meanPages_2 (by decide) ?_
  refine lv_istore_n (pc := 3) (lv' := [(2, .int (nI 0)), (1, .int (nI 0)), (0, .ref ((rd 0 0)))]) F.1 F.2.1 dX7_meanPages_3 rfl hl (by decide) rfl (fun ls hl => ?_)
  refine lv_iconst (pc := 4) (v := nI 0) F.1 F.2.1 dX7_meanPages_4 (by decide) ?_
  refine lv_istore_n (pc := 5) (lv' := [(3, .int (nI 0)), (2, .int (nI 0)), (1, .int (nI 0)), (0, .ref ((rd 0 0)))]) F.1 F.2.1 dX7_meanPages_5 rfl hl (by decide) rfl (fun ls hl => ?_)
  have lp6 : ∀ (k6 r : Nat) (ls : Array Slot) (H : Heap) (locs : List Loc), T.nR < r + k6 → r ≤ T.nR → mm_N b D s σ H locs → lv_has ls 5 [(0, .ref ((rd 0 0))), (1, .int (nI (mm_sm (mm_nl T) r))), (2, .int (nI (mm_sm (mm_s0 T) r))), (3, .int (nI r))] →
      W p l e ({ frames := 6, cells := 0, slots := 0, locals := 160 } : Room) s m args below meth c H locs (0) (0) (mm_Q b D (fun v σ2 => mm_Mu rd σ σ2 T (T) (mm_q_meanPages T) v (some (.double (FP.ddiv (FP.i2d (nI (mm_sm (mm_s0 T) T.nR))) (FP.i2d (nI (mm_sm (mm_nl T) T.nR)))))) (some (.double FP.dconst0))) (fun _ _ => False) below args s ({ frames := 6, cells := 0, slots := 0, locals := 160 } : Room)) (F0 m 6 ls []) := by
    intro k6
    induction k6 with
    | zero => intro r  ls H locs hk6 hi6  hN hl; omega
    | succ k6 ih6 =>
      intro r  ls H locs hk6 hi6  hN hl
      refine lv_iload_n (pc := 6) F.1 F.2.1 dX7_meanPages_6 rfl (lv_at hl 3 rfl) ?_
      refine lv_aload_n (pc := 7) F.1 F.2.1 dX7_meanPages_7 rfl (lv_at hl 0 rfl) ?_
      refine mm_get (pc := 8) F hN (mm_r0 hM) (ci := 7) rfl 24 (by decide) mw_1203 rfl dX7_meanPages_8 ?_
      refine mm_icmp_ge (pc := 11) F (x := r) (y := T.nR) (tgt := 84) (by omega) (by omega) dX7_meanPages_11 (by decide) (fun cz11 => ?_) (fun cz11 => ?_)
      ·
        have hrn : r = T.nR := by omega
        rw [hrn] at hl
        have hnl := mm_nlw hW (Nat.le_refl T.nR)
        have hbw := mm_s0w hW (Nat.le_refl T.nR)
        refine lv_aload_n (pc := 84) F.1 F.2.1 dX7_meanPages_84 rfl (lv_at hl 0 rfl) ?_
        refine lv_iload_n (pc := 85) F.1 F.2.1 dX7_meanPages_85 rfl (lv_at hl 1 rfl) ?_
        refine mm_if_ne (pc := 86) F (tgt := 93) (by omega) dX7_meanPages_86 (by decide) (fun cz86 => ?_) (fun cz86 => ?_)
        ·
          refine lv_iconst (pc := 93) (v := nI 0) F.1 F.2.1 dX7_meanPages_93 (by decide) ?_
          refine mm_put (pc := 94) F hN (mm_r0 hM) (ci := 7) rfl 25 (by decide) mw_1204 rfl (ty := .int) (by decide +kernel) (rfl) (rfl) (Nat.le_of_ble_eq_true rfl) dX7_meanPages_94 (fun H locs hN => ?_)
          have hN : mm_N b D s (mm_u σ ((rd 0 0)) (mm_obj 1 7 [.ref ((rd 1 0)), .ref ((rd 2 0)), .ref ((rd 3 0)), .int (nI T.nA), .ref ((rd 4 0)), .ref ((rd 5 0)), .ref ((rd 6 0)), .int (nI T.nP), .ref ((rd 7 0)), .ref ((rd 8 0)), .ref ((rd 9 0)), .ref ((rd 10 0)), .ref ((rd 11 0)), .int (nI T.nT), .int (nI T.pa), .ref ((rd 12 0)), .int (nI T.bo), .ref ((rd 13 0)), .ref ((rd 14 0)), .ref ((rd 15 0)), .ref ((rd 16 0)), .ref ((rd 17 0)), .ref ((rd 18 0)), .ref ((rd 19 0)), .int (nI T.nR), .int (nI 0)])) _ _ := hN
          obtain ⟨σ2, eσ2⟩ : ∃ q, q = mm_u σ ((rd 0 0)) (mm_obj 1 7 [.ref ((rd 1 0)), .ref ((rd 2 0)), .ref ((rd 3 0)), .int (nI T.nA), .ref ((rd 4 0)), .ref ((rd 5 0)), .ref ((rd 6 0)), .int (nI T.nP), .ref ((rd 7 0)), .ref ((rd 8 0)), .ref ((rd 9 0)), .ref ((rd 10 0)), .ref ((rd 11 0)), .int (nI T.nT), .int (nI T.pa), .ref ((rd 12 0)), .int (nI T.bo), .ref ((rd 13 0)), .ref ((rd 14 0)), .ref ((rd 15 0)), .ref ((rd 16 0)), .ref ((rd 17 0)), .ref ((rd 18 0)), .ref ((rd 19 0)), .int (nI T.nR), .int (nI 0)]) := ⟨_, rfl⟩
          rw [← eσ2] at hN
          have hM2 : mm_M σ2 T 0 rd := by rw [eσ2]; exact mm_Mo hM (fun _ _ => rfl) rfl
          have hF2 : mm_Fr 1 σ σ2 := by rw [eσ2]; exact (mm_Fr.rf).tr (mm_Fr.u (mm_r0 hM))
          refine lv_aload_n (pc := 97) F.1 F.2.1 dX7_meanPages_97 rfl (lv_at hl 0 rfl) ?_
          refine mm_get (pc := 98) F hN ((show σ2 (rd 0 0) = mm_obj 1 7 [.ref ((rd 1 0)), .ref ((rd 2 0)), .ref ((rd 3 0)), .int (nI T.nA), .ref ((rd 4 0)), .ref ((rd 5 0)), .ref ((rd 6 0)), .int (nI T.nP), .ref ((rd 7 0)), .ref ((rd 8 0)), .ref ((rd 9 0)), .ref ((rd 10 0)), .ref ((rd 11 0)), .int (nI T.nT), .int (nI T.pa), .ref ((rd 12 0)), .int (nI T.bo), .ref ((rd 13 0)), .ref ((rd 14 0)), .ref ((rd 15 0)), .ref ((rd 16 0)), .ref ((rd 17 0)), .ref ((rd 18 0)), .ref ((rd 19 0)), .int (nI T.nR), .int (nI 0)] from mm_r0 (T := T) hM2)) (ci := 7) rfl 25 (by decide) mw_1204 rfl dX7_meanPages_98 ?_
          refine mm_if_le (pc := 101) F (tgt := 108) (by omega) dX7_meanPages_101 (by decide) (fun cz101 => ?_) (fun h9 => absurd h9 (by decide))
          refine lv_iload_n (pc := 108) F.1 F.2.1 dX7_meanPages_108 rfl (lv_at hl 2 rfl) ?_
          refine lv_i2d (pc := 109) F.1 F.2.1 dX7_meanPages_109 ?_
          refine lv_iload_n (pc := 110) F.1 F.2.1 dX7_meanPages_110 rfl (lv_at hl 1 rfl) ?_
          refine lv_i2d (pc := 111) F.1 F.2.1 dX7_meanPages_111 ?_
          refine lv_ddiv (pc := 112) F.1 F.2.1 dX7_meanPages_112 (mm_ddivn (by omega) (by omega) cz86) ?_
          exact mm_dret (pc := 113) F hr hN (Or.inl ⟨by show mm_q_meanPages T = 0; unfold mm_q_meanPages; (repeat' split) <;> omega, rfl, hM2, hF2⟩) (Nat.le_of_ble_eq_true rfl) (Nat.le_of_ble_eq_true rfl) dX7_meanPages_113
        ·
          refine lv_iconst (pc := 89) (v := nI 1) F.1 F.2.1 dX7_meanPages_89 (by decide) ?_
          refine lv_goto (pc := 90) (tgt := 94) F.1 F.2.1 dX7_meanPages_90 (by decide) ?_
          refine mm_put (pc := 94) F hN (mm_r0 hM) (ci := 7) rfl 25 (by decide) mw_1204 rfl (ty := .int) (by decide +kernel) (rfl) (rfl) (Nat.le_of_ble_eq_true rfl) dX7_meanPages_94 (fun H locs hN => ?_)
          have hN : mm_N b D s (mm_u σ ((rd 0 0)) (mm_obj 1 7 [.ref ((rd 1 0)), .ref ((rd 2 0)), .ref ((rd 3 0)), .int (nI T.nA), .ref ((rd 4 0)), .ref ((rd 5 0)), .ref ((rd 6 0)), .int (nI T.nP), .ref ((rd 7 0)), .ref ((rd 8 0)), .ref ((rd 9 0)), .ref ((rd 10 0)), .ref ((rd 11 0)), .int (nI T.nT), .int (nI T.pa), .ref ((rd 12 0)), .int (nI T.bo), .ref ((rd 13 0)), .ref ((rd 14 0)), .ref ((rd 15 0)), .ref ((rd 16 0)), .ref ((rd 17 0)), .ref ((rd 18 0)), .ref ((rd 19 0)), .int (nI T.nR), .int (nI 1)])) _ _ := hN
          obtain ⟨σ3, eσ3⟩ : ∃ q, q = mm_u σ ((rd 0 0)) (mm_obj 1 7 [.ref ((rd 1 0)), .ref ((rd 2 0)), .ref ((rd 3 0)), .int (nI T.nA), .ref ((rd 4 0)), .ref ((rd 5 0)), .ref ((rd 6 0)), .int (nI T.nP), .ref ((rd 7 0)), .ref ((rd 8 0)), .ref ((rd 9 0)), .ref ((rd 10 0)), .ref ((rd 11 0)), .int (nI T.nT), .int (nI T.pa), .ref ((rd 12 0)), .int (nI T.bo), .ref ((rd 13 0)), .ref ((rd 14 0)), .ref ((rd 15 0)), .ref ((rd 16 0)), .ref ((rd 17 0)), .ref ((rd 18 0)), .ref ((rd 19 0)), .int (nI T.nR), .int (nI 1)]) := ⟨_, rfl⟩
          rw [← eσ3] at hN
          have hM3 : mm_M σ3 T 1 rd := by rw [eσ3]; exact mm_Mo hM (fun _ _ => rfl) rfl
          have hF3 : mm_Fr 1 σ σ3 := by rw [eσ3]; exact (mm_Fr.rf).tr (mm_Fr.u (mm_r0 hM))
          refine lv_aload_n (pc := 97) F.1 F.2.1 dX7_meanPages_97 rfl (lv_at hl 0 rfl) ?_
          refine mm_get (pc := 98) F hN ((show σ3 (rd 0 0) = mm_obj 1 7 [.ref ((rd 1 0)), .ref ((rd 2 0)), .ref ((rd 3 0)), .int (nI T.nA), .ref ((rd 4 0)), .ref ((rd 5 0)), .ref ((rd 6 0)), .int (nI T.nP), .ref ((rd 7 0)), .ref ((rd 8 0)), .ref ((rd 9 0)), .ref ((rd 10 0)), .ref ((rd 11 0)), .int (nI T.nT), .int (nI T.pa), .ref ((rd 12 0)), .int (nI T.bo), .ref ((rd 13 0)), .ref ((rd 14 0)), .ref ((rd 15 0)), .ref ((rd 16 0)), .ref ((rd 17 0)), .ref ((rd 18 0)), .ref ((rd 19 0)), .int (nI T.nR), .int (nI 1)] from mm_r0 (T := T) hM3)) (ci := 7) rfl 25 (by decide) mw_1204 rfl dX7_meanPages_98 ?_
          refine mm_if_le (pc := 101) F (tgt := 108) (by omega) dX7_meanPages_101 (by decide) (fun h9 => absurd h9 (by decide)) (fun cz101 => ?_)
          refine lv_dconst0 (pc := 104) F.1 F.2.1 dX7_meanPages_104 ?_
          refine lv_goto (pc := 105) (tgt := 113) F.1 F.2.1 dX7_meanPages_105 (by decide) ?_
          exact mm_dret (pc := 113) F hr hN (Or.inr ⟨by rw [show mm_q_meanPages T = 1 from by show mm_q_meanPages T = 1; unfold mm_q_meanPages; (repeat' split) <;> omega]; decide, rfl, by rw [show mm_q_meanPages T = 1 from by show mm_q_meanPages T = 1; unfold mm_q_meanPages; (repeat' split) <;> omega]; exact hM3, hF3⟩) (Nat.le_of_ble_eq_true rfl) (Nat.le_of_ble_eq_true rfl) dX7_meanPages_113
      ·
        refine lv_iconst (pc := 14) (v := nI 0) F.1 F.2.1 dX7_meanPages_14 (by decide) ?_
        refine lv_istore (pc := 15) (lv' := [(4, .int (nI 0)), (0, .ref ((rd 0 0))), (1, .int (nI (mm_sm (mm_nl T) r))), (2, .int (nI (mm_sm (mm_s0 T) r))), (3, .int (nI r))]) F.1 F.2.1 dX7_meanPages_15 hl (by decide) rfl (fun ls hl => ?_)
        obtain ⟨wr1, wr2, wr3, wr4⟩ := hW.hru r (by omega)
        have lp17 : ∀ (k17 u : Nat) (ls : Array Slot) (H : Heap) (locs : List Loc), T.rp r < u + k17 → u ≤ T.rp r → mm_N b D s σ H locs → lv_has ls 5 [(0, .ref ((rd 0 0))), (1, .int (nI (mm_sm (mm_nl T) r + mm_sm (fun p => if T.oc r p = 108 then 1 else 0) u))), (2, .int (nI (mm_sm (mm_s0 T) r + mm_sm (fun p => if T.oc r p = 108 then T.pg r p else 0) u))), (3, .int (nI r)), (4, .int (nI u))] →
            W p l e ({ frames := 6, cells := 0, slots := 0, locals := 160 } : Room) s m args below meth c H locs (0) (0) (mm_Q b D (fun v σ2 => mm_Mu rd σ σ2 T (T) (mm_q_meanPages T) v (some (.double (FP.ddiv (FP.i2d (nI (mm_sm (mm_s0 T) T.nR))) (FP.i2d (nI (mm_sm (mm_nl T) T.nR)))))) (some (.double FP.dconst0))) (fun _ _ => False) below args s ({ frames := 6, cells := 0, slots := 0, locals := 160 } : Room)) (F0 m 17 ls []) := by
          intro k17
          induction k17 with
          | zero => intro u  ls H locs hk17 hi17  hN hl; omega
          | succ k17 ih17 =>
            intro u  ls H locs hk17 hi17  hN hl
            refine lv_iload (pc := 17) F.1 F.2.1 dX7_meanPages_17 (lv_at hl 4 rfl) ?_
            refine lv_aload_n (pc := 19) F.1 F.2.1 dX7_meanPages_19 rfl (lv_at hl 0 rfl) ?_
            refine mm_get (pc := 20) F hN (mm_r0 hM) (ci := 7) rfl 17 (by decide) mw_1196 rfl dX7_meanPages_20 ?_
            refine lv_iload_n (pc := 23) F.1 F.2.1 dX7_meanPages_23 rfl (lv_at hl 3 rfl) ?_
            refine mm_iald (pc := 24) F hN ((show σ (rd 13 0) = mm_ari 1 0 10 (fun i => nI (T.rp i)) from mm_r13 (T := T) hM)) (j := r) (rfl) (by omega) (by decide) dX7_meanPages_24 ?_
            refine mm_icmp_ge (pc := 25) F (x := u) (y := T.rp r) (tgt := 78) (by omega) (by omega) dX7_meanPages_25 (by decide) (fun cz25 => ?_) (fun cz25 => ?_)
            ·
              have hur : u = T.rp r := by omega
              rw [hur] at hl
              have hl : lv_has ls 5 [(0, .ref ((rd 0 0))), (1, .int (nI (mm_sm (mm_nl T) (r + 1)))), (2, .int (nI (mm_sm (mm_s0 T) (r + 1)))), (3, .int (nI r)), (4, .int (nI (T.rp r)))] := lv_sub hl [0, 1, 2, 3, 4] rfl
              refine lv_iinc (pc := 78) (v := nI (r + 1)) (lv' := [(3, .int (nI (r + 1))), (0, .ref ((rd 0 0))), (1, .int (nI (mm_sm (mm_nl T) (r + 1)))), (2, .int (nI (mm_sm (mm_s0 T) (r + 1)))), (4, .int (nI (T.rp r)))]) F.1 F.2.1 dX7_meanPages_78 hl (k := 3) rfl (by rw [← nI_add]; rfl) (by decide) rfl (fun ls hl => ?_)
              refine lv_goto (pc := 81) (tgt := 6) F.1 F.2.1 dX7_meanPages_81 (by decide) ?_
              exact ih6 (r + 1) ls _ _ (by omega) (by omega) hN (lv_sub hl [1, 2, 3, 0] rfl)
            ·
              obtain ⟨wp1, wp2, wp3, wp4, wp5, wp6, wp7⟩ := wr4 u (by omega)
              refine lv_iload_n (pc := 28) F.1 F.2.1 dX7_meanPages_28 rfl (lv_at hl 1 rfl) ?_
              refine lv_aload_n (pc := 29) F.1 F.2.1 dX7_meanPages_29 rfl (lv_at hl 0 rfl) ?_
              refine lv_iload_n (pc := 30) F.1 F.2.1 dX7_meanPages_30 rfl (lv_at hl 3 rfl) ?_
              refine lv_iload (pc := 31) F.1 F.2.1 dX7_meanPages_31 (lv_at hl 4 rfl) ?_
              refine mm_runV (pc := 33) (As := [.int (nI r), .int (nI u)]) (rest := [.int (nI (mm_sm (mm_nl T) r + mm_sm (fun p => if T.oc r p = 108 then 1 else 0) u))]) F hN (c_isLett l b D hst T th rd σ hM hW r u (by omega) (by omega)) mw_1411 mw_1413 mw_p35 mw_6 mw_1414 ⟨pmX7_isLetter, (Nat.le_of_ble_eq_true rfl), (Nat.le_of_ble_eq_true rfl)⟩ (mm_recv F.2.2.2.2.2.1 hN (mm_r0 hM) rfl) hl.1 rfl (Nat.le_of_ble_eq_true rfl) ⟨(Nat.le_of_ble_eq_true rfl), (Nat.le_of_ble_eq_true rfl)⟩ dX7_meanPages_33
                (fun _ _ _ _ _ _ h9 => False.elim h9)
                (fun v9 σ9 H locs hp9 hN => ?_)
              obtain ⟨rfl, h9⟩ := hp9
              rw [h9] at hN
              refine W.eq (g2 := F0 m 36 ls [.int (nI (if T.oc r u = 108 then 1 else 0)), .int (nI (mm_sm (mm_nl T) r + mm_sm (fun p => if T.oc r p = 108 then 1 else 0) u))]) rfl ?_
              refine W.widen (k := 0) (n := 0) (Nat.le_of_ble_eq_true rfl) (Nat.le_of_ble_eq_true rfl) ?_
              by_cases hl9 : T.oc r u = 108
              ·
                refine W.eq (g2 := F0 m 36 ls [.int (nI 1), .int (nI (mm_sm (mm_nl T) r + mm_sm (fun p => if T.oc r p = 108 then 1 else 0) u))]) (by rw [if_pos hl9]) ?_
                refine mm_if_eq (pc := 36) F (tgt := 43) (by omega) dX7_meanPages_36 (by decide) (fun h9 => absurd h9 (by decide)) (fun cz36 => ?_)
                refine lv_iconst (pc := 39) (v := nI 1) F.1 F.2.1 dX7_meanPages_39 (by decide) ?_
                refine lv_goto (pc := 40) (tgt := 44) F.1 F.2.1 dX7_meanPages_40 (by decide) ?_
                refine mm_iadd (pc := 44) F (z := nI ((mm_sm (mm_nl T) r + mm_sm (fun p => if T.oc r p = 108 then 1 else 0) u) + 1)) (nI_add _ _) dX7_meanPages_44 ?_
                refine W.eq (g2 := F0 m 45 ls [.int (nI (mm_sm (mm_nl T) r + mm_sm (fun p => if T.oc r p = 108 then 1 else 0) (u + 1)))]) (congrArg (fun q => F0 m 45 ls [Value.int (nI q)]) ((Nat.add_assoc _ _ _).trans (congrArg (mm_sm (mm_nl T) r + ·) (congrArg (mm_sm (fun p => if T.oc r p = 108 then 1 else 0) u + ·) (if_pos hl9).symm)))) ?_
                refine lv_istore_n (pc := 45) (lv' := [(1, .int (nI (mm_sm (mm_nl T) r + mm_sm (fun p => if T.oc r p = 108 then 1 else 0) (u + 1)))), (0, .ref ((rd 0 0))), (2, .int (nI (mm_sm (mm_s0 T) r + mm_sm (fun p => if T.oc r p = 108 then T.pg r p else 0) u))), (3, .int (nI r)), (4, .int (nI u))]) F.1 F.2.1 dX7_meanPages_45 rfl hl (by decide) rfl (fun ls hl => ?_)
                refine lv_iload_n (pc := 46) F.1 F.2.1 dX7_meanPages_46 rfl (lv_at hl 2 rfl) ?_
                refine lv_aload_n (pc := 47) F.1 F.2.1 dX7_meanPages_47 rfl (lv_at hl 1 rfl) ?_
                refine lv_iload_n (pc := 48) F.1 F.2.1 dX7_meanPages_48 rfl (lv_at hl 3 rfl) ?_
                refine lv_iload (pc := 49) F.1 F.2.1 dX7_meanPages_49 (lv_at hl 4 rfl) ?_
                refine mm_runV (pc := 51) (As := [.int (nI r), .int (nI u)]) (rest := [.int (nI (mm_sm (mm_s0 T) r + mm_sm (fun p => if T.oc r p = 108 then T.pg r p else 0) u))]) F hN (c_isLett l b D hst T th rd σ hM hW r u (by omega) (by omega)) mw_1411 mw_1413 mw_p35 mw_6 mw_1414 ⟨pmX7_isLetter, (Nat.le_of_ble_eq_true rfl), (Nat.le_of_ble_eq_true rfl)⟩ (mm_recv F.2.2.2.2.2.1 hN (mm_r0 hM) rfl) hl.1 rfl (Nat.le_of_ble_eq_true rfl) ⟨(Nat.le_of_ble_eq_true rfl), (Nat.le_of_ble_eq_true rfl)⟩ dX7_meanPages_51
                  (fun _ _ _ _ _ _ h9 => False.elim h9)
                  (fun v9 σ9 H locs hp9 hN => ?_)
                obtain ⟨rfl, h9⟩ := hp9
                rw [h9] at hN
                refine W.eq (g2 := F0 m 54 ls [.int (nI (if T.oc r u = 108 then 1 else 0)), .int (nI (mm_sm (mm_s0 T) r + mm_sm (fun p => if T.oc r p = 108 then T.pg r p else 0) u))]) rfl ?_
                refine W.widen (k := 0) (n := 0) (Nat.le_of_ble_eq_true rfl) (Nat.le_of_ble_eq_true rfl) ?_
                refine W.eq (g2 := F0 m 54 ls [.int (nI 1), .int (nI (mm_sm (mm_s0 T) r + mm_sm (fun p => if T.oc r p = 108 then T.pg r p else 0) u))]) (congrArg (fun q => F0 m 54 ls [Value.int (nI q), .int (nI (mm_sm (mm_s0 T) r + mm_sm (fun p => if T.oc r p = 108 then T.pg r p else 0) u))]) (if_pos hl9)) ?_
                refine mm_if_eq (pc := 54) F (tgt := 69) (by omega) dX7_meanPages_54 (by decide) (fun h9 => absurd h9 (by decide)) (fun cz54 => ?_)
                refine lv_aload_n (pc := 57) F.1 F.2.1 dX7_meanPages_57 rfl (lv_at hl 1 rfl) ?_
                refine mm_get (pc := 58) F hN (mm_r0 hM) (ci := 7) rfl 19 (by decide) mw_1198 rfl dX7_meanPages_58 ?_
                refine lv_iload_n (pc := 61) F.1 F.2.1 dX7_meanPages_61 rfl (lv_at hl 3 rfl) ?_
                refine mm_aald (pc := 62) F hN ((show σ (rd 15 0) = mm_arq 1 5 10 (fun i => if i < 10 then some (rd 15 (i + 1)) else none) from mm_rq15 (T := T) hM)) rfl rfl (j := r) (rfl) (by omega) (by decide) (if_pos (by omega)) dX7_meanPages_62 ?_
                refine lv_iload (pc := 63) F.1 F.2.1 dX7_meanPages_63 (lv_at hl 4 rfl) ?_
                refine mm_iald (pc := 65) F hN ((show σ (rd 15 (r + 1)) = mm_ari 1 0 24 (fun j => nI (T.pg r j)) from mm_rr15 (T := T) hM (i := r) (by omega))) (j := u) (rfl) (by omega) (by decide) dX7_meanPages_65 ?_
                refine lv_goto (pc := 66) (tgt := 70) F.1 F.2.1 dX7_meanPages_66 (by decide) ?_
                refine mm_iadd (pc := 70) F (z := nI ((mm_sm (mm_s0 T) r + mm_sm (fun p => if T.oc r p = 108 then T.pg r p else 0) u) + (T.pg r u))) (nI_add _ _) dX7_meanPages_70 ?_
                refine W.eq (g2 := F0 m 71 ls [.int (nI (mm_sm (mm_s0 T) r + mm_sm (fun p => if T.oc r p = 108 then T.pg r p else 0) (u + 1)))]) (congrArg (fun q => F0 m 71 ls [Value.int (nI q)]) ((Nat.add_assoc _ _ _).trans (congrArg (mm_sm (mm_s0 T) r + ·) (congrArg (mm_sm (fun p => if T.oc r p = 108 then T.pg r p else 0) u + ·) ((if_pos hl9).symm))))) ?_
                refine lv_istore_n (pc := 71) (lv' := [(2, .int (nI (mm_sm (mm_s0 T) r + mm_sm (fun p => if T.oc r p = 108 then T.pg r p else 0) (u + 1)))), (1, .int (nI (mm_sm (mm_nl T) r + mm_sm (fun p => if T.oc r p = 108 then 1 else 0) (u + 1)))), (0, .ref ((rd 0 0))), (3, .int (nI r)), (4, .int (nI u))]) F.1 F.2.1 dX7_meanPages_71 rfl hl (by decide) rfl (fun ls hl => ?_)
                refine lv_iinc (pc := 72) (v := nI (u + 1)) (lv' := [(4, .int (nI (u + 1))), (2, .int (nI (mm_sm (mm_s0 T) r + mm_sm (fun p => if T.oc r p = 108 then T.pg r p else 0) (u + 1)))), (1, .int (nI (mm_sm (mm_nl T) r + mm_sm (fun p => if T.oc r p = 108 then 1 else 0) (u + 1)))), (0, .ref ((rd 0 0))), (3, .int (nI r))]) F.1 F.2.1 dX7_meanPages_72 hl (k := 4) rfl (by rw [← nI_add]; rfl) (by decide) rfl (fun ls hl => ?_)
                refine lv_goto (pc := 75) (tgt := 17) F.1 F.2.1 dX7_meanPages_75 (by decide) ?_
                exact ih17 (u + 1) ls _ _ (by omega) (by omega) hN (lv_sub hl [3, 2, 1, 4, 0] rfl)
              ·
                refine W.eq (g2 := F0 m 36 ls [.int (nI 0), .int (nI (mm_sm (mm_nl T) r + mm_sm (fun p => if T.oc r p = 108 then 1 else 0) u))]) (by rw [if_neg hl9]) ?_
                refine mm_if_eq (pc := 36) F (tgt := 43) (by omega) dX7_meanPages_36 (by decide) (fun cz36 => ?_) (fun h9 => absurd h9 (by decide))
                refine lv_iconst (pc := 43) (v := nI 0) F.1 F.2.1 dX7_meanPages_43 (by decide) ?_
                refine mm_iadd (pc := 44) F (z := nI ((mm_sm (mm_nl T) r + mm_sm (fun p => if T.oc r p = 108 then 1 else 0) u) + 0)) (nI_add _ _) dX7_meanPages_44 ?_
                refine W.eq (g2 := F0 m 45 ls [.int (nI (mm_sm (mm_nl T) r + mm_sm (fun p => if T.oc r p = 108 then 1 else 0) (u + 1)))]) (congrArg (fun q => F0 m 45 ls [Value.int (nI q)]) ((Nat.add_assoc _ _ _).trans (congrArg (mm_sm (mm_nl T) r + ·) (congrArg (mm_sm (fun p => if T.oc r p = 108 then 1 else 0) u + ·) (if_neg hl9).symm)))) ?_
                refine lv_istore_n (pc := 45) (lv' := [(1, .int (nI (mm_sm (mm_nl T) r + mm_sm (fun p => if T.oc r p = 108 then 1 else 0) (u + 1)))), (0, .ref ((rd 0 0))), (2, .int (nI (mm_sm (mm_s0 T) r + mm_sm (fun p => if T.oc r p = 108 then T.pg r p else 0) u))), (3, .int (nI r)), (4, .int (nI u))]) F.1 F.2.1 dX7_meanPages_45 rfl hl (by decide) rfl (fun ls hl => ?_)
                refine lv_iload_n (pc := 46) F.1 F.2.1 dX7_meanPages_46 rfl (lv_at hl 2 rfl) ?_
                refine lv_aload_n (pc := 47) F.1 F.2.1 dX7_meanPages_47 rfl (lv_at hl 1 rfl) ?_
                refine lv_iload_n (pc := 48) F.1 F.2.1 dX7_meanPages_48 rfl (lv_at hl 3 rfl) ?_
                refine lv_iload (pc := 49) F.1 F.2.1 dX7_meanPages_49 (lv_at hl 4 rfl) ?_
                refine mm_runV (pc := 51) (As := [.int (nI r), .int (nI u)]) (rest := [.int (nI (mm_sm (mm_s0 T) r + mm_sm (fun p => if T.oc r p = 108 then T.pg r p else 0) u))]) F hN (c_isLett l b D hst T th rd σ hM hW r u (by omega) (by omega)) mw_1411 mw_1413 mw_p35 mw_6 mw_1414 ⟨pmX7_isLetter, (Nat.le_of_ble_eq_true rfl), (Nat.le_of_ble_eq_true rfl)⟩ (mm_recv F.2.2.2.2.2.1 hN (mm_r0 hM) rfl) hl.1 rfl (Nat.le_of_ble_eq_true rfl) ⟨(Nat.le_of_ble_eq_true rfl), (Nat.le_of_ble_eq_true rfl)⟩ dX7_meanPages_51
                  (fun _ _ _ _ _ _ h9 => False.elim h9)
                  (fun v9 σ9 H locs hp9 hN => ?_)
                obtain ⟨rfl, h9⟩ := hp9
                rw [h9] at hN
                refine W.eq (g2 := F0 m 54 ls [.int (nI (if T.oc r u = 108 then 1 else 0)), .int (nI (mm_sm (mm_s0 T) r + mm_sm (fun p => if T.oc r p = 108 then T.pg r p else 0) u))]) rfl ?_
                refine W.widen (k := 0) (n := 0) (Nat.le_of_ble_eq_true rfl) (Nat.le_of_ble_eq_true rfl) ?_
                refine W.eq (g2 := F0 m 54 ls [.int (nI 0), .int (nI (mm_sm (mm_s0 T) r + mm_sm (fun p => if T.oc r p = 108 then T.pg r p else 0) u))]) (congrArg (fun q => F0 m 54 ls [Value.int (nI q), .int (nI (mm_sm (mm_s0 T) r + mm_sm (fun p => if T.oc r p = 108 then T.pg r p else 0) u))]) (if_neg hl9)) ?_
                refine mm_if_eq (pc := 54) F (tgt := 69) (by omega) dX7_meanPages_54 (by decide) (fun cz54 => ?_) (fun h9 => absurd h9 (by decide))
                refine lv_iconst (pc := 69) (v := nI 0) F.1 F.2.1 dX7_meanPages_69 (by decide) ?_
                refine mm_iadd (pc := 70) F (z := nI ((mm_sm (mm_s0 T) r + mm_sm (fun p => if T.oc r p = 108 then T.pg r p else 0) u) + 0)) (nI_add _ _) dX7_meanPages_70 ?_
                refine W.eq (g2 := F0 m 71 ls [.int (nI (mm_sm (mm_s0 T) r + mm_sm (fun p => if T.oc r p = 108 then T.pg r p else 0) (u + 1)))]) (congrArg (fun q => F0 m 71 ls [Value.int (nI q)]) ((Nat.add_assoc _ _ _).trans (congrArg (mm_sm (mm_s0 T) r + ·) (congrArg (mm_sm (fun p => if T.oc r p = 108 then T.pg r p else 0) u + ·) ((if_neg hl9).symm))))) ?_
                refine lv_istore_n (pc := 71) (lv' := [(2, .int (nI (mm_sm (mm_s0 T) r + mm_sm (fun p => if T.oc r p = 108 then T.pg r p else 0) (u + 1)))), (1, .int (nI (mm_sm (mm_nl T) r + mm_sm (fun p => if T.oc r p = 108 then 1 else 0) (u + 1)))), (0, .ref ((rd 0 0))), (3, .int (nI r)), (4, .int (nI u))]) F.1 F.2.1 dX7_meanPages_71 rfl hl (by decide) rfl (fun ls hl => ?_)
                refine lv_iinc (pc := 72) (v := nI (u + 1)) (lv' := [(4, .int (nI (u + 1))), (2, .int (nI (mm_sm (mm_s0 T) r + mm_sm (fun p => if T.oc r p = 108 then T.pg r p else 0) (u + 1)))), (1, .int (nI (mm_sm (mm_nl T) r + mm_sm (fun p => if T.oc r p = 108 then 1 else 0) (u + 1)))), (0, .ref ((rd 0 0))), (3, .int (nI r))]) F.1 F.2.1 dX7_meanPages_72 hl (k := 4) rfl (by rw [← nI_add]; rfl) (by decide) rfl (fun ls hl => ?_)
                refine lv_goto (pc := 75) (tgt := 17) F.1 F.2.1 dX7_meanPages_75 (by decide) ?_
                exact ih17 (u + 1) ls _ _ (by omega) (by omega) hN (lv_sub hl [3, 2, 1, 4, 0] rfl)
        exact lp17 ((T.rp r) + 1) 0 ls _ _ (by omega) (by omega) hN (lv_sub hl [1, 2, 3, 4, 0] rfl)
  exact lp6 (T.nR + 1) 0 ls _ _ (by omega) (by omega) hN (lv_sub hl [3, 2, 1, 0] rfl)

