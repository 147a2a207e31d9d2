theorem mm_XaddU {σ : mm_S} {T : mm_T} {z : mm_Z} {ad : Nat → Nat → Nat → Nat} (hX : mm_X σ T z ad) {t ln ne fo : Nat} (ht : t < T.nT) : mm_X (mm_u (mm_U3 σ 0 (ad 4 t 1) (ad 4 t 2) (ad 4 t 0) (mm_W 8 (mm_cd ne fo) (fun x => if x < 8 then mm_pgs T t x else 0) (mm_lnP (fun x => if x < 8 then mm_pgs T t x else 0) (fun x => if x < 8 then (mm_ly T t x (T.pc t)).2 else 0) ln)) (mm_W 8 (mm_cd ne fo) (fun x => if x < 8 then (mm_ly T t x (T.pc t)).2 else 0) (mm_lnQ (fun x => if x < 8 then mm_pgs T t x else 0) (fun x => if x < 8 then (mm_ly T t x (T.pc t)).2 else 0) ln)) (mm_W 8 (mm_cd ne fo) (fun x => if x < 8 then mm_pts T t x else 0) (mm_lnA (fun x => if x < 8 then mm_pts T t x else 0) (T.pc t)))) (ad 3 t 0) (mm_obj 0 5 [.ref (ad 4 t 0), .ref (ad 4 t 1), .ref (ad 4 t 2), .int (nI (T.pc t + 1)), .int (nI (T.us t))])) (mm_t_addPart T t ln ne fo) z ad := by
  have hv : ∀ k i j, mm_lv (mm_t_addPart T t ln ne fo) k i j → mm_lv T k i j := by
    intro k i j hl
    match k, hl with
    | 0, hl => exact hl
    | 1, hl => exact hl
    | 2, hl => exact hl
    | 3, hl => exact hl
    | 4, hl => exact hl
    | 5, hl => exact hl
    | 6, hl => exact hl
    | 7, hl => exact hl
    | n + 8, hl => exact False.elim hl
  have l3 : mm_lv T 3 t 0 := ⟨ht, rfl⟩
  have l0 : mm_lv T 4 t 0 := ⟨ht, by decide⟩
  have l1 : mm_lv T 4 t 1 := ⟨ht, by decide⟩
  have l2 : mm_lv T 4 t 2 := ⟨ht, by decide⟩
  have n12 : ad 4 t 1 ≠ ad 4 t 2 := mm_X_ne hX l1 l2 (by omega)
  have n10 : ad 4 t 1 ≠ ad 4 t 0 := mm_X_ne hX l1 l0 (by omega)
  have n20 : ad 4 t 2 ≠ ad 4 t 0 := mm_X_ne hX l2 l0 (by omega)
  refine mm_X_mk (fun _ _ _ => False) hX (fun k i j h => Or.inl (hv k i j h)) (fun _ _ _ _ => rfl) (fun k i j hl => ?_) (fun _ _ _ h => h.elim) (fun _ _ _ _ _ _ h => h.elim)
  by_cases e3 : k = 3 ∧ i = t
  · obtain ⟨rfl, rfl⟩ := e3
    obtain ⟨-, rfl⟩ : i < T.nT ∧ j = 0 := hl
    rw [mm_u_eq]
    show _ = mm_obj 0 5 [.ref (ad 4 i 0), .ref (ad 4 i 1), .ref (ad 4 i 2), .int (nI (mm_u2 (T 10) i 0 (T.pc i + 1) i 0)), .int (nI (T.us i))]
    rw [mm_u2_at]
  · have n3 : ad k i j ≠ ad 3 t 0 := mm_X_ne hX hl l3 (fun q => e3 ⟨q.1, q.2.1⟩)
    rw [mm_u_ne n3]
    by_cases e4 : k = 4 ∧ i = t
    · obtain ⟨rfl, rfl⟩ := e4
      obtain ⟨-, hj⟩ : i < T.nT ∧ j < 3 := hl
      rcases (show j = 0 ∨ j = 1 ∨ j = 2 by omega) with rfl | rfl | rfl
      · rw [mm_U3a]
        exact congrArg (mm_a8 0) (funext fun x => (mm_pA x).symm)
      · rw [mm_U3p n12 n10]
        exact congrArg (mm_a8 0) (funext fun x => (mm_pP x).symm)
      · rw [mm_U3l n20]
        exact congrArg (mm_a8 0) (funext fun x => (mm_pQ x).symm)
    · have ne4 : ∀ c, mm_lv T 4 t c → ad k i j ≠ ad 4 t c := fun c hc => mm_X_ne hX hl hc (fun q => e4 ⟨q.1, q.2.1⟩)
      rw [mm_U3z (ne4 1 l1) (ne4 2 l2) (ne4 0 l0), hX.1 k i j hl, mm_ctU k i j hl e3 e4]
def mm_q_addPart (T : mm_T) (t : Nat) (ln : Nat) (ne : Nat) (fo : Nat) : Nat := if t < T.nT then (if (1 ≤ ln ∧ ln ≤ 40) ∧ ne < 8 ∧ fo < 8 then (if T.pc t < 8 ∧ T.us t = 0 then 0 else 3) else 2) else 1
set_option maxHeartbeats 4000000 in
set_option maxRecDepth 100000 in
theorem a_addPart (l : Launch) (b : Nat) (D : mm_D) (hst : l.stackTraces = false) (T : mm_T) (z : mm_Z) (ad : Nat → Nat → Nat → Nat) (σ : mm_S) (hX : mm_X σ T z ad) (hW : mm_WF T) (t : Nat) (zt : t < 2 ^ 32) (ln : Nat) (zln : ln < 2 ^ 32) (ne : Nat) (zne : ne < 2 ^ 32) (fo : Nat) (zfo : fo < 2 ^ 32) : mm_K l b D yX6_addPart (.code yX6_addPart cX6_addPart 6 (some .int)) ({ frames := 8, cells := 6, slots := 40, locals := 220 } : Room) [.ref ((ad 0 0 0)), .int (nI t), .int (nI ln), .int (nI ne), .int (nI fo)] σ
    (fun v σ2 => mm_q_addPart T t ln ne fo = 0 ∧ v = some (.int (nI (T.pc t + 1))) ∧ mm_Xt σ σ2 (mm_t_addPart T t ln ne fo) (ad 0 0 0))
    (fun E σ2 => ((mm_q_addPart T t ln ne fo = 1 ∧ E = "java/lang/IndexOutOfBoundsException") ∨ (mm_q_addPart T t ln ne fo = 2 ∧ E = "java/lang/IllegalArgumentException") ∨ (mm_q_addPart T t ln ne fo = 3 ∧ E = "java/lang/IllegalStateException")) ∧ mm_Xt σ σ2 T (ad 0 0 0)) := by
  refine mm_of (cc := cX6_addPart) (nL := 6) (ret := (some .int)) (by decide) rfl (Nat.le_of_ble_eq_true rfl) hst ?_
  intro p e s m args below meth c ls F ht hr hin hN hl
  have hl : lv_has ls 6 [(0, .ref ((ad 0 0 0))), (1, .int (nI t)), (2, .int (nI ln)), (3, .int (nI ne)), (4, .int (nI fo))] := hl
  have wnA := hW.hnA
  have wnP := hW.hnP
  have wnT := hW.hnT
  have wnR := hW.hnR
  have wpa := hW.hpa
  have wbo := hW.hbo
  have wen0 := hW.hen 0
  have wen1 := hW.hen 1
  refine lv_aload_n (pc := 0) F.1 F.2.1 dX6_addPart_0 rfl (lv_at hl 0 rfl) ?_
  refine lv_iload_n (pc := 1) F.1 F.2.1 dX6_addPart_1 rfl (lv_at hl 1 rfl) ?_
  refine mm_runV (pc := 2) (As := [.int (nI t)]) (rest := []) F hN (c_templateAt l b D hst T z ad σ hX hW t (by omega)) mw_492 mw_494 mw_p6 mw_1 mw_495 ⟨pmX6_templateAt, (Nat.le_of_ble_eq_true rfl), (Nat.le_of_ble_eq_true rfl)⟩ (mm_recv F.2.2.2.2.2.1 hN (mm_X0 hX) rfl) hl.1 rfl (Nat.le_of_ble_eq_true rfl) ⟨(Nat.le_of_ble_eq_true rfl), (Nat.le_of_ble_eq_true rfl)⟩ dX6_addPart_2
    (fun E9 σ9 H9 l9 q9 ce9 hp9 hN9 hq9 hv9 hcl9 => mm_out F ht hN9 (by obtain ⟨g1, g2, g3⟩ := hp9; exact ⟨Or.inl (⟨by unfold mm_q_addPart; (repeat' split) <;> omega, g1⟩), mm_Xt.rf hX g3⟩) hq9 hv9 hcl9 (Nat.le_of_ble_eq_true rfl) (Nat.le_of_ble_eq_true rfl))
    (fun v9 σ9 H locs hp9 hN => ?_)
  obtain ⟨htn, rfl, h9⟩ := hp9
  refine W.eq (g2 := F0 m 5 ls [.ref ((ad 3 t 0))]) rfl ?_
  refine W.widen (k := 1) (n := 6) (Nat.le_of_ble_eq_true rfl) (Nat.le_of_ble_eq_true rfl) ?_
  rw [h9] at hN
  obtain ⟨wt1, wt2, wt3⟩ := hW.htp t htn
  refine lv_astore (pc := 5) (lv' := [(5, .ref ((ad 3 t 0))), (0, .ref ((ad 0 0 0))), (1, .int (nI t)), (2, .int (nI ln)), (3, .int (nI ne)), (4, .int (nI fo))]) F.1 F.2.1 dX6_addPart_5 hl (by decide) rfl (fun ls hl => ?_)
  refine lv_iload_n (pc := 7) F.1 F.2.1 dX6_addPart_7 rfl (lv_at hl 3 rfl) ?_
  refine lv_iconst (pc := 8) (v := nI 1) F.1 F.2.1 dX6_addPart_8 (by decide) ?_
  refine mm_icmp_ltB (pc := 9) F (x := ln) (y := 1) (tgt := 18) (by omega) (by omega) dX6_addPart_9 (by decide) (fun cz9 => ?_) (fun cz9 => ?_)
  ·
    exact mm_throw F ht hN (by decide) (mm_tIAE mw_170) mw_125 mw_15 (List.mem_of_getElem? (i := 12) rfl) hl.1 dX6_addPart_18 dX6_addPart_21 dX6_addPart_22 dX6_addPart_24 dX6_addPart_27 ⟨(Nat.le_of_ble_eq_true rfl), (Nat.le_of_ble_eq_true rfl), (Nat.le_of_ble_eq_true rfl), (Nat.le_of_ble_eq_true rfl)⟩ (⟨Or.inr (Or.inl (⟨by unfold mm_q_addPart; (repeat' split) <;> omega, rfl⟩)), mm_Xt.rf hX rfl⟩) (Nat.le_of_ble_eq_true rfl) (Nat.le_of_ble_eq_true rfl)
  ·
    refine lv_iload_n (pc := 12) F.1 F.2.1 dX6_addPart_12 rfl (lv_at hl 3 rfl) ?_
    refine lv_bipush (pc := 13) (v := nI 40) F.1 F.2.1 dX6_addPart_13 (by decide) ?_
    refine mm_icmp_leB (pc := 15) F (x := ln) (y := 40) (tgt := 28) (by omega) (by omega) dX6_addPart_15 (by decide) (fun cz15 => ?_) (fun cz15 => ?_)
    ·
      refine lv_iload_n (pc := 28) F.1 F.2.1 dX6_addPart_28 rfl (lv_at hl 4 rfl) ?_
      refine mm_runS (pc := 29) (As := [.int (nI ne)]) (rest := []) F hN (c_checkFlags l b D hst ne (by omega) _) mw_383 mw_384 mw_1 mw_385 ⟨pmX6_checkFlags, (Nat.le_of_ble_eq_true rfl), (Nat.le_of_ble_eq_true rfl)⟩ hl.1 rfl (Nat.le_of_ble_eq_true rfl) ⟨(Nat.le_of_ble_eq_true rfl), (Nat.le_of_ble_eq_true rfl)⟩ dX6_addPart_29
        (fun E9 σ9 H9 l9 q9 ce9 hp9 hN9 hq9 hv9 hcl9 => mm_out F ht hN9 (by obtain ⟨g1, g2, g3⟩ := hp9; exact ⟨Or.inr (Or.inl (⟨by unfold mm_q_addPart; (repeat' split) <;> omega, g1⟩)), mm_Xt.rf hX g3⟩) hq9 hv9 hcl9 (Nat.le_of_ble_eq_true rfl) (Nat.le_of_ble_eq_true rfl))
        (fun v9 σ9 H locs hp9 hN => ?_)
      obtain ⟨rfl, hfne, h9⟩ := hp9
      refine W.eq (g2 := F0 m 32 ls []) rfl ?_
      refine W.widen (k := 2) (n := 12) (Nat.le_of_ble_eq_true rfl) (Nat.le_of_ble_eq_true rfl) ?_
      rw [h9] at hN
      refine lv_iload (pc := 32) F.1 F.2.1 dX6_addPart_32 (lv_at hl 5 rfl) ?_
      refine mm_runS (pc := 34) (As := [.int (nI fo)]) (rest := []) F hN (c_checkFlags l b D hst fo (by omega) _) mw_383 mw_384 mw_1 mw_385 ⟨pmX6_checkFlags, (Nat.le_of_ble_eq_true rfl), (Nat.le_of_ble_eq_true rfl)⟩ hl.1 rfl (Nat.le_of_ble_eq_true rfl) ⟨(Nat.le_of_ble_eq_true rfl), (Nat.le_of_ble_eq_true rfl)⟩ dX6_addPart_34
        (fun E9 σ9 H9 l9 q9 ce9 hp9 hN9 hq9 hv9 hcl9 => mm_out F ht hN9 (by obtain ⟨g1, g2, g3⟩ := hp9; exact ⟨Or.inr (Or.inl (⟨by unfold mm_q_addPart; (repeat' split) <;> omega, g1⟩)), mm_Xt.rf hX g3⟩) hq9 hv9 hcl9 (Nat.le_of_ble_eq_true rfl) (Nat.le_of_ble_eq_true rfl))
        (fun v9 σ9 H locs hp9 hN => ?_)
      obtain ⟨rfl, hffo, h9⟩ := hp9
      refine W.eq (g2 := F0 m 37 ls []) rfl ?_
      refine W.widen (k := 3) (n := 18) (Nat.le_of_ble_eq_true rfl) (Nat.le_of_ble_eq_true rfl) ?_
      rw [h9] at hN
      refine lv_aload (pc := 37) F.1 F.2.1 dX6_addPart_37 (lv_at hl 0 rfl) ?_
      refine mm_get (pc := 39) F hN (mm_XT hX (i := t) (by omega)) (ci := 5) rfl 3 (by decide) mw_471 rfl dX6_addPart_39 ?_
      refine lv_bipush (pc := 42) (v := nI 8) F.1 F.2.1 dX6_addPart_42 (by decide) ?_
      refine mm_icmp_ge (pc := 44) F (x := T.pc t) (y := 8) (tgt := 55) (by omega) (by omega) dX6_addPart_44 (by decide) (fun cz44 => ?_) (fun cz44 => ?_)
      ·
        exact mm_throw F ht hN (by decide) (mm_tISE mw_210) mw_200 mw_20 (List.mem_of_getElem? (i := 13) rfl) hl.1 dX6_addPart_55 dX6_addPart_58 dX6_addPart_59 dX6_addPart_61 dX6_addPart_64 ⟨(Nat.le_of_ble_eq_true rfl), (Nat.le_of_ble_eq_true rfl), (Nat.le_of_ble_eq_true rfl), (Nat.le_of_ble_eq_true rfl)⟩ (⟨Or.inr (Or.inr (⟨by unfold mm_q_addPart; (repeat' split) <;> omega, rfl⟩)), mm_Xt.rf hX rfl⟩) (Nat.le_of_ble_eq_true rfl) (Nat.le_of_ble_eq_true rfl)
      ·
        refine lv_aload (pc := 47) F.1 F.2.1 dX6_addPart_47 (lv_at hl 0 rfl) ?_
        refine mm_get (pc := 49) F hN (mm_XT hX (i := t) (by omega)) (ci := 5) rfl 4 (by decide) mw_472 rfl dX6_addPart_49 ?_
        refine mm_if_eq (pc := 52) F (tgt := 65) (by omega) dX6_addPart_52 (by decide) (fun cz52 => ?_) (fun cz52 => ?_)
        ·
          refine lv_aload (pc := 65) F.1 F.2.1 dX6_addPart_65 (lv_at hl 0 rfl) ?_
          refine lv_iload_n (pc := 67) F.1 F.2.1 dX6_addPart_67 rfl (lv_at hl 3 rfl) ?_
          refine lv_iload_n (pc := 68) F.1 F.2.1 dX6_addPart_68 rfl (lv_at hl 4 rfl) ?_
          refine lv_iload (pc := 69) F.1 F.2.1 dX6_addPart_69 (lv_at hl 5 rfl) ?_
          refine mm_runV (pc := 71) (As := [.int (nI ln), .int (nI ne), .int (nI fo)]) (rest := []) F hN (c_append l b D hst 0 (ad 3 t 0) (ad 4 t 0) (ad 4 t 1) (ad 4 t 2) (T.pc t) (T.us t) ln ne fo (fun x => if x < 8 then mm_pgs T t x else 0) (fun x => if x < 8 then (mm_ly T t x (T.pc t)).2 else 0) (fun x => if x < 8 then mm_pts T t x else 0) (by omega) (by omega) hfne hffo (fun x => by have := (mm_lyF_le (li := T 7 t) (ne := T 8 t) (fo := T 9 t) (x := x) (T.pc t) (fun j hj => (wt3 j hj).2.1)).1; show (if x < 8 then (mm_lyF (T 7 t) (T 8 t) (T 9 t) x (T.pc t)).1 else 0) < 100; split <;> omega) (fun x => by have := (mm_lyF_le (li := T 7 t) (ne := T 8 t) (fo := T 9 t) (x := x) (T.pc t) (fun j hj => (wt3 j hj).2.1)).2; show (if x < 8 then (mm_lyF (T 7 t) (T 8 t) (T 9 t) x (T.pc t)).2 else 0) ≤ 40; split <;> omega) σ (mm_XT hX htn) (mm_X_ne (k := 4) (i := t) (j := 1) (k' := 4) (i' := t) (j' := 2) hX ⟨htn, by decide⟩ ⟨htn, by decide⟩ (by omega)) (mm_X_ne (k := 4) (i := t) (j := 1) (k' := 4) (i' := t) (j' := 0) hX ⟨htn, by decide⟩ ⟨htn, by decide⟩ (by omega)) (mm_X_ne (k := 4) (i := t) (j := 2) (k' := 4) (i' := t) (j' := 0) hX ⟨htn, by decide⟩ ⟨htn, by decide⟩ (by omega)) (mm_XTp hX htn) (mm_XTl hX htn) (mm_XTa hX htn)) mw_499 mw_500 mw_501 mw_28 mw_502 ⟨pmX5_append, (Nat.le_of_ble_eq_true rfl), (Nat.le_of_ble_eq_true rfl)⟩ (mm_recv F.2.2.2.2.2.1 hN (mm_XT hX htn) rfl) hl.1 rfl (Nat.le_of_ble_eq_true rfl) ⟨(Nat.le_of_ble_eq_true rfl), (Nat.le_of_ble_eq_true rfl)⟩ dX6_addPart_71
            (fun _ _ _ _ _ _ h9 => False.elim h9)
            (fun v9 σ9 H locs hp9 hN => ?_)
          obtain ⟨rfl, hσ9⟩ := hp9
          refine W.eq (g2 := F0 m 74 ls []) rfl ?_
          refine W.widen (k := 3) (n := 18) (Nat.le_of_ble_eq_true rfl) (Nat.le_of_ble_eq_true rfl) ?_
          have hX2 : mm_X σ9 (mm_t_addPart T t ln ne fo) z ad := by rw [hσ9]; exact mm_XaddU hX htn
          have hT2 : σ9 (ad 3 t 0) = mm_obj 0 5 [.ref (ad 4 t 0), .ref (ad 4 t 1), .ref (ad 4 t 2), .int (nI (T.pc t + 1)), .int (nI (T.us t))] := by rw [hσ9]; exact mm_u_eq
          have hF2 : mm_Fr 0 σ σ9 := by
            rw [hσ9]
            refine mm_Fr.tr (mm_Fr.tr (mm_Fr.tr (mm_Fr.u (mm_XTp hX htn)) (mm_Fr.u (e := mm_A8 (fun x => if x < 8 then (mm_ly T t x (T.pc t)).2 else 0)) ?_)) (mm_Fr.u (e := mm_A8 (fun x => if x < 8 then mm_pts T t x else 0)) ?_)) (mm_Fr.u (e := mm_O 5 [.ref (ad 4 t 0), .ref (ad 4 t 1), .ref (ad 4 t 2), .int (nI (T.pc t)), .int (nI (T.us t))]) ?_)
            · exact (mm_u_ne (mm_X_ne (k := 4) (i := t) (j := 2) (k' := 4) (i' := t) (j' := 1) hX ⟨htn, by decide⟩ ⟨htn, by decide⟩ (by omega))).trans (mm_XTl hX htn)
            · exact (mm_u_ne (mm_X_ne (k := 4) (i := t) (j := 0) (k' := 4) (i' := t) (j' := 2) hX ⟨htn, by decide⟩ ⟨htn, by decide⟩ (by omega))).trans ((mm_u_ne (mm_X_ne (k := 4) (i := t) (j := 0) (k' := 4) (i' := t) (j' := 1) hX ⟨htn, by decide⟩ ⟨htn, by decide⟩ (by omega))).trans (mm_XTa hX htn))
            · exact (mm_U3z (mm_X_ne (k := 3) (i := t) (j := 0) (k' := 4) (i' := t) (j' := 1) hX ⟨htn, rfl⟩ ⟨htn, by decide⟩ (by omega)) (mm_X_ne (k := 3) (i := t) (j := 0) (k' := 4) (i' := t) (j' := 2) hX ⟨htn, rfl⟩ ⟨htn, by decide⟩ (by omega)) (mm_X_ne (k := 3) (i := t) (j := 0) (k' := 4) (i' := t) (j' := 0) hX ⟨htn, rfl⟩ ⟨htn, by decide⟩ (by omega))).trans (mm_XT hX htn)
          refine lv_aload (pc := 74) F.1 F.2.1 dX6_addPart_74 (lv_at hl 0 rfl) ?_
          refine mm_get (pc := 76) F hN (hT2) (ci := 5) rfl 3 (by decide) mw_471 rfl dX6_addPart_76 ?_
          exact mm_iret (pc := 79) F hr hN (⟨by unfold mm_q_addPart; (repeat' split) <;> omega, rfl, z, ad, hX2, rfl, hF2⟩) (Nat.le_of_ble_eq_true rfl) (Nat.le_of_ble_eq_true rfl) dX6_addPart_79
        ·
          exact mm_throw F ht hN (by decide) (mm_tISE mw_210) mw_200 mw_20 (List.mem_of_getElem? (i := 13) rfl) hl.1 dX6_addPart_55 dX6_addPart_58 dX6_addPart_59 dX6_addPart_61 dX6_addPart_64 ⟨(Nat.le_of_ble_eq_true rfl), (Nat.le_of_ble_eq_true rfl), (Nat.le_of_ble_eq_true rfl), (Nat.le_of_ble_eq_true rfl)⟩ (⟨Or.inr (Or.inr (⟨by unfold mm_q_addPart; (repeat' split) <;> omega, rfl⟩)), mm_Xt.rf hX rfl⟩) (Nat.le_of_ble_eq_true rfl) (Nat.le_of_ble_eq_true rfl)
    ·
      exact mm_throw F ht hN (by decide) (mm_tIAE mw_170) mw_125 mw_15 (List.mem_of_getElem? (i := 12) rfl) hl.1 dX6_addPart_18 dX6_addPart_21 dX6_addPart_22 dX6_addPart_24 dX6_addPart_27 ⟨(Nat.le_of_ble_eq_true rfl), (Nat.le_of_ble_eq_true rfl), (Nat.le_of_ble_eq_true rfl), (Nat.le_of_ble_eq_true rfl)⟩ (⟨Or.inr (Or.inl (⟨by unfold mm_q_addPart; (repeat' split) <;> omega, rfl⟩)), mm_Xt.rf hX rfl⟩) (Nat.le_of_ble_eq_true rfl) (Nat.le_of_ble_eq_true rfl)

