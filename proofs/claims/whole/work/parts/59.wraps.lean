theorem mm_Xt.fr {σ σ2 : mm_S} {T' : mm_T} {x0 : Nat} (h : mm_Xt σ σ2 T' x0) : mm_Fr 0 σ σ2 := h.elim fun _ h => h.elim fun _ h => h.2.2

set_option maxHeartbeats 4000000 in
set_option maxRecDepth 100000 in
theorem w_addressOf (l : Launch) (b : Nat) (D : mm_D) (hst : l.stackTraces = false) (T : mm_T) (z : mm_Z) (ad : Nat → Nat → Nat → Nat) (σ : mm_S) (hX : mm_X σ T z ad) (hW : mm_WF T) (i : Nat) (zi : i < 2 ^ 32) (ou : Nat) (g : Nat → Int64) (ho : σ ou = mm_arj 2 1 1 g) : mm_K l b D yL_addressOf (.codeWith yL_addressOf cL_addressOf 4 (some .int) [(0, 9, 12, 21)]) ({ frames := 9, cells := 6, slots := 40, locals := 260 } : Room) [.ref ((ad 0 0 0)), .int (nI i), .ref ou] σ
    (fun v σ2 => v = some (.int (nI (mm_q_addressOf T i))) ∧ mm_Wl σ σ2 (if mm_q_addressOf T i = 0 then (T) else T) (ad 0 0 0) ou (mm_q_addressOf T i) ((nI (T.ho i)).toInt64))
    (fun _ _ => False) := by
  refine mm_ofX (cc := cL_addressOf) (nL := 4) (ret := some .int) (by decide) rfl (Nat.le_of_ble_eq_true rfl) hst ?_
  intro p e s m args below meth c ls F ht hr hN hl
  have hl : lv_has ls 4 [(0, .ref ((ad 0 0 0))), (1, .int (nI i)), (2, .ref ou)] := hl
  refine lv_aload_n (pc := 0) F.1 F.2.1 dL_addressOf_0 rfl (lv_at hl 2 rfl) ?_
  refine lv_iconst (pc := 1) (v := nI 0) F.1 F.2.1 dL_addressOf_1 (by decide) ?_
  refine lv_aload_n (pc := 2) F.1 F.2.1 dL_addressOf_2 rfl (lv_at hl 0 rfl) ?_
  refine lv_iload_n (pc := 3) F.1 F.2.1 dL_addressOf_3 rfl (lv_at hl 1 rfl) ?_
  refine mm_runV (pc := 4) (As := [.int (nI i)]) (rest := [.int (nI 0), .ref ou]) F hN (a_addressOf l b D hst T z ad σ hX hW i zi) mw_546 mw_547 mw_548 mw_1 mw_549 ⟨pmX6_addressOf, (Nat.le_of_ble_eq_true rfl), (Nat.le_of_ble_eq_true rfl)⟩ (mm_recv F.2.2.2.2.2.1 hN (mm_X0 hX) rfl) hl.1 rfl (Nat.le_of_ble_eq_true rfl) ⟨(Nat.le_of_ble_eq_true rfl), (Nat.le_of_ble_eq_true rfl)⟩ dL_addressOf_4
    (fun E9 σ9 H locs q9 ce9 hp9 hN hq9 hv9 hcl9 => ?_) (fun v9 σ9 H locs hp9 hN => ?_)
  ·
    obtain ⟨hq, hx9⟩ := hp9
    obtain ⟨hq, rfl⟩ := hq
    refine mm_catch F hN [] ⟨0, 9, 12, 21⟩ [] ht (fun _ h => absurd h List.not_mem_nil) (by decide) (by decide) mw_424 mw_458 hq9 hv9 hcl9 ?_
    refine W.eq (g2 := F0 m 12 ls [.ref q9]) rfl ?_
    refine W.widen (k := 6) (n := 40) (Nat.le_of_ble_eq_true rfl) (Nat.le_of_ble_eq_true rfl) ?_
    refine lv_astore_n (pc := 12) (lv' := [(3, .ref q9), (0, .ref ((ad 0 0 0))), (1, .int (nI i)), (2, .ref ou)]) F.1 F.2.1 dL_addressOf_12 rfl hl (by decide) rfl (fun ls hl => ?_)
    refine lv_iconst (pc := 13) (v := nI 1) F.1 F.2.1 dL_addressOf_13 (by decide) ?_
    exact mm_iret (pc := 14) F hr hN (⟨by rw [hq], mm_Wl_no hx9 ho (if_neg (by rw [hq]; decide)) (by rw [hq]; decide)⟩) (Nat.le_of_ble_eq_true rfl) (Nat.le_of_ble_eq_true rfl) dL_addressOf_14
  ·
    obtain ⟨hq, rfl, hx9⟩ := hp9
    refine W.eq (g2 := F0 m 7 ls [.int (nI (T.ho i)), .int (nI 0), .ref ou]) rfl ?_
    refine W.widen (k := 6) (n := 40) (Nat.le_of_ble_eq_true rfl) (Nat.le_of_ble_eq_true rfl) ?_
    have ho9 := (mm_Xt.fr hx9) ou 2 _ (by decide) ho
    refine lv_i2l (pc := 7) (v := (nI (T.ho i)).toInt64) F.1 F.2.1 dL_addressOf_7 (rfl) ?_
    refine mm_last (pc := 8) F hN (ho9) (j := 0) (rfl) (by decide) (by decide) dL_addressOf_8 (fun H locs hN => ?_)
    have hN : mm_N b D s (mm_u σ9 ou (mm_arj 2 1 1 (va_up g 0 ((nI (T.ho i)).toInt64)))) _ _ := hN
    refine lv_goto (pc := 9) (tgt := 15) F.1 F.2.1 dL_addressOf_9 (by decide) ?_
    refine lv_iconst (pc := 15) (v := nI 0) F.1 F.2.1 dL_addressOf_15 (by decide) ?_
    exact mm_iret (pc := 16) F hr hN (⟨by rw [hq], mm_Wl_ok hx9 ho (if_pos hq) rfl⟩) (Nat.le_of_ble_eq_true rfl) (Nat.le_of_ble_eq_true rfl) dL_addressOf_16

set_option maxHeartbeats 4000000 in
set_option maxRecDepth 100000 in
theorem w_reasonOf (l : Launch) (b : Nat) (D : mm_D) (hst : l.stackTraces = false) (T : mm_T) (z : mm_Z) (ad : Nat → Nat → Nat → Nat) (σ : mm_S) (hX : mm_X σ T z ad) (hW : mm_WF T) (i : Nat) (zi : i < 2 ^ 32) (ou : Nat) (g : Nat → Int64) (ho : σ ou = mm_arj 2 1 1 g) : mm_K l b D yL_reasonOf (.codeWith yL_reasonOf cL_reasonOf 4 (some .int) [(0, 9, 12, 21)]) ({ frames := 9, cells := 6, slots := 40, locals := 260 } : Room) [.ref ((ad 0 0 0)), .int (nI i), .ref ou] σ
    (fun v σ2 => v = some (.int (nI (mm_q_reasonOf T i))) ∧ mm_Wl σ σ2 (if mm_q_reasonOf T i = 0 then (T) else T) (ad 0 0 0) ou (mm_q_reasonOf T i) ((nI (T.re i)).toInt64))
    (fun _ _ => False) := by
  refine mm_ofX (cc := cL_reasonOf) (nL := 4) (ret := some .int) (by decide) rfl (Nat.le_of_ble_eq_true rfl) hst ?_
  intro p e s m args below meth c ls F ht hr hN hl
  have hl : lv_has ls 4 [(0, .ref ((ad 0 0 0))), (1, .int (nI i)), (2, .ref ou)] := hl
  refine lv_aload_n (pc := 0) F.1 F.2.1 dL_reasonOf_0 rfl (lv_at hl 2 rfl) ?_
  refine lv_iconst (pc := 1) (v := nI 0) F.1 F.2.1 dL_reasonOf_1 (by decide) ?_
  refine lv_aload_n (pc := 2) F.1 F.2.1 dL_reasonOf_2 rfl (lv_at hl 0 rfl) ?_
  refine lv_iload_n (pc := 3) F.1 F.2.1 dL_reasonOf_3 rfl (lv_at hl 1 rfl) ?_
  refine mm_runV (pc := 4) (As := [.int (nI i)]) (rest := [.int (nI 0), .ref ou]) F hN (a_reasonOf l b D hst T z ad σ hX hW i zi) mw_553 mw_554 mw_555 mw_1 mw_556 ⟨pmX6_reasonOf, (Nat.le_of_ble_eq_true rfl), (Nat.le_of_ble_eq_true rfl)⟩ (mm_recv F.2.2.2.2.2.1 hN (mm_X0 hX) rfl) hl.1 rfl (Nat.le_of_ble_eq_true rfl) ⟨(Nat.le_of_ble_eq_true rfl), (Nat.le_of_ble_eq_true rfl)⟩ dL_reasonOf_4
    (fun E9 σ9 H locs q9 ce9 hp9 hN hq9 hv9 hcl9 => ?_) (fun v9 σ9 H locs hp9 hN => ?_)
  ·
    obtain ⟨hq, hx9⟩ := hp9
    obtain ⟨hq, rfl⟩ := hq
    refine mm_catch F hN [] ⟨0, 9, 12, 21⟩ [] ht (fun _ h => absurd h List.not_mem_nil) (by decide) (by decide) mw_424 mw_458 hq9 hv9 hcl9 ?_
    refine W.eq (g2 := F0 m 12 ls [.ref q9]) rfl ?_
    refine W.widen (k := 6) (n := 40) (Nat.le_of_ble_eq_true rfl) (Nat.le_of_ble_eq_true rfl) ?_
    refine lv_astore_n (pc := 12) (lv' := [(3, .ref q9), (0, .ref ((ad 0 0 0))), (1, .int (nI i)), (2, .ref ou)]) F.1 F.2.1 dL_reasonOf_12 rfl hl (by decide) rfl (fun ls hl => ?_)
    refine lv_iconst (pc := 13) (v := nI 1) F.1 F.2.1 dL_reasonOf_13 (by decide) ?_
    exact mm_iret (pc := 14) F hr hN (⟨by rw [hq], mm_Wl_no hx9 ho (if_neg (by rw [hq]; decide)) (by rw [hq]; decide)⟩) (Nat.le_of_ble_eq_true rfl) (Nat.le_of_ble_eq_true rfl) dL_reasonOf_14
  ·
    obtain ⟨hq, rfl, hx9⟩ := hp9
    refine W.eq (g2 := F0 m 7 ls [.int (nI (T.re i)), .int (nI 0), .ref ou]) rfl ?_
    refine W.widen (k := 6) (n := 40) (Nat.le_of_ble_eq_true rfl) (Nat.le_of_ble_eq_true rfl) ?_
    have ho9 := (mm_Xt.fr hx9) ou 2 _ (by decide) ho
    refine lv_i2l (pc := 7) (v := (nI (T.re i)).toInt64) F.1 F.2.1 dL_reasonOf_7 (rfl) ?_
    refine mm_last (pc := 8) F hN (ho9) (j := 0) (rfl) (by decide) (by decide) dL_reasonOf_8 (fun H locs hN => ?_)
    have hN : mm_N b D s (mm_u σ9 ou (mm_arj 2 1 1 (va_up g 0 ((nI (T.re i)).toInt64)))) _ _ := hN
    refine lv_goto (pc := 9) (tgt := 15) F.1 F.2.1 dL_reasonOf_9 (by decide) ?_
    refine lv_iconst (pc := 15) (v := nI 0) F.1 F.2.1 dL_reasonOf_15 (by decide) ?_
    exact mm_iret (pc := 16) F hr hN (⟨by rw [hq], mm_Wl_ok hx9 ho (if_pos hq) rfl⟩) (Nat.le_of_ble_eq_true rfl) (Nat.le_of_ble_eq_true rfl) dL_reasonOf_16

set_option maxHeartbeats 4000000 in
set_option maxRecDepth 100000 in
theorem w_strikes (l : Launch) (b : Nat) (D : mm_D) (hst : l.stackTraces = false) (T : mm_T) (z : mm_Z) (ad : Nat → Nat → Nat → Nat) (σ : mm_S) (hX : mm_X σ T z ad) (hW : mm_WF T) (a : Nat) (za : a < 2 ^ 32) (ou : Nat) (g : Nat → Int64) (ho : σ ou = mm_arj 2 1 1 g) : mm_K l b D yL_strikes (.codeWith yL_strikes cL_strikes 4 (some .int) [(0, 9, 12, 21)]) ({ frames := 9, cells := 6, slots := 40, locals := 260 } : Room) [.ref ((ad 0 0 0)), .int (nI a), .ref ou] σ
    (fun v σ2 => v = some (.int (nI (mm_q_strikes T a))) ∧ mm_Wl σ σ2 (if mm_q_strikes T a = 0 then (T) else T) (ad 0 0 0) ou (mm_q_strikes T a) ((nI (T.sk a)).toInt64))
    (fun _ _ => False) := by
  refine mm_ofX (cc := cL_strikes) (nL := 4) (ret := some .int) (by decide) rfl (Nat.le_of_ble_eq_true rfl) hst ?_
  intro p e s m args below meth c ls F ht hr hN hl
  have hl : lv_has ls 4 [(0, .ref ((ad 0 0 0))), (1, .int (nI a)), (2, .ref ou)] := hl
  refine lv_aload_n (pc := 0) F.1 F.2.1 dL_strikes_0 rfl (lv_at hl 2 rfl) ?_
  refine lv_iconst (pc := 1) (v := nI 0) F.1 F.2.1 dL_strikes_1 (by decide) ?_
  refine lv_aload_n (pc := 2) F.1 F.2.1 dL_strikes_2 rfl (lv_at hl 0 rfl) ?_
  refine lv_iload_n (pc := 3) F.1 F.2.1 dL_strikes_3 rfl (lv_at hl 1 rfl) ?_
  refine mm_runV (pc := 4) (As := [.int (nI a)]) (rest := [.int (nI 0), .ref ou]) F hN (a_strikes l b D hst T z ad σ hX hW a za) mw_560 mw_561 mw_562 mw_1 mw_563 ⟨pmX6_strikes, (Nat.le_of_ble_eq_true rfl), (Nat.le_of_ble_eq_true rfl)⟩ (mm_recv F.2.2.2.2.2.1 hN (mm_X0 hX) rfl) hl.1 rfl (Nat.le_of_ble_eq_true rfl) ⟨(Nat.le_of_ble_eq_true rfl), (Nat.le_of_ble_eq_true rfl)⟩ dL_strikes_4
    (fun E9 σ9 H locs q9 ce9 hp9 hN hq9 hv9 hcl9 => ?_) (fun v9 σ9 H locs hp9 hN => ?_)
  ·
    obtain ⟨hq, hx9⟩ := hp9
    obtain ⟨hq, rfl⟩ := hq
    refine mm_catch F hN [] ⟨0, 9, 12, 21⟩ [] ht (fun _ h => absurd h List.not_mem_nil) (by decide) (by decide) mw_424 mw_458 hq9 hv9 hcl9 ?_
    refine W.eq (g2 := F0 m 12 ls [.ref q9]) rfl ?_
    refine W.widen (k := 6) (n := 40) (Nat.le_of_ble_eq_true rfl) (Nat.le_of_ble_eq_true rfl) ?_
    refine lv_astore_n (pc := 12) (lv' := [(3, .ref q9), (0, .ref ((ad 0 0 0))), (1, .int (nI a)), (2, .ref ou)]) F.1 F.2.1 dL_strikes_12 rfl hl (by decide) rfl (fun ls hl => ?_)
    refine lv_iconst (pc := 13) (v := nI 1) F.1 F.2.1 dL_strikes_13 (by decide) ?_
    exact mm_iret (pc := 14) F hr hN (⟨by rw [hq], mm_Wl_no hx9 ho (if_neg (by rw [hq]; decide)) (by rw [hq]; decide)⟩) (Nat.le_of_ble_eq_true rfl) (Nat.le_of_ble_eq_true rfl) dL_strikes_14
  ·
    obtain ⟨hq, rfl, hx9⟩ := hp9
    refine W.eq (g2 := F0 m 7 ls [.int (nI (T.sk a)), .int (nI 0), .ref ou]) rfl ?_
    refine W.widen (k := 6) (n := 40) (Nat.le_of_ble_eq_true rfl) (Nat.le_of_ble_eq_true rfl) ?_
    have ho9 := (mm_Xt.fr hx9) ou 2 _ (by decide) ho
    refine lv_i2l (pc := 7) (v := (nI (T.sk a)).toInt64) F.1 F.2.1 dL_strikes_7 (rfl) ?_
    refine mm_last (pc := 8) F hN (ho9) (j := 0) (rfl) (by decide) (by decide) dL_strikes_8 (fun H locs hN => ?_)
    have hN : mm_N b D s (mm_u σ9 ou (mm_arj 2 1 1 (va_up g 0 ((nI (T.sk a)).toInt64)))) _ _ := hN
    refine lv_goto (pc := 9) (tgt := 15) F.1 F.2.1 dL_strikes_9 (by decide) ?_
    refine lv_iconst (pc := 15) (v := nI 0) F.1 F.2.1 dL_strikes_15 (by decide) ?_
    exact mm_iret (pc := 16) F hr hN (⟨by rw [hq], mm_Wl_ok hx9 ho (if_pos hq) rfl⟩) (Nat.le_of_ble_eq_true rfl) (Nat.le_of_ble_eq_true rfl) dL_strikes_16

set_option maxHeartbeats 4000000 in
set_option maxRecDepth 100000 in
theorem w_pagesFor (l : Launch) (b : Nat) (D : mm_D) (hst : l.stackTraces = false) (T : mm_T) (z : mm_Z) (ad : Nat → Nat → Nat → Nat) (σ : mm_S) (hX : mm_X σ T z ad) (hW : mm_WF T) (t : Nat) (zt : t < 2 ^ 32) (f : Nat) (zf : f < 2 ^ 32) (ou : Nat) (g : Nat → Int64) (ho : σ ou = mm_arj 2 1 1 g) : mm_K l b D yL_pagesFor (.codeWith yL_pagesFor cL_pagesFor 5 (some .int) [(0, 10, 13, 21), (0, 10, 17, 13)]) ({ frames := 9, cells := 6, slots := 40, locals := 260 } : Room) [.ref ((ad 0 0 0)), .int (nI t), .int (nI f), .ref ou] σ
    (fun v σ2 => v = some (.int (nI (mm_q_pagesFor T t f))) ∧ mm_Wl σ σ2 (if mm_q_pagesFor T t f = 0 then (T) else T) (ad 0 0 0) ou (mm_q_pagesFor T t f) ((nI (mm_pgs T t f)).toInt64))
    (fun _ _ => False) := by
  refine mm_ofX (cc := cL_pagesFor) (nL := 5) (ret := some .int) (by decide) rfl (Nat.le_of_ble_eq_true rfl) hst ?_
  intro p e s m args below meth c ls F ht hr hN hl
  have hl : lv_has ls 5 [(0, .ref ((ad 0 0 0))), (1, .int (nI t)), (2, .int (nI f)), (3, .ref ou)] := hl
  refine lv_aload_n (pc := 0) F.1 F.2.1 dL_pagesFor_0 rfl (lv_at hl 3 rfl) ?_
  refine lv_iconst (pc := 1) (v := nI 0) F.1 F.2.1 dL_pagesFor_1 (by decide) ?_
  refine lv_aload_n (pc := 2) F.1 F.2.1 dL_pagesFor_2 rfl (lv_at hl 0 rfl) ?_
  refine lv_iload_n (pc := 3) F.1 F.2.1 dL_pagesFor_3 rfl (lv_at hl 1 rfl) ?_
  refine lv_iload_n (pc := 4) F.1 F.2.1 dL_pagesFor_4 rfl (lv_at hl 2 rfl) ?_
  refine mm_runV (pc := 5) (As := [.int (nI t), .int (nI f)]) (rest := [.int (nI 0), .ref ou]) F hN (a_pagesFor l b D hst T z ad σ hX hW t zt f zf) mw_620 mw_621 mw_622 mw_1 mw_623 ⟨pmX6_pagesFor, (Nat.le_of_ble_eq_true rfl), (Nat.le_of_ble_eq_true rfl)⟩ (mm_recv F.2.2.2.2.2.1 hN (mm_X0 hX) rfl) hl.1 rfl (Nat.le_of_ble_eq_true rfl) ⟨(Nat.le_of_ble_eq_true rfl), (Nat.le_of_ble_eq_true rfl)⟩ dL_pagesFor_5
    (fun E9 σ9 H locs q9 ce9 hp9 hN hq9 hv9 hcl9 => ?_) (fun v9 σ9 H locs hp9 hN => ?_)
  ·
    obtain ⟨hq, hx9⟩ := hp9
    rcases hq with ⟨hq, rfl⟩ | ⟨hq, rfl⟩
    ·
      refine mm_catch F hN [] ⟨0, 10, 13, 21⟩ [⟨0, 10, 17, 13⟩] ht (fun _ h => absurd h List.not_mem_nil) (by decide) (by decide) mw_424 mw_458 hq9 hv9 hcl9 ?_
      refine W.eq (g2 := F0 m 13 ls [.ref q9]) rfl ?_
      refine W.widen (k := 6) (n := 40) (Nat.le_of_ble_eq_true rfl) (Nat.le_of_ble_eq_true rfl) ?_
      refine lv_astore (pc := 13) (lv' := [(4, .ref q9), (0, .ref ((ad 0 0 0))), (1, .int (nI t)), (2, .int (nI f)), (3, .ref ou)]) F.1 F.2.1 dL_pagesFor_13 hl (by decide) rfl (fun ls hl => ?_)
      refine lv_iconst (pc := 15) (v := nI 1) F.1 F.2.1 dL_pagesFor_15 (by decide) ?_
      exact mm_iret (pc := 16) F hr hN (⟨by rw [hq], mm_Wl_no hx9 ho (if_neg (by rw [hq]; decide)) (by rw [hq]; decide)⟩) (Nat.le_of_ble_eq_true rfl) (Nat.le_of_ble_eq_true rfl) dL_pagesFor_16
    ·
      refine mm_catch F hN [⟨0, 10, 13, 21⟩] ⟨0, 10, 17, 13⟩ [] ht (List.forall_mem_cons.mpr ⟨⟨by decide, _, mw_424, List.mem_of_getElem? (i := 1) rfl⟩, fun _ h => absurd h List.not_mem_nil⟩) (by decide) (by decide) mw_235 mw_243 hq9 hv9 hcl9 ?_
      refine W.eq (g2 := F0 m 17 ls [.ref q9]) rfl ?_
      refine W.widen (k := 6) (n := 40) (Nat.le_of_ble_eq_true rfl) (Nat.le_of_ble_eq_true rfl) ?_
      refine lv_astore (pc := 17) (lv' := [(4, .ref q9), (0, .ref ((ad 0 0 0))), (1, .int (nI t)), (2, .int (nI f)), (3, .ref ou)]) F.1 F.2.1 dL_pagesFor_17 hl (by decide) rfl (fun ls hl => ?_)
      refine lv_iconst (pc := 19) (v := nI 2) F.1 F.2.1 dL_pagesFor_19 (by decide) ?_
      exact mm_iret (pc := 20) F hr hN (⟨by rw [hq], mm_Wl_no hx9 ho (if_neg (by rw [hq]; decide)) (by rw [hq]; decide)⟩) (Nat.le_of_ble_eq_true rfl) (Nat.le_of_ble_eq_true rfl) dL_pagesFor_20
  ·
    obtain ⟨hq, rfl, hx9⟩ := hp9
    refine W.eq (g2 := F0 m 8 ls [.int (nI (mm_pgs T t f)), .int (nI 0), .ref ou]) rfl ?_
    refine W.widen (k := 6) (n := 40) (Nat.le_of_ble_eq_true rfl) (Nat.le_of_ble_eq_true rfl) ?_
    have ho9 := (mm_Xt.fr hx9) ou 2 _ (by decide) ho
    refine lv_i2l (pc := 8) (v := (nI (mm_pgs T t f)).toInt64) F.1 F.2.1 dL_pagesFor_8 (rfl) ?_
    refine mm_last (pc := 9) F hN (ho9) (j := 0) (rfl) (by decide) (by decide) dL_pagesFor_9 (fun H locs hN => ?_)
    have hN : mm_N b D s (mm_u σ9 ou (mm_arj 2 1 1 (va_up g 0 ((nI (mm_pgs T t f)).toInt64)))) _ _ := hN
    refine lv_goto (pc := 10) (tgt := 21) F.1 F.2.1 dL_pagesFor_10 (by decide) ?_
    refine lv_iconst (pc := 21) (v := nI 0) F.1 F.2.1 dL_pagesFor_21 (by decide) ?_
    exact mm_iret (pc := 22) F hr hN (⟨by rw [hq], mm_Wl_ok hx9 ho (if_pos hq) rfl⟩) (Nat.le_of_ble_eq_true rfl) (Nat.le_of_ble_eq_true rfl) dL_pagesFor_22

set_option maxHeartbeats 4000000 in
set_option maxRecDepth 100000 in
theorem w_outcome (l : Launch) (b : Nat) (D : mm_D) (hst : l.stackTraces = false) (T : mm_T) (z : mm_Z) (ad : Nat → Nat → Nat → Nat) (σ : mm_S) (hX : mm_X σ T z ad) (hW : mm_WF T) (k : Nat) (zk : k < 2 ^ 32) (i : Nat) (zi : i < 2 ^ 32) (ou : Nat) (g : Nat → Int64) (ho : σ ou = mm_arj 2 1 1 g) : mm_K l b D yL_outcome (.codeWith yL_outcome cL_outcome 5 (some .int) [(0, 10, 13, 21)]) ({ frames := 9, cells := 6, slots := 40, locals := 260 } : Room) [.ref ((ad 0 0 0)), .int (nI k), .int (nI i), .ref ou] σ
    (fun v σ2 => v = some (.int (nI (mm_q_outcome T k i))) ∧ mm_Wl σ σ2 (if mm_q_outcome T k i = 0 then (T) else T) (ad 0 0 0) ou (mm_q_outcome T k i) ((nI (T.oc k i)).toInt64))
    (fun _ _ => False) := by
  refine mm_ofX (cc := cL_outcome) (nL := 5) (ret := some .int) (by decide) rfl (Nat.le_of_ble_eq_true rfl) hst ?_
  intro p e s m args below meth c ls F ht hr hN hl
  have hl : lv_has ls 5 [(0, .ref ((ad 0 0 0))), (1, .int (nI k)), (2, .int (nI i)), (3, .ref ou)] := hl
  refine lv_aload_n (pc := 0) F.1 F.2.1 dL_outcome_0 rfl (lv_at hl 3 rfl) ?_
  refine lv_iconst (pc := 1) (v := nI 0) F.1 F.2.1 dL_outcome_1 (by decide) ?_
  refine lv_aload_n (pc := 2) F.1 F.2.1 dL_outcome_2 rfl (lv_at hl 0 rfl) ?_
  refine lv_iload_n (pc := 3) F.1 F.2.1 dL_outcome_3 rfl (lv_at hl 1 rfl) ?_
  refine lv_iload_n (pc := 4) F.1 F.2.1 dL_outcome_4 rfl (lv_at hl 2 rfl) ?_
  refine mm_runV (pc := 5) (As := [.int (nI k), .int (nI i)]) (rest := [.int (nI 0), .ref ou]) F hN (a_outcome l b D hst T z ad σ hX hW k zk i zi) mw_1005 mw_1006 mw_1007 mw_1 mw_1008 ⟨pmX6_outcome, (Nat.le_of_ble_eq_true rfl), (Nat.le_of_ble_eq_true rfl)⟩ (mm_recv F.2.2.2.2.2.1 hN (mm_X0 hX) rfl) hl.1 rfl (Nat.le_of_ble_eq_true rfl) ⟨(Nat.le_of_ble_eq_true rfl), (Nat.le_of_ble_eq_true rfl)⟩ dL_outcome_5
    (fun E9 σ9 H locs q9 ce9 hp9 hN hq9 hv9 hcl9 => ?_) (fun v9 σ9 H locs hp9 hN => ?_)
  ·
    obtain ⟨hq, hx9⟩ := hp9
    obtain ⟨hq, rfl⟩ := hq
    refine mm_catch F hN [] ⟨0, 10, 13, 21⟩ [] ht (fun _ h => absurd h List.not_mem_nil) (by decide) (by decide) mw_424 mw_458 hq9 hv9 hcl9 ?_
    refine W.eq (g2 := F0 m 13 ls [.ref q9]) rfl ?_
    refine W.widen (k := 6) (n := 40) (Nat.le_of_ble_eq_true rfl) (Nat.le_of_ble_eq_true rfl) ?_
    refine lv_astore (pc := 13) (lv' := [(4, .ref q9), (0, .ref ((ad 0 0 0))), (1, .int (nI k)), (2, .int (nI i)), (3, .ref ou)]) F.1 F.2.1 dL_outcome_13 hl (by decide) rfl (fun ls hl => ?_)
    refine lv_iconst (pc := 15) (v := nI 1) F.1 F.2.1 dL_outcome_15 (by decide) ?_
    exact mm_iret (pc := 16) F hr hN (⟨by rw [hq], mm_Wl_no hx9 ho (if_neg (by rw [hq]; decide)) (by rw [hq]; decide)⟩) (Nat.le_of_ble_eq_true rfl) (Nat.le_of_ble_eq_true rfl) dL_outcome_16
  ·
    obtain ⟨hq, rfl, hx9⟩ := hp9
    refine W.eq (g2 := F0 m 8 ls [.int (nI (T.oc k i)), .int (nI 0), .ref ou]) rfl ?_
    refine W.widen (k := 6) (n := 40) (Nat.le_of_ble_eq_true rfl) (Nat.le_of_ble_eq_true rfl) ?_
    have ho9 := (mm_Xt.fr hx9) ou 2 _ (by decide) ho
    refine lv_i2l (pc := 8) (v := (nI (T.oc k i)).toInt64) F.1 F.2.1 dL_outcome_8 (rfl) ?_
    refine mm_last (pc := 9) F hN (ho9) (j := 0) (rfl) (by decide) (by decide) dL_outcome_9 (fun H locs hN => ?_)
    have hN : mm_N b D s (mm_u σ9 ou (mm_arj 2 1 1 (va_up g 0 ((nI (T.oc k i)).toInt64)))) _ _ := hN
    refine lv_goto (pc := 10) (tgt := 17) F.1 F.2.1 dL_outcome_10 (by decide) ?_
    refine lv_iconst (pc := 17) (v := nI 0) F.1 F.2.1 dL_outcome_17 (by decide) ?_
    exact mm_iret (pc := 18) F hr hN (⟨by rw [hq], mm_Wl_ok hx9 ho (if_pos hq) rfl⟩) (Nat.le_of_ble_eq_true rfl) (Nat.le_of_ble_eq_true rfl) dL_outcome_18

set_option maxHeartbeats 4000000 in
set_option maxRecDepth 100000 in
theorem w_letters (l : Launch) (b : Nat) (D : mm_D) (hst : l.stackTraces = false) (T : mm_T) (z : mm_Z) (ad : Nat → Nat → Nat → Nat) (σ : mm_S) (hX : mm_X σ T z ad) (hW : mm_WF T) (k : Nat) (zk : k < 2 ^ 32) (ou : Nat) (g : Nat → Int64) (ho : σ ou = mm_arj 2 1 1 g) : mm_K l b D yL_letters (.codeWith yL_letters cL_letters 4 (some .int) [(0, 9, 12, 21)]) ({ frames := 9, cells := 6, slots := 40, locals := 260 } : Room) [.ref ((ad 0 0 0)), .int (nI k), .ref ou] σ
    (fun v σ2 => v = some (.int (nI (mm_q_letters T k))) ∧ mm_Wl σ σ2 (if mm_q_letters T k = 0 then (T) else T) (ad 0 0 0) ou (mm_q_letters T k) ((nI (mm_sm (fun p => if T.oc k p = 108 then 1 else 0) (T.rp k))).toInt64))
    (fun _ _ => False) := by
  refine mm_ofX (cc := cL_letters) (nL := 4) (ret := some .int) (by decide) rfl (Nat.le_of_ble_eq_true rfl) hst ?_
  intro p e s m args below meth c ls F ht hr hN hl
  have hl : lv_has ls 4 [(0, .ref ((ad 0 0 0))), (1, .int (nI k)), (2, .ref ou)] := hl
  refine lv_aload_n (pc := 0) F.1 F.2.1 dL_letters_0 rfl (lv_at hl 2 rfl) ?_
  refine lv_iconst (pc := 1) (v := nI 0) F.1 F.2.1 dL_letters_1 (by decide) ?_
  refine lv_aload_n (pc := 2) F.1 F.2.1 dL_letters_2 rfl (lv_at hl 0 rfl) ?_
  refine lv_iload_n (pc := 3) F.1 F.2.1 dL_letters_3 rfl (lv_at hl 1 rfl) ?_
  refine mm_runV (pc := 4) (As := [.int (nI k)]) (rest := [.int (nI 0), .ref ou]) F hN (a_letters l b D hst T z ad σ hX hW k zk) mw_1044 mw_1045 mw_1046 mw_1 mw_1047 ⟨pmX6_letters, (Nat.le_of_ble_eq_true rfl), (Nat.le_of_ble_eq_true rfl)⟩ (mm_recv F.2.2.2.2.2.1 hN (mm_X0 hX) rfl) hl.1 rfl (Nat.le_of_ble_eq_true rfl) ⟨(Nat.le_of_ble_eq_true rfl), (Nat.le_of_ble_eq_true rfl)⟩ dL_letters_4
    (fun E9 σ9 H locs q9 ce9 hp9 hN hq9 hv9 hcl9 => ?_) (fun v9 σ9 H locs hp9 hN => ?_)
  ·
    obtain ⟨hq, hx9⟩ := hp9
    obtain ⟨hq, rfl⟩ := hq
    refine mm_catch F hN [] ⟨0, 9, 12, 21⟩ [] ht (fun _ h => absurd h List.not_mem_nil) (by decide) (by decide) mw_424 mw_458 hq9 hv9 hcl9 ?_
    refine W.eq (g2 := F0 m 12 ls [.ref q9]) rfl ?_
    refine W.widen (k := 6) (n := 40) (Nat.le_of_ble_eq_true rfl) (Nat.le_of_ble_eq_true rfl) ?_
    refine lv_astore_n (pc := 12) (lv' := [(3, .ref q9), (0, .ref ((ad 0 0 0))), (1, .int (nI k)), (2, .ref ou)]) F.1 F.2.1 dL_letters_12 rfl hl (by decide) rfl (fun ls hl => ?_)
    refine lv_iconst (pc := 13) (v := nI 1) F.1 F.2.1 dL_letters_13 (by decide) ?_
    exact mm_iret (pc := 14) F hr hN (⟨by rw [hq], mm_Wl_no hx9 ho (if_neg (by rw [hq]; decide)) (by rw [hq]; decide)⟩) (Nat.le_of_ble_eq_true rfl) (Nat.le_of_ble_eq_true rfl) dL_letters_14
  ·
    obtain ⟨hq, rfl, hx9⟩ := hp9
    refine W.eq (g2 := F0 m 7 ls [.int (nI (mm_sm (fun p => if T.oc k p = 108 then 1 else 0) (T.rp k))), .int (nI 0), .ref ou]) rfl ?_
    refine W.widen (k := 6) (n := 40) (Nat.le_of_ble_eq_true rfl) (Nat.le_of_ble_eq_true rfl) ?_
    have ho9 := (mm_Xt.fr hx9) ou 2 _ (by decide) ho
    refine lv_i2l (pc := 7) (v := (nI (mm_sm (fun p => if T.oc k p = 108 then 1 else 0) (T.rp k))).toInt64) F.1 F.2.1 dL_letters_7 (rfl) ?_
    refine mm_last (pc := 8) F hN (ho9) (j := 0) (rfl) (by decide) (by decide) dL_letters_8 (fun H locs hN => ?_)
    have hN : mm_N b D s (mm_u σ9 ou (mm_arj 2 1 1 (va_up g 0 ((nI (mm_sm (fun p => if T.oc k p = 108 then 1 else 0) (T.rp k))).toInt64)))) _ _ := hN
    refine lv_goto (pc := 9) (tgt := 15) F.1 F.2.1 dL_letters_9 (by decide) ?_
    refine lv_iconst (pc := 15) (v := nI 0) F.1 F.2.1 dL_letters_15 (by decide) ?_
    exact mm_iret (pc := 16) F hr hN (⟨by rw [hq], mm_Wl_ok hx9 ho (if_pos hq) rfl⟩) (Nat.le_of_ble_eq_true rfl) (Nat.le_of_ble_eq_true rfl) dL_letters_16

set_option maxHeartbeats 4000000 in
set_option maxRecDepth 100000 in
theorem w_postedAt (l : Launch) (b : Nat) (D : mm_D) (hst : l.stackTraces = false) (T : mm_T) (z : mm_Z) (ad : Nat → Nat → Nat → Nat) (σ : mm_S) (hX : mm_X σ T z ad) (hW : mm_WF T) (k : Nat) (zk : k < 2 ^ 32) (j : Nat) (zj : j < 2 ^ 32) (ou : Nat) (g : Nat → Int64) (ho : σ ou = mm_arj 2 1 1 g) : mm_K l b D yL_postedAt (.codeWith yL_postedAt cL_postedAt 5 (some .int) [(0, 10, 13, 21), (0, 10, 17, 95)]) ({ frames := 9, cells := 6, slots := 40, locals := 260 } : Room) [.ref ((ad 0 0 0)), .int (nI k), .int (nI j), .ref ou] σ
    (fun v σ2 => v = some (.int (nI (mm_q_postedAt T k j))) ∧ mm_Wl σ σ2 (if mm_q_postedAt T k j = 0 then (T) else T) (ad 0 0 0) ou (mm_q_postedAt T k j) ((nI ((mm_po (T.oc k) (T.rc k) (T.rp k)).getD j 0)).toInt64))
    (fun _ _ => False) := by
  refine mm_ofX (cc := cL_postedAt) (nL := 5) (ret := some .int) (by decide) rfl (Nat.le_of_ble_eq_true rfl) hst ?_
  intro p e s m args below meth c ls F ht hr hN hl
  have hl : lv_has ls 5 [(0, .ref ((ad 0 0 0))), (1, .int (nI k)), (2, .int (nI j)), (3, .ref ou)] := hl
  refine lv_aload_n (pc := 0) F.1 F.2.1 dL_postedAt_0 rfl (lv_at hl 3 rfl) ?_
  refine lv_iconst (pc := 1) (v := nI 0) F.1 F.2.1 dL_postedAt_1 (by decide) ?_
  refine lv_aload_n (pc := 2) F.1 F.2.1 dL_postedAt_2 rfl (lv_at hl 0 rfl) ?_
  refine lv_iload_n (pc := 3) F.1 F.2.1 dL_postedAt_3 rfl (lv_at hl 1 rfl) ?_
  refine lv_iload_n (pc := 4) F.1 F.2.1 dL_postedAt_4 rfl (lv_at hl 2 rfl) ?_
  refine mm_runV (pc := 5) (As := [.int (nI k), .int (nI j)]) (rest := [.int (nI 0), .ref ou]) F hN (a_postedAt l b D hst T z ad σ hX hW k zk j zj) mw_1052 mw_1053 mw_1054 mw_1 mw_1055 ⟨pmX6_postedAt, (Nat.le_of_ble_eq_true rfl), (Nat.le_of_ble_eq_true rfl)⟩ (mm_recv F.2.2.2.2.2.1 hN (mm_X0 hX) rfl) hl.1 rfl (Nat.le_of_ble_eq_true rfl) ⟨(Nat.le_of_ble_eq_true rfl), (Nat.le_of_ble_eq_true rfl)⟩ dL_postedAt_5
    (fun E9 σ9 H locs q9 ce9 hp9 hN hq9 hv9 hcl9 => ?_) (fun v9 σ9 H locs hp9 hN => ?_)
  ·
    obtain ⟨hq, hx9⟩ := hp9
    rcases hq with ⟨hq, rfl⟩ | ⟨hq, rfl⟩
    ·
      refine mm_catch F hN [] ⟨0, 10, 13, 21⟩ [⟨0, 10, 17, 95⟩] ht (fun _ h => absurd h List.not_mem_nil) (by decide) (by decide) mw_424 mw_458 hq9 hv9 hcl9 ?_
      refine W.eq (g2 := F0 m 13 ls [.ref q9]) rfl ?_
      refine W.widen (k := 6) (n := 40) (Nat.le_of_ble_eq_true rfl) (Nat.le_of_ble_eq_true rfl) ?_
      refine lv_astore (pc := 13) (lv' := [(4, .ref q9), (0, .ref ((ad 0 0 0))), (1, .int (nI k)), (2, .int (nI j)), (3, .ref ou)]) F.1 F.2.1 dL_postedAt_13 hl (by decide) rfl (fun ls hl => ?_)
      refine lv_iconst (pc := 15) (v := nI 1) F.1 F.2.1 dL_postedAt_15 (by decide) ?_
      exact mm_iret (pc := 16) F hr hN (⟨by rw [hq], mm_Wl_no hx9 ho (if_neg (by rw [hq]; decide)) (by rw [hq]; decide)⟩) (Nat.le_of_ble_eq_true rfl) (Nat.le_of_ble_eq_true rfl) dL_postedAt_16
    ·
      refine mm_catch F hN [⟨0, 10, 13, 21⟩] ⟨0, 10, 17, 95⟩ [] ht (List.forall_mem_cons.mpr ⟨⟨by decide, _, mw_424, List.mem_of_getElem? (i := 14) rfl⟩, fun _ h => absurd h List.not_mem_nil⟩) (by decide) (by decide) mw_1051 mw_1061 hq9 hv9 hcl9 ?_
      refine W.eq (g2 := F0 m 17 ls [.ref q9]) rfl ?_
      refine W.widen (k := 6) (n := 40) (Nat.le_of_ble_eq_true rfl) (Nat.le_of_ble_eq_true rfl) ?_
      refine lv_astore (pc := 17) (lv' := [(4, .ref q9), (0, .ref ((ad 0 0 0))), (1, .int (nI k)), (2, .int (nI j)), (3, .ref ou)]) F.1 F.2.1 dL_postedAt_17 hl (by decide) rfl (fun ls hl => ?_)
      refine lv_iconst (pc := 19) (v := nI 2) F.1 F.2.1 dL_postedAt_19 (by decide) ?_
      exact mm_iret (pc := 20) F hr hN (⟨by rw [hq], mm_Wl_no hx9 ho (if_neg (by rw [hq]; decide)) (by rw [hq]; decide)⟩) (Nat.le_of_ble_eq_true rfl) (Nat.le_of_ble_eq_true rfl) dL_postedAt_20
  ·
    obtain ⟨hq, rfl, hx9⟩ := hp9
    refine W.eq (g2 := F0 m 8 ls [.int (nI ((mm_po (T.oc k) (T.rc k) (T.rp k)).getD j 0)), .int (nI 0), .ref ou]) rfl ?_
    refine W.widen (k := 6) (n := 40) (Nat.le_of_ble_eq_true rfl) (Nat.le_of_ble_eq_true rfl) ?_
    have ho9 := (mm_Xt.fr hx9) ou 2 _ (by decide) ho
    refine lv_i2l (pc := 8) (v := (nI ((mm_po (T.oc k) (T.rc k) (T.rp k)).getD j 0)).toInt64) F.1 F.2.1 dL_postedAt_8 (rfl) ?_
    refine mm_last (pc := 9) F hN (ho9) (j := 0) (rfl) (by decide) (by decide) dL_postedAt_9 (fun H locs hN => ?_)
    have hN : mm_N b D s (mm_u σ9 ou (mm_arj 2 1 1 (va_up g 0 ((nI ((mm_po (T.oc k) (T.rc k) (T.rp k)).getD j 0)).toInt64)))) _ _ := hN
    refine lv_goto (pc := 10) (tgt := 21) F.1 F.2.1 dL_postedAt_10 (by decide) ?_
    refine lv_iconst (pc := 21) (v := nI 0) F.1 F.2.1 dL_postedAt_21 (by decide) ?_
    exact mm_iret (pc := 22) F hr hN (⟨by rw [hq], mm_Wl_ok hx9 ho (if_pos hq) rfl⟩) (Nat.le_of_ble_eq_true rfl) (Nat.le_of_ble_eq_true rfl) dL_postedAt_22

set_option maxHeartbeats 4000000 in
set_option maxRecDepth 100000 in
theorem w_proofAt (l : Launch) (b : Nat) (D : mm_D) (hst : l.stackTraces = false) (T : mm_T) (z : mm_Z) (ad : Nat → Nat → Nat → Nat) (σ : mm_S) (hX : mm_X σ T z ad) (hW : mm_WF T) (k : Nat) (zk : k < 2 ^ 32) (j : Nat) (zj : j < 2 ^ 32) (ou : Nat) (g : Nat → Int64) (ho : σ ou = mm_arj 2 1 1 g) : mm_K l b D yL_proofAt (.codeWith yL_proofAt cL_proofAt 5 (some .int) [(0, 10, 13, 21), (0, 10, 17, 95)]) ({ frames := 9, cells := 6, slots := 40, locals := 260 } : Room) [.ref ((ad 0 0 0)), .int (nI k), .int (nI j), .ref ou] σ
    (fun v σ2 => v = some (.int (nI (mm_q_proofAt T k j))) ∧ mm_Wl σ σ2 (if mm_q_proofAt T k j = 0 then (T) else T) (ad 0 0 0) ou (mm_q_proofAt T k j) ((nI ((mm_pl (mm_fr T k) (T.rp k) 8).getD j 0)).toInt64))
    (fun _ _ => False) := by
  refine mm_ofX (cc := cL_proofAt) (nL := 5) (ret := some .int) (by decide) rfl (Nat.le_of_ble_eq_true rfl) hst ?_
  intro p e s m args below meth c ls F ht hr hN hl
  have hl : lv_has ls 5 [(0, .ref ((ad 0 0 0))), (1, .int (nI k)), (2, .int (nI j)), (3, .ref ou)] := hl
  refine lv_aload_n (pc := 0) F.1 F.2.1 dL_proofAt_0 rfl (lv_at hl 3 rfl) ?_
  refine lv_iconst (pc := 1) (v := nI 0) F.1 F.2.1 dL_proofAt_1 (by decide) ?_
  refine lv_aload_n (pc := 2) F.1 F.2.1 dL_proofAt_2 rfl (lv_at hl 0 rfl) ?_
  refine lv_iload_n (pc := 3) F.1 F.2.1 dL_proofAt_3 rfl (lv_at hl 1 rfl) ?_
  refine lv_iload_n (pc := 4) F.1 F.2.1 dL_proofAt_4 rfl (lv_at hl 2 rfl) ?_
  refine mm_runV (pc := 5) (As := [.int (nI k), .int (nI j)]) (rest := [.int (nI 0), .ref ou]) F hN (a_proofAt l b D hst T z ad σ hX hW k zk j zj) mw_1124 mw_1125 mw_1126 mw_1 mw_1127 ⟨pmX6_proofAt, (Nat.le_of_ble_eq_true rfl), (Nat.le_of_ble_eq_true rfl)⟩ (mm_recv F.2.2.2.2.2.1 hN (mm_X0 hX) rfl) hl.1 rfl (Nat.le_of_ble_eq_true rfl) ⟨(Nat.le_of_ble_eq_true rfl), (Nat.le_of_ble_eq_true rfl)⟩ dL_proofAt_5
    (fun E9 σ9 H locs q9 ce9 hp9 hN hq9 hv9 hcl9 => ?_) (fun v9 σ9 H locs hp9 hN => ?_)
  ·
    obtain ⟨hq, hx9⟩ := hp9
    rcases hq with ⟨hq, rfl⟩ | ⟨hq, rfl⟩
    ·
      refine mm_catch F hN [] ⟨0, 10, 13, 21⟩ [⟨0, 10, 17, 95⟩] ht (fun _ h => absurd h List.not_mem_nil) (by decide) (by decide) mw_424 mw_458 hq9 hv9 hcl9 ?_
      refine W.eq (g2 := F0 m 13 ls [.ref q9]) rfl ?_
      refine W.widen (k := 6) (n := 40) (Nat.le_of_ble_eq_true rfl) (Nat.le_of_ble_eq_true rfl) ?_
      refine lv_astore (pc := 13) (lv' := [(4, .ref q9), (0, .ref ((ad 0 0 0))), (1, .int (nI k)), (2, .int (nI j)), (3, .ref ou)]) F.1 F.2.1 dL_proofAt_13 hl (by decide) rfl (fun ls hl => ?_)
      refine lv_iconst (pc := 15) (v := nI 1) F.1 F.2.1 dL_proofAt_15 (by decide) ?_
      exact mm_iret (pc := 16) F hr hN (⟨by rw [hq], mm_Wl_no hx9 ho (if_neg (by rw [hq]; decide)) (by rw [hq]; decide)⟩) (Nat.le_of_ble_eq_true rfl) (Nat.le_of_ble_eq_true rfl) dL_proofAt_16
    ·
      refine mm_catch F hN [⟨0, 10, 13, 21⟩] ⟨0, 10, 17, 95⟩ [] ht (List.forall_mem_cons.mpr ⟨⟨by decide, _, mw_424, List.mem_of_getElem? (i := 14) rfl⟩, fun _ h => absurd h List.not_mem_nil⟩) (by decide) (by decide) mw_1051 mw_1061 hq9 hv9 hcl9 ?_
      refine W.eq (g2 := F0 m 17 ls [.ref q9]) rfl ?_
      refine W.widen (k := 6) (n := 40) (Nat.le_of_ble_eq_true rfl) (Nat.le_of_ble_eq_true rfl) ?_
      refine lv_astore (pc := 17) (lv' := [(4, .ref q9), (0, .ref ((ad 0 0 0))), (1, .int (nI k)), (2, .int (nI j)), (3, .ref ou)]) F.1 F.2.1 dL_proofAt_17 hl (by decide) rfl (fun ls hl => ?_)
      refine lv_iconst (pc := 19) (v := nI 2) F.1 F.2.1 dL_proofAt_19 (by decide) ?_
      exact mm_iret (pc := 20) F hr hN (⟨by rw [hq], mm_Wl_no hx9 ho (if_neg (by rw [hq]; decide)) (by rw [hq]; decide)⟩) (Nat.le_of_ble_eq_true rfl) (Nat.le_of_ble_eq_true rfl) dL_proofAt_20
  ·
    obtain ⟨hq, rfl, hx9⟩ := hp9
    refine W.eq (g2 := F0 m 8 ls [.int (nI ((mm_pl (mm_fr T k) (T.rp k) 8).getD j 0)), .int (nI 0), .ref ou]) rfl ?_
    refine W.widen (k := 6) (n := 40) (Nat.le_of_ble_eq_true rfl) (Nat.le_of_ble_eq_true rfl) ?_
    have ho9 := (mm_Xt.fr hx9) ou 2 _ (by decide) ho
    refine lv_i2l (pc := 8) (v := (nI ((mm_pl (mm_fr T k) (T.rp k) 8).getD j 0)).toInt64) F.1 F.2.1 dL_proofAt_8 (rfl) ?_
    refine mm_last (pc := 9) F hN (ho9) (j := 0) (rfl) (by decide) (by decide) dL_proofAt_9 (fun H locs hN => ?_)
    have hN : mm_N b D s (mm_u σ9 ou (mm_arj 2 1 1 (va_up g 0 ((nI ((mm_pl (mm_fr T k) (T.rp k) 8).getD j 0)).toInt64)))) _ _ := hN
    refine lv_goto (pc := 10) (tgt := 21) F.1 F.2.1 dL_proofAt_10 (by decide) ?_
    refine lv_iconst (pc := 21) (v := nI 0) F.1 F.2.1 dL_proofAt_21 (by decide) ?_
    exact mm_iret (pc := 22) F hr hN (⟨by rw [hq], mm_Wl_ok hx9 ho (if_pos hq) rfl⟩) (Nat.le_of_ble_eq_true rfl) (Nat.le_of_ble_eq_true rfl) dL_proofAt_22

set_option maxHeartbeats 4000000 in
set_option maxRecDepth 100000 in
theorem w_onRoute (l : Launch) (b : Nat) (D : mm_D) (hst : l.stackTraces = false) (T : mm_T) (z : mm_Z) (ad : Nat → Nat → Nat → Nat) (σ : mm_S) (hX : mm_X σ T z ad) (hW : mm_WF T) (k : Nat) (zk : k < 2 ^ 32) (te : Nat) (zte : te < 2 ^ 32) (ou : Nat) (g : Nat → Int64) (ho : σ ou = mm_arj 2 1 1 g) : mm_K l b D yL_onRoute (.codeWith yL_onRoute cL_onRoute 5 (some .int) [(0, 10, 13, 21), (0, 10, 17, 13)]) ({ frames := 9, cells := 6, slots := 40, locals := 260 } : Room) [.ref ((ad 0 0 0)), .int (nI k), .int (nI te), .ref ou] σ
    (fun v σ2 => v = some (.int (nI (mm_q_onRoute T k te))) ∧ mm_Wl σ σ2 (if mm_q_onRoute T k te = 0 then (T) else T) (ad 0 0 0) ou (mm_q_onRoute T k te) ((nI (mm_sm (fun p => if T.oc k p = 108 ∧ T.rc k p / 10 = te then 1 else 0) (T.rp k))).toInt64))
    (fun _ _ => False) := by
  refine mm_ofX (cc := cL_onRoute) (nL := 5) (ret := some .int) (by decide) rfl (Nat.le_of_ble_eq_true rfl) hst ?_
  intro p e s m args below meth c ls F ht hr hN hl
  have hl : lv_has ls 5 [(0, .ref ((ad 0 0 0))), (1, .int (nI k)), (2, .int (nI te)), (3, .ref ou)] := hl
  refine lv_aload_n (pc := 0) F.1 F.2.1 dL_onRoute_0 rfl (lv_at hl 3 rfl) ?_
  refine lv_iconst (pc := 1) (v := nI 0) F.1 F.2.1 dL_onRoute_1 (by decide) ?_
  refine lv_aload_n (pc := 2) F.1 F.2.1 dL_onRoute_2 rfl (lv_at hl 0 rfl) ?_
  refine lv_iload_n (pc := 3) F.1 F.2.1 dL_onRoute_3 rfl (lv_at hl 1 rfl) ?_
  refine lv_iload_n (pc := 4) F.1 F.2.1 dL_onRoute_4 rfl (lv_at hl 2 rfl) ?_
  refine mm_runV (pc := 5) (As := [.int (nI k), .int (nI te)]) (rest := [.int (nI 0), .ref ou]) F hN (a_onRoute l b D hst T z ad σ hX hW k zk te zte) mw_1078 mw_1079 mw_1080 mw_1 mw_1081 ⟨pmX6_onRoute, (Nat.le_of_ble_eq_true rfl), (Nat.le_of_ble_eq_true rfl)⟩ (mm_recv F.2.2.2.2.2.1 hN (mm_X0 hX) rfl) hl.1 rfl (Nat.le_of_ble_eq_true rfl) ⟨(Nat.le_of_ble_eq_true rfl), (Nat.le_of_ble_eq_true rfl)⟩ dL_onRoute_5
    (fun E9 σ9 H locs q9 ce9 hp9 hN hq9 hv9 hcl9 => ?_) (fun v9 σ9 H locs hp9 hN => ?_)
  ·
    obtain ⟨hq, hx9⟩ := hp9
    rcases hq with ⟨hq, rfl⟩ | ⟨hq, rfl⟩
    ·
      refine mm_catch F hN [] ⟨0, 10, 13, 21⟩ [⟨0, 10, 17, 13⟩] ht (fun _ h => absurd h List.not_mem_nil) (by decide) (by decide) mw_424 mw_458 hq9 hv9 hcl9 ?_
      refine W.eq (g2 := F0 m 13 ls [.ref q9]) rfl ?_
      refine W.widen (k := 6) (n := 40) (Nat.le_of_ble_eq_true rfl) (Nat.le_of_ble_eq_true rfl) ?_
      refine lv_astore (pc := 13) (lv' := [(4, .ref q9), (0, .ref ((ad 0 0 0))), (1, .int (nI k)), (2, .int (nI te)), (3, .ref ou)]) F.1 F.2.1 dL_onRoute_13 hl (by decide) rfl (fun ls hl => ?_)
      refine lv_iconst (pc := 15) (v := nI 1) F.1 F.2.1 dL_onRoute_15 (by decide) ?_
      exact mm_iret (pc := 16) F hr hN (⟨by rw [hq], mm_Wl_no hx9 ho (if_neg (by rw [hq]; decide)) (by rw [hq]; decide)⟩) (Nat.le_of_ble_eq_true rfl) (Nat.le_of_ble_eq_true rfl) dL_onRoute_16
    ·
      refine mm_catch F hN [⟨0, 10, 13, 21⟩] ⟨0, 10, 17, 13⟩ [] ht (List.forall_mem_cons.mpr ⟨⟨by decide, _, mw_424, List.mem_of_getElem? (i := 1) rfl⟩, fun _ h => absurd h List.not_mem_nil⟩) (by decide) (by decide) mw_235 mw_243 hq9 hv9 hcl9 ?_
      refine W.eq (g2 := F0 m 17 ls [.ref q9]) rfl ?_
      refine W.widen (k := 6) (n := 40) (Nat.le_of_ble_eq_true rfl) (Nat.le_of_ble_eq_true rfl) ?_
      refine lv_astore (pc := 17) (lv' := [(4, .ref q9), (0, .ref ((ad 0 0 0))), (1, .int (nI k)), (2, .int (nI te)), (3, .ref ou)]) F.1 F.2.1 dL_onRoute_17 hl (by decide) rfl (fun ls hl => ?_)
      refine lv_iconst (pc := 19) (v := nI 2) F.1 F.2.1 dL_onRoute_19 (by decide) ?_
      exact mm_iret (pc := 20) F hr hN (⟨by rw [hq], mm_Wl_no hx9 ho (if_neg (by rw [hq]; decide)) (by rw [hq]; decide)⟩) (Nat.le_of_ble_eq_true rfl) (Nat.le_of_ble_eq_true rfl) dL_onRoute_20
  ·
    obtain ⟨hq, rfl, hx9⟩ := hp9
    refine W.eq (g2 := F0 m 8 ls [.int (nI (mm_sm (fun p => if T.oc k p = 108 ∧ T.rc k p / 10 = te then 1 else 0) (T.rp k))), .int (nI 0), .ref ou]) rfl ?_
    refine W.widen (k := 6) (n := 40) (Nat.le_of_ble_eq_true rfl) (Nat.le_of_ble_eq_true rfl) ?_
    have ho9 := (mm_Xt.fr hx9) ou 2 _ (by decide) ho
    refine lv_i2l (pc := 8) (v := (nI (mm_sm (fun p => if T.oc k p = 108 ∧ T.rc k p / 10 = te then 1 else 0) (T.rp k))).toInt64) F.1 F.2.1 dL_onRoute_8 (rfl) ?_
    refine mm_last (pc := 9) F hN (ho9) (j := 0) (rfl) (by decide) (by decide) dL_onRoute_9 (fun H locs hN => ?_)
    have hN : mm_N b D s (mm_u σ9 ou (mm_arj 2 1 1 (va_up g 0 ((nI (mm_sm (fun p => if T.oc k p = 108 ∧ T.rc k p / 10 = te then 1 else 0) (T.rp k))).toInt64)))) _ _ := hN
    refine lv_goto (pc := 10) (tgt := 21) F.1 F.2.1 dL_onRoute_10 (by decide) ?_
    refine lv_iconst (pc := 21) (v := nI 0) F.1 F.2.1 dL_onRoute_21 (by decide) ?_
    exact mm_iret (pc := 22) F hr hN (⟨by rw [hq], mm_Wl_ok hx9 ho (if_pos hq) rfl⟩) (Nat.le_of_ble_eq_true rfl) (Nat.le_of_ble_eq_true rfl) dL_onRoute_22

set_option maxHeartbeats 4000000 in
set_option maxRecDepth 100000 in
theorem w_postage (l : Launch) (b : Nat) (D : mm_D) (hst : l.stackTraces = false) (T : mm_T) (z : mm_Z) (ad : Nat → Nat → Nat → Nat) (σ : mm_S) (hX : mm_X σ T z ad) (hW : mm_WF T) (k : Nat) (zk : k < 2 ^ 32) (i : Nat) (zi : i < 2 ^ 32) (ou : Nat) (g : Nat → Int64) (ho : σ ou = mm_arj 2 1 1 g) : mm_K l b D yL_postage (.codeWith yL_postage cL_postage 5 (some .int) [(0, 10, 13, 21), (0, 10, 17, 95)]) ({ frames := 9, cells := 6, slots := 40, locals := 260 } : Room) [.ref ((ad 0 0 0)), .int (nI k), .int (nI i), .ref ou] σ
    (fun v σ2 => v = some (.int (nI (mm_q_postage T k i))) ∧ mm_Wl σ σ2 (if mm_q_postage T k i = 0 then (T) else T) (ad 0 0 0) ou (mm_q_postage T k i) ((nI (T.ps k i)).toInt64))
    (fun _ _ => False) := by
  refine mm_ofX (cc := cL_postage) (nL := 5) (ret := some .int) (by decide) rfl (Nat.le_of_ble_eq_true rfl) hst ?_
  intro p e s m args below meth c ls F ht hr hN hl
  have hl : lv_has ls 5 [(0, .ref ((ad 0 0 0))), (1, .int (nI k)), (2, .int (nI i)), (3, .ref ou)] := hl
  refine lv_aload_n (pc := 0) F.1 F.2.1 dL_postage_0 rfl (lv_at hl 3 rfl) ?_
  refine lv_iconst (pc := 1) (v := nI 0) F.1 F.2.1 dL_postage_1 (by decide) ?_
  refine lv_aload_n (pc := 2) F.1 F.2.1 dL_postage_2 rfl (lv_at hl 0 rfl) ?_
  refine lv_iload_n (pc := 3) F.1 F.2.1 dL_postage_3 rfl (lv_at hl 1 rfl) ?_
  refine lv_iload_n (pc := 4) F.1 F.2.1 dL_postage_4 rfl (lv_at hl 2 rfl) ?_
  refine mm_runV (pc := 5) (As := [.int (nI k), .int (nI i)]) (rest := [.int (nI 0), .ref ou]) F hN (a_postage l b D hst T z ad σ hX hW k zk i zi) mw_1094 mw_1095 mw_1096 mw_1 mw_1097 ⟨pmX6_postage, (Nat.le_of_ble_eq_true rfl), (Nat.le_of_ble_eq_true rfl)⟩ (mm_recv F.2.2.2.2.2.1 hN (mm_X0 hX) rfl) hl.1 rfl (Nat.le_of_ble_eq_true rfl) ⟨(Nat.le_of_ble_eq_true rfl), (Nat.le_of_ble_eq_true rfl)⟩ dL_postage_5
    (fun E9 σ9 H locs q9 ce9 hp9 hN hq9 hv9 hcl9 => ?_) (fun v9 σ9 H locs hp9 hN => ?_)
  ·
    obtain ⟨hq, hx9⟩ := hp9
    rcases hq with ⟨hq, rfl⟩ | ⟨hq, rfl⟩
    ·
      refine mm_catch F hN [] ⟨0, 10, 13, 21⟩ [⟨0, 10, 17, 95⟩] ht (fun _ h => absurd h List.not_mem_nil) (by decide) (by decide) mw_424 mw_458 hq9 hv9 hcl9 ?_
      refine W.eq (g2 := F0 m 13 ls [.ref q9]) rfl ?_
      refine W.widen (k := 6) (n := 40) (Nat.le_of_ble_eq_true rfl) (Nat.le_of_ble_eq_true rfl) ?_
      refine lv_astore (pc := 13) (lv' := [(4, .ref q9), (0, .ref ((ad 0 0 0))), (1, .int (nI k)), (2, .int (nI i)), (3, .ref ou)]) F.1 F.2.1 dL_postage_13 hl (by decide) rfl (fun ls hl => ?_)
      refine lv_iconst (pc := 15) (v := nI 1) F.1 F.2.1 dL_postage_15 (by decide) ?_
      exact mm_iret (pc := 16) F hr hN (⟨by rw [hq], mm_Wl_no hx9 ho (if_neg (by rw [hq]; decide)) (by rw [hq]; decide)⟩) (Nat.le_of_ble_eq_true rfl) (Nat.le_of_ble_eq_true rfl) dL_postage_16
    ·
      refine mm_catch F hN [⟨0, 10, 13, 21⟩] ⟨0, 10, 17, 95⟩ [] ht (List.forall_mem_cons.mpr ⟨⟨by decide, _, mw_424, List.mem_of_getElem? (i := 14) rfl⟩, fun _ h => absurd h List.not_mem_nil⟩) (by decide) (by decide) mw_1051 mw_1061 hq9 hv9 hcl9 ?_
      refine W.eq (g2 := F0 m 17 ls [.ref q9]) rfl ?_
      refine W.widen (k := 6) (n := 40) (Nat.le_of_ble_eq_true rfl) (Nat.le_of_ble_eq_true rfl) ?_
      refine lv_astore (pc := 17) (lv' := [(4, .ref q9), (0, .ref ((ad 0 0 0))), (1, .int (nI k)), (2, .int (nI i)), (3, .ref ou)]) F.1 F.2.1 dL_postage_17 hl (by decide) rfl (fun ls hl => ?_)
      refine lv_iconst (pc := 19) (v := nI 2) F.1 F.2.1 dL_postage_19 (by decide) ?_
      exact mm_iret (pc := 20) F hr hN (⟨by rw [hq], mm_Wl_no hx9 ho (if_neg (by rw [hq]; decide)) (by rw [hq]; decide)⟩) (Nat.le_of_ble_eq_true rfl) (Nat.le_of_ble_eq_true rfl) dL_postage_20
  ·
    obtain ⟨hq, rfl, hx9⟩ := hp9
    refine W.eq (g2 := F0 m 8 ls [.int (nI (T.ps k i)), .int (nI 0), .ref ou]) rfl ?_
    refine W.widen (k := 6) (n := 40) (Nat.le_of_ble_eq_true rfl) (Nat.le_of_ble_eq_true rfl) ?_
    have ho9 := (mm_Xt.fr hx9) ou 2 _ (by decide) ho
    refine lv_i2l (pc := 8) (v := (nI (T.ps k i)).toInt64) F.1 F.2.1 dL_postage_8 (rfl) ?_
    refine mm_last (pc := 9) F hN (ho9) (j := 0) (rfl) (by decide) (by decide) dL_postage_9 (fun H locs hN => ?_)
    have hN : mm_N b D s (mm_u σ9 ou (mm_arj 2 1 1 (va_up g 0 ((nI (T.ps k i)).toInt64)))) _ _ := hN
    refine lv_goto (pc := 10) (tgt := 21) F.1 F.2.1 dL_postage_10 (by decide) ?_
    refine lv_iconst (pc := 21) (v := nI 0) F.1 F.2.1 dL_postage_21 (by decide) ?_
    exact mm_iret (pc := 22) F hr hN (⟨by rw [hq], mm_Wl_ok hx9 ho (if_pos hq) rfl⟩) (Nat.le_of_ble_eq_true rfl) (Nat.le_of_ble_eq_true rfl) dL_postage_22

set_option maxHeartbeats 4000000 in
set_option maxRecDepth 100000 in
theorem w_costOf (l : Launch) (b : Nat) (D : mm_D) (hst : l.stackTraces = false) (T : mm_T) (z : mm_Z) (ad : Nat → Nat → Nat → Nat) (σ : mm_S) (hX : mm_X σ T z ad) (hW : mm_WF T) (k : Nat) (zk : k < 2 ^ 32) (ou : Nat) (g : Nat → Int64) (ho : σ ou = mm_arj 2 1 1 g) : mm_K l b D yL_costOf (.codeWith yL_costOf cL_costOf 4 (some .int) [(0, 8, 11, 21)]) ({ frames := 9, cells := 6, slots := 40, locals := 260 } : Room) [.ref ((ad 0 0 0)), .int (nI k), .ref ou] σ
    (fun v σ2 => v = some (.int (nI (mm_q_costOf T k))) ∧ mm_Wl σ σ2 (if mm_q_costOf T k = 0 then (T) else T) (ad 0 0 0) ou (mm_q_costOf T k) (lN (mm_sm (fun p => if T.oc k p = 108 then T.ps k p else 0) (T.rp k))))
    (fun _ _ => False) := by
  refine mm_ofX (cc := cL_costOf) (nL := 4) (ret := some .int) (by decide) rfl (Nat.le_of_ble_eq_true rfl) hst ?_
  intro p e s m args below meth c ls F ht hr hN hl
  have hl : lv_has ls 4 [(0, .ref ((ad 0 0 0))), (1, .int (nI k)), (2, .ref ou)] := hl
  refine lv_aload_n (pc := 0) F.1 F.2.1 dL_costOf_0 rfl (lv_at hl 2 rfl) ?_
  refine lv_iconst (pc := 1) (v := nI 0) F.1 F.2.1 dL_costOf_1 (by decide) ?_
  refine lv_aload_n (pc := 2) F.1 F.2.1 dL_costOf_2 rfl (lv_at hl 0 rfl) ?_
  refine lv_iload_n (pc := 3) F.1 F.2.1 dL_costOf_3 rfl (lv_at hl 1 rfl) ?_
  refine mm_runV (pc := 4) (As := [.int (nI k)]) (rest := [.int (nI 0), .ref ou]) F hN (a_costOf l b D hst T z ad σ hX hW k zk) mw_1112 mw_1113 mw_1114 mw_1 mw_1115 ⟨pmX6_costOf, (Nat.le_of_ble_eq_true rfl), (Nat.le_of_ble_eq_true rfl)⟩ (mm_recv F.2.2.2.2.2.1 hN (mm_X0 hX) rfl) hl.1 rfl (Nat.le_of_ble_eq_true rfl) ⟨(Nat.le_of_ble_eq_true rfl), (Nat.le_of_ble_eq_true rfl)⟩ dL_costOf_4
    (fun E9 σ9 H locs q9 ce9 hp9 hN hq9 hv9 hcl9 => ?_) (fun v9 σ9 H locs hp9 hN => ?_)
  ·
    obtain ⟨hq, hx9⟩ := hp9
    obtain ⟨hq, rfl⟩ := hq
    refine mm_catch F hN [] ⟨0, 8, 11, 21⟩ [] ht (fun _ h => absurd h List.not_mem_nil) (by decide) (by decide) mw_424 mw_458 hq9 hv9 hcl9 ?_
    refine W.eq (g2 := F0 m 11 ls [.ref q9]) rfl ?_
    refine W.widen (k := 6) (n := 40) (Nat.le_of_ble_eq_true rfl) (Nat.le_of_ble_eq_true rfl) ?_
    refine lv_astore_n (pc := 11) (lv' := [(3, .ref q9), (0, .ref ((ad 0 0 0))), (1, .int (nI k)), (2, .ref ou)]) F.1 F.2.1 dL_costOf_11 rfl hl (by decide) rfl (fun ls hl => ?_)
    refine lv_iconst (pc := 12) (v := nI 1) F.1 F.2.1 dL_costOf_12 (by decide) ?_
    exact mm_iret (pc := 13) F hr hN (⟨by rw [hq], mm_Wl_no hx9 ho (if_neg (by rw [hq]; decide)) (by rw [hq]; decide)⟩) (Nat.le_of_ble_eq_true rfl) (Nat.le_of_ble_eq_true rfl) dL_costOf_13
  ·
    obtain ⟨hq, rfl, hx9⟩ := hp9
    refine W.eq (g2 := F0 m 7 ls [.long (lN (mm_sm (fun p => if T.oc k p = 108 then T.ps k p else 0) (T.rp k))), .int (nI 0), .ref ou]) rfl ?_
    refine W.widen (k := 6) (n := 40) (Nat.le_of_ble_eq_true rfl) (Nat.le_of_ble_eq_true rfl) ?_
    have ho9 := (mm_Xt.fr hx9) ou 2 _ (by decide) ho
    refine mm_last (pc := 7) F hN (ho9) (j := 0) (rfl) (by decide) (by decide) dL_costOf_7 (fun H locs hN => ?_)
    have hN : mm_N b D s (mm_u σ9 ou (mm_arj 2 1 1 (va_up g 0 (lN (mm_sm (fun p => if T.oc k p = 108 then T.ps k p else 0) (T.rp k)))))) _ _ := hN
    refine lv_goto (pc := 8) (tgt := 14) F.1 F.2.1 dL_costOf_8 (by decide) ?_
    refine lv_iconst (pc := 14) (v := nI 0) F.1 F.2.1 dL_costOf_14 (by decide) ?_
    exact mm_iret (pc := 15) F hr hN (⟨by rw [hq], mm_Wl_ok hx9 ho (if_pos hq) rfl⟩) (Nat.le_of_ble_eq_true rfl) (Nat.le_of_ble_eq_true rfl) dL_costOf_15

set_option maxHeartbeats 4000000 in
set_option maxRecDepth 100000 in
theorem w_setFlags (l : Launch) (b : Nat) (D : mm_D) (hst : l.stackTraces = false) (T : mm_T) (z : mm_Z) (ad : Nat → Nat → Nat → Nat) (σ : mm_S) (hX : mm_X σ T z ad) (hW : mm_WF T) (i : Nat) (zi : i < 2 ^ 32) (f : Nat) (zf : f < 2 ^ 32) (ou : Nat) (g : Nat → Int64) (ho : σ ou = mm_arj 2 1 1 g) : mm_K l b D yL_setFlags (.codeWith yL_setFlags cL_setFlags 5 (some .int) [(0, 10, 13, 21), (0, 10, 17, 13)]) ({ frames := 9, cells := 6, slots := 40, locals := 260 } : Room) [.ref ((ad 0 0 0)), .int (nI i), .int (nI f), .ref ou] σ
    (fun v σ2 => v = some (.int (nI (mm_q_setFlags T i f))) ∧ mm_Wl σ σ2 (if mm_q_setFlags T i f = 0 then (T.w 5 (mm_u2 (T 5) i 0 f)) else T) (ad 0 0 0) ou (mm_q_setFlags T i f) ((nI (T.fl i)).toInt64))
    (fun _ _ => False) := by
  refine mm_ofX (cc := cL_setFlags) (nL := 5) (ret := some .int) (by decide) rfl (Nat.le_of_ble_eq_true rfl) hst ?_
  intro p e s m args below meth c ls F ht hr hN hl
  have hl : lv_has ls 5 [(0, .ref ((ad 0 0 0))), (1, .int (nI i)), (2, .int (nI f)), (3, .ref ou)] := hl
  refine lv_aload_n (pc := 0) F.1 F.2.1 dL_setFlags_0 rfl (lv_at hl 3 rfl) ?_
  refine lv_iconst (pc := 1) (v := nI 0) F.1 F.2.1 dL_setFlags_1 (by decide) ?_
  refine lv_aload_n (pc := 2) F.1 F.2.1 dL_setFlags_2 rfl (lv_at hl 0 rfl) ?_
  refine lv_iload_n (pc := 3) F.1 F.2.1 dL_setFlags_3 rfl (lv_at hl 1 rfl) ?_
  refine lv_iload_n (pc := 4) F.1 F.2.1 dL_setFlags_4 rfl (lv_at hl 2 rfl) ?_
  refine mm_runV (pc := 5) (As := [.int (nI i), .int (nI f)]) (rest := [.int (nI 0), .ref ou]) F hN (a_setFlags l b D hst T z ad σ hX hW i zi f zf) mw_511 mw_512 mw_513 mw_1 mw_514 ⟨pmX6_setFlags, (Nat.le_of_ble_eq_true rfl), (Nat.le_of_ble_eq_true rfl)⟩ (mm_recv F.2.2.2.2.2.1 hN (mm_X0 hX) rfl) hl.1 rfl (Nat.le_of_ble_eq_true rfl) ⟨(Nat.le_of_ble_eq_true rfl), (Nat.le_of_ble_eq_true rfl)⟩ dL_setFlags_5
    (fun E9 σ9 H locs q9 ce9 hp9 hN hq9 hv9 hcl9 => ?_) (fun v9 σ9 H locs hp9 hN => ?_)
  ·
    obtain ⟨hq, hx9⟩ := hp9
    rcases hq with ⟨hq, rfl⟩ | ⟨hq, rfl⟩
    ·
      refine mm_catch F hN [] ⟨0, 10, 13, 21⟩ [⟨0, 10, 17, 13⟩] ht (fun _ h => absurd h List.not_mem_nil) (by decide) (by decide) mw_424 mw_458 hq9 hv9 hcl9 ?_
      refine W.eq (g2 := F0 m 13 ls [.ref q9]) rfl ?_
      refine W.widen (k := 6) (n := 40) (Nat.le_of_ble_eq_true rfl) (Nat.le_of_ble_eq_true rfl) ?_
      refine lv_astore (pc := 13) (lv' := [(4, .ref q9), (0, .ref ((ad 0 0 0))), (1, .int (nI i)), (2, .int (nI f)), (3, .ref ou)]) F.1 F.2.1 dL_setFlags_13 hl (by decide) rfl (fun ls hl => ?_)
      refine lv_iconst (pc := 15) (v := nI 1) F.1 F.2.1 dL_setFlags_15 (by decide) ?_
      exact mm_iret (pc := 16) F hr hN (⟨by rw [hq], mm_Wl_no hx9 ho (if_neg (by rw [hq]; decide)) (by rw [hq]; decide)⟩) (Nat.le_of_ble_eq_true rfl) (Nat.le_of_ble_eq_true rfl) dL_setFlags_16
    ·
      refine mm_catch F hN [⟨0, 10, 13, 21⟩] ⟨0, 10, 17, 13⟩ [] ht (List.forall_mem_cons.mpr ⟨⟨by decide, _, mw_424, List.mem_of_getElem? (i := 1) rfl⟩, fun _ h => absurd h List.not_mem_nil⟩) (by decide) (by decide) mw_235 mw_243 hq9 hv9 hcl9 ?_
      refine W.eq (g2 := F0 m 17 ls [.ref q9]) rfl ?_
      refine W.widen (k := 6) (n := 40) (Nat.le_of_ble_eq_true rfl) (Nat.le_of_ble_eq_true rfl) ?_
      refine lv_astore (pc := 17) (lv' := [(4, .ref q9), (0, .ref ((ad 0 0 0))), (1, .int (nI i)), (2, .int (nI f)), (3, .ref ou)]) F.1 F.2.1 dL_setFlags_17 hl (by decide) rfl (fun ls hl => ?_)
      refine lv_iconst (pc := 19) (v := nI 2) F.1 F.2.1 dL_setFlags_19 (by decide) ?_
      exact mm_iret (pc := 20) F hr hN (⟨by rw [hq], mm_Wl_no hx9 ho (if_neg (by rw [hq]; decide)) (by rw [hq]; decide)⟩) (Nat.le_of_ble_eq_true rfl) (Nat.le_of_ble_eq_true rfl) dL_setFlags_20
  ·
    obtain ⟨hq, rfl, hx9⟩ := hp9
    refine W.eq (g2 := F0 m 8 ls [.int (nI (T.fl i)), .int (nI 0), .ref ou]) rfl ?_
    refine W.widen (k := 6) (n := 40) (Nat.le_of_ble_eq_true rfl) (Nat.le_of_ble_eq_true rfl) ?_
    have ho9 := (mm_Xt.fr hx9) ou 2 _ (by decide) ho
    refine lv_i2l (pc := 8) (v := (nI (T.fl i)).toInt64) F.1 F.2.1 dL_setFlags_8 (rfl) ?_
    refine mm_last (pc := 9) F hN (ho9) (j := 0) (rfl) (by decide) (by decide) dL_setFlags_9 (fun H locs hN => ?_)
    have hN : mm_N b D s (mm_u σ9 ou (mm_arj 2 1 1 (va_up g 0 ((nI (T.fl i)).toInt64)))) _ _ := hN
    refine lv_goto (pc := 10) (tgt := 21) F.1 F.2.1 dL_setFlags_10 (by decide) ?_
    refine lv_iconst (pc := 21) (v := nI 0) F.1 F.2.1 dL_setFlags_21 (by decide) ?_
    exact mm_iret (pc := 22) F hr hN (⟨by rw [hq], mm_Wl_ok hx9 ho (if_pos hq) rfl⟩) (Nat.le_of_ble_eq_true rfl) (Nat.le_of_ble_eq_true rfl) dL_setFlags_22

set_option maxHeartbeats 4000000 in
set_option maxRecDepth 100000 in
theorem w_suppress (l : Launch) (b : Nat) (D : mm_D) (hst : l.stackTraces = false) (T : mm_T) (z : mm_Z) (ad : Nat → Nat → Nat → Nat) (σ : mm_S) (hX : mm_X σ T z ad) (hW : mm_WF T) (i : Nat) (zi : i < 2 ^ 32) (ch : Nat) (zch : ch < 65536) (ou : Nat) (g : Nat → Int64) (ho : σ ou = mm_arj 2 1 1 g) : mm_K l b D yL_suppress (.codeWith yL_suppress cL_suppress 5 (some .int) [(0, 10, 13, 21), (0, 10, 17, 13)]) ({ frames := 9, cells := 6, slots := 40, locals := 260 } : Room) [.ref ((ad 0 0 0)), .int (nI i), .int (nI ch), .ref ou] σ
    (fun v σ2 => v = some (.int (nI (mm_q_suppress T i ch))) ∧ mm_Wl σ σ2 (if mm_q_suppress T i ch = 0 then (T.w 6 (mm_u2 (T 6) i 0 ch)) else T) (ad 0 0 0) ou (mm_q_suppress T i ch) ((nI (T.re i)).toInt64))
    (fun _ _ => False) := by
  refine mm_ofX (cc := cL_suppress) (nL := 5) (ret := some .int) (by decide) rfl (Nat.le_of_ble_eq_true rfl) hst ?_
  intro p e s m args below meth c ls F ht hr hN hl
  have hl : lv_has ls 5 [(0, .ref ((ad 0 0 0))), (1, .int (nI i)), (2, .int (nI ch)), (3, .ref ou)] := hl
  refine lv_aload_n (pc := 0) F.1 F.2.1 dL_suppress_0 rfl (lv_at hl 3 rfl) ?_
  refine lv_iconst (pc := 1) (v := nI 0) F.1 F.2.1 dL_suppress_1 (by decide) ?_
  refine lv_aload_n (pc := 2) F.1 F.2.1 dL_suppress_2 rfl (lv_at hl 0 rfl) ?_
  refine lv_iload_n (pc := 3) F.1 F.2.1 dL_suppress_3 rfl (lv_at hl 1 rfl) ?_
  refine lv_iload_n (pc := 4) F.1 F.2.1 dL_suppress_4 rfl (lv_at hl 2 rfl) ?_
  refine mm_runV (pc := 5) (As := [.int (nI i), .int (nI ch)]) (rest := [.int (nI 0), .ref ou]) F hN (a_suppress l b D hst T z ad σ hX hW i zi ch zch) mw_530 mw_531 mw_532 mw_1 mw_533 ⟨pmX6_suppress, (Nat.le_of_ble_eq_true rfl), (Nat.le_of_ble_eq_true rfl)⟩ (mm_recv F.2.2.2.2.2.1 hN (mm_X0 hX) rfl) hl.1 rfl (Nat.le_of_ble_eq_true rfl) ⟨(Nat.le_of_ble_eq_true rfl), (Nat.le_of_ble_eq_true rfl)⟩ dL_suppress_5
    (fun E9 σ9 H locs q9 ce9 hp9 hN hq9 hv9 hcl9 => ?_) (fun v9 σ9 H locs hp9 hN => ?_)
  ·
    obtain ⟨hq, hx9⟩ := hp9
    rcases hq with ⟨hq, rfl⟩ | ⟨hq, rfl⟩
    ·
      refine mm_catch F hN [] ⟨0, 10, 13, 21⟩ [⟨0, 10, 17, 13⟩] ht (fun _ h => absurd h List.not_mem_nil) (by decide) (by decide) mw_424 mw_458 hq9 hv9 hcl9 ?_
      refine W.eq (g2 := F0 m 13 ls [.ref q9]) rfl ?_
      refine W.widen (k := 6) (n := 40) (Nat.le_of_ble_eq_true rfl) (Nat.le_of_ble_eq_true rfl) ?_
      refine lv_astore (pc := 13) (lv' := [(4, .ref q9), (0, .ref ((ad 0 0 0))), (1, .int (nI i)), (2, .int (nI ch)), (3, .ref ou)]) F.1 F.2.1 dL_suppress_13 hl (by decide) rfl (fun ls hl => ?_)
      refine lv_iconst (pc := 15) (v := nI 1) F.1 F.2.1 dL_suppress_15 (by decide) ?_
      exact mm_iret (pc := 16) F hr hN (⟨by rw [hq], mm_Wl_no hx9 ho (if_neg (by rw [hq]; decide)) (by rw [hq]; decide)⟩) (Nat.le_of_ble_eq_true rfl) (Nat.le_of_ble_eq_true rfl) dL_suppress_16
    ·
      refine mm_catch F hN [⟨0, 10, 13, 21⟩] ⟨0, 10, 17, 13⟩ [] ht (List.forall_mem_cons.mpr ⟨⟨by decide, _, mw_424, List.mem_of_getElem? (i := 1) rfl⟩, fun _ h => absurd h List.not_mem_nil⟩) (by decide) (by decide) mw_235 mw_243 hq9 hv9 hcl9 ?_
      refine W.eq (g2 := F0 m 17 ls [.ref q9]) rfl ?_
      refine W.widen (k := 6) (n := 40) (Nat.le_of_ble_eq_true rfl) (Nat.le_of_ble_eq_true rfl) ?_
      refine lv_astore (pc := 17) (lv' := [(4, .ref q9), (0, .ref ((ad 0 0 0))), (1, .int (nI i)), (2, .int (nI ch)), (3, .ref ou)]) F.1 F.2.1 dL_suppress_17 hl (by decide) rfl (fun ls hl => ?_)
      refine lv_iconst (pc := 19) (v := nI 2) F.1 F.2.1 dL_suppress_19 (by decide) ?_
      exact mm_iret (pc := 20) F hr hN (⟨by rw [hq], mm_Wl_no hx9 ho (if_neg (by rw [hq]; decide)) (by rw [hq]; decide)⟩) (Nat.le_of_ble_eq_true rfl) (Nat.le_of_ble_eq_true rfl) dL_suppress_20
  ·
    obtain ⟨hq, rfl, hx9⟩ := hp9
    refine W.eq (g2 := F0 m 8 ls [.int (nI (T.re i)), .int (nI 0), .ref ou]) rfl ?_
    refine W.widen (k := 6) (n := 40) (Nat.le_of_ble_eq_true rfl) (Nat.le_of_ble_eq_true rfl) ?_
    have ho9 := (mm_Xt.fr hx9) ou 2 _ (by decide) ho
    refine lv_i2l (pc := 8) (v := (nI (T.re i)).toInt64) F.1 F.2.1 dL_suppress_8 (rfl) ?_
    refine mm_last (pc := 9) F hN (ho9) (j := 0) (rfl) (by decide) (by decide) dL_suppress_9 (fun H locs hN => ?_)
    have hN : mm_N b D s (mm_u σ9 ou (mm_arj 2 1 1 (va_up g 0 ((nI (T.re i)).toInt64)))) _ _ := hN
    refine lv_goto (pc := 10) (tgt := 21) F.1 F.2.1 dL_suppress_10 (by decide) ?_
    refine lv_iconst (pc := 21) (v := nI 0) F.1 F.2.1 dL_suppress_21 (by decide) ?_
    exact mm_iret (pc := 22) F hr hN (⟨by rw [hq], mm_Wl_ok hx9 ho (if_pos hq) rfl⟩) (Nat.le_of_ble_eq_true rfl) (Nat.le_of_ble_eq_true rfl) dL_suppress_22

set_option maxHeartbeats 4000000 in
set_option maxRecDepth 100000 in
theorem w_allow (l : Launch) (b : Nat) (D : mm_D) (hst : l.stackTraces = false) (T : mm_T) (z : mm_Z) (ad : Nat → Nat → Nat → Nat) (σ : mm_S) (hX : mm_X σ T z ad) (hW : mm_WF T) (i : Nat) (zi : i < 2 ^ 32) (ou : Nat) (g : Nat → Int64) (ho : σ ou = mm_arj 2 1 1 g) : mm_K l b D yL_allow (.codeWith yL_allow cL_allow 4 (some .int) [(0, 9, 12, 21), (0, 9, 15, 15)]) ({ frames := 9, cells := 6, slots := 40, locals := 260 } : Room) [.ref ((ad 0 0 0)), .int (nI i), .ref ou] σ
    (fun v σ2 => v = some (.int (nI (mm_q_allow T i))) ∧ mm_Wl σ σ2 (if mm_q_allow T i = 0 then (T.w 6 (mm_u2 (T 6) i 0 45)) else T) (ad 0 0 0) ou (mm_q_allow T i) ((nI (T.re i)).toInt64))
    (fun _ _ => False) := by
  refine mm_ofX (cc := cL_allow) (nL := 4) (ret := some .int) (by decide) rfl (Nat.le_of_ble_eq_true rfl) hst ?_
  intro p e s m args below meth c ls F ht hr hN hl
  have hl : lv_has ls 4 [(0, .ref ((ad 0 0 0))), (1, .int (nI i)), (2, .ref ou)] := hl
  refine lv_aload_n (pc := 0) F.1 F.2.1 dL_allow_0 rfl (lv_at hl 2 rfl) ?_
  refine lv_iconst (pc := 1) (v := nI 0) F.1 F.2.1 dL_allow_1 (by decide) ?_
  refine lv_aload_n (pc := 2) F.1 F.2.1 dL_allow_2 rfl (lv_at hl 0 rfl) ?_
  refine lv_iload_n (pc := 3) F.1 F.2.1 dL_allow_3 rfl (lv_at hl 1 rfl) ?_
  refine mm_runV (pc := 4) (As := [.int (nI i)]) (rest := [.int (nI 0), .ref ou]) F hN (a_allow l b D hst T z ad σ hX hW i zi) mw_538 mw_539 mw_540 mw_1 mw_541 ⟨pmX6_allow, (Nat.le_of_ble_eq_true rfl), (Nat.le_of_ble_eq_true rfl)⟩ (mm_recv F.2.2.2.2.2.1 hN (mm_X0 hX) rfl) hl.1 rfl (Nat.le_of_ble_eq_true rfl) ⟨(Nat.le_of_ble_eq_true rfl), (Nat.le_of_ble_eq_true rfl)⟩ dL_allow_4
    (fun E9 σ9 H locs q9 ce9 hp9 hN hq9 hv9 hcl9 => ?_) (fun v9 σ9 H locs hp9 hN => ?_)
  ·
    obtain ⟨hq, hx9⟩ := hp9
    rcases hq with ⟨hq, rfl⟩ | ⟨hq, rfl⟩
    ·
      refine mm_catch F hN [] ⟨0, 9, 12, 21⟩ [⟨0, 9, 15, 15⟩] ht (fun _ h => absurd h List.not_mem_nil) (by decide) (by decide) mw_424 mw_458 hq9 hv9 hcl9 ?_
      refine W.eq (g2 := F0 m 12 ls [.ref q9]) rfl ?_
      refine W.widen (k := 6) (n := 40) (Nat.le_of_ble_eq_true rfl) (Nat.le_of_ble_eq_true rfl) ?_
      refine lv_astore_n (pc := 12) (lv' := [(3, .ref q9), (0, .ref ((ad 0 0 0))), (1, .int (nI i)), (2, .ref ou)]) F.1 F.2.1 dL_allow_12 rfl hl (by decide) rfl (fun ls hl => ?_)
      refine lv_iconst (pc := 13) (v := nI 1) F.1 F.2.1 dL_allow_13 (by decide) ?_
      exact mm_iret (pc := 14) F hr hN (⟨by rw [hq], mm_Wl_no hx9 ho (if_neg (by rw [hq]; decide)) (by rw [hq]; decide)⟩) (Nat.le_of_ble_eq_true rfl) (Nat.le_of_ble_eq_true rfl) dL_allow_14
    ·
      refine mm_catch F hN [⟨0, 9, 12, 21⟩] ⟨0, 9, 15, 15⟩ [] ht (List.forall_mem_cons.mpr ⟨⟨by decide, _, mw_424, List.mem_of_getElem? (i := 5) rfl⟩, fun _ h => absurd h List.not_mem_nil⟩) (by decide) (by decide) mw_236 mw_314 hq9 hv9 hcl9 ?_
      refine W.eq (g2 := F0 m 15 ls [.ref q9]) rfl ?_
      refine W.widen (k := 6) (n := 40) (Nat.le_of_ble_eq_true rfl) (Nat.le_of_ble_eq_true rfl) ?_
      refine lv_astore_n (pc := 15) (lv' := [(3, .ref q9), (0, .ref ((ad 0 0 0))), (1, .int (nI i)), (2, .ref ou)]) F.1 F.2.1 dL_allow_15 rfl hl (by decide) rfl (fun ls hl => ?_)
      refine lv_iconst (pc := 16) (v := nI 2) F.1 F.2.1 dL_allow_16 (by decide) ?_
      exact mm_iret (pc := 17) F hr hN (⟨by rw [hq], mm_Wl_no hx9 ho (if_neg (by rw [hq]; decide)) (by rw [hq]; decide)⟩) (Nat.le_of_ble_eq_true rfl) (Nat.le_of_ble_eq_true rfl) dL_allow_17
  ·
    obtain ⟨hq, rfl, hx9⟩ := hp9
    refine W.eq (g2 := F0 m 7 ls [.int (nI (T.re i)), .int (nI 0), .ref ou]) rfl ?_
    refine W.widen (k := 6) (n := 40) (Nat.le_of_ble_eq_true rfl) (Nat.le_of_ble_eq_true rfl) ?_
    have ho9 := (mm_Xt.fr hx9) ou 2 _ (by decide) ho
    refine lv_i2l (pc := 7) (v := (nI (T.re i)).toInt64) F.1 F.2.1 dL_allow_7 (rfl) ?_
    refine mm_last (pc := 8) F hN (ho9) (j := 0) (rfl) (by decide) (by decide) dL_allow_8 (fun H locs hN => ?_)
    have hN : mm_N b D s (mm_u σ9 ou (mm_arj 2 1 1 (va_up g 0 ((nI (T.re i)).toInt64)))) _ _ := hN
    refine lv_goto (pc := 9) (tgt := 18) F.1 F.2.1 dL_allow_9 (by decide) ?_
    refine lv_iconst (pc := 18) (v := nI 0) F.1 F.2.1 dL_allow_18 (by decide) ?_
    exact mm_iret (pc := 19) F hr hN (⟨by rw [hq], mm_Wl_ok hx9 ho (if_pos hq) rfl⟩) (Nat.le_of_ble_eq_true rfl) (Nat.le_of_ble_eq_true rfl) dL_allow_19

set_option maxHeartbeats 4000000 in
set_option maxRecDepth 100000 in
theorem w_move (l : Launch) (b : Nat) (D : mm_D) (hst : l.stackTraces = false) (T : mm_T) (z : mm_Z) (ad : Nat → Nat → Nat → Nat) (σ : mm_S) (hX : mm_X σ T z ad) (hW : mm_WF T) (i : Nat) (zi : i < 2 ^ 32) (a : Nat) (za : a < 2 ^ 32) (ou : Nat) (g : Nat → Int64) (ho : σ ou = mm_arj 2 1 1 g) : mm_K l b D yL_move (.codeWith yL_move cL_move 5 (some .int) [(0, 10, 13, 21)]) ({ frames := 9, cells := 6, slots := 40, locals := 260 } : Room) [.ref ((ad 0 0 0)), .int (nI i), .int (nI a), .ref ou] σ
    (fun v σ2 => v = some (.int (nI (mm_q_move T i a))) ∧ mm_Wl σ σ2 (if mm_q_move T i a = 0 then ((T.w 4 (mm_u2 (T 4) i 0 a)).w 6 (mm_u2 (T 6) i 0 (if T.re i = 109 then 45 else T.re i))) else T) (ad 0 0 0) ou (mm_q_move T i a) ((nI (T.ho i)).toInt64))
    (fun _ _ => False) := by
  refine mm_ofX (cc := cL_move) (nL := 5) (ret := some .int) (by decide) rfl (Nat.le_of_ble_eq_true rfl) hst ?_
  intro p e s m args below meth c ls F ht hr hN hl
  have hl : lv_has ls 5 [(0, .ref ((ad 0 0 0))), (1, .int (nI i)), (2, .int (nI a)), (3, .ref ou)] := hl
  refine lv_aload_n (pc := 0) F.1 F.2.1 dL_move_0 rfl (lv_at hl 3 rfl) ?_
  refine lv_iconst (pc := 1) (v := nI 0) F.1 F.2.1 dL_move_1 (by decide) ?_
  refine lv_aload_n (pc := 2) F.1 F.2.1 dL_move_2 rfl (lv_at hl 0 rfl) ?_
  refine lv_iload_n (pc := 3) F.1 F.2.1 dL_move_3 rfl (lv_at hl 1 rfl) ?_
  refine lv_iload_n (pc := 4) F.1 F.2.1 dL_move_4 rfl (lv_at hl 2 rfl) ?_
  refine mm_runV (pc := 5) (As := [.int (nI i), .int (nI a)]) (rest := [.int (nI 0), .ref ou]) F hN (a_move l b D hst T z ad σ hX hW i zi a za) mw_523 mw_524 mw_525 mw_1 mw_526 ⟨pmX6_move, (Nat.le_of_ble_eq_true rfl), (Nat.le_of_ble_eq_true rfl)⟩ (mm_recv F.2.2.2.2.2.1 hN (mm_X0 hX) rfl) hl.1 rfl (Nat.le_of_ble_eq_true rfl) ⟨(Nat.le_of_ble_eq_true rfl), (Nat.le_of_ble_eq_true rfl)⟩ dL_move_5
    (fun E9 σ9 H locs q9 ce9 hp9 hN hq9 hv9 hcl9 => ?_) (fun v9 σ9 H locs hp9 hN => ?_)
  ·
    obtain ⟨hq, hx9⟩ := hp9
    obtain ⟨hq, rfl⟩ := hq
    refine mm_catch F hN [] ⟨0, 10, 13, 21⟩ [] ht (fun _ h => absurd h List.not_mem_nil) (by decide) (by decide) mw_424 mw_458 hq9 hv9 hcl9 ?_
    refine W.eq (g2 := F0 m 13 ls [.ref q9]) rfl ?_
    refine W.widen (k := 6) (n := 40) (Nat.le_of_ble_eq_true rfl) (Nat.le_of_ble_eq_true rfl) ?_
    refine lv_astore (pc := 13) (lv' := [(4, .ref q9), (0, .ref ((ad 0 0 0))), (1, .int (nI i)), (2, .int (nI a)), (3, .ref ou)]) F.1 F.2.1 dL_move_13 hl (by decide) rfl (fun ls hl => ?_)
    refine lv_iconst (pc := 15) (v := nI 1) F.1 F.2.1 dL_move_15 (by decide) ?_
    exact mm_iret (pc := 16) F hr hN (⟨by rw [hq], mm_Wl_no hx9 ho (if_neg (by rw [hq]; decide)) (by rw [hq]; decide)⟩) (Nat.le_of_ble_eq_true rfl) (Nat.le_of_ble_eq_true rfl) dL_move_16
  ·
    obtain ⟨hq, rfl, hx9⟩ := hp9
    refine W.eq (g2 := F0 m 8 ls [.int (nI (T.ho i)), .int (nI 0), .ref ou]) rfl ?_
    refine W.widen (k := 6) (n := 40) (Nat.le_of_ble_eq_true rfl) (Nat.le_of_ble_eq_true rfl) ?_
    have ho9 := (mm_Xt.fr hx9) ou 2 _ (by decide) ho
    refine lv_i2l (pc := 8) (v := (nI (T.ho i)).toInt64) F.1 F.2.1 dL_move_8 (rfl) ?_
    refine mm_last (pc := 9) F hN (ho9) (j := 0) (rfl) (by decide) (by decide) dL_move_9 (fun H locs hN => ?_)
    have hN : mm_N b D s (mm_u σ9 ou (mm_arj 2 1 1 (va_up g 0 ((nI (T.ho i)).toInt64)))) _ _ := hN
    refine lv_goto (pc := 10) (tgt := 17) F.1 F.2.1 dL_move_10 (by decide) ?_
    refine lv_iconst (pc := 17) (v := nI 0) F.1 F.2.1 dL_move_17 (by decide) ?_
    exact mm_iret (pc := 18) F hr hN (⟨by rw [hq], mm_Wl_ok hx9 ho (if_pos hq) rfl⟩) (Nat.le_of_ble_eq_true rfl) (Nat.le_of_ble_eq_true rfl) dL_move_18

set_option maxHeartbeats 4000000 in
set_option maxRecDepth 100000 in
theorem w_setBound (l : Launch) (b : Nat) (D : mm_D) (hst : l.stackTraces = false) (T : mm_T) (z : mm_Z) (ad : Nat → Nat → Nat → Nat) (σ : mm_S) (hX : mm_X σ T z ad) (hW : mm_WF T) (n : Nat) (zn : n < 2 ^ 32) (ou : Nat) (g : Nat → Int64) (ho : σ ou = mm_arj 2 1 1 g) : mm_K l b D yL_setBound (.codeWith yL_setBound cL_setBound 4 (some .int) [(0, 9, 12, 13)]) ({ frames := 9, cells := 6, slots := 40, locals := 260 } : Room) [.ref ((ad 0 0 0)), .int (nI n), .ref ou] σ
    (fun v σ2 => v = some (.int (nI (mm_q_setBound T n))) ∧ mm_Wl σ σ2 (if mm_q_setBound T n = 0 then (T.w 0 (mm_u2 (T 0) 5 0 n)) else T) (ad 0 0 0) ou (mm_q_setBound T n) ((nI (T.bo)).toInt64))
    (fun _ _ => False) := by
  refine mm_ofX (cc := cL_setBound) (nL := 4) (ret := some .int) (by decide) rfl (Nat.le_of_ble_eq_true rfl) hst ?_
  intro p e s m args below meth c ls F ht hr hN hl
  have hl : lv_has ls 4 [(0, .ref ((ad 0 0 0))), (1, .int (nI n)), (2, .ref ou)] := hl
  refine lv_aload_n (pc := 0) F.1 F.2.1 dL_setBound_0 rfl (lv_at hl 2 rfl) ?_
  refine lv_iconst (pc := 1) (v := nI 0) F.1 F.2.1 dL_setBound_1 (by decide) ?_
  refine lv_aload_n (pc := 2) F.1 F.2.1 dL_setBound_2 rfl (lv_at hl 0 rfl) ?_
  refine lv_iload_n (pc := 3) F.1 F.2.1 dL_setBound_3 rfl (lv_at hl 1 rfl) ?_
  refine mm_runV (pc := 4) (As := [.int (nI n)]) (rest := [.int (nI 0), .ref ou]) F hN (a_setBound l b D hst T z ad σ hX hW n zn) mw_1036 mw_1037 mw_1038 mw_1 mw_1039 ⟨pmX6_setBound, (Nat.le_of_ble_eq_true rfl), (Nat.le_of_ble_eq_true rfl)⟩ (mm_recv F.2.2.2.2.2.1 hN (mm_X0 hX) rfl) hl.1 rfl (Nat.le_of_ble_eq_true rfl) ⟨(Nat.le_of_ble_eq_true rfl), (Nat.le_of_ble_eq_true rfl)⟩ dL_setBound_4
    (fun E9 σ9 H locs q9 ce9 hp9 hN hq9 hv9 hcl9 => ?_) (fun v9 σ9 H locs hp9 hN => ?_)
  ·
    obtain ⟨hq, hx9⟩ := hp9
    obtain ⟨hq, rfl⟩ := hq
    refine mm_catch F hN [] ⟨0, 9, 12, 13⟩ [] ht (fun _ h => absurd h List.not_mem_nil) (by decide) (by decide) mw_235 mw_243 hq9 hv9 hcl9 ?_
    refine W.eq (g2 := F0 m 12 ls [.ref q9]) rfl ?_
    refine W.widen (k := 6) (n := 40) (Nat.le_of_ble_eq_true rfl) (Nat.le_of_ble_eq_true rfl) ?_
    refine lv_astore_n (pc := 12) (lv' := [(3, .ref q9), (0, .ref ((ad 0 0 0))), (1, .int (nI n)), (2, .ref ou)]) F.1 F.2.1 dL_setBound_12 rfl hl (by decide) rfl (fun ls hl => ?_)
    refine lv_iconst (pc := 13) (v := nI 1) F.1 F.2.1 dL_setBound_13 (by decide) ?_
    exact mm_iret (pc := 14) F hr hN (⟨by rw [hq], mm_Wl_no hx9 ho (if_neg (by rw [hq]; decide)) (by rw [hq]; decide)⟩) (Nat.le_of_ble_eq_true rfl) (Nat.le_of_ble_eq_true rfl) dL_setBound_14
  ·
    obtain ⟨hq, rfl, hx9⟩ := hp9
    refine W.eq (g2 := F0 m 7 ls [.int (nI (T.bo)), .int (nI 0), .ref ou]) rfl ?_
    refine W.widen (k := 6) (n := 40) (Nat.le_of_ble_eq_true rfl) (Nat.le_of_ble_eq_true rfl) ?_
    have ho9 := (mm_Xt.fr hx9) ou 2 _ (by decide) ho
    refine lv_i2l (pc := 7) (v := (nI (T.bo)).toInt64) F.1 F.2.1 dL_setBound_7 (rfl) ?_
    refine mm_last (pc := 8) F hN (ho9) (j := 0) (rfl) (by decide) (by decide) dL_setBound_8 (fun H locs hN => ?_)
    have hN : mm_N b D s (mm_u σ9 ou (mm_arj 2 1 1 (va_up g 0 ((nI (T.bo)).toInt64)))) _ _ := hN
    refine lv_goto (pc := 9) (tgt := 15) F.1 F.2.1 dL_setBound_9 (by decide) ?_
    refine lv_iconst (pc := 15) (v := nI 0) F.1 F.2.1 dL_setBound_15 (by decide) ?_
    exact mm_iret (pc := 16) F hr hN (⟨by rw [hq], mm_Wl_ok hx9 ho (if_pos hq) rfl⟩) (Nat.le_of_ble_eq_true rfl) (Nat.le_of_ble_eq_true rfl) dL_setBound_16

set_option maxHeartbeats 4000000 in
set_option maxRecDepth 100000 in
theorem w_buyPaper (l : Launch) (b : Nat) (D : mm_D) (hst : l.stackTraces = false) (T : mm_T) (z : mm_Z) (ad : Nat → Nat → Nat → Nat) (σ : mm_S) (hX : mm_X σ T z ad) (hW : mm_WF T) (n : Nat) (zn : n < 2 ^ 32) (ou : Nat) (g : Nat → Int64) (ho : σ ou = mm_arj 2 1 1 g) : mm_K l b D yL_buyPaper (.codeWith yL_buyPaper cL_buyPaper 4 (some .int) [(0, 9, 12, 13), (0, 9, 15, 15)]) ({ frames := 9, cells := 6, slots := 40, locals := 260 } : Room) [.ref ((ad 0 0 0)), .int (nI n), .ref ou] σ
    (fun v σ2 => v = some (.int (nI (mm_q_buyPaper T n))) ∧ mm_Wl σ σ2 (if mm_q_buyPaper T n = 0 then ((T.w 0 (mm_u2 (T 0) 4 0 (T.pa + n))).w 0 (mm_u2 (mm_u2 (T 0) 4 0 (T.pa + n)) 6 0 (T.b0 + n))) else T) (ad 0 0 0) ou (mm_q_buyPaper T n) ((nI (T.pa + n)).toInt64))
    (fun _ _ => False) := by
  refine mm_ofX (cc := cL_buyPaper) (nL := 4) (ret := some .int) (by decide) rfl (Nat.le_of_ble_eq_true rfl) hst ?_
  intro p e s m args below meth c ls F ht hr hN hl
  have hl : lv_has ls 4 [(0, .ref ((ad 0 0 0))), (1, .int (nI n)), (2, .ref ou)] := hl
  refine lv_aload_n (pc := 0) F.1 F.2.1 dL_buyPaper_0 rfl (lv_at hl 2 rfl) ?_
  refine lv_iconst (pc := 1) (v := nI 0) F.1 F.2.1 dL_buyPaper_1 (by decide) ?_
  refine lv_aload_n (pc := 2) F.1 F.2.1 dL_buyPaper_2 rfl (lv_at hl 0 rfl) ?_
  refine lv_iload_n (pc := 3) F.1 F.2.1 dL_buyPaper_3 rfl (lv_at hl 1 rfl) ?_
  refine mm_runV (pc := 4) (As := [.int (nI n)]) (rest := [.int (nI 0), .ref ou]) F hN (a_buyPaper l b D hst T z ad σ hX hW n zn) mw_627 mw_628 mw_629 mw_1 mw_630 ⟨pmX6_buyPaper, (Nat.le_of_ble_eq_true rfl), (Nat.le_of_ble_eq_true rfl)⟩ (mm_recv F.2.2.2.2.2.1 hN (mm_X0 hX) rfl) hl.1 rfl (Nat.le_of_ble_eq_true rfl) ⟨(Nat.le_of_ble_eq_true rfl), (Nat.le_of_ble_eq_true rfl)⟩ dL_buyPaper_4
    (fun E9 σ9 H locs q9 ce9 hp9 hN hq9 hv9 hcl9 => ?_) (fun v9 σ9 H locs hp9 hN => ?_)
  ·
    obtain ⟨hq, hx9⟩ := hp9
    rcases hq with ⟨hq, rfl⟩ | ⟨hq, rfl⟩
    ·
      refine mm_catch F hN [] ⟨0, 9, 12, 13⟩ [⟨0, 9, 15, 15⟩] ht (fun _ h => absurd h List.not_mem_nil) (by decide) (by decide) mw_235 mw_243 hq9 hv9 hcl9 ?_
      refine W.eq (g2 := F0 m 12 ls [.ref q9]) rfl ?_
      refine W.widen (k := 6) (n := 40) (Nat.le_of_ble_eq_true rfl) (Nat.le_of_ble_eq_true rfl) ?_
      refine lv_astore_n (pc := 12) (lv' := [(3, .ref q9), (0, .ref ((ad 0 0 0))), (1, .int (nI n)), (2, .ref ou)]) F.1 F.2.1 dL_buyPaper_12 rfl hl (by decide) rfl (fun ls hl => ?_)
      refine lv_iconst (pc := 13) (v := nI 1) F.1 F.2.1 dL_buyPaper_13 (by decide) ?_
      exact mm_iret (pc := 14) F hr hN (⟨by rw [hq], mm_Wl_no hx9 ho (if_neg (by rw [hq]; decide)) (by rw [hq]; decide)⟩) (Nat.le_of_ble_eq_true rfl) (Nat.le_of_ble_eq_true rfl) dL_buyPaper_14
    ·
      refine mm_catch F hN [⟨0, 9, 12, 13⟩] ⟨0, 9, 15, 15⟩ [] ht (List.forall_mem_cons.mpr ⟨⟨by decide, _, mw_235, List.mem_of_getElem? (i := 4) rfl⟩, fun _ h => absurd h List.not_mem_nil⟩) (by decide) (by decide) mw_236 mw_314 hq9 hv9 hcl9 ?_
      refine W.eq (g2 := F0 m 15 ls [.ref q9]) rfl ?_
      refine W.widen (k := 6) (n := 40) (Nat.le_of_ble_eq_true rfl) (Nat.le_of_ble_eq_true rfl) ?_
      refine lv_astore_n (pc := 15) (lv' := [(3, .ref q9), (0, .ref ((ad 0 0 0))), (1, .int (nI n)), (2, .ref ou)]) F.1 F.2.1 dL_buyPaper_15 rfl hl (by decide) rfl (fun ls hl => ?_)
      refine lv_iconst (pc := 16) (v := nI 2) F.1 F.2.1 dL_buyPaper_16 (by decide) ?_
      exact mm_iret (pc := 17) F hr hN (⟨by rw [hq], mm_Wl_no hx9 ho (if_neg (by rw [hq]; decide)) (by rw [hq]; decide)⟩) (Nat.le_of_ble_eq_true rfl) (Nat.le_of_ble_eq_true rfl) dL_buyPaper_17
  ·
    obtain ⟨hq, rfl, hx9⟩ := hp9
    refine W.eq (g2 := F0 m 7 ls [.int (nI (T.pa + n)), .int (nI 0), .ref ou]) rfl ?_
    refine W.widen (k := 6) (n := 40) (Nat.le_of_ble_eq_true rfl) (Nat.le_of_ble_eq_true rfl) ?_
    have ho9 := (mm_Xt.fr hx9) ou 2 _ (by decide) ho
    refine lv_i2l (pc := 7) (v := (nI (T.pa + n)).toInt64) F.1 F.2.1 dL_buyPaper_7 (rfl) ?_
    refine mm_last (pc := 8) F hN (ho9) (j := 0) (rfl) (by decide) (by decide) dL_buyPaper_8 (fun H locs hN => ?_)
    have hN : mm_N b D s (mm_u σ9 ou (mm_arj 2 1 1 (va_up g 0 ((nI (T.pa + n)).toInt64)))) _ _ := hN
    refine lv_goto (pc := 9) (tgt := 18) F.1 F.2.1 dL_buyPaper_9 (by decide) ?_
    refine lv_iconst (pc := 18) (v := nI 0) F.1 F.2.1 dL_buyPaper_18 (by decide) ?_
    exact mm_iret (pc := 19) F hr hN (⟨by rw [hq], mm_Wl_ok hx9 ho (if_pos hq) rfl⟩) (Nat.le_of_ble_eq_true rfl) (Nat.le_of_ble_eq_true rfl) dL_buyPaper_19

set_option maxHeartbeats 4000000 in
set_option maxRecDepth 100000 in
theorem w_buyEnv0 (l : Launch) (b : Nat) (D : mm_D) (hst : l.stackTraces = false) (T : mm_T) (z : mm_Z) (ad : Nat → Nat → Nat → Nat) (σ : mm_S) (hX : mm_X σ T z ad) (hW : mm_WF T) (n : Nat) (zn : n < 2 ^ 32) (ou : Nat) (g : Nat → Int64) (ho : σ ou = mm_arj 2 1 1 g) : mm_K l b D yL_buyEnvelopes (.codeWith yL_buyEnvelopes cL_buyEnvelopes 5 (some .int) [(0, 10, 13, 13), (0, 10, 17, 15)]) ({ frames := 9, cells := 6, slots := 40, locals := 260 } : Room) [.ref ((ad 0 0 0)), .int (nI 0), .int (nI n), .ref ou] σ
    (fun v σ2 => v = some (.int (nI (mm_q_buyEnvelopes T 0 n))) ∧ mm_Wl σ σ2 (if mm_q_buyEnvelopes T 0 n = 0 then ((T.w 12 (mm_u2 (T 12) 0 0 (T.en 0 + n))).w 0 (mm_u2 (T 0) 7 0 (T 0 7 0 + n))) else T) (ad 0 0 0) ou (mm_q_buyEnvelopes T 0 n) ((nI (T.en 0 + n)).toInt64))
    (fun _ _ => False) := by
  refine mm_ofX (cc := cL_buyEnvelopes) (nL := 5) (ret := some .int) (by decide) rfl (Nat.le_of_ble_eq_true rfl) hst ?_
  intro p e s m args below meth c ls F ht hr hN hl
  have hl : lv_has ls 5 [(0, .ref ((ad 0 0 0))), (1, .int (nI 0)), (2, .int (nI n)), (3, .ref ou)] := hl
  refine lv_aload_n (pc := 0) F.1 F.2.1 dL_buyEnvelopes_0 rfl (lv_at hl 3 rfl) ?_
  refine lv_iconst (pc := 1) (v := nI 0) F.1 F.2.1 dL_buyEnvelopes_1 (by decide) ?_
  refine lv_aload_n (pc := 2) F.1 F.2.1 dL_buyEnvelopes_2 rfl (lv_at hl 0 rfl) ?_
  refine lv_iload_n (pc := 3) F.1 F.2.1 dL_buyEnvelopes_3 rfl (lv_at hl 1 rfl) ?_
  refine lv_iload_n (pc := 4) F.1 F.2.1 dL_buyEnvelopes_4 rfl (lv_at hl 2 rfl) ?_
  refine mm_runV (pc := 5) (As := [.int (nI 0), .int (nI n)]) (rest := [.int (nI 0), .ref ou]) F hN (a_buyEnv0 l b D hst T z ad σ hX hW n zn) mw_639 mw_640 mw_641 mw_1 mw_642 ⟨pmX6_buyEnvelopes, (Nat.le_of_ble_eq_true rfl), (Nat.le_of_ble_eq_true rfl)⟩ (mm_recv F.2.2.2.2.2.1 hN (mm_X0 hX) rfl) hl.1 rfl (Nat.le_of_ble_eq_true rfl) ⟨(Nat.le_of_ble_eq_true rfl), (Nat.le_of_ble_eq_true rfl)⟩ dL_buyEnvelopes_5
    (fun E9 σ9 H locs q9 ce9 hp9 hN hq9 hv9 hcl9 => ?_) (fun v9 σ9 H locs hp9 hN => ?_)
  ·
    obtain ⟨hq, hx9⟩ := hp9
    rcases hq with ⟨hq, rfl⟩ | ⟨hq, rfl⟩
    ·
      refine mm_catch F hN [] ⟨0, 10, 13, 13⟩ [⟨0, 10, 17, 15⟩] ht (fun _ h => absurd h List.not_mem_nil) (by decide) (by decide) mw_235 mw_243 hq9 hv9 hcl9 ?_
      refine W.eq (g2 := F0 m 13 ls [.ref q9]) rfl ?_
      refine W.widen (k := 6) (n := 40) (Nat.le_of_ble_eq_true rfl) (Nat.le_of_ble_eq_true rfl) ?_
      refine lv_astore (pc := 13) (lv' := [(4, .ref q9), (0, .ref ((ad 0 0 0))), (1, .int (nI 0)), (2, .int (nI n)), (3, .ref ou)]) F.1 F.2.1 dL_buyEnvelopes_13 hl (by decide) rfl (fun ls hl => ?_)
      refine lv_iconst (pc := 15) (v := nI 1) F.1 F.2.1 dL_buyEnvelopes_15 (by decide) ?_
      exact mm_iret (pc := 16) F hr hN (⟨by rw [hq], mm_Wl_no hx9 ho (if_neg (by rw [hq]; decide)) (by rw [hq]; decide)⟩) (Nat.le_of_ble_eq_true rfl) (Nat.le_of_ble_eq_true rfl) dL_buyEnvelopes_16
    ·
      refine mm_catch F hN [⟨0, 10, 13, 13⟩] ⟨0, 10, 17, 15⟩ [] ht (List.forall_mem_cons.mpr ⟨⟨by decide, _, mw_235, List.mem_of_getElem? (i := 4) rfl⟩, fun _ h => absurd h List.not_mem_nil⟩) (by decide) (by decide) mw_236 mw_314 hq9 hv9 hcl9 ?_
      refine W.eq (g2 := F0 m 17 ls [.ref q9]) rfl ?_
      refine W.widen (k := 6) (n := 40) (Nat.le_of_ble_eq_true rfl) (Nat.le_of_ble_eq_true rfl) ?_
      refine lv_astore (pc := 17) (lv' := [(4, .ref q9), (0, .ref ((ad 0 0 0))), (1, .int (nI 0)), (2, .int (nI n)), (3, .ref ou)]) F.1 F.2.1 dL_buyEnvelopes_17 hl (by decide) rfl (fun ls hl => ?_)
      refine lv_iconst (pc := 19) (v := nI 2) F.1 F.2.1 dL_buyEnvelopes_19 (by decide) ?_
      exact mm_iret (pc := 20) F hr hN (⟨by rw [hq], mm_Wl_no hx9 ho (if_neg (by rw [hq]; decide)) (by rw [hq]; decide)⟩) (Nat.le_of_ble_eq_true rfl) (Nat.le_of_ble_eq_true rfl) dL_buyEnvelopes_20
  ·
    obtain ⟨hq, rfl, hx9⟩ := hp9
    refine W.eq (g2 := F0 m 8 ls [.int (nI (T.en 0 + n)), .int (nI 0), .ref ou]) rfl ?_
    refine W.widen (k := 6) (n := 40) (Nat.le_of_ble_eq_true rfl) (Nat.le_of_ble_eq_true rfl) ?_
    have ho9 := (mm_Xt.fr hx9) ou 2 _ (by decide) ho
    refine lv_i2l (pc := 8) (v := (nI (T.en 0 + n)).toInt64) F.1 F.2.1 dL_buyEnvelopes_8 (rfl) ?_
    refine mm_last (pc := 9) F hN (ho9) (j := 0) (rfl) (by decide) (by decide) dL_buyEnvelopes_9 (fun H locs hN => ?_)
    have hN : mm_N b D s (mm_u σ9 ou (mm_arj 2 1 1 (va_up g 0 ((nI (T.en 0 + n)).toInt64)))) _ _ := hN
    refine lv_goto (pc := 10) (tgt := 21) F.1 F.2.1 dL_buyEnvelopes_10 (by decide) ?_
    refine lv_iconst (pc := 21) (v := nI 0) F.1 F.2.1 dL_buyEnvelopes_21 (by decide) ?_
    exact mm_iret (pc := 22) F hr hN (⟨by rw [hq], mm_Wl_ok hx9 ho (if_pos hq) rfl⟩) (Nat.le_of_ble_eq_true rfl) (Nat.le_of_ble_eq_true rfl) dL_buyEnvelopes_22

set_option maxHeartbeats 4000000 in
set_option maxRecDepth 100000 in
theorem w_buyEnv1 (l : Launch) (b : Nat) (D : mm_D) (hst : l.stackTraces = false) (T : mm_T) (z : mm_Z) (ad : Nat → Nat → Nat → Nat) (σ : mm_S) (hX : mm_X σ T z ad) (hW : mm_WF T) (n : Nat) (zn : n < 2 ^ 32) (ou : Nat) (g : Nat → Int64) (ho : σ ou = mm_arj 2 1 1 g) : mm_K l b D yL_buyEnvelopes (.codeWith yL_buyEnvelopes cL_buyEnvelopes 5 (some .int) [(0, 10, 13, 13), (0, 10, 17, 15)]) ({ frames := 9, cells := 6, slots := 40, locals := 260 } : Room) [.ref ((ad 0 0 0)), .int (nI 1), .int (nI n), .ref ou] σ
    (fun v σ2 => v = some (.int (nI (mm_q_buyEnvelopes T 1 n))) ∧ mm_Wl σ σ2 (if mm_q_buyEnvelopes T 1 n = 0 then ((T.w 12 (mm_u2 (T 12) 1 0 (T.en 1 + n))).w 0 (mm_u2 (T 0) 8 0 (T 0 8 0 + n))) else T) (ad 0 0 0) ou (mm_q_buyEnvelopes T 1 n) ((nI (T.en 1 + n)).toInt64))
    (fun _ _ => False) := by
  refine mm_ofX (cc := cL_buyEnvelopes) (nL := 5) (ret := some .int) (by decide) rfl (Nat.le_of_ble_eq_true rfl) hst ?_
  intro p e s m args below meth c ls F ht hr hN hl
  have hl : lv_has ls 5 [(0, .ref ((ad 0 0 0))), (1, .int (nI 1)), (2, .int (nI n)), (3, .ref ou)] := hl
  refine lv_aload_n (pc := 0) F.1 F.2.1 dL_buyEnvelopes_0 rfl (lv_at hl 3 rfl) ?_
  refine lv_iconst (pc := 1) (v := nI 0) F.1 F.2.1 dL_buyEnvelopes_1 (by decide) ?_
  refine lv_aload_n (pc := 2) F.1 F.2.1 dL_buyEnvelopes_2 rfl (lv_at hl 0 rfl) ?_
  refine lv_iload_n (pc := 3) F.1 F.2.1 dL_buyEnvelopes_3 rfl (lv_at hl 1 rfl) ?_
  refine lv_iload_n (pc := 4) F.1 F.2.1 dL_buyEnvelopes_4 rfl (lv_at hl 2 rfl) ?_
  refine mm_runV (pc := 5) (As := [.int (nI 1), .int (nI n)]) (rest := [.int (nI 0), .ref ou]) F hN (a_buyEnv1 l b D hst T z ad σ hX hW n zn) mw_639 mw_640 mw_641 mw_1 mw_642 ⟨pmX6_buyEnvelopes, (Nat.le_of_ble_eq_true rfl), (Nat.le_of_ble_eq_true rfl)⟩ (mm_recv F.2.2.2.2.2.1 hN (mm_X0 hX) rfl) hl.1 rfl (Nat.le_of_ble_eq_true rfl) ⟨(Nat.le_of_ble_eq_true rfl), (Nat.le_of_ble_eq_true rfl)⟩ dL_buyEnvelopes_5
    (fun E9 σ9 H locs q9 ce9 hp9 hN hq9 hv9 hcl9 => ?_) (fun v9 σ9 H locs hp9 hN => ?_)
  ·
    obtain ⟨hq, hx9⟩ := hp9
    rcases hq with ⟨hq, rfl⟩ | ⟨hq, rfl⟩
    ·
      refine mm_catch F hN [] ⟨0, 10, 13, 13⟩ [⟨0, 10, 17, 15⟩] ht (fun _ h => absurd h List.not_mem_nil) (by decide) (by decide) mw_235 mw_243 hq9 hv9 hcl9 ?_
      refine W.eq (g2 := F0 m 13 ls [.ref q9]) rfl ?_
      refine W.widen (k := 6) (n := 40) (Nat.le_of_ble_eq_true rfl) (Nat.le_of_ble_eq_true rfl) ?_
      refine lv_astore (pc := 13) (lv' := [(4, .ref q9), (0, .ref ((ad 0 0 0))), (1, .int (nI 1)), (2, .int (nI n)), (3, .ref ou)]) F.1 F.2.1 dL_buyEnvelopes_13 hl (by decide) rfl (fun ls hl => ?_)
      refine lv_iconst (pc := 15) (v := nI 1) F.1 F.2.1 dL_buyEnvelopes_15 (by decide) ?_
      exact mm_iret (pc := 16) F hr hN (⟨by rw [hq], mm_Wl_no hx9 ho (if_neg (by rw [hq]; decide)) (by rw [hq]; decide)⟩) (Nat.le_of_ble_eq_true rfl) (Nat.le_of_ble_eq_true rfl) dL_buyEnvelopes_16
    ·
      refine mm_catch F hN [⟨0, 10, 13, 13⟩] ⟨0, 10, 17, 15⟩ [] ht (List.forall_mem_cons.mpr ⟨⟨by decide, _, mw_235, List.mem_of_getElem? (i := 4) rfl⟩, fun _ h => absurd h List.not_mem_nil⟩) (by decide) (by decide) mw_236 mw_314 hq9 hv9 hcl9 ?_
      refine W.eq (g2 := F0 m 17 ls [.ref q9]) rfl ?_
      refine W.widen (k := 6) (n := 40) (Nat.le_of_ble_eq_true rfl) (Nat.le_of_ble_eq_true rfl) ?_
      refine lv_astore (pc := 17) (lv' := [(4, .ref q9), (0, .ref ((ad 0 0 0))), (1, .int (nI 1)), (2, .int (nI n)), (3, .ref ou)]) F.1 F.2.1 dL_buyEnvelopes_17 hl (by decide) rfl (fun ls hl => ?_)
      refine lv_iconst (pc := 19) (v := nI 2) F.1 F.2.1 dL_buyEnvelopes_19 (by decide) ?_
      exact mm_iret (pc := 20) F hr hN (⟨by rw [hq], mm_Wl_no hx9 ho (if_neg (by rw [hq]; decide)) (by rw [hq]; decide)⟩) (Nat.le_of_ble_eq_true rfl) (Nat.le_of_ble_eq_true rfl) dL_buyEnvelopes_20
  ·
    obtain ⟨hq, rfl, hx9⟩ := hp9
    refine W.eq (g2 := F0 m 8 ls [.int (nI (T.en 1 + n)), .int (nI 0), .ref ou]) rfl ?_
    refine W.widen (k := 6) (n := 40) (Nat.le_of_ble_eq_true rfl) (Nat.le_of_ble_eq_true rfl) ?_
    have ho9 := (mm_Xt.fr hx9) ou 2 _ (by decide) ho
    refine lv_i2l (pc := 8) (v := (nI (T.en 1 + n)).toInt64) F.1 F.2.1 dL_buyEnvelopes_8 (rfl) ?_
    refine mm_last (pc := 9) F hN (ho9) (j := 0) (rfl) (by decide) (by decide) dL_buyEnvelopes_9 (fun H locs hN => ?_)
    have hN : mm_N b D s (mm_u σ9 ou (mm_arj 2 1 1 (va_up g 0 ((nI (T.en 1 + n)).toInt64)))) _ _ := hN
    refine lv_goto (pc := 10) (tgt := 21) F.1 F.2.1 dL_buyEnvelopes_10 (by decide) ?_
    refine lv_iconst (pc := 21) (v := nI 0) F.1 F.2.1 dL_buyEnvelopes_21 (by decide) ?_
    exact mm_iret (pc := 22) F hr hN (⟨by rw [hq], mm_Wl_ok hx9 ho (if_pos hq) rfl⟩) (Nat.le_of_ble_eq_true rfl) (Nat.le_of_ble_eq_true rfl) dL_buyEnvelopes_22

set_option maxHeartbeats 4000000 in
set_option maxRecDepth 100000 in
theorem w_comesBack (l : Launch) (b : Nat) (D : mm_D) (hst : l.stackTraces = false) (T : mm_T) (z : mm_Z) (ad : Nat → Nat → Nat → Nat) (σ : mm_S) (hX : mm_X σ T z ad) (hW : mm_WF T) (k : Nat) (zk : k < 2 ^ 32) (i : Nat) (zi : i < 2 ^ 32) (ch : Nat) (zch : ch < 65536) (ou : Nat) (g : Nat → Int64) (ho : σ ou = mm_arj 2 1 1 g) : mm_K l b D yL_comesBack (.codeWith yL_comesBack cL_comesBack 6 (some .int) [(0, 12, 15, 21), (0, 12, 19, 13), (0, 12, 23, 15)]) ({ frames := 9, cells := 6, slots := 40, locals := 260 } : Room) [.ref ((ad 0 0 0)), .int (nI k), .int (nI i), .int (nI ch), .ref ou] σ
    (fun v σ2 => v = some (.int (nI (mm_q_comesBack T k i ch))) ∧ mm_Wl σ σ2 (if mm_q_comesBack T k i ch = 0 then (if ch = 117 then (T.w 19 (mm_u2 (T 19) k i 1)).w 2 (mm_u2 (T 2) (T.ho i) 0 (T.sk (T.ho i) + 1)) else (T.w 19 (mm_u2 (T 19) k i 1)).w 6 (mm_u2 (T 6) i 0 ch)) else T) (ad 0 0 0) ou (mm_q_comesBack T k i ch) ((nI (mm_sm (mm_u2 (T 19) k i 1 k) (T.rp k))).toInt64))
    (fun _ _ => False) := by
  refine mm_ofX (cc := cL_comesBack) (nL := 6) (ret := some .int) (by decide) rfl (Nat.le_of_ble_eq_true rfl) hst ?_
  intro p e s m args below meth c ls F ht hr hN hl
  have hl : lv_has ls 6 [(0, .ref ((ad 0 0 0))), (1, .int (nI k)), (2, .int (nI i)), (3, .int (nI ch)), (4, .ref ou)] := hl
  refine lv_aload (pc := 0) F.1 F.2.1 dL_comesBack_0 (lv_at hl 4 rfl) ?_
  refine lv_iconst (pc := 2) (v := nI 0) F.1 F.2.1 dL_comesBack_2 (by decide) ?_
  refine lv_aload_n (pc := 3) F.1 F.2.1 dL_comesBack_3 rfl (lv_at hl 0 rfl) ?_
  refine lv_iload_n (pc := 4) F.1 F.2.1 dL_comesBack_4 rfl (lv_at hl 1 rfl) ?_
  refine lv_iload_n (pc := 5) F.1 F.2.1 dL_comesBack_5 rfl (lv_at hl 2 rfl) ?_
  refine lv_iload_n (pc := 6) F.1 F.2.1 dL_comesBack_6 rfl (lv_at hl 3 rfl) ?_
  refine mm_runV (pc := 7) (As := [.int (nI k), .int (nI i), .int (nI ch)]) (rest := [.int (nI 0), .ref ou]) F hN (a_comesBack l b D hst T z ad σ hX hW k zk i zi ch zch) mw_1022 mw_1023 mw_1024 mw_1 mw_1025 ⟨pmX6_comesBack, (Nat.le_of_ble_eq_true rfl), (Nat.le_of_ble_eq_true rfl)⟩ (mm_recv F.2.2.2.2.2.1 hN (mm_X0 hX) rfl) hl.1 rfl (Nat.le_of_ble_eq_true rfl) ⟨(Nat.le_of_ble_eq_true rfl), (Nat.le_of_ble_eq_true rfl)⟩ dL_comesBack_7
    (fun E9 σ9 H locs q9 ce9 hp9 hN hq9 hv9 hcl9 => ?_) (fun v9 σ9 H locs hp9 hN => ?_)
  ·
    obtain ⟨hq, hx9⟩ := hp9
    rcases hq with ⟨hq, rfl⟩ | ⟨hq, rfl⟩ | ⟨hq, rfl⟩
    ·
      refine mm_catch F hN [] ⟨0, 12, 15, 21⟩ [⟨0, 12, 19, 13⟩, ⟨0, 12, 23, 15⟩] ht (fun _ h => absurd h List.not_mem_nil) (by decide) (by decide) mw_424 mw_458 hq9 hv9 hcl9 ?_
      refine W.eq (g2 := F0 m 15 ls [.ref q9]) rfl ?_
      refine W.widen (k := 6) (n := 40) (Nat.le_of_ble_eq_true rfl) (Nat.le_of_ble_eq_true rfl) ?_
      refine lv_astore (pc := 15) (lv' := [(5, .ref q9), (0, .ref ((ad 0 0 0))), (1, .int (nI k)), (2, .int (nI i)), (3, .int (nI ch)), (4, .ref ou)]) F.1 F.2.1 dL_comesBack_15 hl (by decide) rfl (fun ls hl => ?_)
      refine lv_iconst (pc := 17) (v := nI 1) F.1 F.2.1 dL_comesBack_17 (by decide) ?_
      exact mm_iret (pc := 18) F hr hN (⟨by rw [hq], mm_Wl_no hx9 ho (if_neg (by rw [hq]; decide)) (by rw [hq]; decide)⟩) (Nat.le_of_ble_eq_true rfl) (Nat.le_of_ble_eq_true rfl) dL_comesBack_18
    ·
      refine mm_catch F hN [⟨0, 12, 15, 21⟩] ⟨0, 12, 19, 13⟩ [⟨0, 12, 23, 15⟩] ht (List.forall_mem_cons.mpr ⟨⟨by decide, _, mw_424, List.mem_of_getElem? (i := 1) rfl⟩, fun _ h => absurd h List.not_mem_nil⟩) (by decide) (by decide) mw_235 mw_243 hq9 hv9 hcl9 ?_
      refine W.eq (g2 := F0 m 19 ls [.ref q9]) rfl ?_
      refine W.widen (k := 6) (n := 40) (Nat.le_of_ble_eq_true rfl) (Nat.le_of_ble_eq_true rfl) ?_
      refine lv_astore (pc := 19) (lv' := [(5, .ref q9), (0, .ref ((ad 0 0 0))), (1, .int (nI k)), (2, .int (nI i)), (3, .int (nI ch)), (4, .ref ou)]) F.1 F.2.1 dL_comesBack_19 hl (by decide) rfl (fun ls hl => ?_)
      refine lv_iconst (pc := 21) (v := nI 2) F.1 F.2.1 dL_comesBack_21 (by decide) ?_
      exact mm_iret (pc := 22) F hr hN (⟨by rw [hq], mm_Wl_no hx9 ho (if_neg (by rw [hq]; decide)) (by rw [hq]; decide)⟩) (Nat.le_of_ble_eq_true rfl) (Nat.le_of_ble_eq_true rfl) dL_comesBack_22
    ·
      refine mm_catch F hN [⟨0, 12, 15, 21⟩, ⟨0, 12, 19, 13⟩] ⟨0, 12, 23, 15⟩ [] ht (List.forall_mem_cons.mpr ⟨⟨by decide, _, mw_424, List.mem_of_getElem? (i := 5) rfl⟩, List.forall_mem_cons.mpr ⟨⟨by decide, _, mw_235, List.mem_of_getElem? (i := 4) rfl⟩, fun _ h => absurd h List.not_mem_nil⟩⟩) (by decide) (by decide) mw_236 mw_314 hq9 hv9 hcl9 ?_
      refine W.eq (g2 := F0 m 23 ls [.ref q9]) rfl ?_
      refine W.widen (k := 6) (n := 40) (Nat.le_of_ble_eq_true rfl) (Nat.le_of_ble_eq_true rfl) ?_
      refine lv_astore (pc := 23) (lv' := [(5, .ref q9), (0, .ref ((ad 0 0 0))), (1, .int (nI k)), (2, .int (nI i)), (3, .int (nI ch)), (4, .ref ou)]) F.1 F.2.1 dL_comesBack_23 hl (by decide) rfl (fun ls hl => ?_)
      refine lv_iconst (pc := 25) (v := nI 3) F.1 F.2.1 dL_comesBack_25 (by decide) ?_
      exact mm_iret (pc := 26) F hr hN (⟨by rw [hq], mm_Wl_no hx9 ho (if_neg (by rw [hq]; decide)) (by rw [hq]; decide)⟩) (Nat.le_of_ble_eq_true rfl) (Nat.le_of_ble_eq_true rfl) dL_comesBack_26
  ·
    obtain ⟨hq, rfl, hx9⟩ := hp9
    refine W.eq (g2 := F0 m 10 ls [.int (nI (mm_sm (mm_u2 (T 19) k i 1 k) (T.rp k))), .int (nI 0), .ref ou]) rfl ?_
    refine W.widen (k := 6) (n := 40) (Nat.le_of_ble_eq_true rfl) (Nat.le_of_ble_eq_true rfl) ?_
    have ho9 := (mm_Xt.fr hx9) ou 2 _ (by decide) ho
    refine lv_i2l (pc := 10) (v := (nI (mm_sm (mm_u2 (T 19) k i 1 k) (T.rp k))).toInt64) F.1 F.2.1 dL_comesBack_10 (rfl) ?_
    refine mm_last (pc := 11) F hN (ho9) (j := 0) (rfl) (by decide) (by decide) dL_comesBack_11 (fun H locs hN => ?_)
    have hN : mm_N b D s (mm_u σ9 ou (mm_arj 2 1 1 (va_up g 0 ((nI (mm_sm (mm_u2 (T 19) k i 1 k) (T.rp k))).toInt64)))) _ _ := hN
    refine lv_goto (pc := 12) (tgt := 27) F.1 F.2.1 dL_comesBack_12 (by decide) ?_
    refine lv_iconst (pc := 27) (v := nI 0) F.1 F.2.1 dL_comesBack_27 (by decide) ?_
    exact mm_iret (pc := 28) F hr hN (⟨by rw [hq], mm_Wl_ok hx9 ho (if_pos hq) rfl⟩) (Nat.le_of_ble_eq_true rfl) (Nat.le_of_ble_eq_true rfl) dL_comesBack_28

set_option maxHeartbeats 4000000 in
set_option maxRecDepth 100000 in
theorem w_addAddress (l : Launch) (b : Nat) (D : mm_D) (hst : l.stackTraces = false) (T : mm_T) (z : mm_Z) (ad : Nat → Nat → Nat → Nat) (σ : mm_S) (hX : mm_X σ T z ad) (hW : mm_WF T) (n : Nat) (zn : n < 2 ^ 32) (ou : Nat) (g : Nat → Int64) (ho : σ ou = mm_arj 2 1 1 g) : mm_K l b D yL_addAddress (.codeWith yL_addAddress cL_addAddress 4 (some .int) [(0, 9, 12, 13), (0, 9, 15, 15)]) ({ frames := 9, cells := 6, slots := 300, locals := 260 } : Room) [.ref ((ad 0 0 0)), .int (nI n), .ref ou] σ
    (fun v σ2 => v = some (.int (nI (mm_q_addAddress T n))) ∧ mm_Wl σ σ2 (if mm_q_addAddress T n = 0 then (mm_t_addAddress T n) else T) (ad 0 0 0) ou (mm_q_addAddress T n) ((nI (T.nA)).toInt64))
    (fun _ _ => False) := by
  refine mm_ofX (cc := cL_addAddress) (nL := 4) (ret := some .int) (by decide) rfl (Nat.le_of_ble_eq_true rfl) hst ?_
  intro p e s m args below meth c ls F ht hr hN hl
  have hl : lv_has ls 4 [(0, .ref ((ad 0 0 0))), (1, .int (nI n)), (2, .ref ou)] := hl
  refine lv_aload_n (pc := 0) F.1 F.2.1 dL_addAddress_0 rfl (lv_at hl 2 rfl) ?_
  refine lv_iconst (pc := 1) (v := nI 0) F.1 F.2.1 dL_addAddress_1 (by decide) ?_
  refine lv_aload_n (pc := 2) F.1 F.2.1 dL_addAddress_2 rfl (lv_at hl 0 rfl) ?_
  refine lv_iload_n (pc := 3) F.1 F.2.1 dL_addAddress_3 rfl (lv_at hl 1 rfl) ?_
  refine mm_runV (pc := 4) (As := [.int (nI n)]) (rest := [.int (nI 0), .ref ou]) F hN (a_addAddress l b D hst T z ad σ hX hW n zn) mw_237 mw_238 mw_239 mw_1 mw_240 ⟨pmX6_addAddress, (Nat.le_of_ble_eq_true rfl), (Nat.le_of_ble_eq_true rfl)⟩ (mm_recv F.2.2.2.2.2.1 hN (mm_X0 hX) rfl) hl.1 rfl (Nat.le_of_ble_eq_true rfl) ⟨(Nat.le_of_ble_eq_true rfl), (Nat.le_of_ble_eq_true rfl)⟩ dL_addAddress_4
    (fun E9 σ9 H locs q9 ce9 hp9 hN hq9 hv9 hcl9 => ?_) (fun v9 σ9 H locs hp9 hN => ?_)
  ·
    obtain ⟨hq, hx9⟩ := hp9
    rcases hq with ⟨hq, rfl⟩ | ⟨hq, rfl⟩
    ·
      refine mm_catch F hN [] ⟨0, 9, 12, 13⟩ [⟨0, 9, 15, 15⟩] ht (fun _ h => absurd h List.not_mem_nil) (by decide) (by decide) mw_235 mw_243 hq9 hv9 hcl9 ?_
      refine W.eq (g2 := F0 m 12 ls [.ref q9]) rfl ?_
      refine W.widen (k := 6) (n := 300) (Nat.le_of_ble_eq_true rfl) (Nat.le_of_ble_eq_true rfl) ?_
      refine lv_astore_n (pc := 12) (lv' := [(3, .ref q9), (0, .ref ((ad 0 0 0))), (1, .int (nI n)), (2, .ref ou)]) F.1 F.2.1 dL_addAddress_12 rfl hl (by decide) rfl (fun ls hl => ?_)
      refine lv_iconst (pc := 13) (v := nI 1) F.1 F.2.1 dL_addAddress_13 (by decide) ?_
      exact mm_iret (pc := 14) F hr hN (⟨by rw [hq], mm_Wl_no hx9 ho (if_neg (by rw [hq]; decide)) (by rw [hq]; decide)⟩) (Nat.le_of_ble_eq_true rfl) (Nat.le_of_ble_eq_true rfl) dL_addAddress_14
    ·
      refine mm_catch F hN [⟨0, 9, 12, 13⟩] ⟨0, 9, 15, 15⟩ [] ht (List.forall_mem_cons.mpr ⟨⟨by decide, _, mw_235, List.mem_of_getElem? (i := 4) rfl⟩, fun _ h => absurd h List.not_mem_nil⟩) (by decide) (by decide) mw_236 mw_314 hq9 hv9 hcl9 ?_
      refine W.eq (g2 := F0 m 15 ls [.ref q9]) rfl ?_
      refine W.widen (k := 6) (n := 300) (Nat.le_of_ble_eq_true rfl) (Nat.le_of_ble_eq_true rfl) ?_
      refine lv_astore_n (pc := 15) (lv' := [(3, .ref q9), (0, .ref ((ad 0 0 0))), (1, .int (nI n)), (2, .ref ou)]) F.1 F.2.1 dL_addAddress_15 rfl hl (by decide) rfl (fun ls hl => ?_)
      refine lv_iconst (pc := 16) (v := nI 2) F.1 F.2.1 dL_addAddress_16 (by decide) ?_
      exact mm_iret (pc := 17) F hr hN (⟨by rw [hq], mm_Wl_no hx9 ho (if_neg (by rw [hq]; decide)) (by rw [hq]; decide)⟩) (Nat.le_of_ble_eq_true rfl) (Nat.le_of_ble_eq_true rfl) dL_addAddress_17
  ·
    obtain ⟨hq, rfl, hx9⟩ := hp9
    refine W.eq (g2 := F0 m 7 ls [.int (nI (T.nA)), .int (nI 0), .ref ou]) rfl ?_
    refine W.widen (k := 6) (n := 300) (Nat.le_of_ble_eq_true rfl) (Nat.le_of_ble_eq_true rfl) ?_
    have ho9 := (mm_Xt.fr hx9) ou 2 _ (by decide) ho
    refine lv_i2l (pc := 7) (v := (nI (T.nA)).toInt64) F.1 F.2.1 dL_addAddress_7 (rfl) ?_
    refine mm_last (pc := 8) F hN (ho9) (j := 0) (rfl) (by decide) (by decide) dL_addAddress_8 (fun H locs hN => ?_)
    have hN : mm_N b D s (mm_u σ9 ou (mm_arj 2 1 1 (va_up g 0 ((nI (T.nA)).toInt64)))) _ _ := hN
    refine lv_goto (pc := 9) (tgt := 18) F.1 F.2.1 dL_addAddress_9 (by decide) ?_
    refine lv_iconst (pc := 18) (v := nI 0) F.1 F.2.1 dL_addAddress_18 (by decide) ?_
    exact mm_iret (pc := 19) F hr hN (⟨by rw [hq], mm_Wl_ok hx9 ho (if_pos hq) rfl⟩) (Nat.le_of_ble_eq_true rfl) (Nat.le_of_ble_eq_true rfl) dL_addAddress_19

set_option maxHeartbeats 4000000 in
set_option maxRecDepth 100000 in
theorem w_addPerson (l : Launch) (b : Nat) (D : mm_D) (hst : l.stackTraces = false) (T : mm_T) (z : mm_Z) (ad : Nat → Nat → Nat → Nat) (σ : mm_S) (hX : mm_X σ T z ad) (hW : mm_WF T) (a : Nat) (za : a < 2 ^ 32) (f : Nat) (zf : f < 2 ^ 32) (ou : Nat) (g : Nat → Int64) (ho : σ ou = mm_arj 2 1 1 g) : mm_K l b D yL_addPerson (.codeWith yL_addPerson cL_addPerson 5 (some .int) [(0, 10, 13, 21), (0, 10, 17, 13), (0, 10, 21, 15)]) ({ frames := 9, cells := 8, slots := 300, locals := 260 } : Room) [.ref ((ad 0 0 0)), .int (nI a), .int (nI f), .ref ou] σ
    (fun v σ2 => v = some (.int (nI (mm_q_addPerson T a f))) ∧ mm_Wl σ σ2 (if mm_q_addPerson T a f = 0 then (mm_t_addPerson T a f) else T) (ad 0 0 0) ou (mm_q_addPerson T a f) ((nI (T.nP)).toInt64))
    (fun _ _ => False) := by
  refine mm_ofX (cc := cL_addPerson) (nL := 5) (ret := some .int) (by decide) rfl (Nat.le_of_ble_eq_true rfl) hst ?_
  intro p e s m args below meth c ls F ht hr hN hl
  have hl : lv_has ls 5 [(0, .ref ((ad 0 0 0))), (1, .int (nI a)), (2, .int (nI f)), (3, .ref ou)] := hl
  refine lv_aload_n (pc := 0) F.1 F.2.1 dL_addPerson_0 rfl (lv_at hl 3 rfl) ?_
  refine lv_iconst (pc := 1) (v := nI 0) F.1 F.2.1 dL_addPerson_1 (by decide) ?_
  refine lv_aload_n (pc := 2) F.1 F.2.1 dL_addPerson_2 rfl (lv_at hl 0 rfl) ?_
  refine lv_iload_n (pc := 3) F.1 F.2.1 dL_addPerson_3 rfl (lv_at hl 1 rfl) ?_
  refine lv_iload_n (pc := 4) F.1 F.2.1 dL_addPerson_4 rfl (lv_at hl 2 rfl) ?_
  refine mm_runV (pc := 5) (As := [.int (nI a), .int (nI f)]) (rest := [.int (nI 0), .ref ou]) F hN (a_addPerson l b D hst T z ad σ hX hW a za f zf) mw_474 mw_475 mw_476 mw_1 mw_477 ⟨pmX6_addPerson, (Nat.le_of_ble_eq_true rfl), (Nat.le_of_ble_eq_true rfl)⟩ (mm_recv F.2.2.2.2.2.1 hN (mm_X0 hX) rfl) hl.1 rfl (Nat.le_of_ble_eq_true rfl) ⟨(Nat.le_of_ble_eq_true rfl), (Nat.le_of_ble_eq_true rfl)⟩ dL_addPerson_5
    (fun E9 σ9 H locs q9 ce9 hp9 hN hq9 hv9 hcl9 => ?_) (fun v9 σ9 H locs hp9 hN => ?_)
  ·
    obtain ⟨hq, hx9⟩ := hp9
    rcases hq with ⟨hq, rfl⟩ | ⟨hq, rfl⟩ | ⟨hq, rfl⟩
    ·
      refine mm_catch F hN [] ⟨0, 10, 13, 21⟩ [⟨0, 10, 17, 13⟩, ⟨0, 10, 21, 15⟩] ht (fun _ h => absurd h List.not_mem_nil) (by decide) (by decide) mw_424 mw_458 hq9 hv9 hcl9 ?_
      refine W.eq (g2 := F0 m 13 ls [.ref q9]) rfl ?_
      refine W.widen (k := 8) (n := 300) (Nat.le_of_ble_eq_true rfl) (Nat.le_of_ble_eq_true rfl) ?_
      refine lv_astore (pc := 13) (lv' := [(4, .ref q9), (0, .ref ((ad 0 0 0))), (1, .int (nI a)), (2, .int (nI f)), (3, .ref ou)]) F.1 F.2.1 dL_addPerson_13 hl (by decide) rfl (fun ls hl => ?_)
      refine lv_iconst (pc := 15) (v := nI 1) F.1 F.2.1 dL_addPerson_15 (by decide) ?_
      exact mm_iret (pc := 16) F hr hN (⟨by rw [hq], mm_Wl_no hx9 ho (if_neg (by rw [hq]; decide)) (by rw [hq]; decide)⟩) (Nat.le_of_ble_eq_true rfl) (Nat.le_of_ble_eq_true rfl) dL_addPerson_16
    ·
      refine mm_catch F hN [⟨0, 10, 13, 21⟩] ⟨0, 10, 17, 13⟩ [⟨0, 10, 21, 15⟩] ht (List.forall_mem_cons.mpr ⟨⟨by decide, _, mw_424, List.mem_of_getElem? (i := 1) rfl⟩, fun _ h => absurd h List.not_mem_nil⟩) (by decide) (by decide) mw_235 mw_243 hq9 hv9 hcl9 ?_
      refine W.eq (g2 := F0 m 17 ls [.ref q9]) rfl ?_
      refine W.widen (k := 8) (n := 300) (Nat.le_of_ble_eq_true rfl) (Nat.le_of_ble_eq_true rfl) ?_
      refine lv_astore (pc := 17) (lv' := [(4, .ref q9), (0, .ref ((ad 0 0 0))), (1, .int (nI a)), (2, .int (nI f)), (3, .ref ou)]) F.1 F.2.1 dL_addPerson_17 hl (by decide) rfl (fun ls hl => ?_)
      refine lv_iconst (pc := 19) (v := nI 2) F.1 F.2.1 dL_addPerson_19 (by decide) ?_
      exact mm_iret (pc := 20) F hr hN (⟨by rw [hq], mm_Wl_no hx9 ho (if_neg (by rw [hq]; decide)) (by rw [hq]; decide)⟩) (Nat.le_of_ble_eq_true rfl) (Nat.le_of_ble_eq_true rfl) dL_addPerson_20
    ·
      refine mm_catch F hN [⟨0, 10, 13, 21⟩, ⟨0, 10, 17, 13⟩] ⟨0, 10, 21, 15⟩ [] ht (List.forall_mem_cons.mpr ⟨⟨by decide, _, mw_424, List.mem_of_getElem? (i := 5) rfl⟩, List.forall_mem_cons.mpr ⟨⟨by decide, _, mw_235, List.mem_of_getElem? (i := 4) rfl⟩, fun _ h => absurd h List.not_mem_nil⟩⟩) (by decide) (by decide) mw_236 mw_314 hq9 hv9 hcl9 ?_
      refine W.eq (g2 := F0 m 21 ls [.ref q9]) rfl ?_
      refine W.widen (k := 8) (n := 300) (Nat.le_of_ble_eq_true rfl) (Nat.le_of_ble_eq_true rfl) ?_
      refine lv_astore (pc := 21) (lv' := [(4, .ref q9), (0, .ref ((ad 0 0 0))), (1, .int (nI a)), (2, .int (nI f)), (3, .ref ou)]) F.1 F.2.1 dL_addPerson_21 hl (by decide) rfl (fun ls hl => ?_)
      refine lv_iconst (pc := 23) (v := nI 3) F.1 F.2.1 dL_addPerson_23 (by decide) ?_
      exact mm_iret (pc := 24) F hr hN (⟨by rw [hq], mm_Wl_no hx9 ho (if_neg (by rw [hq]; decide)) (by rw [hq]; decide)⟩) (Nat.le_of_ble_eq_true rfl) (Nat.le_of_ble_eq_true rfl) dL_addPerson_24
  ·
    obtain ⟨hq, rfl, hx9⟩ := hp9
    refine W.eq (g2 := F0 m 8 ls [.int (nI (T.nP)), .int (nI 0), .ref ou]) rfl ?_
    refine W.widen (k := 8) (n := 300) (Nat.le_of_ble_eq_true rfl) (Nat.le_of_ble_eq_true rfl) ?_
    have ho9 := (mm_Xt.fr hx9) ou 2 _ (by decide) ho
    refine lv_i2l (pc := 8) (v := (nI (T.nP)).toInt64) F.1 F.2.1 dL_addPerson_8 (rfl) ?_
    refine mm_last (pc := 9) F hN (ho9) (j := 0) (rfl) (by decide) (by decide) dL_addPerson_9 (fun H locs hN => ?_)
    have hN : mm_N b D s (mm_u σ9 ou (mm_arj 2 1 1 (va_up g 0 ((nI (T.nP)).toInt64)))) _ _ := hN
    refine lv_goto (pc := 10) (tgt := 25) F.1 F.2.1 dL_addPerson_10 (by decide) ?_
    refine lv_iconst (pc := 25) (v := nI 0) F.1 F.2.1 dL_addPerson_25 (by decide) ?_
    exact mm_iret (pc := 26) F hr hN (⟨by rw [hq], mm_Wl_ok hx9 ho (if_pos hq) rfl⟩) (Nat.le_of_ble_eq_true rfl) (Nat.le_of_ble_eq_true rfl) dL_addPerson_26

set_option maxHeartbeats 4000000 in
set_option maxRecDepth 100000 in
theorem w_addTemplate (l : Launch) (b : Nat) (D : mm_D) (hst : l.stackTraces = false) (T : mm_T) (z : mm_Z) (ad : Nat → Nat → Nat → Nat) (σ : mm_S) (hX : mm_X σ T z ad) (hW : mm_WF T) (ou : Nat) (g : Nat → Int64) (ho : σ ou = mm_arj 2 1 1 g) : mm_K l b D yL_addTemplate (.codeWith yL_addTemplate cL_addTemplate 3 (some .int) [(0, 8, 11, 15)]) ({ frames := 9, cells := 8, slots := 300, locals := 260 } : Room) [.ref ((ad 0 0 0)), .ref ou] σ
    (fun v σ2 => v = some (.int (nI (mm_q_addTemplate T))) ∧ mm_Wl σ σ2 (if mm_q_addTemplate T = 0 then (mm_t_addTemplate T) else T) (ad 0 0 0) ou (mm_q_addTemplate T) ((nI (T.nT)).toInt64))
    (fun _ _ => False) := by
  refine mm_ofX (cc := cL_addTemplate) (nL := 3) (ret := some .int) (by decide) rfl (Nat.le_of_ble_eq_true rfl) hst ?_
  intro p e s m args below meth c ls F ht hr hN hl
  have hl : lv_has ls 3 [(0, .ref ((ad 0 0 0))), (1, .ref ou)] := hl
  refine lv_aload_n (pc := 0) F.1 F.2.1 dL_addTemplate_0 rfl (lv_at hl 1 rfl) ?_
  refine lv_iconst (pc := 1) (v := nI 0) F.1 F.2.1 dL_addTemplate_1 (by decide) ?_
  refine lv_aload_n (pc := 2) F.1 F.2.1 dL_addTemplate_2 rfl (lv_at hl 0 rfl) ?_
  refine mm_runV (pc := 3) (As := []) (rest := [.int (nI 0), .ref ou]) F hN (a_addTemplate l b D hst T z ad σ hX hW) mw_567 mw_568 mw_569 mw_1 mw_570 ⟨pmX6_addTemplate, (Nat.le_of_ble_eq_true rfl), (Nat.le_of_ble_eq_true rfl)⟩ (mm_recv F.2.2.2.2.2.1 hN (mm_X0 hX) rfl) hl.1 rfl (Nat.le_of_ble_eq_true rfl) ⟨(Nat.le_of_ble_eq_true rfl), (Nat.le_of_ble_eq_true rfl)⟩ dL_addTemplate_3
    (fun E9 σ9 H locs q9 ce9 hp9 hN hq9 hv9 hcl9 => ?_) (fun v9 σ9 H locs hp9 hN => ?_)
  ·
    obtain ⟨hq, hx9⟩ := hp9
    obtain ⟨hq, rfl⟩ := hq
    refine mm_catch F hN [] ⟨0, 8, 11, 15⟩ [] ht (fun _ h => absurd h List.not_mem_nil) (by decide) (by decide) mw_236 mw_314 hq9 hv9 hcl9 ?_
    refine W.eq (g2 := F0 m 11 ls [.ref q9]) rfl ?_
    refine W.widen (k := 8) (n := 300) (Nat.le_of_ble_eq_true rfl) (Nat.le_of_ble_eq_true rfl) ?_
    refine lv_astore_n (pc := 11) (lv' := [(2, .ref q9), (0, .ref ((ad 0 0 0))), (1, .ref ou)]) F.1 F.2.1 dL_addTemplate_11 rfl hl (by decide) rfl (fun ls hl => ?_)
    refine lv_iconst (pc := 12) (v := nI 1) F.1 F.2.1 dL_addTemplate_12 (by decide) ?_
    exact mm_iret (pc := 13) F hr hN (⟨by rw [hq], mm_Wl_no hx9 ho (if_neg (by rw [hq]; decide)) (by rw [hq]; decide)⟩) (Nat.le_of_ble_eq_true rfl) (Nat.le_of_ble_eq_true rfl) dL_addTemplate_13
  ·
    obtain ⟨hq, rfl, hx9⟩ := hp9
    refine W.eq (g2 := F0 m 6 ls [.int (nI (T.nT)), .int (nI 0), .ref ou]) rfl ?_
    refine W.widen (k := 8) (n := 300) (Nat.le_of_ble_eq_true rfl) (Nat.le_of_ble_eq_true rfl) ?_
    have ho9 := (mm_Xt.fr hx9) ou 2 _ (by decide) ho
    refine lv_i2l (pc := 6) (v := (nI (T.nT)).toInt64) F.1 F.2.1 dL_addTemplate_6 (rfl) ?_
    refine mm_last (pc := 7) F hN (ho9) (j := 0) (rfl) (by decide) (by decide) dL_addTemplate_7 (fun H locs hN => ?_)
    have hN : mm_N b D s (mm_u σ9 ou (mm_arj 2 1 1 (va_up g 0 ((nI (T.nT)).toInt64)))) _ _ := hN
    refine lv_goto (pc := 8) (tgt := 14) F.1 F.2.1 dL_addTemplate_8 (by decide) ?_
    refine lv_iconst (pc := 14) (v := nI 0) F.1 F.2.1 dL_addTemplate_14 (by decide) ?_
    exact mm_iret (pc := 15) F hr hN (⟨by rw [hq], mm_Wl_ok hx9 ho (if_pos hq) rfl⟩) (Nat.le_of_ble_eq_true rfl) (Nat.le_of_ble_eq_true rfl) dL_addTemplate_15

set_option maxHeartbeats 4000000 in
set_option maxRecDepth 100000 in
theorem w_addPart (l : Launch) (b : Nat) (D : mm_D) (hst : l.stackTraces = false) (T : mm_T) (z : mm_Z) (ad : Nat → Nat → Nat → Nat) (σ : mm_S) (hX : mm_X σ T z ad) (hW : mm_WF T) (t : Nat) (zt : t < 2 ^ 32) (ln : Nat) (zln : ln < 2 ^ 32) (ne : Nat) (zne : ne < 2 ^ 32) (fo : Nat) (zfo : fo < 2 ^ 32) (ou : Nat) (g : Nat → Int64) (ho : σ ou = mm_arj 2 1 1 g) : mm_K l b D yL_addPart (.codeWith yL_addPart cL_addPart 7 (some .int) [(0, 14, 17, 21), (0, 14, 21, 13), (0, 14, 25, 15)]) ({ frames := 9, cells := 6, slots := 40, locals := 260 } : Room) [.ref ((ad 0 0 0)), .int (nI t), .int (nI ln), .int (nI ne), .int (nI fo), .ref ou] σ
    (fun v σ2 => v = some (.int (nI (mm_q_addPart T t ln ne fo))) ∧ mm_Wl σ σ2 (if mm_q_addPart T t ln ne fo = 0 then (mm_t_addPart T t ln ne fo) else T) (ad 0 0 0) ou (mm_q_addPart T t ln ne fo) ((nI (T.pc t + 1)).toInt64))
    (fun _ _ => False) := by
  refine mm_ofX (cc := cL_addPart) (nL := 7) (ret := some .int) (by decide) rfl (Nat.le_of_ble_eq_true rfl) hst ?_
  intro p e s m args below meth c ls F ht hr hN hl
  have hl : lv_has ls 7 [(0, .ref ((ad 0 0 0))), (1, .int (nI t)), (2, .int (nI ln)), (3, .int (nI ne)), (4, .int (nI fo)), (5, .ref ou)] := hl
  refine lv_aload (pc := 0) F.1 F.2.1 dL_addPart_0 (lv_at hl 5 rfl) ?_
  refine lv_iconst (pc := 2) (v := nI 0) F.1 F.2.1 dL_addPart_2 (by decide) ?_
  refine lv_aload_n (pc := 3) F.1 F.2.1 dL_addPart_3 rfl (lv_at hl 0 rfl) ?_
  refine lv_iload_n (pc := 4) F.1 F.2.1 dL_addPart_4 rfl (lv_at hl 1 rfl) ?_
  refine lv_iload_n (pc := 5) F.1 F.2.1 dL_addPart_5 rfl (lv_at hl 2 rfl) ?_
  refine lv_iload_n (pc := 6) F.1 F.2.1 dL_addPart_6 rfl (lv_at hl 3 rfl) ?_
  refine lv_iload (pc := 7) F.1 F.2.1 dL_addPart_7 (lv_at hl 4 rfl) ?_
  refine mm_runV (pc := 9) (As := [.int (nI t), .int (nI ln), .int (nI ne), .int (nI fo)]) (rest := [.int (nI 0), .ref ou]) F hN (a_addPart l b D hst T z ad σ hX hW t zt ln zln ne zne fo zfo) mw_598 mw_599 mw_600 mw_1 mw_601 ⟨pmX6_addPart, (Nat.le_of_ble_eq_true rfl), (Nat.le_of_ble_eq_true rfl)⟩ (mm_recv F.2.2.2.2.2.1 hN (mm_X0 hX) rfl) hl.1 rfl (Nat.le_of_ble_eq_true rfl) ⟨(Nat.le_of_ble_eq_true rfl), (Nat.le_of_ble_eq_true rfl)⟩ dL_addPart_9
    (fun E9 σ9 H locs q9 ce9 hp9 hN hq9 hv9 hcl9 => ?_) (fun v9 σ9 H locs hp9 hN => ?_)
  ·
    obtain ⟨hq, hx9⟩ := hp9
    rcases hq with ⟨hq, rfl⟩ | ⟨hq, rfl⟩ | ⟨hq, rfl⟩
    ·
      refine mm_catch F hN [] ⟨0, 14, 17, 21⟩ [⟨0, 14, 21, 13⟩, ⟨0, 14, 25, 15⟩] ht (fun _ h => absurd h List.not_mem_nil) (by decide) (by decide) mw_424 mw_458 hq9 hv9 hcl9 ?_
      refine W.eq (g2 := F0 m 17 ls [.ref q9]) rfl ?_
      refine W.widen (k := 6) (n := 40) (Nat.le_of_ble_eq_true rfl) (Nat.le_of_ble_eq_true rfl) ?_
      refine lv_astore (pc := 17) (lv' := [(6, .ref q9), (0, .ref ((ad 0 0 0))), (1, .int (nI t)), (2, .int (nI ln)), (3, .int (nI ne)), (4, .int (nI fo)), (5, .ref ou)]) F.1 F.2.1 dL_addPart_17 hl (by decide) rfl (fun ls hl => ?_)
      refine lv_iconst (pc := 19) (v := nI 1) F.1 F.2.1 dL_addPart_19 (by decide) ?_
      exact mm_iret (pc := 20) F hr hN (⟨by rw [hq], mm_Wl_no hx9 ho (if_neg (by rw [hq]; decide)) (by rw [hq]; decide)⟩) (Nat.le_of_ble_eq_true rfl) (Nat.le_of_ble_eq_true rfl) dL_addPart_20
    ·
      refine mm_catch F hN [⟨0, 14, 17, 21⟩] ⟨0, 14, 21, 13⟩ [⟨0, 14, 25, 15⟩] ht (List.forall_mem_cons.mpr ⟨⟨by decide, _, mw_424, List.mem_of_getElem? (i := 1) rfl⟩, fun _ h => absurd h List.not_mem_nil⟩) (by decide) (by decide) mw_235 mw_243 hq9 hv9 hcl9 ?_
      refine W.eq (g2 := F0 m 21 ls [.ref q9]) rfl ?_
      refine W.widen (k := 6) (n := 40) (Nat.le_of_ble_eq_true rfl) (Nat.le_of_ble_eq_true rfl) ?_
      refine lv_astore (pc := 21) (lv' := [(6, .ref q9), (0, .ref ((ad 0 0 0))), (1, .int (nI t)), (2, .int (nI ln)), (3, .int (nI ne)), (4, .int (nI fo)), (5, .ref ou)]) F.1 F.2.1 dL_addPart_21 hl (by decide) rfl (fun ls hl => ?_)
      refine lv_iconst (pc := 23) (v := nI 2) F.1 F.2.1 dL_addPart_23 (by decide) ?_
      exact mm_iret (pc := 24) F hr hN (⟨by rw [hq], mm_Wl_no hx9 ho (if_neg (by rw [hq]; decide)) (by rw [hq]; decide)⟩) (Nat.le_of_ble_eq_true rfl) (Nat.le_of_ble_eq_true rfl) dL_addPart_24
    ·
      refine mm_catch F hN [⟨0, 14, 17, 21⟩, ⟨0, 14, 21, 13⟩] ⟨0, 14, 25, 15⟩ [] ht (List.forall_mem_cons.mpr ⟨⟨by decide, _, mw_424, List.mem_of_getElem? (i := 5) rfl⟩, List.forall_mem_cons.mpr ⟨⟨by decide, _, mw_235, List.mem_of_getElem? (i := 4) rfl⟩, fun _ h => absurd h List.not_mem_nil⟩⟩) (by decide) (by decide) mw_236 mw_314 hq9 hv9 hcl9 ?_
      refine W.eq (g2 := F0 m 25 ls [.ref q9]) rfl ?_
      refine W.widen (k := 6) (n := 40) (Nat.le_of_ble_eq_true rfl) (Nat.le_of_ble_eq_true rfl) ?_
      refine lv_astore (pc := 25) (lv' := [(6, .ref q9), (0, .ref ((ad 0 0 0))), (1, .int (nI t)), (2, .int (nI ln)), (3, .int (nI ne)), (4, .int (nI fo)), (5, .ref ou)]) F.1 F.2.1 dL_addPart_25 hl (by decide) rfl (fun ls hl => ?_)
      refine lv_iconst (pc := 27) (v := nI 3) F.1 F.2.1 dL_addPart_27 (by decide) ?_
      exact mm_iret (pc := 28) F hr hN (⟨by rw [hq], mm_Wl_no hx9 ho (if_neg (by rw [hq]; decide)) (by rw [hq]; decide)⟩) (Nat.le_of_ble_eq_true rfl) (Nat.le_of_ble_eq_true rfl) dL_addPart_28
  ·
    obtain ⟨hq, rfl, hx9⟩ := hp9
    refine W.eq (g2 := F0 m 12 ls [.int (nI (T.pc t + 1)), .int (nI 0), .ref ou]) rfl ?_
    refine W.widen (k := 6) (n := 40) (Nat.le_of_ble_eq_true rfl) (Nat.le_of_ble_eq_true rfl) ?_
    have ho9 := (mm_Xt.fr hx9) ou 2 _ (by decide) ho
    refine lv_i2l (pc := 12) (v := (nI (T.pc t + 1)).toInt64) F.1 F.2.1 dL_addPart_12 (rfl) ?_
    refine mm_last (pc := 13) F hN (ho9) (j := 0) (rfl) (by decide) (by decide) dL_addPart_13 (fun H locs hN => ?_)
    have hN : mm_N b D s (mm_u σ9 ou (mm_arj 2 1 1 (va_up g 0 ((nI (T.pc t + 1)).toInt64)))) _ _ := hN
    refine lv_goto (pc := 14) (tgt := 29) F.1 F.2.1 dL_addPart_14 (by decide) ?_
    refine lv_iconst (pc := 29) (v := nI 0) F.1 F.2.1 dL_addPart_29 (by decide) ?_
    exact mm_iret (pc := 30) F hr hN (⟨by rw [hq], mm_Wl_ok hx9 ho (if_pos hq) rfl⟩) (Nat.le_of_ble_eq_true rfl) (Nat.le_of_ble_eq_true rfl) dL_addPart_30

set_option maxHeartbeats 4000000 in
set_option maxRecDepth 100000 in
theorem w_join (l : Launch) (b : Nat) (D : mm_D) (hst : l.stackTraces = false) (T : mm_T) (z : mm_Z) (ad : Nat → Nat → Nat → Nat) (σ : mm_S) (hX : mm_X σ T z ad) (hW : mm_WF T) (a : Nat) (za : a < 2 ^ 32) (o2 : Nat) (zo2 : o2 < 2 ^ 32) (ou : Nat) (g : Nat → Int64) (ho : σ ou = mm_arj 2 1 1 g) : mm_K l b D yL_join (.codeWith yL_join cL_join 5 (some .int) [(0, 10, 13, 21), (0, 10, 17, 13)]) ({ frames := 9, cells := 8, slots := 60, locals := 260 } : Room) [.ref ((ad 0 0 0)), .int (nI a), .int (nI o2), .ref ou] σ
    (fun v σ2 => v = some (.int (nI (mm_q_join T a o2))) ∧ mm_Wl σ σ2 (if mm_q_join T a o2 = 0 then (mm_t_join T a o2) else T) (ad 0 0 0) ou (mm_q_join T a o2) ((nI (mm_sm (fun p => if T.ho p = o2 then 1 else 0) T.nP)).toInt64))
    (fun _ _ => False) := by
  refine mm_ofX (cc := cL_join) (nL := 5) (ret := some .int) (by decide) rfl (Nat.le_of_ble_eq_true rfl) hst ?_
  intro p e s m args below meth c ls F ht hr hN hl
  have hl : lv_has ls 5 [(0, .ref ((ad 0 0 0))), (1, .int (nI a)), (2, .int (nI o2)), (3, .ref ou)] := hl
  refine lv_aload_n (pc := 0) F.1 F.2.1 dL_join_0 rfl (lv_at hl 3 rfl) ?_
  refine lv_iconst (pc := 1) (v := nI 0) F.1 F.2.1 dL_join_1 (by decide) ?_
  refine lv_aload_n (pc := 2) F.1 F.2.1 dL_join_2 rfl (lv_at hl 0 rfl) ?_
  refine lv_iload_n (pc := 3) F.1 F.2.1 dL_join_3 rfl (lv_at hl 1 rfl) ?_
  refine lv_iload_n (pc := 4) F.1 F.2.1 dL_join_4 rfl (lv_at hl 2 rfl) ?_
  refine mm_runV (pc := 5) (As := [.int (nI a), .int (nI o2)]) (rest := [.int (nI 0), .ref ou]) F hN (a_join l b D hst T z ad σ hX hW a za o2 zo2) mw_448 mw_449 mw_450 mw_1 mw_451 ⟨pmX6_join, (Nat.le_of_ble_eq_true rfl), (Nat.le_of_ble_eq_true rfl)⟩ (mm_recv F.2.2.2.2.2.1 hN (mm_X0 hX) rfl) hl.1 rfl (Nat.le_of_ble_eq_true rfl) ⟨(Nat.le_of_ble_eq_true rfl), (Nat.le_of_ble_eq_true rfl)⟩ dL_join_5
    (fun E9 σ9 H locs q9 ce9 hp9 hN hq9 hv9 hcl9 => ?_) (fun v9 σ9 H locs hp9 hN => ?_)
  ·
    obtain ⟨hq, hx9⟩ := hp9
    rcases hq with ⟨hq, rfl⟩ | ⟨hq, rfl⟩
    ·
      refine mm_catch F hN [] ⟨0, 10, 13, 21⟩ [⟨0, 10, 17, 13⟩] ht (fun _ h => absurd h List.not_mem_nil) (by decide) (by decide) mw_424 mw_458 hq9 hv9 hcl9 ?_
      refine W.eq (g2 := F0 m 13 ls [.ref q9]) rfl ?_
      refine W.widen (k := 8) (n := 60) (Nat.le_of_ble_eq_true rfl) (Nat.le_of_ble_eq_true rfl) ?_
      refine lv_astore (pc := 13) (lv' := [(4, .ref q9), (0, .ref ((ad 0 0 0))), (1, .int (nI a)), (2, .int (nI o2)), (3, .ref ou)]) F.1 F.2.1 dL_join_13 hl (by decide) rfl (fun ls hl => ?_)
      refine lv_iconst (pc := 15) (v := nI 1) F.1 F.2.1 dL_join_15 (by decide) ?_
      exact mm_iret (pc := 16) F hr hN (⟨by rw [hq], mm_Wl_no hx9 ho (if_neg (by rw [hq]; decide)) (by rw [hq]; decide)⟩) (Nat.le_of_ble_eq_true rfl) (Nat.le_of_ble_eq_true rfl) dL_join_16
    ·
      refine mm_catch F hN [⟨0, 10, 13, 21⟩] ⟨0, 10, 17, 13⟩ [] ht (List.forall_mem_cons.mpr ⟨⟨by decide, _, mw_424, List.mem_of_getElem? (i := 1) rfl⟩, fun _ h => absurd h List.not_mem_nil⟩) (by decide) (by decide) mw_235 mw_243 hq9 hv9 hcl9 ?_
      refine W.eq (g2 := F0 m 17 ls [.ref q9]) rfl ?_
      refine W.widen (k := 8) (n := 60) (Nat.le_of_ble_eq_true rfl) (Nat.le_of_ble_eq_true rfl) ?_
      refine lv_astore (pc := 17) (lv' := [(4, .ref q9), (0, .ref ((ad 0 0 0))), (1, .int (nI a)), (2, .int (nI o2)), (3, .ref ou)]) F.1 F.2.1 dL_join_17 hl (by decide) rfl (fun ls hl => ?_)
      refine lv_iconst (pc := 19) (v := nI 2) F.1 F.2.1 dL_join_19 (by decide) ?_
      exact mm_iret (pc := 20) F hr hN (⟨by rw [hq], mm_Wl_no hx9 ho (if_neg (by rw [hq]; decide)) (by rw [hq]; decide)⟩) (Nat.le_of_ble_eq_true rfl) (Nat.le_of_ble_eq_true rfl) dL_join_20
  ·
    obtain ⟨hq, rfl, hx9⟩ := hp9
    refine W.eq (g2 := F0 m 8 ls [.int (nI (mm_sm (fun p => if T.ho p = o2 then 1 else 0) T.nP)), .int (nI 0), .ref ou]) rfl ?_
    refine W.widen (k := 8) (n := 60) (Nat.le_of_ble_eq_true rfl) (Nat.le_of_ble_eq_true rfl) ?_
    have ho9 := (mm_Xt.fr hx9) ou 2 _ (by decide) ho
    refine lv_i2l (pc := 8) (v := (nI (mm_sm (fun p => if T.ho p = o2 then 1 else 0) T.nP)).toInt64) F.1 F.2.1 dL_join_8 (rfl) ?_
    refine mm_last (pc := 9) F hN (ho9) (j := 0) (rfl) (by decide) (by decide) dL_join_9 (fun H locs hN => ?_)
    have hN : mm_N b D s (mm_u σ9 ou (mm_arj 2 1 1 (va_up g 0 ((nI (mm_sm (fun p => if T.ho p = o2 then 1 else 0) T.nP)).toInt64)))) _ _ := hN
    refine lv_goto (pc := 10) (tgt := 21) F.1 F.2.1 dL_join_10 (by decide) ?_
    refine lv_iconst (pc := 21) (v := nI 0) F.1 F.2.1 dL_join_21 (by decide) ?_
    exact mm_iret (pc := 22) F hr hN (⟨by rw [hq], mm_Wl_ok hx9 ho (if_pos hq) rfl⟩) (Nat.le_of_ble_eq_true rfl) (Nat.le_of_ble_eq_true rfl) dL_join_22

set_option maxHeartbeats 4000000 in
set_option maxRecDepth 100000 in
theorem w_preview (l : Launch) (b : Nat) (D : mm_D) (hst : l.stackTraces = false) (T : mm_T) (z : mm_Z) (ad : Nat → Nat → Nat → Nat) (σ : mm_S) (hX : mm_X σ T z ad) (hW : mm_WF T) (t : Nat) (zt : t < 2 ^ 32) (hh : Nat) (zhh : hh < 2) (i : Nat) (zi : i < 2 ^ 32) (ou : Nat) (g : Nat → Int64) (ho : σ ou = mm_arj 2 1 1 g) : mm_K l b D yL_preview (.codeWith yL_preview cL_preview 6 (some .int) [(0, 12, 15, 21)]) ({ frames := 9, cells := 6, slots := 40, locals := 260 } : Room) [.ref ((ad 0 0 0)), .int (nI t), .int (nI hh), .int (nI i), .ref ou] σ
    (fun v σ2 => v = some (.int (nI (mm_q_preview T t hh i))) ∧ mm_Wl σ σ2 (if mm_q_preview T t hh i = 0 then (T) else T) (ad 0 0 0) ou (mm_q_preview T t hh i) ((nI (mm_oc T t hh i)).toInt64))
    (fun _ _ => False) := by
  refine mm_ofX (cc := cL_preview) (nL := 6) (ret := some .int) (by decide) rfl (Nat.le_of_ble_eq_true rfl) hst ?_
  intro p e s m args below meth c ls F ht hr hN hl
  have hl : lv_has ls 6 [(0, .ref ((ad 0 0 0))), (1, .int (nI t)), (2, .int (nI hh)), (3, .int (nI i)), (4, .ref ou)] := hl
  refine lv_aload (pc := 0) F.1 F.2.1 dL_preview_0 (lv_at hl 4 rfl) ?_
  refine lv_iconst (pc := 2) (v := nI 0) F.1 F.2.1 dL_preview_2 (by decide) ?_
  refine lv_aload_n (pc := 3) F.1 F.2.1 dL_preview_3 rfl (lv_at hl 0 rfl) ?_
  refine lv_iload_n (pc := 4) F.1 F.2.1 dL_preview_4 rfl (lv_at hl 1 rfl) ?_
  refine lv_iload_n (pc := 5) F.1 F.2.1 dL_preview_5 rfl (lv_at hl 2 rfl) ?_
  refine lv_iload_n (pc := 6) F.1 F.2.1 dL_preview_6 rfl (lv_at hl 3 rfl) ?_
  refine mm_runV (pc := 7) (As := [.int (nI t), .int (nI hh), .int (nI i)]) (rest := [.int (nI 0), .ref ou]) F hN (a_preview l b D hst T z ad σ hX hW t zt hh zhh i zi) mw_991 mw_992 mw_993 mw_1 mw_994 ⟨pmX6_preview, (Nat.le_of_ble_eq_true rfl), (Nat.le_of_ble_eq_true rfl)⟩ (mm_recv F.2.2.2.2.2.1 hN (mm_X0 hX) rfl) hl.1 rfl (Nat.le_of_ble_eq_true rfl) ⟨(Nat.le_of_ble_eq_true rfl), (Nat.le_of_ble_eq_true rfl)⟩ dL_preview_7
    (fun E9 σ9 H locs q9 ce9 hp9 hN hq9 hv9 hcl9 => ?_) (fun v9 σ9 H locs hp9 hN => ?_)
  ·
    obtain ⟨hq, hx9⟩ := hp9
    obtain ⟨hq, rfl⟩ := hq
    refine mm_catch F hN [] ⟨0, 12, 15, 21⟩ [] ht (fun _ h => absurd h List.not_mem_nil) (by decide) (by decide) mw_424 mw_458 hq9 hv9 hcl9 ?_
    refine W.eq (g2 := F0 m 15 ls [.ref q9]) rfl ?_
    refine W.widen (k := 6) (n := 40) (Nat.le_of_ble_eq_true rfl) (Nat.le_of_ble_eq_true rfl) ?_
    refine lv_astore (pc := 15) (lv' := [(5, .ref q9), (0, .ref ((ad 0 0 0))), (1, .int (nI t)), (2, .int (nI hh)), (3, .int (nI i)), (4, .ref ou)]) F.1 F.2.1 dL_preview_15 hl (by decide) rfl (fun ls hl => ?_)
    refine lv_iconst (pc := 17) (v := nI 1) F.1 F.2.1 dL_preview_17 (by decide) ?_
    exact mm_iret (pc := 18) F hr hN (⟨by rw [hq], mm_Wl_no hx9 ho (if_neg (by rw [hq]; decide)) (by rw [hq]; decide)⟩) (Nat.le_of_ble_eq_true rfl) (Nat.le_of_ble_eq_true rfl) dL_preview_18
  ·
    obtain ⟨hq, rfl, hx9⟩ := hp9
    refine W.eq (g2 := F0 m 10 ls [.int (nI (mm_oc T t hh i)), .int (nI 0), .ref ou]) rfl ?_
    refine W.widen (k := 6) (n := 40) (Nat.le_of_ble_eq_true rfl) (Nat.le_of_ble_eq_true rfl) ?_
    have ho9 := (mm_Xt.fr hx9) ou 2 _ (by decide) ho
    refine lv_i2l (pc := 10) (v := (nI (mm_oc T t hh i)).toInt64) F.1 F.2.1 dL_preview_10 (rfl) ?_
    refine mm_last (pc := 11) F hN (ho9) (j := 0) (rfl) (by decide) (by decide) dL_preview_11 (fun H locs hN => ?_)
    have hN : mm_N b D s (mm_u σ9 ou (mm_arj 2 1 1 (va_up g 0 ((nI (mm_oc T t hh i)).toInt64)))) _ _ := hN
    refine lv_goto (pc := 12) (tgt := 19) F.1 F.2.1 dL_preview_12 (by decide) ?_
    refine lv_iconst (pc := 19) (v := nI 0) F.1 F.2.1 dL_preview_19 (by decide) ?_
    exact mm_iret (pc := 20) F hr hN (⟨by rw [hq], mm_Wl_ok hx9 ho (if_pos hq) rfl⟩) (Nat.le_of_ble_eq_true rfl) (Nat.le_of_ble_eq_true rfl) dL_preview_20

set_option maxHeartbeats 4000000 in
set_option maxRecDepth 100000 in
theorem w_previewAlone (l : Launch) (b : Nat) (D : mm_D) (hst : l.stackTraces = false) (T : mm_T) (z : mm_Z) (ad : Nat → Nat → Nat → Nat) (σ : mm_S) (hX : mm_X σ T z ad) (hW : mm_WF T) (t : Nat) (zt : t < 2 ^ 32) (hh : Nat) (zhh : hh < 2) (i : Nat) (zi : i < 2 ^ 32) (ou : Nat) (g : Nat → Int64) (ho : σ ou = mm_arj 2 1 1 g) : mm_K l b D yL_previewAlone (.codeWith yL_previewAlone cL_previewAlone 6 (some .int) [(0, 12, 15, 21)]) ({ frames := 9, cells := 6, slots := 40, locals := 260 } : Room) [.ref ((ad 0 0 0)), .int (nI t), .int (nI hh), .int (nI i), .ref ou] σ
    (fun v σ2 => v = some (.int (nI (mm_q_previewAlone T t hh i))) ∧ mm_Wl σ σ2 (if mm_q_previewAlone T t hh i = 0 then (T) else T) (ad 0 0 0) ou (mm_q_previewAlone T t hh i) ((nI (mm_oc T t hh i)).toInt64))
    (fun _ _ => False) := by
  refine mm_ofX (cc := cL_previewAlone) (nL := 6) (ret := some .int) (by decide) rfl (Nat.le_of_ble_eq_true rfl) hst ?_
  intro p e s m args below meth c ls F ht hr hN hl
  have hl : lv_has ls 6 [(0, .ref ((ad 0 0 0))), (1, .int (nI t)), (2, .int (nI hh)), (3, .int (nI i)), (4, .ref ou)] := hl
  refine lv_aload (pc := 0) F.1 F.2.1 dL_previewAlone_0 (lv_at hl 4 rfl) ?_
  refine lv_iconst (pc := 2) (v := nI 0) F.1 F.2.1 dL_previewAlone_2 (by decide) ?_
  refine lv_aload_n (pc := 3) F.1 F.2.1 dL_previewAlone_3 rfl (lv_at hl 0 rfl) ?_
  refine lv_iload_n (pc := 4) F.1 F.2.1 dL_previewAlone_4 rfl (lv_at hl 1 rfl) ?_
  refine lv_iload_n (pc := 5) F.1 F.2.1 dL_previewAlone_5 rfl (lv_at hl 2 rfl) ?_
  refine lv_iload_n (pc := 6) F.1 F.2.1 dL_previewAlone_6 rfl (lv_at hl 3 rfl) ?_
  refine mm_runV (pc := 7) (As := [.int (nI t), .int (nI hh), .int (nI i)]) (rest := [.int (nI 0), .ref ou]) F hN (a_previewAlone l b D hst T z ad σ hX hW t zt hh zhh i zi) mw_998 mw_999 mw_1000 mw_1 mw_1001 ⟨pmX6_previewAlone, (Nat.le_of_ble_eq_true rfl), (Nat.le_of_ble_eq_true rfl)⟩ (mm_recv F.2.2.2.2.2.1 hN (mm_X0 hX) rfl) hl.1 rfl (Nat.le_of_ble_eq_true rfl) ⟨(Nat.le_of_ble_eq_true rfl), (Nat.le_of_ble_eq_true rfl)⟩ dL_previewAlone_7
    (fun E9 σ9 H locs q9 ce9 hp9 hN hq9 hv9 hcl9 => ?_) (fun v9 σ9 H locs hp9 hN => ?_)
  ·
    obtain ⟨hq, hx9⟩ := hp9
    obtain ⟨hq, rfl⟩ := hq
    refine mm_catch F hN [] ⟨0, 12, 15, 21⟩ [] ht (fun _ h => absurd h List.not_mem_nil) (by decide) (by decide) mw_424 mw_458 hq9 hv9 hcl9 ?_
    refine W.eq (g2 := F0 m 15 ls [.ref q9]) rfl ?_
    refine W.widen (k := 6) (n := 40) (Nat.le_of_ble_eq_true rfl) (Nat.le_of_ble_eq_true rfl) ?_
    refine lv_astore (pc := 15) (lv' := [(5, .ref q9), (0, .ref ((ad 0 0 0))), (1, .int (nI t)), (2, .int (nI hh)), (3, .int (nI i)), (4, .ref ou)]) F.1 F.2.1 dL_previewAlone_15 hl (by decide) rfl (fun ls hl => ?_)
    refine lv_iconst (pc := 17) (v := nI 1) F.1 F.2.1 dL_previewAlone_17 (by decide) ?_
    exact mm_iret (pc := 18) F hr hN (⟨by rw [hq], mm_Wl_no hx9 ho (if_neg (by rw [hq]; decide)) (by rw [hq]; decide)⟩) (Nat.le_of_ble_eq_true rfl) (Nat.le_of_ble_eq_true rfl) dL_previewAlone_18
  ·
    obtain ⟨hq, rfl, hx9⟩ := hp9
    refine W.eq (g2 := F0 m 10 ls [.int (nI (mm_oc T t hh i)), .int (nI 0), .ref ou]) rfl ?_
    refine W.widen (k := 6) (n := 40) (Nat.le_of_ble_eq_true rfl) (Nat.le_of_ble_eq_true rfl) ?_
    have ho9 := (mm_Xt.fr hx9) ou 2 _ (by decide) ho
    refine lv_i2l (pc := 10) (v := (nI (mm_oc T t hh i)).toInt64) F.1 F.2.1 dL_previewAlone_10 (rfl) ?_
    refine mm_last (pc := 11) F hN (ho9) (j := 0) (rfl) (by decide) (by decide) dL_previewAlone_11 (fun H locs hN => ?_)
    have hN : mm_N b D s (mm_u σ9 ou (mm_arj 2 1 1 (va_up g 0 ((nI (mm_oc T t hh i)).toInt64)))) _ _ := hN
    refine lv_goto (pc := 12) (tgt := 19) F.1 F.2.1 dL_previewAlone_12 (by decide) ?_
    refine lv_iconst (pc := 19) (v := nI 0) F.1 F.2.1 dL_previewAlone_19 (by decide) ?_
    exact mm_iret (pc := 20) F hr hN (⟨by rw [hq], mm_Wl_ok hx9 ho (if_pos hq) rfl⟩) (Nat.le_of_ble_eq_true rfl) (Nat.le_of_ble_eq_true rfl) dL_previewAlone_20

set_option maxHeartbeats 4000000 in
set_option maxRecDepth 100000 in
theorem w_meanPages (l : Launch) (b : Nat) (D : mm_D) (hst : l.stackTraces = false) (T : mm_T) (z : mm_Z) (ad : Nat → Nat → Nat → Nat) (σ : mm_S) (hX : mm_X σ T z ad) (hW : mm_WF T) (ou : Nat) (g : Nat → UInt64) (ho : σ ou = mm_ard 2 2 1 g) : mm_K l b D yL_meanPages (.codeWith yL_meanPages cL_meanPages 3 (some .int) [(0, 7, 10, 114)]) ({ frames := 9, cells := 6, slots := 40, locals := 260 } : Room) [.ref ((ad 0 0 0)), .ref ou] σ
    (fun v σ2 => v = some (.int (nI (mm_q_meanPages T))) ∧ mm_Wd2 σ σ2 (if mm_q_meanPages T = 0 then (T) else T) (ad 0 0 0) ou (mm_q_meanPages T) (FP.ddiv (FP.i2d (nI (mm_sm (mm_s0 T) T.nR))) (FP.i2d (nI (mm_sm (mm_nl T) T.nR)))))
    (fun _ _ => False) := by
  refine mm_ofX (cc := cL_meanPages) (nL := 3) (ret := some .int) (by decide) rfl (Nat.le_of_ble_eq_true rfl) hst ?_
  intro p e s m args below meth c ls F ht hr hN hl
  have hl : lv_has ls 3 [(0, .ref ((ad 0 0 0))), (1, .ref ou)] := hl
  refine lv_aload_n (pc := 0) F.1 F.2.1 dL_meanPages_0 rfl (lv_at hl 1 rfl) ?_
  refine lv_iconst (pc := 1) (v := nI 0) F.1 F.2.1 dL_meanPages_1 (by decide) ?_
  refine lv_aload_n (pc := 2) F.1 F.2.1 dL_meanPages_2 rfl (lv_at hl 0 rfl) ?_
  refine mm_runV (pc := 3) (As := []) (rest := [.int (nI 0), .ref ou]) F hN (a_meanPages l b D hst T z ad σ hX hW) mw_1159 mw_1160 mw_1161 mw_1 mw_1162 ⟨pmX6_meanPages, (Nat.le_of_ble_eq_true rfl), (Nat.le_of_ble_eq_true rfl)⟩ (mm_recv F.2.2.2.2.2.1 hN (mm_X0 hX) rfl) hl.1 rfl (Nat.le_of_ble_eq_true rfl) ⟨(Nat.le_of_ble_eq_true rfl), (Nat.le_of_ble_eq_true rfl)⟩ dL_meanPages_3
    (fun E9 σ9 H locs q9 ce9 hp9 hN hq9 hv9 hcl9 => ?_) (fun v9 σ9 H locs hp9 hN => ?_)
  ·
    obtain ⟨hq, hx9⟩ := hp9
    obtain ⟨hq, rfl⟩ := hq
    refine mm_catch F hN [] ⟨0, 7, 10, 114⟩ [] ht (fun _ h => absurd h List.not_mem_nil) (by decide) (by decide) mw_1131 mw_1143 hq9 hv9 hcl9 ?_
    refine W.eq (g2 := F0 m 10 ls [.ref q9]) rfl ?_
    refine W.widen (k := 6) (n := 40) (Nat.le_of_ble_eq_true rfl) (Nat.le_of_ble_eq_true rfl) ?_
    refine lv_astore_n (pc := 10) (lv' := [(2, .ref q9), (0, .ref ((ad 0 0 0))), (1, .ref ou)]) F.1 F.2.1 dL_meanPages_10 rfl hl (by decide) rfl (fun ls hl => ?_)
    refine lv_iconst (pc := 11) (v := nI 1) F.1 F.2.1 dL_meanPages_11 (by decide) ?_
    exact mm_iret (pc := 12) F hr hN (⟨by rw [hq], mm_Wd_no hx9 ho (if_neg (by rw [hq]; decide)) (by rw [hq]; decide)⟩) (Nat.le_of_ble_eq_true rfl) (Nat.le_of_ble_eq_true rfl) dL_meanPages_12
  ·
    obtain ⟨hq, rfl, hx9⟩ := hp9
    refine W.eq (g2 := F0 m 6 ls [.double (FP.ddiv (FP.i2d (nI (mm_sm (mm_s0 T) T.nR))) (FP.i2d (nI (mm_sm (mm_nl T) T.nR)))), .int (nI 0), .ref ou]) rfl ?_
    refine W.widen (k := 6) (n := 40) (Nat.le_of_ble_eq_true rfl) (Nat.le_of_ble_eq_true rfl) ?_
    have ho9 := (mm_Xt.fr hx9) ou 2 _ (by decide) ho
    refine mm_dast (pc := 6) F hN (ho9) (j := 0) (rfl) (by decide) (by decide) dL_meanPages_6 (fun H locs hN => ?_)
    have hN : mm_N b D s (mm_u σ9 ou (mm_ard 2 2 1 (va_up g 0 (FP.ddiv (FP.i2d (nI (mm_sm (mm_s0 T) T.nR))) (FP.i2d (nI (mm_sm (mm_nl T) T.nR))))))) _ _ := hN
    refine lv_goto (pc := 7) (tgt := 13) F.1 F.2.1 dL_meanPages_7 (by decide) ?_
    refine lv_iconst (pc := 13) (v := nI 0) F.1 F.2.1 dL_meanPages_13 (by decide) ?_
    exact mm_iret (pc := 14) F hr hN (⟨by rw [hq], mm_Wd_ok hx9 ho (if_pos hq) rfl⟩) (Nat.le_of_ble_eq_true rfl) (Nat.le_of_ble_eq_true rfl) dL_meanPages_14

set_option maxHeartbeats 4000000 in
set_option maxRecDepth 100000 in
theorem w_run (l : Launch) (b : Nat) (D : mm_D) (hst : l.stackTraces = false) (T : mm_T) (z : mm_Z) (ad : Nat → Nat → Nat → Nat) (σ : mm_S) (hX : mm_X σ T z ad) (hW : mm_WF T) (t : Nat) (zt : t < 2 ^ 32) (hh : Nat) (zhh : hh < 2) (ou : Nat) (g : Nat → Int64) (ho : σ ou = mm_arj 2 1 1 g) : mm_K l b D yL_run (.codeWith yL_run cL_run 5 (some .int) [(0, 10, 13, 21), (0, 10, 17, 15)]) ({ frames := 10, cells := 100, slots := 9000, locals := 300 } : Room) [.ref ((ad 0 0 0)), .int (nI t), .int (nI hh), .ref ou] σ
    (fun v σ2 => v = some (.int (nI (mm_q_run T t hh))) ∧ mm_Wl σ σ2 (if mm_q_run T t hh = 0 then (mm_t_run T t hh) else T) (ad 0 0 0) ou (mm_q_run T t hh) ((nI (T.nR)).toInt64))
    (fun _ _ => False) := by
  refine mm_ofX (cc := cL_run) (nL := 5) (ret := some .int) (by decide) rfl (Nat.le_of_ble_eq_true rfl) hst ?_
  intro p e s m args below meth c ls F ht hr hN hl
  have hl : lv_has ls 5 [(0, .ref ((ad 0 0 0))), (1, .int (nI t)), (2, .int (nI hh)), (3, .ref ou)] := hl
  refine lv_aload_n (pc := 0) F.1 F.2.1 dL_run_0 rfl (lv_at hl 3 rfl) ?_
  refine lv_iconst (pc := 1) (v := nI 0) F.1 F.2.1 dL_run_1 (by decide) ?_
  refine lv_aload_n (pc := 2) F.1 F.2.1 dL_run_2 rfl (lv_at hl 0 rfl) ?_
  refine lv_iload_n (pc := 3) F.1 F.2.1 dL_run_3 rfl (lv_at hl 1 rfl) ?_
  refine lv_iload_n (pc := 4) F.1 F.2.1 dL_run_4 rfl (lv_at hl 2 rfl) ?_
  refine mm_runV (pc := 5) (As := [.int (nI t), .int (nI hh)]) (rest := [.int (nI 0), .ref ou]) F hN (a_run l b D hst T z ad σ hX hW t zt hh zhh) mw_647 mw_648 mw_649 mw_1 mw_650 ⟨pmX6_run, (Nat.le_of_ble_eq_true rfl), (Nat.le_of_ble_eq_true rfl)⟩ (mm_recv F.2.2.2.2.2.1 hN (mm_X0 hX) rfl) hl.1 rfl (Nat.le_of_ble_eq_true rfl) ⟨(Nat.le_of_ble_eq_true rfl), (Nat.le_of_ble_eq_true rfl)⟩ dL_run_5
    (fun E9 σ9 H locs q9 ce9 hp9 hN hq9 hv9 hcl9 => ?_) (fun v9 σ9 H locs hp9 hN => ?_)
  ·
    obtain ⟨hq, hx9⟩ := hp9
    rcases hq with ⟨hq, rfl⟩ | ⟨hq, rfl⟩
    ·
      refine mm_catch F hN [] ⟨0, 10, 13, 21⟩ [⟨0, 10, 17, 15⟩] ht (fun _ h => absurd h List.not_mem_nil) (by decide) (by decide) mw_424 mw_458 hq9 hv9 hcl9 ?_
      refine W.eq (g2 := F0 m 13 ls [.ref q9]) rfl ?_
      refine W.widen (k := 100) (n := 9000) (Nat.le_of_ble_eq_true rfl) (Nat.le_of_ble_eq_true rfl) ?_
      refine lv_astore (pc := 13) (lv' := [(4, .ref q9), (0, .ref ((ad 0 0 0))), (1, .int (nI t)), (2, .int (nI hh)), (3, .ref ou)]) F.1 F.2.1 dL_run_13 hl (by decide) rfl (fun ls hl => ?_)
      refine lv_iconst (pc := 15) (v := nI 1) F.1 F.2.1 dL_run_15 (by decide) ?_
      exact mm_iret (pc := 16) F hr hN (⟨by rw [hq], mm_Wl_no hx9 ho (if_neg (by rw [hq]; decide)) (by rw [hq]; decide)⟩) (Nat.le_of_ble_eq_true rfl) (Nat.le_of_ble_eq_true rfl) dL_run_16
    ·
      refine mm_catch F hN [⟨0, 10, 13, 21⟩] ⟨0, 10, 17, 15⟩ [] ht (List.forall_mem_cons.mpr ⟨⟨by decide, _, mw_424, List.mem_of_getElem? (i := 5) rfl⟩, fun _ h => absurd h List.not_mem_nil⟩) (by decide) (by decide) mw_236 mw_314 hq9 hv9 hcl9 ?_
      refine W.eq (g2 := F0 m 17 ls [.ref q9]) rfl ?_
      refine W.widen (k := 100) (n := 9000) (Nat.le_of_ble_eq_true rfl) (Nat.le_of_ble_eq_true rfl) ?_
      refine lv_astore (pc := 17) (lv' := [(4, .ref q9), (0, .ref ((ad 0 0 0))), (1, .int (nI t)), (2, .int (nI hh)), (3, .ref ou)]) F.1 F.2.1 dL_run_17 hl (by decide) rfl (fun ls hl => ?_)
      refine lv_iconst (pc := 19) (v := nI 2) F.1 F.2.1 dL_run_19 (by decide) ?_
      exact mm_iret (pc := 20) F hr hN (⟨by rw [hq], mm_Wl_no hx9 ho (if_neg (by rw [hq]; decide)) (by rw [hq]; decide)⟩) (Nat.le_of_ble_eq_true rfl) (Nat.le_of_ble_eq_true rfl) dL_run_20
  ·
    obtain ⟨hq, rfl, hx9⟩ := hp9
    refine W.eq (g2 := F0 m 8 ls [.int (nI (T.nR)), .int (nI 0), .ref ou]) rfl ?_
    refine W.widen (k := 100) (n := 9000) (Nat.le_of_ble_eq_true rfl) (Nat.le_of_ble_eq_true rfl) ?_
    have ho9 := (mm_Xt.fr hx9) ou 2 _ (by decide) ho
    refine lv_i2l (pc := 8) (v := (nI (T.nR)).toInt64) F.1 F.2.1 dL_run_8 (rfl) ?_
    refine mm_last (pc := 9) F hN (ho9) (j := 0) (rfl) (by decide) (by decide) dL_run_9 (fun H locs hN => ?_)
    have hN : mm_N b D s (mm_u σ9 ou (mm_arj 2 1 1 (va_up g 0 ((nI (T.nR)).toInt64)))) _ _ := hN
    refine lv_goto (pc := 10) (tgt := 21) F.1 F.2.1 dL_run_10 (by decide) ?_
    refine lv_iconst (pc := 21) (v := nI 0) F.1 F.2.1 dL_run_21 (by decide) ?_
    exact mm_iret (pc := 22) F hr hN (⟨by rw [hq], mm_Wl_ok hx9 ho (if_pos hq) rfl⟩) (Nat.le_of_ble_eq_true rfl) (Nat.le_of_ble_eq_true rfl) dL_run_22
