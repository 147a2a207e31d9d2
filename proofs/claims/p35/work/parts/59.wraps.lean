/-! the class's world for the law -/
def lq_V (σ : mm_S) (T : mm_T) (x0 : Nat) : Prop := ∃ (z : mm_Z) (ad : Nat → Nat → Nat → Nat), mm_X σ T z ad ∧ ad 0 0 0 = x0
theorem mm_Xt.v {σ σ2 : mm_S} {T' : mm_T} {x0 : Nat} (h : mm_Xt σ σ2 T' x0) : lq_V σ2 T' x0 := by
  obtain ⟨z, ad, h1, h2, -⟩ := h
  exact ⟨z, ad, h1, h2⟩
theorem lq_V.kept {σ σ' : mm_S} {T : mm_T} {x0 : Nat} (h : lq_V σ T x0) (hk : ∀ a e, σ a = some (0, e) → σ' a = some (0, e)) : lq_V σ' T x0 := by
  obtain ⟨z, ad, h1, h2⟩ := h
  exact ⟨z, ad, mm_X_kept h1 hk, h2⟩
theorem lq_V.o {σ : mm_S} {T : mm_T} {x0 : Nat} (h : lq_V σ T x0) : ∃ fs : List Value, σ x0 = mm_obj 0 6 fs := by
  obtain ⟨z, ad, h1, rfl⟩ := h
  exact ⟨_, mm_X0 h1⟩

set_option maxHeartbeats 4000000 in
set_option maxRecDepth 100000 in
theorem e_address (l : Launch) (b : Nat) (D : mm_D) (hst : l.stackTraces = false) (T : mm_T) (x0 : Nat) (σ : mm_S) (hV : lq_V σ T x0) (hW : mm_WF T) (n : Nat) (zn : n < 2 ^ 32) : mm_K l b D yL_address (.codeWith yL_address cL_address 3 (some .int) [(0, 5, 6, 13), (0, 5, 11, 15)]) ({ frames := 9, cells := 6, slots := 300, locals := 260 } : Room) [.ref x0, .int (nI n)] σ
    (fun v σ2 => v = some (.int (lq_i (mm_q_addAddress T n) (T.nA))) ∧ mm_Xt σ σ2 (if mm_q_addAddress T n = 0 then (mm_t_addAddress T n) else T) x0)
    (fun _ _ => False) := by
  refine mm_ofX (cc := cL_address) (nL := 3) (ret := (some .int)) (by decide) rfl (Nat.le_of_ble_eq_true rfl) hst ?_
  intro p e s m args below meth c ls F ht hr hN hl
  have hl : lv_has ls 3 [(0, .ref x0), (1, .int (nI n))] := hl
  obtain ⟨z, ad, hX, rfl⟩ := hV
  refine lv_aload_n (pc := 0) F.1 F.2.1 dL_address_0 rfl (lv_at hl 0 rfl) ?_
  refine lv_iload_n (pc := 1) F.1 F.2.1 dL_address_1 rfl (lv_at hl 1 rfl) ?_
  refine mm_runV (pc := 2) (As := [.int (nI n)]) (rest := []) F hN (a_addAddress l b D hst T z ad σ hX hW n zn) mw_121 mw_122 mw_123 mw_1 mw_124 ⟨pmX6_addAddress, (Nat.le_of_ble_eq_true rfl), (Nat.le_of_ble_eq_true rfl)⟩ (mm_recv F.2.2.2.2.2.1 hN (mm_X0 hX) rfl) hl.1 rfl (Nat.le_of_ble_eq_true rfl) ⟨(Nat.le_of_ble_eq_true rfl), (Nat.le_of_ble_eq_true rfl)⟩ dL_address_2
    (fun E9 σ9 H locs q9 ce9 hp9 hN hq9 hv9 hcl9 => ?_) (fun v9 σ9 H locs hp9 hN => ?_)
  ·
    obtain ⟨hq, hx9⟩ := hp9
    rcases hq with ⟨hq, rfl⟩ | ⟨hq, rfl⟩
    ·
      refine lq_catch F hN [] ⟨0, 5, 6, 13⟩ [⟨0, 5, 11, 15⟩] ht (fun _ h => absurd h List.not_mem_nil) (by decide) (by decide) mw_119 mw_127 hq9 hv9 hcl9 ?_
      refine W.eq (g2 := F0 m 6 ls [.ref q9]) rfl ?_
      refine W.widen (k := 6) (n := 300) (Nat.le_of_ble_eq_true rfl) (Nat.le_of_ble_eq_true rfl) ?_
      refine lv_astore_n (pc := 6) (lv' := [(2, .ref q9), (0, .ref ((ad 0 0 0))), (1, .int (nI n))]) F.1 F.2.1 dL_address_6 rfl hl (by decide) rfl (fun ls hl => ?_)
      refine lv_sipush (pc := 7) (v := (-1001)) F.1 F.2.1 dL_address_7 (by decide) ?_
      exact mm_iret (pc := 10) F hr hN (⟨by rw [lq_i1 hq], hx9.eq (if_neg (by omega))⟩) (Nat.le_of_ble_eq_true rfl) (Nat.le_of_ble_eq_true rfl) dL_address_10
    ·
      refine lq_catch F hN [⟨0, 5, 6, 13⟩] ⟨0, 5, 11, 15⟩ [] ht (List.forall_mem_cons.mpr ⟨Or.inr ⟨by decide, _, mw_119, List.mem_of_getElem? (i := 4) rfl⟩, fun _ h => absurd h List.not_mem_nil⟩) (by decide) (by decide) mw_120 mw_202 hq9 hv9 hcl9 ?_
      refine W.eq (g2 := F0 m 11 ls [.ref q9]) rfl ?_
      refine W.widen (k := 6) (n := 300) (Nat.le_of_ble_eq_true rfl) (Nat.le_of_ble_eq_true rfl) ?_
      refine lv_astore_n (pc := 11) (lv' := [(2, .ref q9), (0, .ref ((ad 0 0 0))), (1, .int (nI n))]) F.1 F.2.1 dL_address_11 rfl hl (by decide) rfl (fun ls hl => ?_)
      refine lv_sipush (pc := 12) (v := (-1002)) F.1 F.2.1 dL_address_12 (by decide) ?_
      exact mm_iret (pc := 15) F hr hN (⟨by rw [lq_i2 hq], hx9.eq (if_neg (by omega))⟩) (Nat.le_of_ble_eq_true rfl) (Nat.le_of_ble_eq_true rfl) dL_address_15
  ·
    obtain ⟨hq, rfl, hx9⟩ := hp9
    refine W.eq (g2 := F0 m 5 ls [.int (nI (T.nA))]) rfl ?_
    refine W.widen (k := 6) (n := 300) (Nat.le_of_ble_eq_true rfl) (Nat.le_of_ble_eq_true rfl) ?_
    exact mm_iret (pc := 5) F hr hN (⟨by rw [lq_i0 hq], hx9.eq (if_pos hq)⟩) (Nat.le_of_ble_eq_true rfl) (Nat.le_of_ble_eq_true rfl) dL_address_5

set_option maxHeartbeats 4000000 in
set_option maxRecDepth 100000 in
theorem e_join (l : Launch) (b : Nat) (D : mm_D) (hst : l.stackTraces = false) (T : mm_T) (x0 : Nat) (σ : mm_S) (hV : lq_V σ T x0) (hW : mm_WF T) (a : Nat) (za : a < 2 ^ 32) (o2 : Nat) (zo2 : o2 < 2 ^ 32) : mm_K l b D yL_sets (.codeWith yL_sets cL_sets 5 (some .int) [(0, 51, 52, 30), (0, 51, 58, 13), (0, 51, 64, 15)]) ({ frames := 9, cells := 8, slots := 300, locals := 260 } : Room) [.ref x0, .int (nI 106), .int (nI a), .int (nI o2)] σ
    (fun v σ2 => v = some (.int (lq_i (mm_q_join T a o2) (mm_sm (fun p => if T.ho p = o2 then 1 else 0) T.nP))) ∧ mm_Xt σ σ2 (if mm_q_join T a o2 = 0 then (mm_t_join T a o2) else T) x0)
    (fun _ _ => False) := by
  refine mm_ofX (cc := cL_sets) (nL := 5) (ret := (some .int)) (by decide) rfl (Nat.le_of_ble_eq_true rfl) hst ?_
  intro p e s m args below meth c ls F ht hr hN hl
  have hl : lv_has ls 5 [(0, .ref x0), (1, .int (nI 106)), (2, .int (nI a)), (3, .int (nI o2))] := hl
  obtain ⟨z, ad, hX, rfl⟩ := hV
  refine lv_iload_n (pc := 0) F.1 F.2.1 dL_sets_0 rfl (lv_at hl 1 rfl) ?_
  refine lv_bipush (pc := 1) (v := nI 106) F.1 F.2.1 dL_sets_1 (by decide) ?_
  refine mm_icmp_ne (pc := 3) F (x := 106) (y := 106) (tgt := 15) (by omega) (by omega) dL_sets_3 (by decide) (fun h9 => absurd h9 (by decide)) (fun cz3 => ?_)
  refine lv_aload_n (pc := 6) F.1 F.2.1 dL_sets_6 rfl (lv_at hl 0 rfl) ?_
  refine lv_iload_n (pc := 7) F.1 F.2.1 dL_sets_7 rfl (lv_at hl 2 rfl) ?_
  refine lv_iload_n (pc := 8) F.1 F.2.1 dL_sets_8 rfl (lv_at hl 3 rfl) ?_
  refine mm_runV (pc := 9) (As := [.int (nI a), .int (nI o2)]) (rest := []) F hN (a_join l b D hst T z ad σ hX hW a za o2 zo2) mw_336 mw_337 mw_338 mw_1 mw_339 ⟨pmX6_join, (Nat.le_of_ble_eq_true rfl), (Nat.le_of_ble_eq_true rfl)⟩ (mm_recv F.2.2.2.2.2.1 hN (mm_X0 hX) rfl) hl.1 rfl (Nat.le_of_ble_eq_true rfl) ⟨(Nat.le_of_ble_eq_true rfl), (Nat.le_of_ble_eq_true rfl)⟩ dL_sets_9
    (fun E9 σ9 H locs q9 ce9 hp9 hN hq9 hv9 hcl9 => ?_) (fun v9 σ9 H locs hp9 hN => ?_)
  ·
    obtain ⟨hq, hx9⟩ := hp9
    rcases hq with ⟨hq, rfl⟩ | ⟨hq, rfl⟩
    ·
      refine lq_catch F hN [] ⟨0, 51, 52, 30⟩ [⟨0, 51, 58, 13⟩, ⟨0, 51, 64, 15⟩] ht (fun _ h => absurd h List.not_mem_nil) (by decide) (by decide) mw_312 mw_346 hq9 hv9 hcl9 ?_
      refine W.eq (g2 := F0 m 52 ls [.ref q9]) rfl ?_
      refine W.widen (k := 8) (n := 60) (Nat.le_of_ble_eq_true rfl) (Nat.le_of_ble_eq_true rfl) ?_
      refine lv_astore (pc := 52) (lv' := [(4, .ref q9), (0, .ref ((ad 0 0 0))), (1, .int (nI 106)), (2, .int (nI a)), (3, .int (nI o2))]) F.1 F.2.1 dL_sets_52 hl (by decide) rfl (fun ls hl => ?_)
      refine lv_sipush (pc := 54) (v := (-1001)) F.1 F.2.1 dL_sets_54 (by decide) ?_
      exact mm_iret (pc := 57) F hr hN (⟨by rw [lq_i1 hq], hx9.eq (if_neg (by omega))⟩) (Nat.le_of_ble_eq_true rfl) (Nat.le_of_ble_eq_true rfl) dL_sets_57
    ·
      refine lq_catch F hN [⟨0, 51, 52, 30⟩] ⟨0, 51, 58, 13⟩ [⟨0, 51, 64, 15⟩] ht (List.forall_mem_cons.mpr ⟨Or.inr ⟨by decide, _, mw_312, List.mem_of_getElem? (i := 1) rfl⟩, fun _ h => absurd h List.not_mem_nil⟩) (by decide) (by decide) mw_119 mw_127 hq9 hv9 hcl9 ?_
      refine W.eq (g2 := F0 m 58 ls [.ref q9]) rfl ?_
      refine W.widen (k := 8) (n := 60) (Nat.le_of_ble_eq_true rfl) (Nat.le_of_ble_eq_true rfl) ?_
      refine lv_astore (pc := 58) (lv' := [(4, .ref q9), (0, .ref ((ad 0 0 0))), (1, .int (nI 106)), (2, .int (nI a)), (3, .int (nI o2))]) F.1 F.2.1 dL_sets_58 hl (by decide) rfl (fun ls hl => ?_)
      refine lv_sipush (pc := 60) (v := (-1002)) F.1 F.2.1 dL_sets_60 (by decide) ?_
      exact mm_iret (pc := 63) F hr hN (⟨by rw [lq_i2 hq], hx9.eq (if_neg (by omega))⟩) (Nat.le_of_ble_eq_true rfl) (Nat.le_of_ble_eq_true rfl) dL_sets_63
  ·
    obtain ⟨hq, rfl, hx9⟩ := hp9
    refine W.eq (g2 := F0 m 12 ls [.int (nI (mm_sm (fun p => if T.ho p = o2 then 1 else 0) T.nP))]) rfl ?_
    refine W.widen (k := 8) (n := 60) (Nat.le_of_ble_eq_true rfl) (Nat.le_of_ble_eq_true rfl) ?_
    refine lv_goto (pc := 12) (tgt := 51) F.1 F.2.1 dL_sets_12 (by decide) ?_
    exact mm_iret (pc := 51) F hr hN (⟨by rw [lq_i0 hq], hx9.eq (if_pos hq)⟩) (Nat.le_of_ble_eq_true rfl) (Nat.le_of_ble_eq_true rfl) dL_sets_51

set_option maxHeartbeats 4000000 in
set_option maxRecDepth 100000 in
theorem e_flags (l : Launch) (b : Nat) (D : mm_D) (hst : l.stackTraces = false) (T : mm_T) (x0 : Nat) (σ : mm_S) (hV : lq_V σ T x0) (hW : mm_WF T) (i : Nat) (zi : i < 2 ^ 32) (f : Nat) (zf : f < 2 ^ 32) : mm_K l b D yL_sets (.codeWith yL_sets cL_sets 5 (some .int) [(0, 51, 52, 30), (0, 51, 58, 13), (0, 51, 64, 15)]) ({ frames := 9, cells := 8, slots := 300, locals := 260 } : Room) [.ref x0, .int (nI 102), .int (nI i), .int (nI f)] σ
    (fun v σ2 => v = some (.int (lq_i (mm_q_setFlags T i f) (T.fl i))) ∧ mm_Xt σ σ2 (if mm_q_setFlags T i f = 0 then (T.w 5 (mm_u2 (T 5) i 0 f)) else T) x0)
    (fun _ _ => False) := by
  refine mm_ofX (cc := cL_sets) (nL := 5) (ret := (some .int)) (by decide) rfl (Nat.le_of_ble_eq_true rfl) hst ?_
  intro p e s m args below meth c ls F ht hr hN hl
  have hl : lv_has ls 5 [(0, .ref x0), (1, .int (nI 102)), (2, .int (nI i)), (3, .int (nI f))] := hl
  obtain ⟨z, ad, hX, rfl⟩ := hV
  refine lv_iload_n (pc := 0) F.1 F.2.1 dL_sets_0 rfl (lv_at hl 1 rfl) ?_
  refine lv_bipush (pc := 1) (v := nI 106) F.1 F.2.1 dL_sets_1 (by decide) ?_
  refine mm_icmp_ne (pc := 3) F (x := 102) (y := 106) (tgt := 15) (by omega) (by omega) dL_sets_3 (by decide) (fun cz3 => ?_) (fun h9 => absurd h9 (by decide))
  refine lv_iload_n (pc := 15) F.1 F.2.1 dL_sets_15 rfl (lv_at hl 1 rfl) ?_
  refine lv_bipush (pc := 16) (v := nI 102) F.1 F.2.1 dL_sets_16 (by decide) ?_
  refine mm_icmp_ne (pc := 18) F (x := 102) (y := 102) (tgt := 30) (by omega) (by omega) dL_sets_18 (by decide) (fun h9 => absurd h9 (by decide)) (fun cz18 => ?_)
  refine lv_aload_n (pc := 21) F.1 F.2.1 dL_sets_21 rfl (lv_at hl 0 rfl) ?_
  refine lv_iload_n (pc := 22) F.1 F.2.1 dL_sets_22 rfl (lv_at hl 2 rfl) ?_
  refine lv_iload_n (pc := 23) F.1 F.2.1 dL_sets_23 rfl (lv_at hl 3 rfl) ?_
  refine mm_runV (pc := 24) (As := [.int (nI i), .int (nI f)]) (rest := []) F hN (a_setFlags l b D hst T z ad σ hX hW i zi f zf) mw_374 mw_375 mw_376 mw_1 mw_377 ⟨pmX6_setFlags, (Nat.le_of_ble_eq_true rfl), (Nat.le_of_ble_eq_true rfl)⟩ (mm_recv F.2.2.2.2.2.1 hN (mm_X0 hX) rfl) hl.1 rfl (Nat.le_of_ble_eq_true rfl) ⟨(Nat.le_of_ble_eq_true rfl), (Nat.le_of_ble_eq_true rfl)⟩ dL_sets_24
    (fun E9 σ9 H locs q9 ce9 hp9 hN hq9 hv9 hcl9 => ?_) (fun v9 σ9 H locs hp9 hN => ?_)
  ·
    obtain ⟨hq, hx9⟩ := hp9
    rcases hq with ⟨hq, rfl⟩ | ⟨hq, rfl⟩
    ·
      refine lq_catch F hN [] ⟨0, 51, 52, 30⟩ [⟨0, 51, 58, 13⟩, ⟨0, 51, 64, 15⟩] ht (fun _ h => absurd h List.not_mem_nil) (by decide) (by decide) mw_312 mw_346 hq9 hv9 hcl9 ?_
      refine W.eq (g2 := F0 m 52 ls [.ref q9]) rfl ?_
      refine W.widen (k := 6) (n := 40) (Nat.le_of_ble_eq_true rfl) (Nat.le_of_ble_eq_true rfl) ?_
      refine lv_astore (pc := 52) (lv' := [(4, .ref q9), (0, .ref ((ad 0 0 0))), (1, .int (nI 102)), (2, .int (nI i)), (3, .int (nI f))]) F.1 F.2.1 dL_sets_52 hl (by decide) rfl (fun ls hl => ?_)
      refine lv_sipush (pc := 54) (v := (-1001)) F.1 F.2.1 dL_sets_54 (by decide) ?_
      exact mm_iret (pc := 57) F hr hN (⟨by rw [lq_i1 hq], hx9.eq (if_neg (by omega))⟩) (Nat.le_of_ble_eq_true rfl) (Nat.le_of_ble_eq_true rfl) dL_sets_57
    ·
      refine lq_catch F hN [⟨0, 51, 52, 30⟩] ⟨0, 51, 58, 13⟩ [⟨0, 51, 64, 15⟩] ht (List.forall_mem_cons.mpr ⟨Or.inr ⟨by decide, _, mw_312, List.mem_of_getElem? (i := 1) rfl⟩, fun _ h => absurd h List.not_mem_nil⟩) (by decide) (by decide) mw_119 mw_127 hq9 hv9 hcl9 ?_
      refine W.eq (g2 := F0 m 58 ls [.ref q9]) rfl ?_
      refine W.widen (k := 6) (n := 40) (Nat.le_of_ble_eq_true rfl) (Nat.le_of_ble_eq_true rfl) ?_
      refine lv_astore (pc := 58) (lv' := [(4, .ref q9), (0, .ref ((ad 0 0 0))), (1, .int (nI 102)), (2, .int (nI i)), (3, .int (nI f))]) F.1 F.2.1 dL_sets_58 hl (by decide) rfl (fun ls hl => ?_)
      refine lv_sipush (pc := 60) (v := (-1002)) F.1 F.2.1 dL_sets_60 (by decide) ?_
      exact mm_iret (pc := 63) F hr hN (⟨by rw [lq_i2 hq], hx9.eq (if_neg (by omega))⟩) (Nat.le_of_ble_eq_true rfl) (Nat.le_of_ble_eq_true rfl) dL_sets_63
  ·
    obtain ⟨hq, rfl, hx9⟩ := hp9
    refine W.eq (g2 := F0 m 27 ls [.int (nI (T.fl i))]) rfl ?_
    refine W.widen (k := 6) (n := 40) (Nat.le_of_ble_eq_true rfl) (Nat.le_of_ble_eq_true rfl) ?_
    refine lv_goto (pc := 27) (tgt := 51) F.1 F.2.1 dL_sets_27 (by decide) ?_
    exact mm_iret (pc := 51) F hr hN (⟨by rw [lq_i0 hq], hx9.eq (if_pos hq)⟩) (Nat.le_of_ble_eq_true rfl) (Nat.le_of_ble_eq_true rfl) dL_sets_51

set_option maxHeartbeats 4000000 in
set_option maxRecDepth 100000 in
theorem e_move (l : Launch) (b : Nat) (D : mm_D) (hst : l.stackTraces = false) (T : mm_T) (x0 : Nat) (σ : mm_S) (hV : lq_V σ T x0) (hW : mm_WF T) (i : Nat) (zi : i < 2 ^ 32) (a : Nat) (za : a < 2 ^ 32) : mm_K l b D yL_sets (.codeWith yL_sets cL_sets 5 (some .int) [(0, 51, 52, 30), (0, 51, 58, 13), (0, 51, 64, 15)]) ({ frames := 9, cells := 8, slots := 300, locals := 260 } : Room) [.ref x0, .int (nI 109), .int (nI i), .int (nI a)] σ
    (fun v σ2 => v = some (.int (lq_i (mm_q_move T i a) (T.ho i))) ∧ mm_Xt σ σ2 (if mm_q_move T i a = 0 then ((T.w 4 (mm_u2 (T 4) i 0 a)).w 6 (mm_u2 (T 6) i 0 (if T.re i = 109 then 45 else T.re i))) else T) x0)
    (fun _ _ => False) := by
  refine mm_ofX (cc := cL_sets) (nL := 5) (ret := (some .int)) (by decide) rfl (Nat.le_of_ble_eq_true rfl) hst ?_
  intro p e s m args below meth c ls F ht hr hN hl
  have hl : lv_has ls 5 [(0, .ref x0), (1, .int (nI 109)), (2, .int (nI i)), (3, .int (nI a))] := hl
  obtain ⟨z, ad, hX, rfl⟩ := hV
  refine lv_iload_n (pc := 0) F.1 F.2.1 dL_sets_0 rfl (lv_at hl 1 rfl) ?_
  refine lv_bipush (pc := 1) (v := nI 106) F.1 F.2.1 dL_sets_1 (by decide) ?_
  refine mm_icmp_ne (pc := 3) F (x := 109) (y := 106) (tgt := 15) (by omega) (by omega) dL_sets_3 (by decide) (fun cz3 => ?_) (fun h9 => absurd h9 (by decide))
  refine lv_iload_n (pc := 15) F.1 F.2.1 dL_sets_15 rfl (lv_at hl 1 rfl) ?_
  refine lv_bipush (pc := 16) (v := nI 102) F.1 F.2.1 dL_sets_16 (by decide) ?_
  refine mm_icmp_ne (pc := 18) F (x := 109) (y := 102) (tgt := 30) (by omega) (by omega) dL_sets_18 (by decide) (fun cz18 => ?_) (fun h9 => absurd h9 (by decide))
  refine lv_iload_n (pc := 30) F.1 F.2.1 dL_sets_30 rfl (lv_at hl 1 rfl) ?_
  refine lv_bipush (pc := 31) (v := nI 109) F.1 F.2.1 dL_sets_31 (by decide) ?_
  refine mm_icmp_ne (pc := 33) F (x := 109) (y := 109) (tgt := 45) (by omega) (by omega) dL_sets_33 (by decide) (fun h9 => absurd h9 (by decide)) (fun cz33 => ?_)
  refine lv_aload_n (pc := 36) F.1 F.2.1 dL_sets_36 rfl (lv_at hl 0 rfl) ?_
  refine lv_iload_n (pc := 37) F.1 F.2.1 dL_sets_37 rfl (lv_at hl 2 rfl) ?_
  refine lv_iload_n (pc := 38) F.1 F.2.1 dL_sets_38 rfl (lv_at hl 3 rfl) ?_
  refine mm_runV (pc := 39) (As := [.int (nI i), .int (nI a)]) (rest := []) F hN (a_move l b D hst T z ad σ hX hW i zi a za) mw_387 mw_388 mw_389 mw_1 mw_390 ⟨pmX6_move, (Nat.le_of_ble_eq_true rfl), (Nat.le_of_ble_eq_true rfl)⟩ (mm_recv F.2.2.2.2.2.1 hN (mm_X0 hX) rfl) hl.1 rfl (Nat.le_of_ble_eq_true rfl) ⟨(Nat.le_of_ble_eq_true rfl), (Nat.le_of_ble_eq_true rfl)⟩ dL_sets_39
    (fun E9 σ9 H locs q9 ce9 hp9 hN hq9 hv9 hcl9 => ?_) (fun v9 σ9 H locs hp9 hN => ?_)
  ·
    obtain ⟨hq, hx9⟩ := hp9
    obtain ⟨hq, rfl⟩ := hq
    refine lq_catch F hN [] ⟨0, 51, 52, 30⟩ [⟨0, 51, 58, 13⟩, ⟨0, 51, 64, 15⟩] ht (fun _ h => absurd h List.not_mem_nil) (by decide) (by decide) mw_312 mw_346 hq9 hv9 hcl9 ?_
    refine W.eq (g2 := F0 m 52 ls [.ref q9]) rfl ?_
    refine W.widen (k := 6) (n := 40) (Nat.le_of_ble_eq_true rfl) (Nat.le_of_ble_eq_true rfl) ?_
    refine lv_astore (pc := 52) (lv' := [(4, .ref q9), (0, .ref ((ad 0 0 0))), (1, .int (nI 109)), (2, .int (nI i)), (3, .int (nI a))]) F.1 F.2.1 dL_sets_52 hl (by decide) rfl (fun ls hl => ?_)
    refine lv_sipush (pc := 54) (v := (-1001)) F.1 F.2.1 dL_sets_54 (by decide) ?_
    exact mm_iret (pc := 57) F hr hN (⟨by rw [lq_i1 hq], hx9.eq (if_neg (by omega))⟩) (Nat.le_of_ble_eq_true rfl) (Nat.le_of_ble_eq_true rfl) dL_sets_57
  ·
    obtain ⟨hq, rfl, hx9⟩ := hp9
    refine W.eq (g2 := F0 m 42 ls [.int (nI (T.ho i))]) rfl ?_
    refine W.widen (k := 6) (n := 40) (Nat.le_of_ble_eq_true rfl) (Nat.le_of_ble_eq_true rfl) ?_
    refine lv_goto (pc := 42) (tgt := 51) F.1 F.2.1 dL_sets_42 (by decide) ?_
    exact mm_iret (pc := 51) F hr hN (⟨by rw [lq_i0 hq], hx9.eq (if_pos hq)⟩) (Nat.le_of_ble_eq_true rfl) (Nat.le_of_ble_eq_true rfl) dL_sets_51

set_option maxHeartbeats 4000000 in
set_option maxRecDepth 100000 in
theorem e_person (l : Launch) (b : Nat) (D : mm_D) (hst : l.stackTraces = false) (T : mm_T) (x0 : Nat) (σ : mm_S) (hV : lq_V σ T x0) (hW : mm_WF T) (a : Nat) (za : a < 2 ^ 32) (f : Nat) (zf : f < 2 ^ 32) : mm_K l b D yL_sets (.codeWith yL_sets cL_sets 5 (some .int) [(0, 51, 52, 30), (0, 51, 58, 13), (0, 51, 64, 15)]) ({ frames := 9, cells := 8, slots := 300, locals := 260 } : Room) [.ref x0, .int (nI 112), .int (nI a), .int (nI f)] σ
    (fun v σ2 => v = some (.int (lq_i (mm_q_addPerson T a f) (T.nP))) ∧ mm_Xt σ σ2 (if mm_q_addPerson T a f = 0 then (mm_t_addPerson T a f) else T) x0)
    (fun _ _ => False) := by
  refine mm_ofX (cc := cL_sets) (nL := 5) (ret := (some .int)) (by decide) rfl (Nat.le_of_ble_eq_true rfl) hst ?_
  intro p e s m args below meth c ls F ht hr hN hl
  have hl : lv_has ls 5 [(0, .ref x0), (1, .int (nI 112)), (2, .int (nI a)), (3, .int (nI f))] := hl
  obtain ⟨z, ad, hX, rfl⟩ := hV
  refine lv_iload_n (pc := 0) F.1 F.2.1 dL_sets_0 rfl (lv_at hl 1 rfl) ?_
  refine lv_bipush (pc := 1) (v := nI 106) F.1 F.2.1 dL_sets_1 (by decide) ?_
  refine mm_icmp_ne (pc := 3) F (x := 112) (y := 106) (tgt := 15) (by omega) (by omega) dL_sets_3 (by decide) (fun cz3 => ?_) (fun h9 => absurd h9 (by decide))
  refine lv_iload_n (pc := 15) F.1 F.2.1 dL_sets_15 rfl (lv_at hl 1 rfl) ?_
  refine lv_bipush (pc := 16) (v := nI 102) F.1 F.2.1 dL_sets_16 (by decide) ?_
  refine mm_icmp_ne (pc := 18) F (x := 112) (y := 102) (tgt := 30) (by omega) (by omega) dL_sets_18 (by decide) (fun cz18 => ?_) (fun h9 => absurd h9 (by decide))
  refine lv_iload_n (pc := 30) F.1 F.2.1 dL_sets_30 rfl (lv_at hl 1 rfl) ?_
  refine lv_bipush (pc := 31) (v := nI 109) F.1 F.2.1 dL_sets_31 (by decide) ?_
  refine mm_icmp_ne (pc := 33) F (x := 112) (y := 109) (tgt := 45) (by omega) (by omega) dL_sets_33 (by decide) (fun cz33 => ?_) (fun h9 => absurd h9 (by decide))
  refine lv_aload_n (pc := 45) F.1 F.2.1 dL_sets_45 rfl (lv_at hl 0 rfl) ?_
  refine lv_iload_n (pc := 46) F.1 F.2.1 dL_sets_46 rfl (lv_at hl 2 rfl) ?_
  refine lv_iload_n (pc := 47) F.1 F.2.1 dL_sets_47 rfl (lv_at hl 3 rfl) ?_
  refine mm_runV (pc := 48) (As := [.int (nI a), .int (nI f)]) (rest := []) F hN (a_addPerson l b D hst T z ad σ hX hW a za f zf) mw_391 mw_392 mw_393 mw_1 mw_394 ⟨pmX6_addPerson, (Nat.le_of_ble_eq_true rfl), (Nat.le_of_ble_eq_true rfl)⟩ (mm_recv F.2.2.2.2.2.1 hN (mm_X0 hX) rfl) hl.1 rfl (Nat.le_of_ble_eq_true rfl) ⟨(Nat.le_of_ble_eq_true rfl), (Nat.le_of_ble_eq_true rfl)⟩ dL_sets_48
    (fun E9 σ9 H locs q9 ce9 hp9 hN hq9 hv9 hcl9 => ?_) (fun v9 σ9 H locs hp9 hN => ?_)
  ·
    obtain ⟨hq, hx9⟩ := hp9
    rcases hq with ⟨hq, rfl⟩ | ⟨hq, rfl⟩ | ⟨hq, rfl⟩
    ·
      refine lq_catch F hN [] ⟨0, 51, 52, 30⟩ [⟨0, 51, 58, 13⟩, ⟨0, 51, 64, 15⟩] ht (fun _ h => absurd h List.not_mem_nil) (by decide) (by decide) mw_312 mw_346 hq9 hv9 hcl9 ?_
      refine W.eq (g2 := F0 m 52 ls [.ref q9]) rfl ?_
      refine W.widen (k := 8) (n := 300) (Nat.le_of_ble_eq_true rfl) (Nat.le_of_ble_eq_true rfl) ?_
      refine lv_astore (pc := 52) (lv' := [(4, .ref q9), (0, .ref ((ad 0 0 0))), (1, .int (nI 112)), (2, .int (nI a)), (3, .int (nI f))]) F.1 F.2.1 dL_sets_52 hl (by decide) rfl (fun ls hl => ?_)
      refine lv_sipush (pc := 54) (v := (-1001)) F.1 F.2.1 dL_sets_54 (by decide) ?_
      exact mm_iret (pc := 57) F hr hN (⟨by rw [lq_i1 hq], hx9.eq (if_neg (by omega))⟩) (Nat.le_of_ble_eq_true rfl) (Nat.le_of_ble_eq_true rfl) dL_sets_57
    ·
      refine lq_catch F hN [⟨0, 51, 52, 30⟩] ⟨0, 51, 58, 13⟩ [⟨0, 51, 64, 15⟩] ht (List.forall_mem_cons.mpr ⟨Or.inr ⟨by decide, _, mw_312, List.mem_of_getElem? (i := 1) rfl⟩, fun _ h => absurd h List.not_mem_nil⟩) (by decide) (by decide) mw_119 mw_127 hq9 hv9 hcl9 ?_
      refine W.eq (g2 := F0 m 58 ls [.ref q9]) rfl ?_
      refine W.widen (k := 8) (n := 300) (Nat.le_of_ble_eq_true rfl) (Nat.le_of_ble_eq_true rfl) ?_
      refine lv_astore (pc := 58) (lv' := [(4, .ref q9), (0, .ref ((ad 0 0 0))), (1, .int (nI 112)), (2, .int (nI a)), (3, .int (nI f))]) F.1 F.2.1 dL_sets_58 hl (by decide) rfl (fun ls hl => ?_)
      refine lv_sipush (pc := 60) (v := (-1002)) F.1 F.2.1 dL_sets_60 (by decide) ?_
      exact mm_iret (pc := 63) F hr hN (⟨by rw [lq_i2 hq], hx9.eq (if_neg (by omega))⟩) (Nat.le_of_ble_eq_true rfl) (Nat.le_of_ble_eq_true rfl) dL_sets_63
    ·
      refine lq_catch F hN [⟨0, 51, 52, 30⟩, ⟨0, 51, 58, 13⟩] ⟨0, 51, 64, 15⟩ [] ht (List.forall_mem_cons.mpr ⟨Or.inr ⟨by decide, _, mw_312, List.mem_of_getElem? (i := 5) rfl⟩, List.forall_mem_cons.mpr ⟨Or.inr ⟨by decide, _, mw_119, List.mem_of_getElem? (i := 4) rfl⟩, fun _ h => absurd h List.not_mem_nil⟩⟩) (by decide) (by decide) mw_120 mw_202 hq9 hv9 hcl9 ?_
      refine W.eq (g2 := F0 m 64 ls [.ref q9]) rfl ?_
      refine W.widen (k := 8) (n := 300) (Nat.le_of_ble_eq_true rfl) (Nat.le_of_ble_eq_true rfl) ?_
      refine lv_astore (pc := 64) (lv' := [(4, .ref q9), (0, .ref ((ad 0 0 0))), (1, .int (nI 112)), (2, .int (nI a)), (3, .int (nI f))]) F.1 F.2.1 dL_sets_64 hl (by decide) rfl (fun ls hl => ?_)
      refine lv_sipush (pc := 66) (v := (-1003)) F.1 F.2.1 dL_sets_66 (by decide) ?_
      exact mm_iret (pc := 69) F hr hN (⟨by rw [lq_i3 hq], hx9.eq (if_neg (by omega))⟩) (Nat.le_of_ble_eq_true rfl) (Nat.le_of_ble_eq_true rfl) dL_sets_69
  ·
    obtain ⟨hq, rfl, hx9⟩ := hp9
    refine W.eq (g2 := F0 m 51 ls [.int (nI (T.nP))]) rfl ?_
    refine W.widen (k := 8) (n := 300) (Nat.le_of_ble_eq_true rfl) (Nat.le_of_ble_eq_true rfl) ?_
    exact mm_iret (pc := 51) F hr hN (⟨by rw [lq_i0 hq], hx9.eq (if_pos hq)⟩) (Nat.le_of_ble_eq_true rfl) (Nat.le_of_ble_eq_true rfl) dL_sets_51

set_option maxHeartbeats 4000000 in
set_option maxRecDepth 100000 in
theorem e_allow (l : Launch) (b : Nat) (D : mm_D) (hst : l.stackTraces = false) (T : mm_T) (x0 : Nat) (σ : mm_S) (hV : lq_V σ T x0) (hW : mm_WF T) (i : Nat) (zi : i < 2 ^ 32) : mm_K l b D yL_suppress (.codeWith yL_suppress cL_suppress 4 (some .int) [(0, 20, 21, 30), (0, 20, 26, 13), (0, 20, 31, 15)]) ({ frames := 9, cells := 6, slots := 40, locals := 260 } : Room) [.ref x0, .int (nI i), .int (nI 45)] σ
    (fun v σ2 => v = some (.int (lq_i (mm_q_allow T i) (T.re i))) ∧ mm_Xt σ σ2 (if mm_q_allow T i = 0 then (T.w 6 (mm_u2 (T 6) i 0 45)) else T) x0)
    (fun _ _ => False) := by
  refine mm_ofX (cc := cL_suppress) (nL := 4) (ret := (some .int)) (by decide) rfl (Nat.le_of_ble_eq_true rfl) hst ?_
  intro p e s m args below meth c ls F ht hr hN hl
  have hl : lv_has ls 4 [(0, .ref x0), (1, .int (nI i)), (2, .int (nI 45))] := hl
  obtain ⟨z, ad, hX, rfl⟩ := hV
  refine lv_iload_n (pc := 0) F.1 F.2.1 dL_suppress_0 rfl (lv_at hl 2 rfl) ?_
  refine lv_bipush (pc := 1) (v := nI 45) F.1 F.2.1 dL_suppress_1 (by decide) ?_
  refine mm_icmp_ne (pc := 3) F (x := 45) (y := 45) (tgt := 14) (by omega) (by omega) dL_suppress_3 (by decide) (fun h9 => absurd h9 (by decide)) (fun cz3 => ?_)
  refine lv_aload_n (pc := 6) F.1 F.2.1 dL_suppress_6 rfl (lv_at hl 0 rfl) ?_
  refine lv_iload_n (pc := 7) F.1 F.2.1 dL_suppress_7 rfl (lv_at hl 1 rfl) ?_
  refine mm_runV (pc := 8) (As := [.int (nI i)]) (rest := []) F hN (a_allow l b D hst T z ad σ hX hW i zi) mw_424 mw_425 mw_426 mw_1 mw_427 ⟨pmX6_allow, (Nat.le_of_ble_eq_true rfl), (Nat.le_of_ble_eq_true rfl)⟩ (mm_recv F.2.2.2.2.2.1 hN (mm_X0 hX) rfl) hl.1 rfl (Nat.le_of_ble_eq_true rfl) ⟨(Nat.le_of_ble_eq_true rfl), (Nat.le_of_ble_eq_true rfl)⟩ dL_suppress_8
    (fun E9 σ9 H locs q9 ce9 hp9 hN hq9 hv9 hcl9 => ?_) (fun v9 σ9 H locs hp9 hN => ?_)
  ·
    obtain ⟨hq, hx9⟩ := hp9
    rcases hq with ⟨hq, rfl⟩ | ⟨hq, rfl⟩
    ·
      refine lq_catch F hN [] ⟨0, 20, 21, 30⟩ [⟨0, 20, 26, 13⟩, ⟨0, 20, 31, 15⟩] ht (fun _ h => absurd h List.not_mem_nil) (by decide) (by decide) mw_312 mw_346 hq9 hv9 hcl9 ?_
      refine W.eq (g2 := F0 m 21 ls [.ref q9]) rfl ?_
      refine W.widen (k := 6) (n := 40) (Nat.le_of_ble_eq_true rfl) (Nat.le_of_ble_eq_true rfl) ?_
      refine lv_astore_n (pc := 21) (lv' := [(3, .ref q9), (0, .ref ((ad 0 0 0))), (1, .int (nI i)), (2, .int (nI 45))]) F.1 F.2.1 dL_suppress_21 rfl hl (by decide) rfl (fun ls hl => ?_)
      refine lv_sipush (pc := 22) (v := (-1001)) F.1 F.2.1 dL_suppress_22 (by decide) ?_
      exact mm_iret (pc := 25) F hr hN (⟨by rw [lq_i1 hq], hx9.eq (if_neg (by omega))⟩) (Nat.le_of_ble_eq_true rfl) (Nat.le_of_ble_eq_true rfl) dL_suppress_25
    ·
      refine lq_catch F hN [⟨0, 20, 21, 30⟩, ⟨0, 20, 26, 13⟩] ⟨0, 20, 31, 15⟩ [] ht (List.forall_mem_cons.mpr ⟨Or.inr ⟨by decide, _, mw_312, List.mem_of_getElem? (i := 5) rfl⟩, List.forall_mem_cons.mpr ⟨Or.inr ⟨by decide, _, mw_119, List.mem_of_getElem? (i := 4) rfl⟩, fun _ h => absurd h List.not_mem_nil⟩⟩) (by decide) (by decide) mw_120 mw_202 hq9 hv9 hcl9 ?_
      refine W.eq (g2 := F0 m 31 ls [.ref q9]) rfl ?_
      refine W.widen (k := 6) (n := 40) (Nat.le_of_ble_eq_true rfl) (Nat.le_of_ble_eq_true rfl) ?_
      refine lv_astore_n (pc := 31) (lv' := [(3, .ref q9), (0, .ref ((ad 0 0 0))), (1, .int (nI i)), (2, .int (nI 45))]) F.1 F.2.1 dL_suppress_31 rfl hl (by decide) rfl (fun ls hl => ?_)
      refine lv_sipush (pc := 32) (v := (-1002)) F.1 F.2.1 dL_suppress_32 (by decide) ?_
      exact mm_iret (pc := 35) F hr hN (⟨by rw [lq_i2 hq], hx9.eq (if_neg (by omega))⟩) (Nat.le_of_ble_eq_true rfl) (Nat.le_of_ble_eq_true rfl) dL_suppress_35
  ·
    obtain ⟨hq, rfl, hx9⟩ := hp9
    refine W.eq (g2 := F0 m 11 ls [.int (nI (T.re i))]) rfl ?_
    refine W.widen (k := 6) (n := 40) (Nat.le_of_ble_eq_true rfl) (Nat.le_of_ble_eq_true rfl) ?_
    refine lv_goto (pc := 11) (tgt := 20) F.1 F.2.1 dL_suppress_11 (by decide) ?_
    exact mm_iret (pc := 20) F hr hN (⟨by rw [lq_i0 hq], hx9.eq (if_pos hq)⟩) (Nat.le_of_ble_eq_true rfl) (Nat.le_of_ble_eq_true rfl) dL_suppress_20

set_option maxHeartbeats 4000000 in
set_option maxRecDepth 100000 in
theorem e_suppr (l : Launch) (b : Nat) (D : mm_D) (hst : l.stackTraces = false) (T : mm_T) (x0 : Nat) (σ : mm_S) (hV : lq_V σ T x0) (hW : mm_WF T) (i : Nat) (zi : i < 2 ^ 32) (ch : Nat) (zch : ch < 65536) (hch : ¬ ch = 45) : mm_K l b D yL_suppress (.codeWith yL_suppress cL_suppress 4 (some .int) [(0, 20, 21, 30), (0, 20, 26, 13), (0, 20, 31, 15)]) ({ frames := 9, cells := 6, slots := 40, locals := 260 } : Room) [.ref x0, .int (nI i), .int (nI ch)] σ
    (fun v σ2 => v = some (.int (lq_i (mm_q_suppress T i ch) (T.re i))) ∧ mm_Xt σ σ2 (if mm_q_suppress T i ch = 0 then (T.w 6 (mm_u2 (T 6) i 0 ch)) else T) x0)
    (fun _ _ => False) := by
  refine mm_ofX (cc := cL_suppress) (nL := 4) (ret := (some .int)) (by decide) rfl (Nat.le_of_ble_eq_true rfl) hst ?_
  intro p e s m args below meth c ls F ht hr hN hl
  have hl : lv_has ls 4 [(0, .ref x0), (1, .int (nI i)), (2, .int (nI ch))] := hl
  obtain ⟨z, ad, hX, rfl⟩ := hV
  refine lv_iload_n (pc := 0) F.1 F.2.1 dL_suppress_0 rfl (lv_at hl 2 rfl) ?_
  refine lv_bipush (pc := 1) (v := nI 45) F.1 F.2.1 dL_suppress_1 (by decide) ?_
  refine mm_icmp_neB (pc := 3) F (x := ch) (y := 45) (tgt := 14) (by omega) (by omega) dL_suppress_3 (by decide) (fun cz3 => ?_) (fun cz3 => ?_)
  ·
    refine lv_aload_n (pc := 14) F.1 F.2.1 dL_suppress_14 rfl (lv_at hl 0 rfl) ?_
    refine lv_iload_n (pc := 15) F.1 F.2.1 dL_suppress_15 rfl (lv_at hl 1 rfl) ?_
    refine lv_iload_n (pc := 16) F.1 F.2.1 dL_suppress_16 rfl (lv_at hl 2 rfl) ?_
    refine mm_runV (pc := 17) (As := [.int (nI i), .int (nI ch)]) (rest := []) F hN (a_suppress l b D hst T z ad σ hX hW i zi ch zch) mw_433 mw_434 mw_435 mw_1 mw_436 ⟨pmX6_suppress, (Nat.le_of_ble_eq_true rfl), (Nat.le_of_ble_eq_true rfl)⟩ (mm_recv F.2.2.2.2.2.1 hN (mm_X0 hX) rfl) hl.1 rfl (Nat.le_of_ble_eq_true rfl) ⟨(Nat.le_of_ble_eq_true rfl), (Nat.le_of_ble_eq_true rfl)⟩ dL_suppress_17
      (fun E9 σ9 H locs q9 ce9 hp9 hN hq9 hv9 hcl9 => ?_) (fun v9 σ9 H locs hp9 hN => ?_)
    ·
      obtain ⟨hq, hx9⟩ := hp9
      rcases hq with ⟨hq, rfl⟩ | ⟨hq, rfl⟩
      ·
        refine lq_catch F hN [] ⟨0, 20, 21, 30⟩ [⟨0, 20, 26, 13⟩, ⟨0, 20, 31, 15⟩] ht (fun _ h => absurd h List.not_mem_nil) (by decide) (by decide) mw_312 mw_346 hq9 hv9 hcl9 ?_
        refine W.eq (g2 := F0 m 21 ls [.ref q9]) rfl ?_
        refine W.widen (k := 6) (n := 40) (Nat.le_of_ble_eq_true rfl) (Nat.le_of_ble_eq_true rfl) ?_
        refine lv_astore_n (pc := 21) (lv' := [(3, .ref q9), (0, .ref ((ad 0 0 0))), (1, .int (nI i)), (2, .int (nI ch))]) F.1 F.2.1 dL_suppress_21 rfl hl (by decide) rfl (fun ls hl => ?_)
        refine lv_sipush (pc := 22) (v := (-1001)) F.1 F.2.1 dL_suppress_22 (by decide) ?_
        exact mm_iret (pc := 25) F hr hN (⟨by rw [lq_i1 hq], hx9.eq (if_neg (by omega))⟩) (Nat.le_of_ble_eq_true rfl) (Nat.le_of_ble_eq_true rfl) dL_suppress_25
      ·
        refine lq_catch F hN [⟨0, 20, 21, 30⟩] ⟨0, 20, 26, 13⟩ [⟨0, 20, 31, 15⟩] ht (List.forall_mem_cons.mpr ⟨Or.inr ⟨by decide, _, mw_312, List.mem_of_getElem? (i := 1) rfl⟩, fun _ h => absurd h List.not_mem_nil⟩) (by decide) (by decide) mw_119 mw_127 hq9 hv9 hcl9 ?_
        refine W.eq (g2 := F0 m 26 ls [.ref q9]) rfl ?_
        refine W.widen (k := 6) (n := 40) (Nat.le_of_ble_eq_true rfl) (Nat.le_of_ble_eq_true rfl) ?_
        refine lv_astore_n (pc := 26) (lv' := [(3, .ref q9), (0, .ref ((ad 0 0 0))), (1, .int (nI i)), (2, .int (nI ch))]) F.1 F.2.1 dL_suppress_26 rfl hl (by decide) rfl (fun ls hl => ?_)
        refine lv_sipush (pc := 27) (v := (-1002)) F.1 F.2.1 dL_suppress_27 (by decide) ?_
        exact mm_iret (pc := 30) F hr hN (⟨by rw [lq_i2 hq], hx9.eq (if_neg (by omega))⟩) (Nat.le_of_ble_eq_true rfl) (Nat.le_of_ble_eq_true rfl) dL_suppress_30
    ·
      obtain ⟨hq, rfl, hx9⟩ := hp9
      refine W.eq (g2 := F0 m 20 ls [.int (nI (T.re i))]) rfl ?_
      refine W.widen (k := 6) (n := 40) (Nat.le_of_ble_eq_true rfl) (Nat.le_of_ble_eq_true rfl) ?_
      exact mm_iret (pc := 20) F hr hN (⟨by rw [lq_i0 hq], hx9.eq (if_pos hq)⟩) (Nat.le_of_ble_eq_true rfl) (Nat.le_of_ble_eq_true rfl) dL_suppress_20
  ·
    exact absurd cz3 hch

set_option maxHeartbeats 4000000 in
set_option maxRecDepth 100000 in
theorem e_addr (l : Launch) (b : Nat) (D : mm_D) (hst : l.stackTraces = false) (T : mm_T) (x0 : Nat) (σ : mm_S) (hV : lq_V σ T x0) (hW : mm_WF T) (i : Nat) (zi : i < 2 ^ 32) : mm_K l b D yL_of (.codeWith yL_of cL_of 4 (some .int) [(0, 30, 31, 30)]) ({ frames := 9, cells := 6, slots := 40, locals := 260 } : Room) [.ref x0, .int (nI i), .int (nI 0)] σ
    (fun v σ2 => v = some (.int (lq_i (mm_q_addressOf T i) (T.ho i))) ∧ mm_Xt σ σ2 T x0)
    (fun _ _ => False) := by
  refine mm_ofX (cc := cL_of) (nL := 4) (ret := (some .int)) (by decide) rfl (Nat.le_of_ble_eq_true rfl) hst ?_
  intro p e s m args below meth c ls F ht hr hN hl
  have hl : lv_has ls 4 [(0, .ref x0), (1, .int (nI i)), (2, .int (nI 0))] := hl
  obtain ⟨z, ad, hX, rfl⟩ := hV
  refine lv_iload_n (pc := 0) F.1 F.2.1 dL_of_0 rfl (lv_at hl 2 rfl) ?_
  refine mm_if_ne (pc := 1) F (tgt := 12) (by omega) dL_of_1 (by decide) (fun h9 => absurd h9 (by decide)) (fun cz1 => ?_)
  refine lv_aload_n (pc := 4) F.1 F.2.1 dL_of_4 rfl (lv_at hl 0 rfl) ?_
  refine lv_iload_n (pc := 5) F.1 F.2.1 dL_of_5 rfl (lv_at hl 1 rfl) ?_
  refine mm_runV (pc := 6) (As := [.int (nI i)]) (rest := []) F hN (a_addressOf l b D hst T z ad σ hX hW i zi) mw_441 mw_442 mw_443 mw_1 mw_444 ⟨pmX6_addressOf, (Nat.le_of_ble_eq_true rfl), (Nat.le_of_ble_eq_true rfl)⟩ (mm_recv F.2.2.2.2.2.1 hN (mm_X0 hX) rfl) hl.1 rfl (Nat.le_of_ble_eq_true rfl) ⟨(Nat.le_of_ble_eq_true rfl), (Nat.le_of_ble_eq_true rfl)⟩ dL_of_6
    (fun E9 σ9 H locs q9 ce9 hp9 hN hq9 hv9 hcl9 => ?_) (fun v9 σ9 H locs hp9 hN => ?_)
  ·
    obtain ⟨hq, hx9⟩ := hp9
    obtain ⟨hq, rfl⟩ := hq
    refine lq_catch F hN [] ⟨0, 30, 31, 30⟩ [] ht (fun _ h => absurd h List.not_mem_nil) (by decide) (by decide) mw_312 mw_346 hq9 hv9 hcl9 ?_
    refine W.eq (g2 := F0 m 31 ls [.ref q9]) rfl ?_
    refine W.widen (k := 6) (n := 40) (Nat.le_of_ble_eq_true rfl) (Nat.le_of_ble_eq_true rfl) ?_
    refine lv_astore_n (pc := 31) (lv' := [(3, .ref q9), (0, .ref ((ad 0 0 0))), (1, .int (nI i)), (2, .int (nI 0))]) F.1 F.2.1 dL_of_31 rfl hl (by decide) rfl (fun ls hl => ?_)
    refine lv_sipush (pc := 32) (v := (-1001)) F.1 F.2.1 dL_of_32 (by decide) ?_
    exact mm_iret (pc := 35) F hr hN (⟨by rw [lq_i1 hq], hx9⟩) (Nat.le_of_ble_eq_true rfl) (Nat.le_of_ble_eq_true rfl) dL_of_35
  ·
    obtain ⟨hq, rfl, hx9⟩ := hp9
    refine W.eq (g2 := F0 m 9 ls [.int (nI (T.ho i))]) rfl ?_
    refine W.widen (k := 6) (n := 40) (Nat.le_of_ble_eq_true rfl) (Nat.le_of_ble_eq_true rfl) ?_
    refine lv_goto (pc := 9) (tgt := 30) F.1 F.2.1 dL_of_9 (by decide) ?_
    exact mm_iret (pc := 30) F hr hN (⟨by rw [lq_i0 hq], hx9⟩) (Nat.le_of_ble_eq_true rfl) (Nat.le_of_ble_eq_true rfl) dL_of_30

set_option maxHeartbeats 4000000 in
set_option maxRecDepth 100000 in
theorem e_reason (l : Launch) (b : Nat) (D : mm_D) (hst : l.stackTraces = false) (T : mm_T) (x0 : Nat) (σ : mm_S) (hV : lq_V σ T x0) (hW : mm_WF T) (i : Nat) (zi : i < 2 ^ 32) : mm_K l b D yL_of (.codeWith yL_of cL_of 4 (some .int) [(0, 30, 31, 30)]) ({ frames := 9, cells := 6, slots := 40, locals := 260 } : Room) [.ref x0, .int (nI i), .int (nI 1)] σ
    (fun v σ2 => v = some (.int (lq_i (mm_q_reasonOf T i) (T.re i))) ∧ mm_Xt σ σ2 T x0)
    (fun _ _ => False) := by
  refine mm_ofX (cc := cL_of) (nL := 4) (ret := (some .int)) (by decide) rfl (Nat.le_of_ble_eq_true rfl) hst ?_
  intro p e s m args below meth c ls F ht hr hN hl
  have hl : lv_has ls 4 [(0, .ref x0), (1, .int (nI i)), (2, .int (nI 1))] := hl
  obtain ⟨z, ad, hX, rfl⟩ := hV
  refine lv_iload_n (pc := 0) F.1 F.2.1 dL_of_0 rfl (lv_at hl 2 rfl) ?_
  refine mm_if_ne (pc := 1) F (tgt := 12) (by omega) dL_of_1 (by decide) (fun cz1 => ?_) (fun h9 => absurd h9 (by decide))
  refine lv_iload_n (pc := 12) F.1 F.2.1 dL_of_12 rfl (lv_at hl 2 rfl) ?_
  refine lv_iconst (pc := 13) (v := nI 1) F.1 F.2.1 dL_of_13 (by decide) ?_
  refine mm_icmp_ne (pc := 14) F (x := 1) (y := 1) (tgt := 25) (by omega) (by omega) dL_of_14 (by decide) (fun h9 => absurd h9 (by decide)) (fun cz14 => ?_)
  refine lv_aload_n (pc := 17) F.1 F.2.1 dL_of_17 rfl (lv_at hl 0 rfl) ?_
  refine lv_iload_n (pc := 18) F.1 F.2.1 dL_of_18 rfl (lv_at hl 1 rfl) ?_
  refine mm_runV (pc := 19) (As := [.int (nI i)]) (rest := []) F hN (a_reasonOf l b D hst T z ad σ hX hW i zi) mw_445 mw_446 mw_447 mw_1 mw_448 ⟨pmX6_reasonOf, (Nat.le_of_ble_eq_true rfl), (Nat.le_of_ble_eq_true rfl)⟩ (mm_recv F.2.2.2.2.2.1 hN (mm_X0 hX) rfl) hl.1 rfl (Nat.le_of_ble_eq_true rfl) ⟨(Nat.le_of_ble_eq_true rfl), (Nat.le_of_ble_eq_true rfl)⟩ dL_of_19
    (fun E9 σ9 H locs q9 ce9 hp9 hN hq9 hv9 hcl9 => ?_) (fun v9 σ9 H locs hp9 hN => ?_)
  ·
    obtain ⟨hq, hx9⟩ := hp9
    obtain ⟨hq, rfl⟩ := hq
    refine lq_catch F hN [] ⟨0, 30, 31, 30⟩ [] ht (fun _ h => absurd h List.not_mem_nil) (by decide) (by decide) mw_312 mw_346 hq9 hv9 hcl9 ?_
    refine W.eq (g2 := F0 m 31 ls [.ref q9]) rfl ?_
    refine W.widen (k := 6) (n := 40) (Nat.le_of_ble_eq_true rfl) (Nat.le_of_ble_eq_true rfl) ?_
    refine lv_astore_n (pc := 31) (lv' := [(3, .ref q9), (0, .ref ((ad 0 0 0))), (1, .int (nI i)), (2, .int (nI 1))]) F.1 F.2.1 dL_of_31 rfl hl (by decide) rfl (fun ls hl => ?_)
    refine lv_sipush (pc := 32) (v := (-1001)) F.1 F.2.1 dL_of_32 (by decide) ?_
    exact mm_iret (pc := 35) F hr hN (⟨by rw [lq_i1 hq], hx9⟩) (Nat.le_of_ble_eq_true rfl) (Nat.le_of_ble_eq_true rfl) dL_of_35
  ·
    obtain ⟨hq, rfl, hx9⟩ := hp9
    refine W.eq (g2 := F0 m 22 ls [.int (nI (T.re i))]) rfl ?_
    refine W.widen (k := 6) (n := 40) (Nat.le_of_ble_eq_true rfl) (Nat.le_of_ble_eq_true rfl) ?_
    refine lv_goto (pc := 22) (tgt := 30) F.1 F.2.1 dL_of_22 (by decide) ?_
    exact mm_iret (pc := 30) F hr hN (⟨by rw [lq_i0 hq], hx9⟩) (Nat.le_of_ble_eq_true rfl) (Nat.le_of_ble_eq_true rfl) dL_of_30

set_option maxHeartbeats 4000000 in
set_option maxRecDepth 100000 in
theorem e_strikes (l : Launch) (b : Nat) (D : mm_D) (hst : l.stackTraces = false) (T : mm_T) (x0 : Nat) (σ : mm_S) (hV : lq_V σ T x0) (hW : mm_WF T) (a : Nat) (za : a < 2 ^ 32) : mm_K l b D yL_of (.codeWith yL_of cL_of 4 (some .int) [(0, 30, 31, 30)]) ({ frames := 9, cells := 6, slots := 40, locals := 260 } : Room) [.ref x0, .int (nI a), .int (nI 2)] σ
    (fun v σ2 => v = some (.int (lq_i (mm_q_strikes T a) (T.sk a))) ∧ mm_Xt σ σ2 T x0)
    (fun _ _ => False) := by
  refine mm_ofX (cc := cL_of) (nL := 4) (ret := (some .int)) (by decide) rfl (Nat.le_of_ble_eq_true rfl) hst ?_
  intro p e s m args below meth c ls F ht hr hN hl
  have hl : lv_has ls 4 [(0, .ref x0), (1, .int (nI a)), (2, .int (nI 2))] := hl
  obtain ⟨z, ad, hX, rfl⟩ := hV
  refine lv_iload_n (pc := 0) F.1 F.2.1 dL_of_0 rfl (lv_at hl 2 rfl) ?_
  refine mm_if_ne (pc := 1) F (tgt := 12) (by omega) dL_of_1 (by decide) (fun cz1 => ?_) (fun h9 => absurd h9 (by decide))
  refine lv_iload_n (pc := 12) F.1 F.2.1 dL_of_12 rfl (lv_at hl 2 rfl) ?_
  refine lv_iconst (pc := 13) (v := nI 1) F.1 F.2.1 dL_of_13 (by decide) ?_
  refine mm_icmp_ne (pc := 14) F (x := 2) (y := 1) (tgt := 25) (by omega) (by omega) dL_of_14 (by decide) (fun cz14 => ?_) (fun h9 => absurd h9 (by decide))
  refine lv_aload_n (pc := 25) F.1 F.2.1 dL_of_25 rfl (lv_at hl 0 rfl) ?_
  refine lv_iload_n (pc := 26) F.1 F.2.1 dL_of_26 rfl (lv_at hl 1 rfl) ?_
  refine mm_runV (pc := 27) (As := [.int (nI a)]) (rest := []) F hN (a_strikes l b D hst T z ad σ hX hW a za) mw_449 mw_450 mw_451 mw_1 mw_452 ⟨pmX6_strikes, (Nat.le_of_ble_eq_true rfl), (Nat.le_of_ble_eq_true rfl)⟩ (mm_recv F.2.2.2.2.2.1 hN (mm_X0 hX) rfl) hl.1 rfl (Nat.le_of_ble_eq_true rfl) ⟨(Nat.le_of_ble_eq_true rfl), (Nat.le_of_ble_eq_true rfl)⟩ dL_of_27
    (fun E9 σ9 H locs q9 ce9 hp9 hN hq9 hv9 hcl9 => ?_) (fun v9 σ9 H locs hp9 hN => ?_)
  ·
    obtain ⟨hq, hx9⟩ := hp9
    obtain ⟨hq, rfl⟩ := hq
    refine lq_catch F hN [] ⟨0, 30, 31, 30⟩ [] ht (fun _ h => absurd h List.not_mem_nil) (by decide) (by decide) mw_312 mw_346 hq9 hv9 hcl9 ?_
    refine W.eq (g2 := F0 m 31 ls [.ref q9]) rfl ?_
    refine W.widen (k := 6) (n := 40) (Nat.le_of_ble_eq_true rfl) (Nat.le_of_ble_eq_true rfl) ?_
    refine lv_astore_n (pc := 31) (lv' := [(3, .ref q9), (0, .ref ((ad 0 0 0))), (1, .int (nI a)), (2, .int (nI 2))]) F.1 F.2.1 dL_of_31 rfl hl (by decide) rfl (fun ls hl => ?_)
    refine lv_sipush (pc := 32) (v := (-1001)) F.1 F.2.1 dL_of_32 (by decide) ?_
    exact mm_iret (pc := 35) F hr hN (⟨by rw [lq_i1 hq], hx9⟩) (Nat.le_of_ble_eq_true rfl) (Nat.le_of_ble_eq_true rfl) dL_of_35
  ·
    obtain ⟨hq, rfl, hx9⟩ := hp9
    refine W.eq (g2 := F0 m 30 ls [.int (nI (T.sk a))]) rfl ?_
    refine W.widen (k := 6) (n := 40) (Nat.le_of_ble_eq_true rfl) (Nat.le_of_ble_eq_true rfl) ?_
    exact mm_iret (pc := 30) F hr hN (⟨by rw [lq_i0 hq], hx9⟩) (Nat.le_of_ble_eq_true rfl) (Nat.le_of_ble_eq_true rfl) dL_of_30

set_option maxHeartbeats 4000000 in
set_option maxRecDepth 100000 in
theorem e_tmpl (l : Launch) (b : Nat) (D : mm_D) (hst : l.stackTraces = false) (T : mm_T) (x0 : Nat) (σ : mm_S) (hV : lq_V σ T x0) (hW : mm_WF T) : mm_K l b D yL_template (.codeWith yL_template cL_template 2 (some .int) [(0, 4, 5, 15)]) ({ frames := 9, cells := 8, slots := 300, locals := 260 } : Room) [.ref x0] σ
    (fun v σ2 => v = some (.int (lq_i (mm_q_addTemplate T) (T.nT))) ∧ mm_Xt σ σ2 (if mm_q_addTemplate T = 0 then (mm_t_addTemplate T) else T) x0)
    (fun _ _ => False) := by
  refine mm_ofX (cc := cL_template) (nL := 2) (ret := (some .int)) (by decide) rfl (Nat.le_of_ble_eq_true rfl) hst ?_
  intro p e s m args below meth c ls F ht hr hN hl
  have hl : lv_has ls 2 [(0, .ref x0)] := hl
  obtain ⟨z, ad, hX, rfl⟩ := hV
  refine lv_aload_n (pc := 0) F.1 F.2.1 dL_template_0 rfl (lv_at hl 0 rfl) ?_
  refine mm_runV (pc := 1) (As := []) (rest := []) F hN (a_addTemplate l b D hst T z ad σ hX hW ) mw_456 mw_457 mw_458 mw_1 mw_459 ⟨pmX6_addTemplate, (Nat.le_of_ble_eq_true rfl), (Nat.le_of_ble_eq_true rfl)⟩ (mm_recv F.2.2.2.2.2.1 hN (mm_X0 hX) rfl) hl.1 rfl (Nat.le_of_ble_eq_true rfl) ⟨(Nat.le_of_ble_eq_true rfl), (Nat.le_of_ble_eq_true rfl)⟩ dL_template_1
    (fun E9 σ9 H locs q9 ce9 hp9 hN hq9 hv9 hcl9 => ?_) (fun v9 σ9 H locs hp9 hN => ?_)
  ·
    obtain ⟨hq, hx9⟩ := hp9
    obtain ⟨hq, rfl⟩ := hq
    refine lq_catch F hN [] ⟨0, 4, 5, 15⟩ [] ht (fun _ h => absurd h List.not_mem_nil) (by decide) (by decide) mw_120 mw_202 hq9 hv9 hcl9 ?_
    refine W.eq (g2 := F0 m 5 ls [.ref q9]) rfl ?_
    refine W.widen (k := 8) (n := 300) (Nat.le_of_ble_eq_true rfl) (Nat.le_of_ble_eq_true rfl) ?_
    refine lv_astore_n (pc := 5) (lv' := [(1, .ref q9), (0, .ref ((ad 0 0 0)))]) F.1 F.2.1 dL_template_5 rfl hl (by decide) rfl (fun ls hl => ?_)
    refine lv_sipush (pc := 6) (v := (-1001)) F.1 F.2.1 dL_template_6 (by decide) ?_
    exact mm_iret (pc := 9) F hr hN (⟨by rw [lq_i1 hq], hx9.eq (if_neg (by omega))⟩) (Nat.le_of_ble_eq_true rfl) (Nat.le_of_ble_eq_true rfl) dL_template_9
  ·
    obtain ⟨hq, rfl, hx9⟩ := hp9
    refine W.eq (g2 := F0 m 4 ls [.int (nI (T.nT))]) rfl ?_
    refine W.widen (k := 8) (n := 300) (Nat.le_of_ble_eq_true rfl) (Nat.le_of_ble_eq_true rfl) ?_
    exact mm_iret (pc := 4) F hr hN (⟨by rw [lq_i0 hq], hx9.eq (if_pos hq)⟩) (Nat.le_of_ble_eq_true rfl) (Nat.le_of_ble_eq_true rfl) dL_template_4

set_option maxHeartbeats 4000000 in
set_option maxRecDepth 100000 in
theorem e_part (l : Launch) (b : Nat) (D : mm_D) (hst : l.stackTraces = false) (T : mm_T) (x0 : Nat) (σ : mm_S) (hV : lq_V σ T x0) (hW : mm_WF T) (t : Nat) (zt : t < 2 ^ 32) (ln : Nat) (zln : ln < 2 ^ 32) (ne : Nat) (zne : ne < 2 ^ 32) (fo : Nat) (zfo : fo < 2 ^ 32) : mm_K l b D yL_part (.codeWith yL_part cL_part 6 (some .int) [(0, 9, 10, 30), (0, 9, 16, 13), (0, 9, 22, 15)]) ({ frames := 9, cells := 6, slots := 40, locals := 260 } : Room) [.ref x0, .int (nI t), .int (nI ln), .int (nI ne), .int (nI fo)] σ
    (fun v σ2 => v = some (.int (lq_i (mm_q_addPart T t ln ne fo) (T.pc t + 1))) ∧ mm_Xt σ σ2 (if mm_q_addPart T t ln ne fo = 0 then (mm_t_addPart T t ln ne fo) else T) x0)
    (fun _ _ => False) := by
  refine mm_ofX (cc := cL_part) (nL := 6) (ret := (some .int)) (by decide) rfl (Nat.le_of_ble_eq_true rfl) hst ?_
  intro p e s m args below meth c ls F ht hr hN hl
  have hl : lv_has ls 6 [(0, .ref x0), (1, .int (nI t)), (2, .int (nI ln)), (3, .int (nI ne)), (4, .int (nI fo))] := hl
  obtain ⟨z, ad, hX, rfl⟩ := hV
  refine lv_aload_n (pc := 0) F.1 F.2.1 dL_part_0 rfl (lv_at hl 0 rfl) ?_
  refine lv_iload_n (pc := 1) F.1 F.2.1 dL_part_1 rfl (lv_at hl 1 rfl) ?_
  refine lv_iload_n (pc := 2) F.1 F.2.1 dL_part_2 rfl (lv_at hl 2 rfl) ?_
  refine lv_iload_n (pc := 3) F.1 F.2.1 dL_part_3 rfl (lv_at hl 3 rfl) ?_
  refine lv_iload (pc := 4) F.1 F.2.1 dL_part_4 (lv_at hl 4 rfl) ?_
  refine mm_runV (pc := 6) (As := [.int (nI t), .int (nI ln), .int (nI ne), .int (nI fo)]) (rest := []) F hN (a_addPart l b D hst T z ad σ hX hW t zt ln zln ne zne fo zfo) mw_488 mw_489 mw_490 mw_1 mw_491 ⟨pmX6_addPart, (Nat.le_of_ble_eq_true rfl), (Nat.le_of_ble_eq_true rfl)⟩ (mm_recv F.2.2.2.2.2.1 hN (mm_X0 hX) rfl) hl.1 rfl (Nat.le_of_ble_eq_true rfl) ⟨(Nat.le_of_ble_eq_true rfl), (Nat.le_of_ble_eq_true rfl)⟩ dL_part_6
    (fun E9 σ9 H locs q9 ce9 hp9 hN hq9 hv9 hcl9 => ?_) (fun v9 σ9 H locs hp9 hN => ?_)
  ·
    obtain ⟨hq, hx9⟩ := hp9
    rcases hq with ⟨hq, rfl⟩ | ⟨hq, rfl⟩ | ⟨hq, rfl⟩
    ·
      refine lq_catch F hN [] ⟨0, 9, 10, 30⟩ [⟨0, 9, 16, 13⟩, ⟨0, 9, 22, 15⟩] ht (fun _ h => absurd h List.not_mem_nil) (by decide) (by decide) mw_312 mw_346 hq9 hv9 hcl9 ?_
      refine W.eq (g2 := F0 m 10 ls [.ref q9]) rfl ?_
      refine W.widen (k := 6) (n := 40) (Nat.le_of_ble_eq_true rfl) (Nat.le_of_ble_eq_true rfl) ?_
      refine lv_astore (pc := 10) (lv' := [(5, .ref q9), (0, .ref ((ad 0 0 0))), (1, .int (nI t)), (2, .int (nI ln)), (3, .int (nI ne)), (4, .int (nI fo))]) F.1 F.2.1 dL_part_10 hl (by decide) rfl (fun ls hl => ?_)
      refine lv_sipush (pc := 12) (v := (-1001)) F.1 F.2.1 dL_part_12 (by decide) ?_
      exact mm_iret (pc := 15) F hr hN (⟨by rw [lq_i1 hq], hx9.eq (if_neg (by omega))⟩) (Nat.le_of_ble_eq_true rfl) (Nat.le_of_ble_eq_true rfl) dL_part_15
    ·
      refine lq_catch F hN [⟨0, 9, 10, 30⟩] ⟨0, 9, 16, 13⟩ [⟨0, 9, 22, 15⟩] ht (List.forall_mem_cons.mpr ⟨Or.inr ⟨by decide, _, mw_312, List.mem_of_getElem? (i := 1) rfl⟩, fun _ h => absurd h List.not_mem_nil⟩) (by decide) (by decide) mw_119 mw_127 hq9 hv9 hcl9 ?_
      refine W.eq (g2 := F0 m 16 ls [.ref q9]) rfl ?_
      refine W.widen (k := 6) (n := 40) (Nat.le_of_ble_eq_true rfl) (Nat.le_of_ble_eq_true rfl) ?_
      refine lv_astore (pc := 16) (lv' := [(5, .ref q9), (0, .ref ((ad 0 0 0))), (1, .int (nI t)), (2, .int (nI ln)), (3, .int (nI ne)), (4, .int (nI fo))]) F.1 F.2.1 dL_part_16 hl (by decide) rfl (fun ls hl => ?_)
      refine lv_sipush (pc := 18) (v := (-1002)) F.1 F.2.1 dL_part_18 (by decide) ?_
      exact mm_iret (pc := 21) F hr hN (⟨by rw [lq_i2 hq], hx9.eq (if_neg (by omega))⟩) (Nat.le_of_ble_eq_true rfl) (Nat.le_of_ble_eq_true rfl) dL_part_21
    ·
      refine lq_catch F hN [⟨0, 9, 10, 30⟩, ⟨0, 9, 16, 13⟩] ⟨0, 9, 22, 15⟩ [] ht (List.forall_mem_cons.mpr ⟨Or.inr ⟨by decide, _, mw_312, List.mem_of_getElem? (i := 5) rfl⟩, List.forall_mem_cons.mpr ⟨Or.inr ⟨by decide, _, mw_119, List.mem_of_getElem? (i := 4) rfl⟩, fun _ h => absurd h List.not_mem_nil⟩⟩) (by decide) (by decide) mw_120 mw_202 hq9 hv9 hcl9 ?_
      refine W.eq (g2 := F0 m 22 ls [.ref q9]) rfl ?_
      refine W.widen (k := 6) (n := 40) (Nat.le_of_ble_eq_true rfl) (Nat.le_of_ble_eq_true rfl) ?_
      refine lv_astore (pc := 22) (lv' := [(5, .ref q9), (0, .ref ((ad 0 0 0))), (1, .int (nI t)), (2, .int (nI ln)), (3, .int (nI ne)), (4, .int (nI fo))]) F.1 F.2.1 dL_part_22 hl (by decide) rfl (fun ls hl => ?_)
      refine lv_sipush (pc := 24) (v := (-1003)) F.1 F.2.1 dL_part_24 (by decide) ?_
      exact mm_iret (pc := 27) F hr hN (⟨by rw [lq_i3 hq], hx9.eq (if_neg (by omega))⟩) (Nat.le_of_ble_eq_true rfl) (Nat.le_of_ble_eq_true rfl) dL_part_27
  ·
    obtain ⟨hq, rfl, hx9⟩ := hp9
    refine W.eq (g2 := F0 m 9 ls [.int (nI (T.pc t + 1))]) rfl ?_
    refine W.widen (k := 6) (n := 40) (Nat.le_of_ble_eq_true rfl) (Nat.le_of_ble_eq_true rfl) ?_
    exact mm_iret (pc := 9) F hr hN (⟨by rw [lq_i0 hq], hx9.eq (if_pos hq)⟩) (Nat.le_of_ble_eq_true rfl) (Nat.le_of_ble_eq_true rfl) dL_part_9

set_option maxHeartbeats 4000000 in
set_option maxRecDepth 100000 in
theorem e_pages (l : Launch) (b : Nat) (D : mm_D) (hst : l.stackTraces = false) (T : mm_T) (x0 : Nat) (σ : mm_S) (hV : lq_V σ T x0) (hW : mm_WF T) (t : Nat) (zt : t < 2 ^ 32) (f : Nat) (zf : f < 2 ^ 32) : mm_K l b D yL_pages (.codeWith yL_pages cL_pages 4 (some .int) [(0, 6, 7, 30), (0, 6, 12, 13)]) ({ frames := 9, cells := 6, slots := 40, locals := 260 } : Room) [.ref x0, .int (nI t), .int (nI f)] σ
    (fun v σ2 => v = some (.int (lq_i (mm_q_pagesFor T t f) (mm_pgs T t f))) ∧ mm_Xt σ σ2 T x0)
    (fun _ _ => False) := by
  refine mm_ofX (cc := cL_pages) (nL := 4) (ret := (some .int)) (by decide) rfl (Nat.le_of_ble_eq_true rfl) hst ?_
  intro p e s m args below meth c ls F ht hr hN hl
  have hl : lv_has ls 4 [(0, .ref x0), (1, .int (nI t)), (2, .int (nI f))] := hl
  obtain ⟨z, ad, hX, rfl⟩ := hV
  refine lv_aload_n (pc := 0) F.1 F.2.1 dL_pages_0 rfl (lv_at hl 0 rfl) ?_
  refine lv_iload_n (pc := 1) F.1 F.2.1 dL_pages_1 rfl (lv_at hl 1 rfl) ?_
  refine lv_iload_n (pc := 2) F.1 F.2.1 dL_pages_2 rfl (lv_at hl 2 rfl) ?_
  refine mm_runV (pc := 3) (As := [.int (nI t), .int (nI f)]) (rest := []) F hN (a_pagesFor l b D hst T z ad σ hX hW t zt f zf) mw_510 mw_511 mw_512 mw_1 mw_513 ⟨pmX6_pagesFor, (Nat.le_of_ble_eq_true rfl), (Nat.le_of_ble_eq_true rfl)⟩ (mm_recv F.2.2.2.2.2.1 hN (mm_X0 hX) rfl) hl.1 rfl (Nat.le_of_ble_eq_true rfl) ⟨(Nat.le_of_ble_eq_true rfl), (Nat.le_of_ble_eq_true rfl)⟩ dL_pages_3
    (fun E9 σ9 H locs q9 ce9 hp9 hN hq9 hv9 hcl9 => ?_) (fun v9 σ9 H locs hp9 hN => ?_)
  ·
    obtain ⟨hq, hx9⟩ := hp9
    rcases hq with ⟨hq, rfl⟩ | ⟨hq, rfl⟩
    ·
      refine lq_catch F hN [] ⟨0, 6, 7, 30⟩ [⟨0, 6, 12, 13⟩] ht (fun _ h => absurd h List.not_mem_nil) (by decide) (by decide) mw_312 mw_346 hq9 hv9 hcl9 ?_
      refine W.eq (g2 := F0 m 7 ls [.ref q9]) rfl ?_
      refine W.widen (k := 6) (n := 40) (Nat.le_of_ble_eq_true rfl) (Nat.le_of_ble_eq_true rfl) ?_
      refine lv_astore_n (pc := 7) (lv' := [(3, .ref q9), (0, .ref ((ad 0 0 0))), (1, .int (nI t)), (2, .int (nI f))]) F.1 F.2.1 dL_pages_7 rfl hl (by decide) rfl (fun ls hl => ?_)
      refine lv_sipush (pc := 8) (v := (-1001)) F.1 F.2.1 dL_pages_8 (by decide) ?_
      exact mm_iret (pc := 11) F hr hN (⟨by rw [lq_i1 hq], hx9⟩) (Nat.le_of_ble_eq_true rfl) (Nat.le_of_ble_eq_true rfl) dL_pages_11
    ·
      refine lq_catch F hN [⟨0, 6, 7, 30⟩] ⟨0, 6, 12, 13⟩ [] ht (List.forall_mem_cons.mpr ⟨Or.inr ⟨by decide, _, mw_312, List.mem_of_getElem? (i := 1) rfl⟩, fun _ h => absurd h List.not_mem_nil⟩) (by decide) (by decide) mw_119 mw_127 hq9 hv9 hcl9 ?_
      refine W.eq (g2 := F0 m 12 ls [.ref q9]) rfl ?_
      refine W.widen (k := 6) (n := 40) (Nat.le_of_ble_eq_true rfl) (Nat.le_of_ble_eq_true rfl) ?_
      refine lv_astore_n (pc := 12) (lv' := [(3, .ref q9), (0, .ref ((ad 0 0 0))), (1, .int (nI t)), (2, .int (nI f))]) F.1 F.2.1 dL_pages_12 rfl hl (by decide) rfl (fun ls hl => ?_)
      refine lv_sipush (pc := 13) (v := (-1002)) F.1 F.2.1 dL_pages_13 (by decide) ?_
      exact mm_iret (pc := 16) F hr hN (⟨by rw [lq_i2 hq], hx9⟩) (Nat.le_of_ble_eq_true rfl) (Nat.le_of_ble_eq_true rfl) dL_pages_16
  ·
    obtain ⟨hq, rfl, hx9⟩ := hp9
    refine W.eq (g2 := F0 m 6 ls [.int (nI (mm_pgs T t f))]) rfl ?_
    refine W.widen (k := 6) (n := 40) (Nat.le_of_ble_eq_true rfl) (Nat.le_of_ble_eq_true rfl) ?_
    exact mm_iret (pc := 6) F hr hN (⟨by rw [lq_i0 hq], hx9⟩) (Nat.le_of_ble_eq_true rfl) (Nat.le_of_ble_eq_true rfl) dL_pages_6

set_option maxHeartbeats 4000000 in
set_option maxRecDepth 100000 in
theorem e_paper (l : Launch) (b : Nat) (D : mm_D) (hst : l.stackTraces = false) (T : mm_T) (x0 : Nat) (σ : mm_S) (hV : lq_V σ T x0) (hW : mm_WF T) (n : Nat) (zn : n < 2 ^ 32) : mm_K l b D yL_buys (.codeWith yL_buys cL_buys 4 (some .int) [(0, 44, 45, 13), (0, 44, 50, 15)]) ({ frames := 9, cells := 6, slots := 40, locals := 260 } : Room) [.ref x0, .int (nI 112), .int (nI n)] σ
    (fun v σ2 => v = some (.int (lq_i (mm_q_buyPaper T n) (T.pa + n))) ∧ mm_Xt σ σ2 (if mm_q_buyPaper T n = 0 then ((T.w 0 (mm_u2 (T 0) 4 0 (T.pa + n))).w 0 (mm_u2 (mm_u2 (T 0) 4 0 (T.pa + n)) 6 0 (T.b0 + n))) else T) x0)
    (fun _ _ => False) := by
  refine mm_ofX (cc := cL_buys) (nL := 4) (ret := (some .int)) (by decide) rfl (Nat.le_of_ble_eq_true rfl) hst ?_
  intro p e s m args below meth c ls F ht hr hN hl
  have hl : lv_has ls 4 [(0, .ref x0), (1, .int (nI 112)), (2, .int (nI n))] := hl
  obtain ⟨z, ad, hX, rfl⟩ := hV
  refine lv_iload_n (pc := 0) F.1 F.2.1 dL_buys_0 rfl (lv_at hl 1 rfl) ?_
  refine lv_bipush (pc := 1) (v := nI 112) F.1 F.2.1 dL_buys_1 (by decide) ?_
  refine mm_icmp_ne (pc := 3) F (x := 112) (y := 112) (tgt := 14) (by omega) (by omega) dL_buys_3 (by decide) (fun h9 => absurd h9 (by decide)) (fun cz3 => ?_)
  refine lv_aload_n (pc := 6) F.1 F.2.1 dL_buys_6 rfl (lv_at hl 0 rfl) ?_
  refine lv_iload_n (pc := 7) F.1 F.2.1 dL_buys_7 rfl (lv_at hl 2 rfl) ?_
  refine mm_runV (pc := 8) (As := [.int (nI n)]) (rest := []) F hN (a_buyPaper l b D hst T z ad σ hX hW n zn) mw_521 mw_522 mw_523 mw_1 mw_524 ⟨pmX6_buyPaper, (Nat.le_of_ble_eq_true rfl), (Nat.le_of_ble_eq_true rfl)⟩ (mm_recv F.2.2.2.2.2.1 hN (mm_X0 hX) rfl) hl.1 rfl (Nat.le_of_ble_eq_true rfl) ⟨(Nat.le_of_ble_eq_true rfl), (Nat.le_of_ble_eq_true rfl)⟩ dL_buys_8
    (fun E9 σ9 H locs q9 ce9 hp9 hN hq9 hv9 hcl9 => ?_) (fun v9 σ9 H locs hp9 hN => ?_)
  ·
    obtain ⟨hq, hx9⟩ := hp9
    rcases hq with ⟨hq, rfl⟩ | ⟨hq, rfl⟩
    ·
      refine lq_catch F hN [] ⟨0, 44, 45, 13⟩ [⟨0, 44, 50, 15⟩] ht (fun _ h => absurd h List.not_mem_nil) (by decide) (by decide) mw_119 mw_127 hq9 hv9 hcl9 ?_
      refine W.eq (g2 := F0 m 45 ls [.ref q9]) rfl ?_
      refine W.widen (k := 6) (n := 40) (Nat.le_of_ble_eq_true rfl) (Nat.le_of_ble_eq_true rfl) ?_
      refine lv_astore_n (pc := 45) (lv' := [(3, .ref q9), (0, .ref ((ad 0 0 0))), (1, .int (nI 112)), (2, .int (nI n))]) F.1 F.2.1 dL_buys_45 rfl hl (by decide) rfl (fun ls hl => ?_)
      refine lv_sipush (pc := 46) (v := (-1001)) F.1 F.2.1 dL_buys_46 (by decide) ?_
      exact mm_iret (pc := 49) F hr hN (⟨by rw [lq_i1 hq], hx9.eq (if_neg (by omega))⟩) (Nat.le_of_ble_eq_true rfl) (Nat.le_of_ble_eq_true rfl) dL_buys_49
    ·
      refine lq_catch F hN [⟨0, 44, 45, 13⟩] ⟨0, 44, 50, 15⟩ [] ht (List.forall_mem_cons.mpr ⟨Or.inr ⟨by decide, _, mw_119, List.mem_of_getElem? (i := 4) rfl⟩, fun _ h => absurd h List.not_mem_nil⟩) (by decide) (by decide) mw_120 mw_202 hq9 hv9 hcl9 ?_
      refine W.eq (g2 := F0 m 50 ls [.ref q9]) rfl ?_
      refine W.widen (k := 6) (n := 40) (Nat.le_of_ble_eq_true rfl) (Nat.le_of_ble_eq_true rfl) ?_
      refine lv_astore_n (pc := 50) (lv' := [(3, .ref q9), (0, .ref ((ad 0 0 0))), (1, .int (nI 112)), (2, .int (nI n))]) F.1 F.2.1 dL_buys_50 rfl hl (by decide) rfl (fun ls hl => ?_)
      refine lv_sipush (pc := 51) (v := (-1002)) F.1 F.2.1 dL_buys_51 (by decide) ?_
      exact mm_iret (pc := 54) F hr hN (⟨by rw [lq_i2 hq], hx9.eq (if_neg (by omega))⟩) (Nat.le_of_ble_eq_true rfl) (Nat.le_of_ble_eq_true rfl) dL_buys_54
  ·
    obtain ⟨hq, rfl, hx9⟩ := hp9
    refine W.eq (g2 := F0 m 11 ls [.int (nI (T.pa + n))]) rfl ?_
    refine W.widen (k := 6) (n := 40) (Nat.le_of_ble_eq_true rfl) (Nat.le_of_ble_eq_true rfl) ?_
    refine lv_goto (pc := 11) (tgt := 44) F.1 F.2.1 dL_buys_11 (by decide) ?_
    exact mm_iret (pc := 44) F hr hN (⟨by rw [lq_i0 hq], hx9.eq (if_pos hq)⟩) (Nat.le_of_ble_eq_true rfl) (Nat.le_of_ble_eq_true rfl) dL_buys_44

set_option maxHeartbeats 4000000 in
set_option maxRecDepth 100000 in
theorem e_bound (l : Launch) (b : Nat) (D : mm_D) (hst : l.stackTraces = false) (T : mm_T) (x0 : Nat) (σ : mm_S) (hV : lq_V σ T x0) (hW : mm_WF T) (n : Nat) (zn : n < 2 ^ 32) : mm_K l b D yL_buys (.codeWith yL_buys cL_buys 4 (some .int) [(0, 44, 45, 13), (0, 44, 50, 15)]) ({ frames := 9, cells := 6, slots := 40, locals := 260 } : Room) [.ref x0, .int (nI 98), .int (nI n)] σ
    (fun v σ2 => v = some (.int (lq_i (mm_q_setBound T n) (T.bo))) ∧ mm_Xt σ σ2 (if mm_q_setBound T n = 0 then (T.w 0 (mm_u2 (T 0) 5 0 n)) else T) x0)
    (fun _ _ => False) := by
  refine mm_ofX (cc := cL_buys) (nL := 4) (ret := (some .int)) (by decide) rfl (Nat.le_of_ble_eq_true rfl) hst ?_
  intro p e s m args below meth c ls F ht hr hN hl
  have hl : lv_has ls 4 [(0, .ref x0), (1, .int (nI 98)), (2, .int (nI n))] := hl
  obtain ⟨z, ad, hX, rfl⟩ := hV
  refine lv_iload_n (pc := 0) F.1 F.2.1 dL_buys_0 rfl (lv_at hl 1 rfl) ?_
  refine lv_bipush (pc := 1) (v := nI 112) F.1 F.2.1 dL_buys_1 (by decide) ?_
  refine mm_icmp_ne (pc := 3) F (x := 98) (y := 112) (tgt := 14) (by omega) (by omega) dL_buys_3 (by decide) (fun cz3 => ?_) (fun h9 => absurd h9 (by decide))
  refine lv_iload_n (pc := 14) F.1 F.2.1 dL_buys_14 rfl (lv_at hl 1 rfl) ?_
  refine lv_bipush (pc := 15) (v := nI 98) F.1 F.2.1 dL_buys_15 (by decide) ?_
  refine mm_icmp_ne (pc := 17) F (x := 98) (y := 98) (tgt := 28) (by omega) (by omega) dL_buys_17 (by decide) (fun h9 => absurd h9 (by decide)) (fun cz17 => ?_)
  refine lv_aload_n (pc := 20) F.1 F.2.1 dL_buys_20 rfl (lv_at hl 0 rfl) ?_
  refine lv_iload_n (pc := 21) F.1 F.2.1 dL_buys_21 rfl (lv_at hl 2 rfl) ?_
  refine mm_runV (pc := 22) (As := [.int (nI n)]) (rest := []) F hN (a_setBound l b D hst T z ad σ hX hW n zn) mw_530 mw_531 mw_532 mw_1 mw_533 ⟨pmX6_setBound, (Nat.le_of_ble_eq_true rfl), (Nat.le_of_ble_eq_true rfl)⟩ (mm_recv F.2.2.2.2.2.1 hN (mm_X0 hX) rfl) hl.1 rfl (Nat.le_of_ble_eq_true rfl) ⟨(Nat.le_of_ble_eq_true rfl), (Nat.le_of_ble_eq_true rfl)⟩ dL_buys_22
    (fun E9 σ9 H locs q9 ce9 hp9 hN hq9 hv9 hcl9 => ?_) (fun v9 σ9 H locs hp9 hN => ?_)
  ·
    obtain ⟨hq, hx9⟩ := hp9
    obtain ⟨hq, rfl⟩ := hq
    refine lq_catch F hN [] ⟨0, 44, 45, 13⟩ [⟨0, 44, 50, 15⟩] ht (fun _ h => absurd h List.not_mem_nil) (by decide) (by decide) mw_119 mw_127 hq9 hv9 hcl9 ?_
    refine W.eq (g2 := F0 m 45 ls [.ref q9]) rfl ?_
    refine W.widen (k := 6) (n := 40) (Nat.le_of_ble_eq_true rfl) (Nat.le_of_ble_eq_true rfl) ?_
    refine lv_astore_n (pc := 45) (lv' := [(3, .ref q9), (0, .ref ((ad 0 0 0))), (1, .int (nI 98)), (2, .int (nI n))]) F.1 F.2.1 dL_buys_45 rfl hl (by decide) rfl (fun ls hl => ?_)
    refine lv_sipush (pc := 46) (v := (-1001)) F.1 F.2.1 dL_buys_46 (by decide) ?_
    exact mm_iret (pc := 49) F hr hN (⟨by rw [lq_i1 hq], hx9.eq (if_neg (by omega))⟩) (Nat.le_of_ble_eq_true rfl) (Nat.le_of_ble_eq_true rfl) dL_buys_49
  ·
    obtain ⟨hq, rfl, hx9⟩ := hp9
    refine W.eq (g2 := F0 m 25 ls [.int (nI (T.bo))]) rfl ?_
    refine W.widen (k := 6) (n := 40) (Nat.le_of_ble_eq_true rfl) (Nat.le_of_ble_eq_true rfl) ?_
    refine lv_goto (pc := 25) (tgt := 44) F.1 F.2.1 dL_buys_25 (by decide) ?_
    exact mm_iret (pc := 44) F hr hN (⟨by rw [lq_i0 hq], hx9.eq (if_pos hq)⟩) (Nat.le_of_ble_eq_true rfl) (Nat.le_of_ble_eq_true rfl) dL_buys_44

set_option maxHeartbeats 4000000 in
set_option maxRecDepth 100000 in
theorem e_large (l : Launch) (b : Nat) (D : mm_D) (hst : l.stackTraces = false) (T : mm_T) (x0 : Nat) (σ : mm_S) (hV : lq_V σ T x0) (hW : mm_WF T) (n : Nat) (zn : n < 2 ^ 32) : mm_K l b D yL_buys (.codeWith yL_buys cL_buys 4 (some .int) [(0, 44, 45, 13), (0, 44, 50, 15)]) ({ frames := 9, cells := 6, slots := 40, locals := 260 } : Room) [.ref x0, .int (nI 108), .int (nI n)] σ
    (fun v σ2 => v = some (.int (lq_i (mm_q_buyEnvelopes T 1 n) (T.en 1 + n))) ∧ mm_Xt σ σ2 (if mm_q_buyEnvelopes T 1 n = 0 then ((T.w 12 (mm_u2 (T 12) 1 0 (T.en 1 + n))).w 0 (mm_u2 (T 0) 8 0 (T 0 8 0 + n))) else T) x0)
    (fun _ _ => False) := by
  refine mm_ofX (cc := cL_buys) (nL := 4) (ret := (some .int)) (by decide) rfl (Nat.le_of_ble_eq_true rfl) hst ?_
  intro p e s m args below meth c ls F ht hr hN hl
  have hl : lv_has ls 4 [(0, .ref x0), (1, .int (nI 108)), (2, .int (nI n))] := hl
  obtain ⟨z, ad, hX, rfl⟩ := hV
  refine lv_iload_n (pc := 0) F.1 F.2.1 dL_buys_0 rfl (lv_at hl 1 rfl) ?_
  refine lv_bipush (pc := 1) (v := nI 112) F.1 F.2.1 dL_buys_1 (by decide) ?_
  refine mm_icmp_ne (pc := 3) F (x := 108) (y := 112) (tgt := 14) (by omega) (by omega) dL_buys_3 (by decide) (fun cz3 => ?_) (fun h9 => absurd h9 (by decide))
  refine lv_iload_n (pc := 14) F.1 F.2.1 dL_buys_14 rfl (lv_at hl 1 rfl) ?_
  refine lv_bipush (pc := 15) (v := nI 98) F.1 F.2.1 dL_buys_15 (by decide) ?_
  refine mm_icmp_ne (pc := 17) F (x := 108) (y := 98) (tgt := 28) (by omega) (by omega) dL_buys_17 (by decide) (fun cz17 => ?_) (fun h9 => absurd h9 (by decide))
  refine lv_aload_n (pc := 28) F.1 F.2.1 dL_buys_28 rfl (lv_at hl 0 rfl) ?_
  refine lv_iload_n (pc := 29) F.1 F.2.1 dL_buys_29 rfl (lv_at hl 1 rfl) ?_
  refine lv_bipush (pc := 30) (v := nI 108) F.1 F.2.1 dL_buys_30 (by decide) ?_
  refine mm_icmp_ne (pc := 32) F (x := 108) (y := 108) (tgt := 39) (by omega) (by omega) dL_buys_32 (by decide) (fun h9 => absurd h9 (by decide)) (fun cz32 => ?_)
  refine lv_iconst (pc := 35) (v := nI 1) F.1 F.2.1 dL_buys_35 (by decide) ?_
  refine lv_goto (pc := 36) (tgt := 40) F.1 F.2.1 dL_buys_36 (by decide) ?_
  refine lv_iload_n (pc := 40) F.1 F.2.1 dL_buys_40 rfl (lv_at hl 2 rfl) ?_
  refine mm_runV (pc := 41) (As := [.int (nI 1), .int (nI n)]) (rest := []) F hN (a_buyEnv1 l b D hst T z ad σ hX hW n zn) mw_535 mw_536 mw_537 mw_1 mw_538 ⟨pmX6_buyEnvelopes, (Nat.le_of_ble_eq_true rfl), (Nat.le_of_ble_eq_true rfl)⟩ (mm_recv F.2.2.2.2.2.1 hN (mm_X0 hX) rfl) hl.1 rfl (Nat.le_of_ble_eq_true rfl) ⟨(Nat.le_of_ble_eq_true rfl), (Nat.le_of_ble_eq_true rfl)⟩ dL_buys_41
    (fun E9 σ9 H locs q9 ce9 hp9 hN hq9 hv9 hcl9 => ?_) (fun v9 σ9 H locs hp9 hN => ?_)
  ·
    obtain ⟨hq, hx9⟩ := hp9
    rcases hq with ⟨hq, rfl⟩ | ⟨hq, rfl⟩
    ·
      refine lq_catch F hN [] ⟨0, 44, 45, 13⟩ [⟨0, 44, 50, 15⟩] ht (fun _ h => absurd h List.not_mem_nil) (by decide) (by decide) mw_119 mw_127 hq9 hv9 hcl9 ?_
      refine W.eq (g2 := F0 m 45 ls [.ref q9]) rfl ?_
      refine W.widen (k := 6) (n := 40) (Nat.le_of_ble_eq_true rfl) (Nat.le_of_ble_eq_true rfl) ?_
      refine lv_astore_n (pc := 45) (lv' := [(3, .ref q9), (0, .ref ((ad 0 0 0))), (1, .int (nI 108)), (2, .int (nI n))]) F.1 F.2.1 dL_buys_45 rfl hl (by decide) rfl (fun ls hl => ?_)
      refine lv_sipush (pc := 46) (v := (-1001)) F.1 F.2.1 dL_buys_46 (by decide) ?_
      exact mm_iret (pc := 49) F hr hN (⟨by rw [lq_i1 hq], hx9.eq (if_neg (by omega))⟩) (Nat.le_of_ble_eq_true rfl) (Nat.le_of_ble_eq_true rfl) dL_buys_49
    ·
      refine lq_catch F hN [⟨0, 44, 45, 13⟩] ⟨0, 44, 50, 15⟩ [] ht (List.forall_mem_cons.mpr ⟨Or.inr ⟨by decide, _, mw_119, List.mem_of_getElem? (i := 4) rfl⟩, fun _ h => absurd h List.not_mem_nil⟩) (by decide) (by decide) mw_120 mw_202 hq9 hv9 hcl9 ?_
      refine W.eq (g2 := F0 m 50 ls [.ref q9]) rfl ?_
      refine W.widen (k := 6) (n := 40) (Nat.le_of_ble_eq_true rfl) (Nat.le_of_ble_eq_true rfl) ?_
      refine lv_astore_n (pc := 50) (lv' := [(3, .ref q9), (0, .ref ((ad 0 0 0))), (1, .int (nI 108)), (2, .int (nI n))]) F.1 F.2.1 dL_buys_50 rfl hl (by decide) rfl (fun ls hl => ?_)
      refine lv_sipush (pc := 51) (v := (-1002)) F.1 F.2.1 dL_buys_51 (by decide) ?_
      exact mm_iret (pc := 54) F hr hN (⟨by rw [lq_i2 hq], hx9.eq (if_neg (by omega))⟩) (Nat.le_of_ble_eq_true rfl) (Nat.le_of_ble_eq_true rfl) dL_buys_54
  ·
    obtain ⟨hq, rfl, hx9⟩ := hp9
    refine W.eq (g2 := F0 m 44 ls [.int (nI (T.en 1 + n))]) rfl ?_
    refine W.widen (k := 6) (n := 40) (Nat.le_of_ble_eq_true rfl) (Nat.le_of_ble_eq_true rfl) ?_
    exact mm_iret (pc := 44) F hr hN (⟨by rw [lq_i0 hq], hx9.eq (if_pos hq)⟩) (Nat.le_of_ble_eq_true rfl) (Nat.le_of_ble_eq_true rfl) dL_buys_44

set_option maxHeartbeats 4000000 in
set_option maxRecDepth 100000 in
theorem e_small (l : Launch) (b : Nat) (D : mm_D) (hst : l.stackTraces = false) (T : mm_T) (x0 : Nat) (σ : mm_S) (hV : lq_V σ T x0) (hW : mm_WF T) (n : Nat) (zn : n < 2 ^ 32) (u_c : Nat) (zc : u_c < 65536) (hp : ¬ u_c = 112) (hb9 : ¬ u_c = 98) (hl9 : ¬ u_c = 108) : mm_K l b D yL_buys (.codeWith yL_buys cL_buys 4 (some .int) [(0, 44, 45, 13), (0, 44, 50, 15)]) ({ frames := 9, cells := 6, slots := 40, locals := 260 } : Room) [.ref x0, .int (nI u_c), .int (nI n)] σ
    (fun v σ2 => v = some (.int (lq_i (mm_q_buyEnvelopes T 0 n) (T.en 0 + n))) ∧ mm_Xt σ σ2 (if mm_q_buyEnvelopes T 0 n = 0 then ((T.w 12 (mm_u2 (T 12) 0 0 (T.en 0 + n))).w 0 (mm_u2 (T 0) 7 0 (T 0 7 0 + n))) else T) x0)
    (fun _ _ => False) := by
  refine mm_ofX (cc := cL_buys) (nL := 4) (ret := (some .int)) (by decide) rfl (Nat.le_of_ble_eq_true rfl) hst ?_
  intro p e s m args below meth c ls F ht hr hN hl
  have hl : lv_has ls 4 [(0, .ref x0), (1, .int (nI u_c)), (2, .int (nI n))] := hl
  obtain ⟨z, ad, hX, rfl⟩ := hV
  refine lv_iload_n (pc := 0) F.1 F.2.1 dL_buys_0 rfl (lv_at hl 1 rfl) ?_
  refine lv_bipush (pc := 1) (v := nI 112) F.1 F.2.1 dL_buys_1 (by decide) ?_
  refine mm_icmp_neB (pc := 3) F (x := u_c) (y := 112) (tgt := 14) (by omega) (by omega) dL_buys_3 (by decide) (fun cz3 => ?_) (fun cz3 => ?_)
  ·
    refine lv_iload_n (pc := 14) F.1 F.2.1 dL_buys_14 rfl (lv_at hl 1 rfl) ?_
    refine lv_bipush (pc := 15) (v := nI 98) F.1 F.2.1 dL_buys_15 (by decide) ?_
    refine mm_icmp_neB (pc := 17) F (x := u_c) (y := 98) (tgt := 28) (by omega) (by omega) dL_buys_17 (by decide) (fun cz17 => ?_) (fun cz17 => ?_)
    ·
      refine lv_aload_n (pc := 28) F.1 F.2.1 dL_buys_28 rfl (lv_at hl 0 rfl) ?_
      refine lv_iload_n (pc := 29) F.1 F.2.1 dL_buys_29 rfl (lv_at hl 1 rfl) ?_
      refine lv_bipush (pc := 30) (v := nI 108) F.1 F.2.1 dL_buys_30 (by decide) ?_
      refine mm_icmp_neB (pc := 32) F (x := u_c) (y := 108) (tgt := 39) (by omega) (by omega) dL_buys_32 (by decide) (fun cz32 => ?_) (fun cz32 => ?_)
      ·
        refine lv_iconst (pc := 39) (v := nI 0) F.1 F.2.1 dL_buys_39 (by decide) ?_
        refine lv_iload_n (pc := 40) F.1 F.2.1 dL_buys_40 rfl (lv_at hl 2 rfl) ?_
        refine mm_runV (pc := 41) (As := [.int (nI 0), .int (nI n)]) (rest := []) F hN (a_buyEnv0 l b D hst T z ad σ hX hW n zn) mw_535 mw_536 mw_537 mw_1 mw_538 ⟨pmX6_buyEnvelopes, (Nat.le_of_ble_eq_true rfl), (Nat.le_of_ble_eq_true rfl)⟩ (mm_recv F.2.2.2.2.2.1 hN (mm_X0 hX) rfl) hl.1 rfl (Nat.le_of_ble_eq_true rfl) ⟨(Nat.le_of_ble_eq_true rfl), (Nat.le_of_ble_eq_true rfl)⟩ dL_buys_41
          (fun E9 σ9 H locs q9 ce9 hp9 hN hq9 hv9 hcl9 => ?_) (fun v9 σ9 H locs hp9 hN => ?_)
        ·
          obtain ⟨hq, hx9⟩ := hp9
          rcases hq with ⟨hq, rfl⟩ | ⟨hq, rfl⟩
          ·
            refine lq_catch F hN [] ⟨0, 44, 45, 13⟩ [⟨0, 44, 50, 15⟩] ht (fun _ h => absurd h List.not_mem_nil) (by decide) (by decide) mw_119 mw_127 hq9 hv9 hcl9 ?_
            refine W.eq (g2 := F0 m 45 ls [.ref q9]) rfl ?_
            refine W.widen (k := 6) (n := 40) (Nat.le_of_ble_eq_true rfl) (Nat.le_of_ble_eq_true rfl) ?_
            refine lv_astore_n (pc := 45) (lv' := [(3, .ref q9), (0, .ref ((ad 0 0 0))), (1, .int (nI u_c)), (2, .int (nI n))]) F.1 F.2.1 dL_buys_45 rfl hl (by decide) rfl (fun ls hl => ?_)
            refine lv_sipush (pc := 46) (v := (-1001)) F.1 F.2.1 dL_buys_46 (by decide) ?_
            exact mm_iret (pc := 49) F hr hN (⟨by rw [lq_i1 hq], hx9.eq (if_neg (by omega))⟩) (Nat.le_of_ble_eq_true rfl) (Nat.le_of_ble_eq_true rfl) dL_buys_49
          ·
            refine lq_catch F hN [⟨0, 44, 45, 13⟩] ⟨0, 44, 50, 15⟩ [] ht (List.forall_mem_cons.mpr ⟨Or.inr ⟨by decide, _, mw_119, List.mem_of_getElem? (i := 4) rfl⟩, fun _ h => absurd h List.not_mem_nil⟩) (by decide) (by decide) mw_120 mw_202 hq9 hv9 hcl9 ?_
            refine W.eq (g2 := F0 m 50 ls [.ref q9]) rfl ?_
            refine W.widen (k := 6) (n := 40) (Nat.le_of_ble_eq_true rfl) (Nat.le_of_ble_eq_true rfl) ?_
            refine lv_astore_n (pc := 50) (lv' := [(3, .ref q9), (0, .ref ((ad 0 0 0))), (1, .int (nI u_c)), (2, .int (nI n))]) F.1 F.2.1 dL_buys_50 rfl hl (by decide) rfl (fun ls hl => ?_)
            refine lv_sipush (pc := 51) (v := (-1002)) F.1 F.2.1 dL_buys_51 (by decide) ?_
            exact mm_iret (pc := 54) F hr hN (⟨by rw [lq_i2 hq], hx9.eq (if_neg (by omega))⟩) (Nat.le_of_ble_eq_true rfl) (Nat.le_of_ble_eq_true rfl) dL_buys_54
        ·
          obtain ⟨hq, rfl, hx9⟩ := hp9
          refine W.eq (g2 := F0 m 44 ls [.int (nI (T.en 0 + n))]) rfl ?_
          refine W.widen (k := 6) (n := 40) (Nat.le_of_ble_eq_true rfl) (Nat.le_of_ble_eq_true rfl) ?_
          exact mm_iret (pc := 44) F hr hN (⟨by rw [lq_i0 hq], hx9.eq (if_pos hq)⟩) (Nat.le_of_ble_eq_true rfl) (Nat.le_of_ble_eq_true rfl) dL_buys_44
      ·
        exact absurd cz32 hl9
    ·
      exact absurd cz17 hb9
  ·
    exact absurd cz3 hp

set_option maxHeartbeats 4000000 in
set_option maxRecDepth 100000 in
theorem e_run (l : Launch) (b : Nat) (D : mm_D) (hst : l.stackTraces = false) (T : mm_T) (x0 : Nat) (σ : mm_S) (hV : lq_V σ T x0) (hW : mm_WF T) (t : Nat) (zt : t < 2 ^ 32) (hh : Nat) (zhh : hh < 2) : mm_K l b D yL_run (.codeWith yL_run cL_run 4 (some .int) [(0, 6, 7, 30), (0, 6, 12, 15)]) ({ frames := 10, cells := 100, slots := 9000, locals := 300 } : Room) [.ref x0, .int (nI t), .int (nI hh)] σ
    (fun v σ2 => v = some (.int (lq_i (mm_q_run T t hh) (T.nR))) ∧ mm_Xt σ σ2 (if mm_q_run T t hh = 0 then (mm_t_run T t hh) else T) x0)
    (fun _ _ => False) := by
  refine mm_ofX (cc := cL_run) (nL := 4) (ret := (some .int)) (by decide) rfl (Nat.le_of_ble_eq_true rfl) hst ?_
  intro p e s m args below meth c ls F ht hr hN hl
  have hl : lv_has ls 4 [(0, .ref x0), (1, .int (nI t)), (2, .int (nI hh))] := hl
  obtain ⟨z, ad, hX, rfl⟩ := hV
  refine lv_aload_n (pc := 0) F.1 F.2.1 dL_run_0 rfl (lv_at hl 0 rfl) ?_
  refine lv_iload_n (pc := 1) F.1 F.2.1 dL_run_1 rfl (lv_at hl 1 rfl) ?_
  refine lv_iload_n (pc := 2) F.1 F.2.1 dL_run_2 rfl (lv_at hl 2 rfl) ?_
  refine mm_runV (pc := 3) (As := [.int (nI t), .int (nI hh)]) (rest := []) F hN (a_run l b D hst T z ad σ hX hW t zt hh zhh) mw_550 mw_551 mw_552 mw_1 mw_553 ⟨pmX6_run, (Nat.le_of_ble_eq_true rfl), (Nat.le_of_ble_eq_true rfl)⟩ (mm_recv F.2.2.2.2.2.1 hN (mm_X0 hX) rfl) hl.1 rfl (Nat.le_of_ble_eq_true rfl) ⟨(Nat.le_of_ble_eq_true rfl), (Nat.le_of_ble_eq_true rfl)⟩ dL_run_3
    (fun E9 σ9 H locs q9 ce9 hp9 hN hq9 hv9 hcl9 => ?_) (fun v9 σ9 H locs hp9 hN => ?_)
  ·
    obtain ⟨hq, hx9⟩ := hp9
    rcases hq with ⟨hq, rfl⟩ | ⟨hq, rfl⟩
    ·
      refine lq_catch F hN [] ⟨0, 6, 7, 30⟩ [⟨0, 6, 12, 15⟩] ht (fun _ h => absurd h List.not_mem_nil) (by decide) (by decide) mw_312 mw_346 hq9 hv9 hcl9 ?_
      refine W.eq (g2 := F0 m 7 ls [.ref q9]) rfl ?_
      refine W.widen (k := 100) (n := 9000) (Nat.le_of_ble_eq_true rfl) (Nat.le_of_ble_eq_true rfl) ?_
      refine lv_astore_n (pc := 7) (lv' := [(3, .ref q9), (0, .ref ((ad 0 0 0))), (1, .int (nI t)), (2, .int (nI hh))]) F.1 F.2.1 dL_run_7 rfl hl (by decide) rfl (fun ls hl => ?_)
      refine lv_sipush (pc := 8) (v := (-1001)) F.1 F.2.1 dL_run_8 (by decide) ?_
      exact mm_iret (pc := 11) F hr hN (⟨by rw [lq_i1 hq], hx9.eq (if_neg (by omega))⟩) (Nat.le_of_ble_eq_true rfl) (Nat.le_of_ble_eq_true rfl) dL_run_11
    ·
      refine lq_catch F hN [⟨0, 6, 7, 30⟩] ⟨0, 6, 12, 15⟩ [] ht (List.forall_mem_cons.mpr ⟨Or.inr ⟨by decide, _, mw_312, List.mem_of_getElem? (i := 5) rfl⟩, fun _ h => absurd h List.not_mem_nil⟩) (by decide) (by decide) mw_120 mw_202 hq9 hv9 hcl9 ?_
      refine W.eq (g2 := F0 m 12 ls [.ref q9]) rfl ?_
      refine W.widen (k := 100) (n := 9000) (Nat.le_of_ble_eq_true rfl) (Nat.le_of_ble_eq_true rfl) ?_
      refine lv_astore_n (pc := 12) (lv' := [(3, .ref q9), (0, .ref ((ad 0 0 0))), (1, .int (nI t)), (2, .int (nI hh))]) F.1 F.2.1 dL_run_12 rfl hl (by decide) rfl (fun ls hl => ?_)
      refine lv_sipush (pc := 13) (v := (-1002)) F.1 F.2.1 dL_run_13 (by decide) ?_
      exact mm_iret (pc := 16) F hr hN (⟨by rw [lq_i2 hq], hx9.eq (if_neg (by omega))⟩) (Nat.le_of_ble_eq_true rfl) (Nat.le_of_ble_eq_true rfl) dL_run_16
  ·
    obtain ⟨hq, rfl, hx9⟩ := hp9
    refine W.eq (g2 := F0 m 6 ls [.int (nI (T.nR))]) rfl ?_
    refine W.widen (k := 100) (n := 9000) (Nat.le_of_ble_eq_true rfl) (Nat.le_of_ble_eq_true rfl) ?_
    exact mm_iret (pc := 6) F hr hN (⟨by rw [lq_i0 hq], hx9.eq (if_pos hq)⟩) (Nat.le_of_ble_eq_true rfl) (Nat.le_of_ble_eq_true rfl) dL_run_6

set_option maxHeartbeats 4000000 in
set_option maxRecDepth 100000 in
theorem e_prev (l : Launch) (b : Nat) (D : mm_D) (hst : l.stackTraces = false) (T : mm_T) (x0 : Nat) (σ : mm_S) (hV : lq_V σ T x0) (hW : mm_WF T) (t : Nat) (zt : t < 2 ^ 32) (hh : Nat) (zhh : hh < 2) (i : Nat) (zi : i < 2 ^ 32) : mm_K l b D yL_preview (.codeWith yL_preview cL_preview 6 (some .int) [(0, 22, 23, 30)]) ({ frames := 9, cells := 6, slots := 40, locals := 260 } : Room) [.ref x0, .int (nI t), .int (nI hh), .int (nI i), .int (nI 0)] σ
    (fun v σ2 => v = some (.int (lq_i (mm_q_preview T t hh i) (mm_oc T t hh i))) ∧ mm_Xt σ σ2 T x0)
    (fun _ _ => False) := by
  refine mm_ofX (cc := cL_preview) (nL := 6) (ret := (some .int)) (by decide) rfl (Nat.le_of_ble_eq_true rfl) hst ?_
  intro p e s m args below meth c ls F ht hr hN hl
  have hl : lv_has ls 6 [(0, .ref x0), (1, .int (nI t)), (2, .int (nI hh)), (3, .int (nI i)), (4, .int (nI 0))] := hl
  obtain ⟨z, ad, hX, rfl⟩ := hV
  refine lv_iload (pc := 0) F.1 F.2.1 dL_preview_0 (lv_at hl 4 rfl) ?_
  refine mm_if_eq (pc := 2) F (tgt := 15) (by omega) dL_preview_2 (by decide) (fun cz2 => ?_) (fun h9 => absurd h9 (by decide))
  refine lv_aload_n (pc := 15) F.1 F.2.1 dL_preview_15 rfl (lv_at hl 0 rfl) ?_
  refine lv_iload_n (pc := 16) F.1 F.2.1 dL_preview_16 rfl (lv_at hl 1 rfl) ?_
  refine lv_iload_n (pc := 17) F.1 F.2.1 dL_preview_17 rfl (lv_at hl 2 rfl) ?_
  refine lv_iload_n (pc := 18) F.1 F.2.1 dL_preview_18 rfl (lv_at hl 3 rfl) ?_
  refine mm_runV (pc := 19) (As := [.int (nI t), .int (nI hh), .int (nI i)]) (rest := []) F hN (a_preview l b D hst T z ad σ hX hW t zt hh zhh i zi) mw_956 mw_957 mw_958 mw_1 mw_959 ⟨pmX6_preview, (Nat.le_of_ble_eq_true rfl), (Nat.le_of_ble_eq_true rfl)⟩ (mm_recv F.2.2.2.2.2.1 hN (mm_X0 hX) rfl) hl.1 rfl (Nat.le_of_ble_eq_true rfl) ⟨(Nat.le_of_ble_eq_true rfl), (Nat.le_of_ble_eq_true rfl)⟩ dL_preview_19
    (fun E9 σ9 H locs q9 ce9 hp9 hN hq9 hv9 hcl9 => ?_) (fun v9 σ9 H locs hp9 hN => ?_)
  ·
    obtain ⟨hq, hx9⟩ := hp9
    obtain ⟨hq, rfl⟩ := hq
    refine lq_catch F hN [] ⟨0, 22, 23, 30⟩ [] ht (fun _ h => absurd h List.not_mem_nil) (by decide) (by decide) mw_312 mw_346 hq9 hv9 hcl9 ?_
    refine W.eq (g2 := F0 m 23 ls [.ref q9]) rfl ?_
    refine W.widen (k := 6) (n := 40) (Nat.le_of_ble_eq_true rfl) (Nat.le_of_ble_eq_true rfl) ?_
    refine lv_astore (pc := 23) (lv' := [(5, .ref q9), (0, .ref ((ad 0 0 0))), (1, .int (nI t)), (2, .int (nI hh)), (3, .int (nI i)), (4, .int (nI 0))]) F.1 F.2.1 dL_preview_23 hl (by decide) rfl (fun ls hl => ?_)
    refine lv_sipush (pc := 25) (v := (-1001)) F.1 F.2.1 dL_preview_25 (by decide) ?_
    exact mm_iret (pc := 28) F hr hN (⟨by rw [lq_i1 hq], hx9⟩) (Nat.le_of_ble_eq_true rfl) (Nat.le_of_ble_eq_true rfl) dL_preview_28
  ·
    obtain ⟨hq, rfl, hx9⟩ := hp9
    refine W.eq (g2 := F0 m 22 ls [.int (nI (mm_oc T t hh i))]) rfl ?_
    refine W.widen (k := 6) (n := 40) (Nat.le_of_ble_eq_true rfl) (Nat.le_of_ble_eq_true rfl) ?_
    exact mm_iret (pc := 22) F hr hN (⟨by rw [lq_i0 hq], hx9⟩) (Nat.le_of_ble_eq_true rfl) (Nat.le_of_ble_eq_true rfl) dL_preview_22

set_option maxHeartbeats 4000000 in
set_option maxRecDepth 100000 in
theorem e_prevA (l : Launch) (b : Nat) (D : mm_D) (hst : l.stackTraces = false) (T : mm_T) (x0 : Nat) (σ : mm_S) (hV : lq_V σ T x0) (hW : mm_WF T) (t : Nat) (zt : t < 2 ^ 32) (hh : Nat) (zhh : hh < 2) (i : Nat) (zi : i < 2 ^ 32) : mm_K l b D yL_preview (.codeWith yL_preview cL_preview 6 (some .int) [(0, 22, 23, 30)]) ({ frames := 9, cells := 6, slots := 40, locals := 260 } : Room) [.ref x0, .int (nI t), .int (nI hh), .int (nI i), .int (nI 1)] σ
    (fun v σ2 => v = some (.int (lq_i (mm_q_previewAlone T t hh i) (mm_oc T t hh i))) ∧ mm_Xt σ σ2 T x0)
    (fun _ _ => False) := by
  refine mm_ofX (cc := cL_preview) (nL := 6) (ret := (some .int)) (by decide) rfl (Nat.le_of_ble_eq_true rfl) hst ?_
  intro p e s m args below meth c ls F ht hr hN hl
  have hl : lv_has ls 6 [(0, .ref x0), (1, .int (nI t)), (2, .int (nI hh)), (3, .int (nI i)), (4, .int (nI 1))] := hl
  obtain ⟨z, ad, hX, rfl⟩ := hV
  refine lv_iload (pc := 0) F.1 F.2.1 dL_preview_0 (lv_at hl 4 rfl) ?_
  refine mm_if_eq (pc := 2) F (tgt := 15) (by omega) dL_preview_2 (by decide) (fun h9 => absurd h9 (by decide)) (fun cz2 => ?_)
  refine lv_aload_n (pc := 5) F.1 F.2.1 dL_preview_5 rfl (lv_at hl 0 rfl) ?_
  refine lv_iload_n (pc := 6) F.1 F.2.1 dL_preview_6 rfl (lv_at hl 1 rfl) ?_
  refine lv_iload_n (pc := 7) F.1 F.2.1 dL_preview_7 rfl (lv_at hl 2 rfl) ?_
  refine lv_iload_n (pc := 8) F.1 F.2.1 dL_preview_8 rfl (lv_at hl 3 rfl) ?_
  refine mm_runV (pc := 9) (As := [.int (nI t), .int (nI hh), .int (nI i)]) (rest := []) F hN (a_previewAlone l b D hst T z ad σ hX hW t zt hh zhh i zi) mw_932 mw_933 mw_934 mw_1 mw_935 ⟨pmX6_previewAlone, (Nat.le_of_ble_eq_true rfl), (Nat.le_of_ble_eq_true rfl)⟩ (mm_recv F.2.2.2.2.2.1 hN (mm_X0 hX) rfl) hl.1 rfl (Nat.le_of_ble_eq_true rfl) ⟨(Nat.le_of_ble_eq_true rfl), (Nat.le_of_ble_eq_true rfl)⟩ dL_preview_9
    (fun E9 σ9 H locs q9 ce9 hp9 hN hq9 hv9 hcl9 => ?_) (fun v9 σ9 H locs hp9 hN => ?_)
  ·
    obtain ⟨hq, hx9⟩ := hp9
    obtain ⟨hq, rfl⟩ := hq
    refine lq_catch F hN [] ⟨0, 22, 23, 30⟩ [] ht (fun _ h => absurd h List.not_mem_nil) (by decide) (by decide) mw_312 mw_346 hq9 hv9 hcl9 ?_
    refine W.eq (g2 := F0 m 23 ls [.ref q9]) rfl ?_
    refine W.widen (k := 6) (n := 40) (Nat.le_of_ble_eq_true rfl) (Nat.le_of_ble_eq_true rfl) ?_
    refine lv_astore (pc := 23) (lv' := [(5, .ref q9), (0, .ref ((ad 0 0 0))), (1, .int (nI t)), (2, .int (nI hh)), (3, .int (nI i)), (4, .int (nI 1))]) F.1 F.2.1 dL_preview_23 hl (by decide) rfl (fun ls hl => ?_)
    refine lv_sipush (pc := 25) (v := (-1001)) F.1 F.2.1 dL_preview_25 (by decide) ?_
    exact mm_iret (pc := 28) F hr hN (⟨by rw [lq_i1 hq], hx9⟩) (Nat.le_of_ble_eq_true rfl) (Nat.le_of_ble_eq_true rfl) dL_preview_28
  ·
    obtain ⟨hq, rfl, hx9⟩ := hp9
    refine W.eq (g2 := F0 m 12 ls [.int (nI (mm_oc T t hh i))]) rfl ?_
    refine W.widen (k := 6) (n := 40) (Nat.le_of_ble_eq_true rfl) (Nat.le_of_ble_eq_true rfl) ?_
    refine lv_goto (pc := 12) (tgt := 22) F.1 F.2.1 dL_preview_12 (by decide) ?_
    exact mm_iret (pc := 22) F hr hN (⟨by rw [lq_i0 hq], hx9⟩) (Nat.le_of_ble_eq_true rfl) (Nat.le_of_ble_eq_true rfl) dL_preview_22

set_option maxHeartbeats 4000000 in
set_option maxRecDepth 100000 in
theorem e_back (l : Launch) (b : Nat) (D : mm_D) (hst : l.stackTraces = false) (T : mm_T) (x0 : Nat) (σ : mm_S) (hV : lq_V σ T x0) (hW : mm_WF T) (k : Nat) (zk : k < 2 ^ 32) (i : Nat) (zi : i < 2 ^ 32) (ch : Nat) (zch : ch < 65536) : mm_K l b D yL_back (.codeWith yL_back cL_back 5 (some .int) [(0, 7, 8, 30), (0, 7, 14, 13), (0, 7, 20, 15)]) ({ frames := 9, cells := 6, slots := 40, locals := 260 } : Room) [.ref x0, .int (nI k), .int (nI i), .int (nI ch)] σ
    (fun v σ2 => v = some (.int (lq_i (mm_q_comesBack T k i ch) (mm_sm (mm_u2 (T 19) k i 1 k) (T.rp k)))) ∧ mm_Xt σ σ2 (if mm_q_comesBack T k i ch = 0 then (if ch = 117 then (T.w 19 (mm_u2 (T 19) k i 1)).w 2 (mm_u2 (T 2) (T.ho i) 0 (T.sk (T.ho i) + 1)) else (T.w 19 (mm_u2 (T 19) k i 1)).w 6 (mm_u2 (T 6) i 0 ch)) else T) x0)
    (fun _ _ => False) := by
  refine mm_ofX (cc := cL_back) (nL := 5) (ret := (some .int)) (by decide) rfl (Nat.le_of_ble_eq_true rfl) hst ?_
  intro p e s m args below meth c ls F ht hr hN hl
  have hl : lv_has ls 5 [(0, .ref x0), (1, .int (nI k)), (2, .int (nI i)), (3, .int (nI ch))] := hl
  obtain ⟨z, ad, hX, rfl⟩ := hV
  refine lv_aload_n (pc := 0) F.1 F.2.1 dL_back_0 rfl (lv_at hl 0 rfl) ?_
  refine lv_iload_n (pc := 1) F.1 F.2.1 dL_back_1 rfl (lv_at hl 1 rfl) ?_
  refine lv_iload_n (pc := 2) F.1 F.2.1 dL_back_2 rfl (lv_at hl 2 rfl) ?_
  refine lv_iload_n (pc := 3) F.1 F.2.1 dL_back_3 rfl (lv_at hl 3 rfl) ?_
  refine mm_runV (pc := 4) (As := [.int (nI k), .int (nI i), .int (nI ch)]) (rest := []) F hN (a_comesBack l b D hst T z ad σ hX hW k zk i zi ch zch) mw_963 mw_964 mw_965 mw_1 mw_966 ⟨pmX6_comesBack, (Nat.le_of_ble_eq_true rfl), (Nat.le_of_ble_eq_true rfl)⟩ (mm_recv F.2.2.2.2.2.1 hN (mm_X0 hX) rfl) hl.1 rfl (Nat.le_of_ble_eq_true rfl) ⟨(Nat.le_of_ble_eq_true rfl), (Nat.le_of_ble_eq_true rfl)⟩ dL_back_4
    (fun E9 σ9 H locs q9 ce9 hp9 hN hq9 hv9 hcl9 => ?_) (fun v9 σ9 H locs hp9 hN => ?_)
  ·
    obtain ⟨hq, hx9⟩ := hp9
    rcases hq with ⟨hq, rfl⟩ | ⟨hq, rfl⟩ | ⟨hq, rfl⟩
    ·
      refine lq_catch F hN [] ⟨0, 7, 8, 30⟩ [⟨0, 7, 14, 13⟩, ⟨0, 7, 20, 15⟩] ht (fun _ h => absurd h List.not_mem_nil) (by decide) (by decide) mw_312 mw_346 hq9 hv9 hcl9 ?_
      refine W.eq (g2 := F0 m 8 ls [.ref q9]) rfl ?_
      refine W.widen (k := 6) (n := 40) (Nat.le_of_ble_eq_true rfl) (Nat.le_of_ble_eq_true rfl) ?_
      refine lv_astore (pc := 8) (lv' := [(4, .ref q9), (0, .ref ((ad 0 0 0))), (1, .int (nI k)), (2, .int (nI i)), (3, .int (nI ch))]) F.1 F.2.1 dL_back_8 hl (by decide) rfl (fun ls hl => ?_)
      refine lv_sipush (pc := 10) (v := (-1001)) F.1 F.2.1 dL_back_10 (by decide) ?_
      exact mm_iret (pc := 13) F hr hN (⟨by rw [lq_i1 hq], hx9.eq (if_neg (by omega))⟩) (Nat.le_of_ble_eq_true rfl) (Nat.le_of_ble_eq_true rfl) dL_back_13
    ·
      refine lq_catch F hN [⟨0, 7, 8, 30⟩] ⟨0, 7, 14, 13⟩ [⟨0, 7, 20, 15⟩] ht (List.forall_mem_cons.mpr ⟨Or.inr ⟨by decide, _, mw_312, List.mem_of_getElem? (i := 1) rfl⟩, fun _ h => absurd h List.not_mem_nil⟩) (by decide) (by decide) mw_119 mw_127 hq9 hv9 hcl9 ?_
      refine W.eq (g2 := F0 m 14 ls [.ref q9]) rfl ?_
      refine W.widen (k := 6) (n := 40) (Nat.le_of_ble_eq_true rfl) (Nat.le_of_ble_eq_true rfl) ?_
      refine lv_astore (pc := 14) (lv' := [(4, .ref q9), (0, .ref ((ad 0 0 0))), (1, .int (nI k)), (2, .int (nI i)), (3, .int (nI ch))]) F.1 F.2.1 dL_back_14 hl (by decide) rfl (fun ls hl => ?_)
      refine lv_sipush (pc := 16) (v := (-1002)) F.1 F.2.1 dL_back_16 (by decide) ?_
      exact mm_iret (pc := 19) F hr hN (⟨by rw [lq_i2 hq], hx9.eq (if_neg (by omega))⟩) (Nat.le_of_ble_eq_true rfl) (Nat.le_of_ble_eq_true rfl) dL_back_19
    ·
      refine lq_catch F hN [⟨0, 7, 8, 30⟩, ⟨0, 7, 14, 13⟩] ⟨0, 7, 20, 15⟩ [] ht (List.forall_mem_cons.mpr ⟨Or.inr ⟨by decide, _, mw_312, List.mem_of_getElem? (i := 5) rfl⟩, List.forall_mem_cons.mpr ⟨Or.inr ⟨by decide, _, mw_119, List.mem_of_getElem? (i := 4) rfl⟩, fun _ h => absurd h List.not_mem_nil⟩⟩) (by decide) (by decide) mw_120 mw_202 hq9 hv9 hcl9 ?_
      refine W.eq (g2 := F0 m 20 ls [.ref q9]) rfl ?_
      refine W.widen (k := 6) (n := 40) (Nat.le_of_ble_eq_true rfl) (Nat.le_of_ble_eq_true rfl) ?_
      refine lv_astore (pc := 20) (lv' := [(4, .ref q9), (0, .ref ((ad 0 0 0))), (1, .int (nI k)), (2, .int (nI i)), (3, .int (nI ch))]) F.1 F.2.1 dL_back_20 hl (by decide) rfl (fun ls hl => ?_)
      refine lv_sipush (pc := 22) (v := (-1003)) F.1 F.2.1 dL_back_22 (by decide) ?_
      exact mm_iret (pc := 25) F hr hN (⟨by rw [lq_i3 hq], hx9.eq (if_neg (by omega))⟩) (Nat.le_of_ble_eq_true rfl) (Nat.le_of_ble_eq_true rfl) dL_back_25
  ·
    obtain ⟨hq, rfl, hx9⟩ := hp9
    refine W.eq (g2 := F0 m 7 ls [.int (nI (mm_sm (mm_u2 (T 19) k i 1 k) (T.rp k)))]) rfl ?_
    refine W.widen (k := 6) (n := 40) (Nat.le_of_ble_eq_true rfl) (Nat.le_of_ble_eq_true rfl) ?_
    exact mm_iret (pc := 7) F hr hN (⟨by rw [lq_i0 hq], hx9.eq (if_pos hq)⟩) (Nat.le_of_ble_eq_true rfl) (Nat.le_of_ble_eq_true rfl) dL_back_7

set_option maxHeartbeats 4000000 in
set_option maxRecDepth 100000 in
theorem e_outc (l : Launch) (b : Nat) (D : mm_D) (hst : l.stackTraces = false) (T : mm_T) (x0 : Nat) (σ : mm_S) (hV : lq_V σ T x0) (hW : mm_WF T) (k : Nat) (zk : k < 2 ^ 32) (i : Nat) (zi : i < 2 ^ 32) : mm_K l b D yL_told (.codeWith yL_told cL_told 5 (some .int) [(0, 42, 77, 30), (43, 48, 77, 30), (49, 55, 77, 30), (56, 62, 77, 30), (63, 69, 77, 30), (70, 76, 77, 30), (0, 42, 83, 104), (43, 48, 83, 104), (49, 55, 83, 104), (56, 62, 83, 104), (63, 69, 83, 104), (70, 76, 83, 104), (0, 42, 89, 13), (43, 48, 89, 13), (49, 55, 89, 13), (56, 62, 89, 13), (63, 69, 89, 13), (70, 76, 89, 13)]) ({ frames := 9, cells := 6, slots := 40, locals := 260 } : Room) [.ref x0, .int (nI k), .int (nI i), .int (nI 0)] σ
    (fun v σ2 => v = some (.int (lq_i (mm_q_outcome T k i) (T.oc k i))) ∧ mm_Xt σ σ2 T x0)
    (fun _ _ => False) := by
  refine mm_ofX (cc := cL_told) (nL := 5) (ret := (some .int)) (by decide) rfl (Nat.le_of_ble_eq_true rfl) hst ?_
  intro p e s m args below meth c ls F ht hr hN hl
  have hl : lv_has ls 5 [(0, .ref x0), (1, .int (nI k)), (2, .int (nI i)), (3, .int (nI 0))] := hl
  obtain ⟨z, ad, hX, rfl⟩ := hV
  refine lv_iload_n (pc := 0) F.1 F.2.1 dL_told_0 rfl (lv_at hl 3 rfl) ?_
  refine lv_tableIn (pc := 1) (off := 35) (tgt := 36) F.1 F.2.1 dL_told_1 (by decide) (by decide) (by decide) (by decide) ?_
  refine lv_aload_n (pc := 36) F.1 F.2.1 dL_told_36 rfl (lv_at hl 0 rfl) ?_
  refine lv_iload_n (pc := 37) F.1 F.2.1 dL_told_37 rfl (lv_at hl 1 rfl) ?_
  refine lv_iload_n (pc := 38) F.1 F.2.1 dL_told_38 rfl (lv_at hl 2 rfl) ?_
  refine mm_runV (pc := 39) (As := [.int (nI k), .int (nI i)]) (rest := []) F hN (a_outcome l b D hst T z ad σ hX hW k zk i zi) mw_988 mw_989 mw_990 mw_1 mw_991 ⟨pmX6_outcome, (Nat.le_of_ble_eq_true rfl), (Nat.le_of_ble_eq_true rfl)⟩ (mm_recv F.2.2.2.2.2.1 hN (mm_X0 hX) rfl) hl.1 rfl (Nat.le_of_ble_eq_true rfl) ⟨(Nat.le_of_ble_eq_true rfl), (Nat.le_of_ble_eq_true rfl)⟩ dL_told_39
    (fun E9 σ9 H locs q9 ce9 hp9 hN hq9 hv9 hcl9 => ?_) (fun v9 σ9 H locs hp9 hN => ?_)
  ·
    obtain ⟨hq, hx9⟩ := hp9
    obtain ⟨hq, rfl⟩ := hq
    refine lq_catch F hN [] ⟨0, 42, 77, 30⟩ [⟨43, 48, 77, 30⟩, ⟨49, 55, 77, 30⟩, ⟨56, 62, 77, 30⟩, ⟨63, 69, 77, 30⟩, ⟨70, 76, 77, 30⟩, ⟨0, 42, 83, 104⟩, ⟨43, 48, 83, 104⟩, ⟨49, 55, 83, 104⟩, ⟨56, 62, 83, 104⟩, ⟨63, 69, 83, 104⟩, ⟨70, 76, 83, 104⟩, ⟨0, 42, 89, 13⟩, ⟨43, 48, 89, 13⟩, ⟨49, 55, 89, 13⟩, ⟨56, 62, 89, 13⟩, ⟨63, 69, 89, 13⟩, ⟨70, 76, 89, 13⟩] ht (fun _ h => absurd h List.not_mem_nil) (by decide) (by decide) mw_312 mw_346 hq9 hv9 hcl9 ?_
    refine W.eq (g2 := F0 m 77 ls [.ref q9]) rfl ?_
    refine W.widen (k := 6) (n := 40) (Nat.le_of_ble_eq_true rfl) (Nat.le_of_ble_eq_true rfl) ?_
    refine lv_astore (pc := 77) (lv' := [(4, .ref q9), (0, .ref ((ad 0 0 0))), (1, .int (nI k)), (2, .int (nI i)), (3, .int (nI 0))]) F.1 F.2.1 dL_told_77 hl (by decide) rfl (fun ls hl => ?_)
    refine lv_sipush (pc := 79) (v := (-1001)) F.1 F.2.1 dL_told_79 (by decide) ?_
    exact mm_iret (pc := 82) F hr hN (⟨by rw [lq_i1 hq], hx9⟩) (Nat.le_of_ble_eq_true rfl) (Nat.le_of_ble_eq_true rfl) dL_told_82
  ·
    obtain ⟨hq, rfl, hx9⟩ := hp9
    refine W.eq (g2 := F0 m 42 ls [.int (nI (T.oc k i))]) rfl ?_
    refine W.widen (k := 6) (n := 40) (Nat.le_of_ble_eq_true rfl) (Nat.le_of_ble_eq_true rfl) ?_
    exact mm_iret (pc := 42) F hr hN (⟨by rw [lq_i0 hq], hx9⟩) (Nat.le_of_ble_eq_true rfl) (Nat.le_of_ble_eq_true rfl) dL_told_42

set_option maxHeartbeats 4000000 in
set_option maxRecDepth 100000 in
theorem e_lett (l : Launch) (b : Nat) (D : mm_D) (hst : l.stackTraces = false) (T : mm_T) (x0 : Nat) (σ : mm_S) (hV : lq_V σ T x0) (hW : mm_WF T) (k : Nat) (zk : k < 2 ^ 32) (u_w : Nat) : mm_K l b D yL_told (.codeWith yL_told cL_told 5 (some .int) [(0, 42, 77, 30), (43, 48, 77, 30), (49, 55, 77, 30), (56, 62, 77, 30), (63, 69, 77, 30), (70, 76, 77, 30), (0, 42, 83, 104), (43, 48, 83, 104), (49, 55, 83, 104), (56, 62, 83, 104), (63, 69, 83, 104), (70, 76, 83, 104), (0, 42, 89, 13), (43, 48, 89, 13), (49, 55, 89, 13), (56, 62, 89, 13), (63, 69, 89, 13), (70, 76, 89, 13)]) ({ frames := 9, cells := 6, slots := 40, locals := 260 } : Room) [.ref x0, .int (nI k), .int (nI u_w), .int (nI 1)] σ
    (fun v σ2 => v = some (.int (lq_i (mm_q_letters T k) (mm_sm (fun p => if T.oc k p = 108 then 1 else 0) (T.rp k)))) ∧ mm_Xt σ σ2 T x0)
    (fun _ _ => False) := by
  refine mm_ofX (cc := cL_told) (nL := 5) (ret := (some .int)) (by decide) rfl (Nat.le_of_ble_eq_true rfl) hst ?_
  intro p e s m args below meth c ls F ht hr hN hl
  have hl : lv_has ls 5 [(0, .ref x0), (1, .int (nI k)), (2, .int (nI u_w)), (3, .int (nI 1))] := hl
  obtain ⟨z, ad, hX, rfl⟩ := hV
  refine lv_iload_n (pc := 0) F.1 F.2.1 dL_told_0 rfl (lv_at hl 3 rfl) ?_
  refine lv_tableIn (pc := 1) (off := 42) (tgt := 43) F.1 F.2.1 dL_told_1 (by decide) (by decide) (by decide) (by decide) ?_
  refine lv_aload_n (pc := 43) F.1 F.2.1 dL_told_43 rfl (lv_at hl 0 rfl) ?_
  refine lv_iload_n (pc := 44) F.1 F.2.1 dL_told_44 rfl (lv_at hl 1 rfl) ?_
  refine mm_runV (pc := 45) (As := [.int (nI k)]) (rest := []) F hN (a_letters l b D hst T z ad σ hX hW k zk) mw_992 mw_993 mw_994 mw_1 mw_995 ⟨pmX6_letters, (Nat.le_of_ble_eq_true rfl), (Nat.le_of_ble_eq_true rfl)⟩ (mm_recv F.2.2.2.2.2.1 hN (mm_X0 hX) rfl) hl.1 rfl (Nat.le_of_ble_eq_true rfl) ⟨(Nat.le_of_ble_eq_true rfl), (Nat.le_of_ble_eq_true rfl)⟩ dL_told_45
    (fun E9 σ9 H locs q9 ce9 hp9 hN hq9 hv9 hcl9 => ?_) (fun v9 σ9 H locs hp9 hN => ?_)
  ·
    obtain ⟨hq, hx9⟩ := hp9
    obtain ⟨hq, rfl⟩ := hq
    refine lq_catch F hN [⟨0, 42, 77, 30⟩] ⟨43, 48, 77, 30⟩ [⟨49, 55, 77, 30⟩, ⟨56, 62, 77, 30⟩, ⟨63, 69, 77, 30⟩, ⟨70, 76, 77, 30⟩, ⟨0, 42, 83, 104⟩, ⟨43, 48, 83, 104⟩, ⟨49, 55, 83, 104⟩, ⟨56, 62, 83, 104⟩, ⟨63, 69, 83, 104⟩, ⟨70, 76, 83, 104⟩, ⟨0, 42, 89, 13⟩, ⟨43, 48, 89, 13⟩, ⟨49, 55, 89, 13⟩, ⟨56, 62, 89, 13⟩, ⟨63, 69, 89, 13⟩, ⟨70, 76, 89, 13⟩] ht (List.forall_mem_cons.mpr ⟨Or.inl (by decide), fun _ h => absurd h List.not_mem_nil⟩) (by decide) (by decide) mw_312 mw_346 hq9 hv9 hcl9 ?_
    refine W.eq (g2 := F0 m 77 ls [.ref q9]) rfl ?_
    refine W.widen (k := 6) (n := 40) (Nat.le_of_ble_eq_true rfl) (Nat.le_of_ble_eq_true rfl) ?_
    refine lv_astore (pc := 77) (lv' := [(4, .ref q9), (0, .ref ((ad 0 0 0))), (1, .int (nI k)), (2, .int (nI u_w)), (3, .int (nI 1))]) F.1 F.2.1 dL_told_77 hl (by decide) rfl (fun ls hl => ?_)
    refine lv_sipush (pc := 79) (v := (-1001)) F.1 F.2.1 dL_told_79 (by decide) ?_
    exact mm_iret (pc := 82) F hr hN (⟨by rw [lq_i1 hq], hx9⟩) (Nat.le_of_ble_eq_true rfl) (Nat.le_of_ble_eq_true rfl) dL_told_82
  ·
    obtain ⟨hq, rfl, hx9⟩ := hp9
    refine W.eq (g2 := F0 m 48 ls [.int (nI (mm_sm (fun p => if T.oc k p = 108 then 1 else 0) (T.rp k)))]) rfl ?_
    refine W.widen (k := 6) (n := 40) (Nat.le_of_ble_eq_true rfl) (Nat.le_of_ble_eq_true rfl) ?_
    exact mm_iret (pc := 48) F hr hN (⟨by rw [lq_i0 hq], hx9⟩) (Nat.le_of_ble_eq_true rfl) (Nat.le_of_ble_eq_true rfl) dL_told_48

set_option maxHeartbeats 4000000 in
set_option maxRecDepth 100000 in
theorem e_post (l : Launch) (b : Nat) (D : mm_D) (hst : l.stackTraces = false) (T : mm_T) (x0 : Nat) (σ : mm_S) (hV : lq_V σ T x0) (hW : mm_WF T) (k : Nat) (zk : k < 2 ^ 32) (j : Nat) (zj : j < 2 ^ 32) : mm_K l b D yL_told (.codeWith yL_told cL_told 5 (some .int) [(0, 42, 77, 30), (43, 48, 77, 30), (49, 55, 77, 30), (56, 62, 77, 30), (63, 69, 77, 30), (70, 76, 77, 30), (0, 42, 83, 104), (43, 48, 83, 104), (49, 55, 83, 104), (56, 62, 83, 104), (63, 69, 83, 104), (70, 76, 83, 104), (0, 42, 89, 13), (43, 48, 89, 13), (49, 55, 89, 13), (56, 62, 89, 13), (63, 69, 89, 13), (70, 76, 89, 13)]) ({ frames := 9, cells := 6, slots := 40, locals := 260 } : Room) [.ref x0, .int (nI k), .int (nI j), .int (nI 2)] σ
    (fun v σ2 => v = some (.int (lq_i (mm_q_postedAt T k j) ((mm_po (T.oc k) (T.rc k) (T.rp k)).getD j 0))) ∧ mm_Xt σ σ2 T x0)
    (fun _ _ => False) := by
  refine mm_ofX (cc := cL_told) (nL := 5) (ret := (some .int)) (by decide) rfl (Nat.le_of_ble_eq_true rfl) hst ?_
  intro p e s m args below meth c ls F ht hr hN hl
  have hl : lv_has ls 5 [(0, .ref x0), (1, .int (nI k)), (2, .int (nI j)), (3, .int (nI 2))] := hl
  obtain ⟨z, ad, hX, rfl⟩ := hV
  refine lv_iload_n (pc := 0) F.1 F.2.1 dL_told_0 rfl (lv_at hl 3 rfl) ?_
  refine lv_tableIn (pc := 1) (off := 48) (tgt := 49) F.1 F.2.1 dL_told_1 (by decide) (by decide) (by decide) (by decide) ?_
  refine lv_aload_n (pc := 49) F.1 F.2.1 dL_told_49 rfl (lv_at hl 0 rfl) ?_
  refine lv_iload_n (pc := 50) F.1 F.2.1 dL_told_50 rfl (lv_at hl 1 rfl) ?_
  refine lv_iload_n (pc := 51) F.1 F.2.1 dL_told_51 rfl (lv_at hl 2 rfl) ?_
  refine mm_runV (pc := 52) (As := [.int (nI k), .int (nI j)]) (rest := []) F hN (a_postedAt l b D hst T z ad σ hX hW k zk j zj) mw_996 mw_997 mw_998 mw_1 mw_999 ⟨pmX6_postedAt, (Nat.le_of_ble_eq_true rfl), (Nat.le_of_ble_eq_true rfl)⟩ (mm_recv F.2.2.2.2.2.1 hN (mm_X0 hX) rfl) hl.1 rfl (Nat.le_of_ble_eq_true rfl) ⟨(Nat.le_of_ble_eq_true rfl), (Nat.le_of_ble_eq_true rfl)⟩ dL_told_52
    (fun E9 σ9 H locs q9 ce9 hp9 hN hq9 hv9 hcl9 => ?_) (fun v9 σ9 H locs hp9 hN => ?_)
  ·
    obtain ⟨hq, hx9⟩ := hp9
    rcases hq with ⟨hq, rfl⟩ | ⟨hq, rfl⟩
    ·
      refine lq_catch F hN [⟨0, 42, 77, 30⟩, ⟨43, 48, 77, 30⟩] ⟨49, 55, 77, 30⟩ [⟨56, 62, 77, 30⟩, ⟨63, 69, 77, 30⟩, ⟨70, 76, 77, 30⟩, ⟨0, 42, 83, 104⟩, ⟨43, 48, 83, 104⟩, ⟨49, 55, 83, 104⟩, ⟨56, 62, 83, 104⟩, ⟨63, 69, 83, 104⟩, ⟨70, 76, 83, 104⟩, ⟨0, 42, 89, 13⟩, ⟨43, 48, 89, 13⟩, ⟨49, 55, 89, 13⟩, ⟨56, 62, 89, 13⟩, ⟨63, 69, 89, 13⟩, ⟨70, 76, 89, 13⟩] ht (List.forall_mem_cons.mpr ⟨Or.inl (by decide), List.forall_mem_cons.mpr ⟨Or.inl (by decide), fun _ h => absurd h List.not_mem_nil⟩⟩) (by decide) (by decide) mw_312 mw_346 hq9 hv9 hcl9 ?_
      refine W.eq (g2 := F0 m 77 ls [.ref q9]) rfl ?_
      refine W.widen (k := 6) (n := 40) (Nat.le_of_ble_eq_true rfl) (Nat.le_of_ble_eq_true rfl) ?_
      refine lv_astore (pc := 77) (lv' := [(4, .ref q9), (0, .ref ((ad 0 0 0))), (1, .int (nI k)), (2, .int (nI j)), (3, .int (nI 2))]) F.1 F.2.1 dL_told_77 hl (by decide) rfl (fun ls hl => ?_)
      refine lv_sipush (pc := 79) (v := (-1001)) F.1 F.2.1 dL_told_79 (by decide) ?_
      exact mm_iret (pc := 82) F hr hN (⟨by rw [lq_i1 hq], hx9⟩) (Nat.le_of_ble_eq_true rfl) (Nat.le_of_ble_eq_true rfl) dL_told_82
    ·
      refine lq_catch F hN [⟨0, 42, 77, 30⟩, ⟨43, 48, 77, 30⟩, ⟨49, 55, 77, 30⟩, ⟨56, 62, 77, 30⟩, ⟨63, 69, 77, 30⟩, ⟨70, 76, 77, 30⟩, ⟨0, 42, 83, 104⟩, ⟨43, 48, 83, 104⟩] ⟨49, 55, 83, 104⟩ [⟨56, 62, 83, 104⟩, ⟨63, 69, 83, 104⟩, ⟨70, 76, 83, 104⟩, ⟨0, 42, 89, 13⟩, ⟨43, 48, 89, 13⟩, ⟨49, 55, 89, 13⟩, ⟨56, 62, 89, 13⟩, ⟨63, 69, 89, 13⟩, ⟨70, 76, 89, 13⟩] ht (List.forall_mem_cons.mpr ⟨Or.inl (by decide), List.forall_mem_cons.mpr ⟨Or.inl (by decide), List.forall_mem_cons.mpr ⟨Or.inr ⟨by decide, _, mw_312, List.mem_of_getElem? (i := 14) rfl⟩, List.forall_mem_cons.mpr ⟨Or.inl (by decide), List.forall_mem_cons.mpr ⟨Or.inl (by decide), List.forall_mem_cons.mpr ⟨Or.inl (by decide), List.forall_mem_cons.mpr ⟨Or.inl (by decide), List.forall_mem_cons.mpr ⟨Or.inl (by decide), fun _ h => absurd h List.not_mem_nil⟩⟩⟩⟩⟩⟩⟩⟩) (by decide) (by decide) mw_987 mw_1005 hq9 hv9 hcl9 ?_
      refine W.eq (g2 := F0 m 83 ls [.ref q9]) rfl ?_
      refine W.widen (k := 6) (n := 40) (Nat.le_of_ble_eq_true rfl) (Nat.le_of_ble_eq_true rfl) ?_
      refine lv_astore (pc := 83) (lv' := [(4, .ref q9), (0, .ref ((ad 0 0 0))), (1, .int (nI k)), (2, .int (nI j)), (3, .int (nI 2))]) F.1 F.2.1 dL_told_83 hl (by decide) rfl (fun ls hl => ?_)
      refine lv_sipush (pc := 85) (v := (-1002)) F.1 F.2.1 dL_told_85 (by decide) ?_
      exact mm_iret (pc := 88) F hr hN (⟨by rw [lq_i2 hq], hx9⟩) (Nat.le_of_ble_eq_true rfl) (Nat.le_of_ble_eq_true rfl) dL_told_88
  ·
    obtain ⟨hq, rfl, hx9⟩ := hp9
    refine W.eq (g2 := F0 m 55 ls [.int (nI ((mm_po (T.oc k) (T.rc k) (T.rp k)).getD j 0))]) rfl ?_
    refine W.widen (k := 6) (n := 40) (Nat.le_of_ble_eq_true rfl) (Nat.le_of_ble_eq_true rfl) ?_
    exact mm_iret (pc := 55) F hr hN (⟨by rw [lq_i0 hq], hx9⟩) (Nat.le_of_ble_eq_true rfl) (Nat.le_of_ble_eq_true rfl) dL_told_55

set_option maxHeartbeats 4000000 in
set_option maxRecDepth 100000 in
theorem e_route (l : Launch) (b : Nat) (D : mm_D) (hst : l.stackTraces = false) (T : mm_T) (x0 : Nat) (σ : mm_S) (hV : lq_V σ T x0) (hW : mm_WF T) (k : Nat) (zk : k < 2 ^ 32) (te : Nat) (zte : te < 2 ^ 32) : mm_K l b D yL_told (.codeWith yL_told cL_told 5 (some .int) [(0, 42, 77, 30), (43, 48, 77, 30), (49, 55, 77, 30), (56, 62, 77, 30), (63, 69, 77, 30), (70, 76, 77, 30), (0, 42, 83, 104), (43, 48, 83, 104), (49, 55, 83, 104), (56, 62, 83, 104), (63, 69, 83, 104), (70, 76, 83, 104), (0, 42, 89, 13), (43, 48, 89, 13), (49, 55, 89, 13), (56, 62, 89, 13), (63, 69, 89, 13), (70, 76, 89, 13)]) ({ frames := 9, cells := 6, slots := 40, locals := 260 } : Room) [.ref x0, .int (nI k), .int (nI te), .int (nI 3)] σ
    (fun v σ2 => v = some (.int (lq_i (mm_q_onRoute T k te) (mm_sm (fun p => if T.oc k p = 108 ∧ T.rc k p / 10 = te then 1 else 0) (T.rp k)))) ∧ mm_Xt σ σ2 T x0)
    (fun _ _ => False) := by
  refine mm_ofX (cc := cL_told) (nL := 5) (ret := (some .int)) (by decide) rfl (Nat.le_of_ble_eq_true rfl) hst ?_
  intro p e s m args below meth c ls F ht hr hN hl
  have hl : lv_has ls 5 [(0, .ref x0), (1, .int (nI k)), (2, .int (nI te)), (3, .int (nI 3))] := hl
  obtain ⟨z, ad, hX, rfl⟩ := hV
  refine lv_iload_n (pc := 0) F.1 F.2.1 dL_told_0 rfl (lv_at hl 3 rfl) ?_
  refine lv_tableIn (pc := 1) (off := 55) (tgt := 56) F.1 F.2.1 dL_told_1 (by decide) (by decide) (by decide) (by decide) ?_
  refine lv_aload_n (pc := 56) F.1 F.2.1 dL_told_56 rfl (lv_at hl 0 rfl) ?_
  refine lv_iload_n (pc := 57) F.1 F.2.1 dL_told_57 rfl (lv_at hl 1 rfl) ?_
  refine lv_iload_n (pc := 58) F.1 F.2.1 dL_told_58 rfl (lv_at hl 2 rfl) ?_
  refine mm_runV (pc := 59) (As := [.int (nI k), .int (nI te)]) (rest := []) F hN (a_onRoute l b D hst T z ad σ hX hW k zk te zte) mw_1019 mw_1020 mw_1021 mw_1 mw_1022 ⟨pmX6_onRoute, (Nat.le_of_ble_eq_true rfl), (Nat.le_of_ble_eq_true rfl)⟩ (mm_recv F.2.2.2.2.2.1 hN (mm_X0 hX) rfl) hl.1 rfl (Nat.le_of_ble_eq_true rfl) ⟨(Nat.le_of_ble_eq_true rfl), (Nat.le_of_ble_eq_true rfl)⟩ dL_told_59
    (fun E9 σ9 H locs q9 ce9 hp9 hN hq9 hv9 hcl9 => ?_) (fun v9 σ9 H locs hp9 hN => ?_)
  ·
    obtain ⟨hq, hx9⟩ := hp9
    rcases hq with ⟨hq, rfl⟩ | ⟨hq, rfl⟩
    ·
      refine lq_catch F hN [⟨0, 42, 77, 30⟩, ⟨43, 48, 77, 30⟩, ⟨49, 55, 77, 30⟩] ⟨56, 62, 77, 30⟩ [⟨63, 69, 77, 30⟩, ⟨70, 76, 77, 30⟩, ⟨0, 42, 83, 104⟩, ⟨43, 48, 83, 104⟩, ⟨49, 55, 83, 104⟩, ⟨56, 62, 83, 104⟩, ⟨63, 69, 83, 104⟩, ⟨70, 76, 83, 104⟩, ⟨0, 42, 89, 13⟩, ⟨43, 48, 89, 13⟩, ⟨49, 55, 89, 13⟩, ⟨56, 62, 89, 13⟩, ⟨63, 69, 89, 13⟩, ⟨70, 76, 89, 13⟩] ht (List.forall_mem_cons.mpr ⟨Or.inl (by decide), List.forall_mem_cons.mpr ⟨Or.inl (by decide), List.forall_mem_cons.mpr ⟨Or.inl (by decide), fun _ h => absurd h List.not_mem_nil⟩⟩⟩) (by decide) (by decide) mw_312 mw_346 hq9 hv9 hcl9 ?_
      refine W.eq (g2 := F0 m 77 ls [.ref q9]) rfl ?_
      refine W.widen (k := 6) (n := 40) (Nat.le_of_ble_eq_true rfl) (Nat.le_of_ble_eq_true rfl) ?_
      refine lv_astore (pc := 77) (lv' := [(4, .ref q9), (0, .ref ((ad 0 0 0))), (1, .int (nI k)), (2, .int (nI te)), (3, .int (nI 3))]) F.1 F.2.1 dL_told_77 hl (by decide) rfl (fun ls hl => ?_)
      refine lv_sipush (pc := 79) (v := (-1001)) F.1 F.2.1 dL_told_79 (by decide) ?_
      exact mm_iret (pc := 82) F hr hN (⟨by rw [lq_i1 hq], hx9⟩) (Nat.le_of_ble_eq_true rfl) (Nat.le_of_ble_eq_true rfl) dL_told_82
    ·
      refine lq_catch F hN [⟨0, 42, 77, 30⟩, ⟨43, 48, 77, 30⟩, ⟨49, 55, 77, 30⟩, ⟨56, 62, 77, 30⟩, ⟨63, 69, 77, 30⟩, ⟨70, 76, 77, 30⟩, ⟨0, 42, 83, 104⟩, ⟨43, 48, 83, 104⟩, ⟨49, 55, 83, 104⟩, ⟨56, 62, 83, 104⟩, ⟨63, 69, 83, 104⟩, ⟨70, 76, 83, 104⟩, ⟨0, 42, 89, 13⟩, ⟨43, 48, 89, 13⟩, ⟨49, 55, 89, 13⟩] ⟨56, 62, 89, 13⟩ [⟨63, 69, 89, 13⟩, ⟨70, 76, 89, 13⟩] ht (List.forall_mem_cons.mpr ⟨Or.inl (by decide), List.forall_mem_cons.mpr ⟨Or.inl (by decide), List.forall_mem_cons.mpr ⟨Or.inl (by decide), List.forall_mem_cons.mpr ⟨Or.inr ⟨by decide, _, mw_312, List.mem_of_getElem? (i := 1) rfl⟩, List.forall_mem_cons.mpr ⟨Or.inl (by decide), List.forall_mem_cons.mpr ⟨Or.inl (by decide), List.forall_mem_cons.mpr ⟨Or.inl (by decide), List.forall_mem_cons.mpr ⟨Or.inl (by decide), List.forall_mem_cons.mpr ⟨Or.inl (by decide), List.forall_mem_cons.mpr ⟨Or.inr ⟨by decide, _, mw_987, List.mem_of_getElem? (i := 2) rfl⟩, List.forall_mem_cons.mpr ⟨Or.inl (by decide), List.forall_mem_cons.mpr ⟨Or.inl (by decide), List.forall_mem_cons.mpr ⟨Or.inl (by decide), List.forall_mem_cons.mpr ⟨Or.inl (by decide), List.forall_mem_cons.mpr ⟨Or.inl (by decide), fun _ h => absurd h List.not_mem_nil⟩⟩⟩⟩⟩⟩⟩⟩⟩⟩⟩⟩⟩⟩⟩) (by decide) (by decide) mw_119 mw_127 hq9 hv9 hcl9 ?_
      refine W.eq (g2 := F0 m 89 ls [.ref q9]) rfl ?_
      refine W.widen (k := 6) (n := 40) (Nat.le_of_ble_eq_true rfl) (Nat.le_of_ble_eq_true rfl) ?_
      refine lv_astore (pc := 89) (lv' := [(4, .ref q9), (0, .ref ((ad 0 0 0))), (1, .int (nI k)), (2, .int (nI te)), (3, .int (nI 3))]) F.1 F.2.1 dL_told_89 hl (by decide) rfl (fun ls hl => ?_)
      refine lv_sipush (pc := 91) (v := (-1002)) F.1 F.2.1 dL_told_91 (by decide) ?_
      exact mm_iret (pc := 94) F hr hN (⟨by rw [lq_i2 hq], hx9⟩) (Nat.le_of_ble_eq_true rfl) (Nat.le_of_ble_eq_true rfl) dL_told_94
  ·
    obtain ⟨hq, rfl, hx9⟩ := hp9
    refine W.eq (g2 := F0 m 62 ls [.int (nI (mm_sm (fun p => if T.oc k p = 108 ∧ T.rc k p / 10 = te then 1 else 0) (T.rp k)))]) rfl ?_
    refine W.widen (k := 6) (n := 40) (Nat.le_of_ble_eq_true rfl) (Nat.le_of_ble_eq_true rfl) ?_
    exact mm_iret (pc := 62) F hr hN (⟨by rw [lq_i0 hq], hx9⟩) (Nat.le_of_ble_eq_true rfl) (Nat.le_of_ble_eq_true rfl) dL_told_62

set_option maxHeartbeats 4000000 in
set_option maxRecDepth 100000 in
theorem e_stamp (l : Launch) (b : Nat) (D : mm_D) (hst : l.stackTraces = false) (T : mm_T) (x0 : Nat) (σ : mm_S) (hV : lq_V σ T x0) (hW : mm_WF T) (k : Nat) (zk : k < 2 ^ 32) (i : Nat) (zi : i < 2 ^ 32) : mm_K l b D yL_told (.codeWith yL_told cL_told 5 (some .int) [(0, 42, 77, 30), (43, 48, 77, 30), (49, 55, 77, 30), (56, 62, 77, 30), (63, 69, 77, 30), (70, 76, 77, 30), (0, 42, 83, 104), (43, 48, 83, 104), (49, 55, 83, 104), (56, 62, 83, 104), (63, 69, 83, 104), (70, 76, 83, 104), (0, 42, 89, 13), (43, 48, 89, 13), (49, 55, 89, 13), (56, 62, 89, 13), (63, 69, 89, 13), (70, 76, 89, 13)]) ({ frames := 9, cells := 6, slots := 40, locals := 260 } : Room) [.ref x0, .int (nI k), .int (nI i), .int (nI 4)] σ
    (fun v σ2 => v = some (.int (lq_i (mm_q_postage T k i) (T.ps k i))) ∧ mm_Xt σ σ2 T x0)
    (fun _ _ => False) := by
  refine mm_ofX (cc := cL_told) (nL := 5) (ret := (some .int)) (by decide) rfl (Nat.le_of_ble_eq_true rfl) hst ?_
  intro p e s m args below meth c ls F ht hr hN hl
  have hl : lv_has ls 5 [(0, .ref x0), (1, .int (nI k)), (2, .int (nI i)), (3, .int (nI 4))] := hl
  obtain ⟨z, ad, hX, rfl⟩ := hV
  refine lv_iload_n (pc := 0) F.1 F.2.1 dL_told_0 rfl (lv_at hl 3 rfl) ?_
  refine lv_tableIn (pc := 1) (off := 62) (tgt := 63) F.1 F.2.1 dL_told_1 (by decide) (by decide) (by decide) (by decide) ?_
  refine lv_aload_n (pc := 63) F.1 F.2.1 dL_told_63 rfl (lv_at hl 0 rfl) ?_
  refine lv_iload_n (pc := 64) F.1 F.2.1 dL_told_64 rfl (lv_at hl 1 rfl) ?_
  refine lv_iload_n (pc := 65) F.1 F.2.1 dL_told_65 rfl (lv_at hl 2 rfl) ?_
  refine mm_runV (pc := 66) (As := [.int (nI k), .int (nI i)]) (rest := []) F hN (a_postage l b D hst T z ad σ hX hW k zk i zi) mw_1032 mw_1033 mw_1034 mw_1 mw_1035 ⟨pmX6_postage, (Nat.le_of_ble_eq_true rfl), (Nat.le_of_ble_eq_true rfl)⟩ (mm_recv F.2.2.2.2.2.1 hN (mm_X0 hX) rfl) hl.1 rfl (Nat.le_of_ble_eq_true rfl) ⟨(Nat.le_of_ble_eq_true rfl), (Nat.le_of_ble_eq_true rfl)⟩ dL_told_66
    (fun E9 σ9 H locs q9 ce9 hp9 hN hq9 hv9 hcl9 => ?_) (fun v9 σ9 H locs hp9 hN => ?_)
  ·
    obtain ⟨hq, hx9⟩ := hp9
    rcases hq with ⟨hq, rfl⟩ | ⟨hq, rfl⟩
    ·
      refine lq_catch F hN [⟨0, 42, 77, 30⟩, ⟨43, 48, 77, 30⟩, ⟨49, 55, 77, 30⟩, ⟨56, 62, 77, 30⟩] ⟨63, 69, 77, 30⟩ [⟨70, 76, 77, 30⟩, ⟨0, 42, 83, 104⟩, ⟨43, 48, 83, 104⟩, ⟨49, 55, 83, 104⟩, ⟨56, 62, 83, 104⟩, ⟨63, 69, 83, 104⟩, ⟨70, 76, 83, 104⟩, ⟨0, 42, 89, 13⟩, ⟨43, 48, 89, 13⟩, ⟨49, 55, 89, 13⟩, ⟨56, 62, 89, 13⟩, ⟨63, 69, 89, 13⟩, ⟨70, 76, 89, 13⟩] ht (List.forall_mem_cons.mpr ⟨Or.inl (by decide), List.forall_mem_cons.mpr ⟨Or.inl (by decide), List.forall_mem_cons.mpr ⟨Or.inl (by decide), List.forall_mem_cons.mpr ⟨Or.inl (by decide), fun _ h => absurd h List.not_mem_nil⟩⟩⟩⟩) (by decide) (by decide) mw_312 mw_346 hq9 hv9 hcl9 ?_
      refine W.eq (g2 := F0 m 77 ls [.ref q9]) rfl ?_
      refine W.widen (k := 6) (n := 40) (Nat.le_of_ble_eq_true rfl) (Nat.le_of_ble_eq_true rfl) ?_
      refine lv_astore (pc := 77) (lv' := [(4, .ref q9), (0, .ref ((ad 0 0 0))), (1, .int (nI k)), (2, .int (nI i)), (3, .int (nI 4))]) F.1 F.2.1 dL_told_77 hl (by decide) rfl (fun ls hl => ?_)
      refine lv_sipush (pc := 79) (v := (-1001)) F.1 F.2.1 dL_told_79 (by decide) ?_
      exact mm_iret (pc := 82) F hr hN (⟨by rw [lq_i1 hq], hx9⟩) (Nat.le_of_ble_eq_true rfl) (Nat.le_of_ble_eq_true rfl) dL_told_82
    ·
      refine lq_catch F hN [⟨0, 42, 77, 30⟩, ⟨43, 48, 77, 30⟩, ⟨49, 55, 77, 30⟩, ⟨56, 62, 77, 30⟩, ⟨63, 69, 77, 30⟩, ⟨70, 76, 77, 30⟩, ⟨0, 42, 83, 104⟩, ⟨43, 48, 83, 104⟩, ⟨49, 55, 83, 104⟩, ⟨56, 62, 83, 104⟩] ⟨63, 69, 83, 104⟩ [⟨70, 76, 83, 104⟩, ⟨0, 42, 89, 13⟩, ⟨43, 48, 89, 13⟩, ⟨49, 55, 89, 13⟩, ⟨56, 62, 89, 13⟩, ⟨63, 69, 89, 13⟩, ⟨70, 76, 89, 13⟩] ht (List.forall_mem_cons.mpr ⟨Or.inl (by decide), List.forall_mem_cons.mpr ⟨Or.inl (by decide), List.forall_mem_cons.mpr ⟨Or.inl (by decide), List.forall_mem_cons.mpr ⟨Or.inl (by decide), List.forall_mem_cons.mpr ⟨Or.inr ⟨by decide, _, mw_312, List.mem_of_getElem? (i := 14) rfl⟩, List.forall_mem_cons.mpr ⟨Or.inl (by decide), List.forall_mem_cons.mpr ⟨Or.inl (by decide), List.forall_mem_cons.mpr ⟨Or.inl (by decide), List.forall_mem_cons.mpr ⟨Or.inl (by decide), List.forall_mem_cons.mpr ⟨Or.inl (by decide), fun _ h => absurd h List.not_mem_nil⟩⟩⟩⟩⟩⟩⟩⟩⟩⟩) (by decide) (by decide) mw_987 mw_1005 hq9 hv9 hcl9 ?_
      refine W.eq (g2 := F0 m 83 ls [.ref q9]) rfl ?_
      refine W.widen (k := 6) (n := 40) (Nat.le_of_ble_eq_true rfl) (Nat.le_of_ble_eq_true rfl) ?_
      refine lv_astore (pc := 83) (lv' := [(4, .ref q9), (0, .ref ((ad 0 0 0))), (1, .int (nI k)), (2, .int (nI i)), (3, .int (nI 4))]) F.1 F.2.1 dL_told_83 hl (by decide) rfl (fun ls hl => ?_)
      refine lv_sipush (pc := 85) (v := (-1002)) F.1 F.2.1 dL_told_85 (by decide) ?_
      exact mm_iret (pc := 88) F hr hN (⟨by rw [lq_i2 hq], hx9⟩) (Nat.le_of_ble_eq_true rfl) (Nat.le_of_ble_eq_true rfl) dL_told_88
  ·
    obtain ⟨hq, rfl, hx9⟩ := hp9
    refine W.eq (g2 := F0 m 69 ls [.int (nI (T.ps k i))]) rfl ?_
    refine W.widen (k := 6) (n := 40) (Nat.le_of_ble_eq_true rfl) (Nat.le_of_ble_eq_true rfl) ?_
    exact mm_iret (pc := 69) F hr hN (⟨by rw [lq_i0 hq], hx9⟩) (Nat.le_of_ble_eq_true rfl) (Nat.le_of_ble_eq_true rfl) dL_told_69

set_option maxHeartbeats 4000000 in
set_option maxRecDepth 100000 in
theorem e_proof (l : Launch) (b : Nat) (D : mm_D) (hst : l.stackTraces = false) (T : mm_T) (x0 : Nat) (σ : mm_S) (hV : lq_V σ T x0) (hW : mm_WF T) (k : Nat) (zk : k < 2 ^ 32) (j : Nat) (zj : j < 2 ^ 32) : mm_K l b D yL_told (.codeWith yL_told cL_told 5 (some .int) [(0, 42, 77, 30), (43, 48, 77, 30), (49, 55, 77, 30), (56, 62, 77, 30), (63, 69, 77, 30), (70, 76, 77, 30), (0, 42, 83, 104), (43, 48, 83, 104), (49, 55, 83, 104), (56, 62, 83, 104), (63, 69, 83, 104), (70, 76, 83, 104), (0, 42, 89, 13), (43, 48, 89, 13), (49, 55, 89, 13), (56, 62, 89, 13), (63, 69, 89, 13), (70, 76, 89, 13)]) ({ frames := 9, cells := 6, slots := 40, locals := 260 } : Room) [.ref x0, .int (nI k), .int (nI j), .int (nI 5)] σ
    (fun v σ2 => v = some (.int (lq_i (mm_q_proofAt T k j) ((mm_pl (mm_fr T k) (T.rp k) 8).getD j 0))) ∧ mm_Xt σ σ2 T x0)
    (fun _ _ => False) := by
  refine mm_ofX (cc := cL_told) (nL := 5) (ret := (some .int)) (by decide) rfl (Nat.le_of_ble_eq_true rfl) hst ?_
  intro p e s m args below meth c ls F ht hr hN hl
  have hl : lv_has ls 5 [(0, .ref x0), (1, .int (nI k)), (2, .int (nI j)), (3, .int (nI 5))] := hl
  obtain ⟨z, ad, hX, rfl⟩ := hV
  refine lv_iload_n (pc := 0) F.1 F.2.1 dL_told_0 rfl (lv_at hl 3 rfl) ?_
  refine lv_tableOut (pc := 1) (tgt := 70) F.1 F.2.1 dL_told_1 (by decide) (by decide) ?_
  refine lv_aload_n (pc := 70) F.1 F.2.1 dL_told_70 rfl (lv_at hl 0 rfl) ?_
  refine lv_iload_n (pc := 71) F.1 F.2.1 dL_told_71 rfl (lv_at hl 1 rfl) ?_
  refine lv_iload_n (pc := 72) F.1 F.2.1 dL_told_72 rfl (lv_at hl 2 rfl) ?_
  refine mm_runV (pc := 73) (As := [.int (nI k), .int (nI j)]) (rest := []) F hN (a_proofAt l b D hst T z ad σ hX hW k zk j zj) mw_1047 mw_1048 mw_1049 mw_1 mw_1050 ⟨pmX6_proofAt, (Nat.le_of_ble_eq_true rfl), (Nat.le_of_ble_eq_true rfl)⟩ (mm_recv F.2.2.2.2.2.1 hN (mm_X0 hX) rfl) hl.1 rfl (Nat.le_of_ble_eq_true rfl) ⟨(Nat.le_of_ble_eq_true rfl), (Nat.le_of_ble_eq_true rfl)⟩ dL_told_73
    (fun E9 σ9 H locs q9 ce9 hp9 hN hq9 hv9 hcl9 => ?_) (fun v9 σ9 H locs hp9 hN => ?_)
  ·
    obtain ⟨hq, hx9⟩ := hp9
    rcases hq with ⟨hq, rfl⟩ | ⟨hq, rfl⟩
    ·
      refine lq_catch F hN [⟨0, 42, 77, 30⟩, ⟨43, 48, 77, 30⟩, ⟨49, 55, 77, 30⟩, ⟨56, 62, 77, 30⟩, ⟨63, 69, 77, 30⟩] ⟨70, 76, 77, 30⟩ [⟨0, 42, 83, 104⟩, ⟨43, 48, 83, 104⟩, ⟨49, 55, 83, 104⟩, ⟨56, 62, 83, 104⟩, ⟨63, 69, 83, 104⟩, ⟨70, 76, 83, 104⟩, ⟨0, 42, 89, 13⟩, ⟨43, 48, 89, 13⟩, ⟨49, 55, 89, 13⟩, ⟨56, 62, 89, 13⟩, ⟨63, 69, 89, 13⟩, ⟨70, 76, 89, 13⟩] ht (List.forall_mem_cons.mpr ⟨Or.inl (by decide), List.forall_mem_cons.mpr ⟨Or.inl (by decide), List.forall_mem_cons.mpr ⟨Or.inl (by decide), List.forall_mem_cons.mpr ⟨Or.inl (by decide), List.forall_mem_cons.mpr ⟨Or.inl (by decide), fun _ h => absurd h List.not_mem_nil⟩⟩⟩⟩⟩) (by decide) (by decide) mw_312 mw_346 hq9 hv9 hcl9 ?_
      refine W.eq (g2 := F0 m 77 ls [.ref q9]) rfl ?_
      refine W.widen (k := 6) (n := 40) (Nat.le_of_ble_eq_true rfl) (Nat.le_of_ble_eq_true rfl) ?_
      refine lv_astore (pc := 77) (lv' := [(4, .ref q9), (0, .ref ((ad 0 0 0))), (1, .int (nI k)), (2, .int (nI j)), (3, .int (nI 5))]) F.1 F.2.1 dL_told_77 hl (by decide) rfl (fun ls hl => ?_)
      refine lv_sipush (pc := 79) (v := (-1001)) F.1 F.2.1 dL_told_79 (by decide) ?_
      exact mm_iret (pc := 82) F hr hN (⟨by rw [lq_i1 hq], hx9⟩) (Nat.le_of_ble_eq_true rfl) (Nat.le_of_ble_eq_true rfl) dL_told_82
    ·
      refine lq_catch F hN [⟨0, 42, 77, 30⟩, ⟨43, 48, 77, 30⟩, ⟨49, 55, 77, 30⟩, ⟨56, 62, 77, 30⟩, ⟨63, 69, 77, 30⟩, ⟨70, 76, 77, 30⟩, ⟨0, 42, 83, 104⟩, ⟨43, 48, 83, 104⟩, ⟨49, 55, 83, 104⟩, ⟨56, 62, 83, 104⟩, ⟨63, 69, 83, 104⟩] ⟨70, 76, 83, 104⟩ [⟨0, 42, 89, 13⟩, ⟨43, 48, 89, 13⟩, ⟨49, 55, 89, 13⟩, ⟨56, 62, 89, 13⟩, ⟨63, 69, 89, 13⟩, ⟨70, 76, 89, 13⟩] ht (List.forall_mem_cons.mpr ⟨Or.inl (by decide), List.forall_mem_cons.mpr ⟨Or.inl (by decide), List.forall_mem_cons.mpr ⟨Or.inl (by decide), List.forall_mem_cons.mpr ⟨Or.inl (by decide), List.forall_mem_cons.mpr ⟨Or.inl (by decide), List.forall_mem_cons.mpr ⟨Or.inr ⟨by decide, _, mw_312, List.mem_of_getElem? (i := 14) rfl⟩, List.forall_mem_cons.mpr ⟨Or.inl (by decide), List.forall_mem_cons.mpr ⟨Or.inl (by decide), List.forall_mem_cons.mpr ⟨Or.inl (by decide), List.forall_mem_cons.mpr ⟨Or.inl (by decide), List.forall_mem_cons.mpr ⟨Or.inl (by decide), fun _ h => absurd h List.not_mem_nil⟩⟩⟩⟩⟩⟩⟩⟩⟩⟩⟩) (by decide) (by decide) mw_987 mw_1005 hq9 hv9 hcl9 ?_
      refine W.eq (g2 := F0 m 83 ls [.ref q9]) rfl ?_
      refine W.widen (k := 6) (n := 40) (Nat.le_of_ble_eq_true rfl) (Nat.le_of_ble_eq_true rfl) ?_
      refine lv_astore (pc := 83) (lv' := [(4, .ref q9), (0, .ref ((ad 0 0 0))), (1, .int (nI k)), (2, .int (nI j)), (3, .int (nI 5))]) F.1 F.2.1 dL_told_83 hl (by decide) rfl (fun ls hl => ?_)
      refine lv_sipush (pc := 85) (v := (-1002)) F.1 F.2.1 dL_told_85 (by decide) ?_
      exact mm_iret (pc := 88) F hr hN (⟨by rw [lq_i2 hq], hx9⟩) (Nat.le_of_ble_eq_true rfl) (Nat.le_of_ble_eq_true rfl) dL_told_88
  ·
    obtain ⟨hq, rfl, hx9⟩ := hp9
    refine W.eq (g2 := F0 m 76 ls [.int (nI ((mm_pl (mm_fr T k) (T.rp k) 8).getD j 0))]) rfl ?_
    refine W.widen (k := 6) (n := 40) (Nat.le_of_ble_eq_true rfl) (Nat.le_of_ble_eq_true rfl) ?_
    exact mm_iret (pc := 76) F hr hN (⟨by rw [lq_i0 hq], hx9⟩) (Nat.le_of_ble_eq_true rfl) (Nat.le_of_ble_eq_true rfl) dL_told_76

set_option maxHeartbeats 4000000 in
set_option maxRecDepth 100000 in
theorem e_cost (l : Launch) (b : Nat) (D : mm_D) (hst : l.stackTraces = false) (T : mm_T) (x0 : Nat) (σ : mm_S) (hV : lq_V σ T x0) (hW : mm_WF T) (k : Nat) (zk : k < 2 ^ 32) : mm_K l b D yL_cost (.codeWith yL_cost cL_cost 3 (some .long) [(0, 5, 6, 30)]) ({ frames := 9, cells := 6, slots := 40, locals := 260 } : Room) [.ref x0, .int (nI k)] σ
    (fun v σ2 => v = some (.long (if mm_q_costOf T k = 0 then lN (mm_sm (fun p => if T.oc k p = 108 then T.ps k p else 0) (T.rp k)) else (-1001))) ∧ mm_Xt σ σ2 T x0)
    (fun _ _ => False) := by
  refine mm_ofX (cc := cL_cost) (nL := 3) (ret := (some .long)) (by decide) rfl (Nat.le_of_ble_eq_true rfl) hst ?_
  intro p e s m args below meth c ls F ht hr hN hl
  have hl : lv_has ls 3 [(0, .ref x0), (1, .int (nI k))] := hl
  obtain ⟨z, ad, hX, rfl⟩ := hV
  refine lv_aload_n (pc := 0) F.1 F.2.1 dL_cost_0 rfl (lv_at hl 0 rfl) ?_
  refine lv_iload_n (pc := 1) F.1 F.2.1 dL_cost_1 rfl (lv_at hl 1 rfl) ?_
  refine mm_runV (pc := 2) (As := [.int (nI k)]) (rest := []) F hN (a_costOf l b D hst T z ad σ hX hW k zk) mw_1054 mw_1055 mw_1056 mw_1 mw_1057 ⟨pmX6_costOf, (Nat.le_of_ble_eq_true rfl), (Nat.le_of_ble_eq_true rfl)⟩ (mm_recv F.2.2.2.2.2.1 hN (mm_X0 hX) rfl) hl.1 rfl (Nat.le_of_ble_eq_true rfl) ⟨(Nat.le_of_ble_eq_true rfl), (Nat.le_of_ble_eq_true rfl)⟩ dL_cost_2
    (fun E9 σ9 H locs q9 ce9 hp9 hN hq9 hv9 hcl9 => ?_) (fun v9 σ9 H locs hp9 hN => ?_)
  ·
    obtain ⟨hq, hx9⟩ := hp9
    obtain ⟨hq, rfl⟩ := hq
    refine lq_catch F hN [] ⟨0, 5, 6, 30⟩ [] ht (fun _ h => absurd h List.not_mem_nil) (by decide) (by decide) mw_312 mw_346 hq9 hv9 hcl9 ?_
    refine W.eq (g2 := F0 m 6 ls [.ref q9]) rfl ?_
    refine W.widen (k := 6) (n := 40) (Nat.le_of_ble_eq_true rfl) (Nat.le_of_ble_eq_true rfl) ?_
    refine lv_astore_n (pc := 6) (lv' := [(2, .ref q9), (0, .ref ((ad 0 0 0))), (1, .int (nI k))]) F.1 F.2.1 dL_cost_6 rfl hl (by decide) rfl (fun ls hl => ?_)
    refine lv_ldc2 (pc := 7) (v := (-1001)) F.1 F.2.1 F.2.2.2.1 (F.2.2.2.2.1 _ mw_1063) dL_cost_7 ?_
    exact mm_lret (pc := 10) F hr hN (⟨by rw [if_neg (by omega)], hx9⟩) (Nat.le_of_ble_eq_true rfl) (Nat.le_of_ble_eq_true rfl) dL_cost_10
  ·
    obtain ⟨hq, rfl, hx9⟩ := hp9
    refine W.eq (g2 := F0 m 5 ls [.long (lN (mm_sm (fun p => if T.oc k p = 108 then T.ps k p else 0) (T.rp k)))]) rfl ?_
    refine W.widen (k := 6) (n := 40) (Nat.le_of_ble_eq_true rfl) (Nat.le_of_ble_eq_true rfl) ?_
    exact mm_lret (pc := 5) F hr hN (⟨by rw [if_pos hq], hx9⟩) (Nat.le_of_ble_eq_true rfl) (Nat.le_of_ble_eq_true rfl) dL_cost_5

set_option maxHeartbeats 4000000 in
set_option maxRecDepth 100000 in
theorem e_share (l : Launch) (b : Nat) (D : mm_D) (hst : l.stackTraces = false) (T : mm_T) (x0 : Nat) (σ : mm_S) (hV : lq_V σ T x0) (hW : mm_WF T) : mm_K l b D yL_share (.codeWith yL_share cL_share 2 (some .float) [(0, 4, 5, 116)]) ({ frames := 9, cells := 6, slots := 40, locals := 260 } : Room) [.ref x0] σ
    (fun v σ2 => v = some (.float (if mm_q_returnShare T = 0 then FP.fdiv (FP.i2f (nI (mm_sm (mm_nb9 T) T.nR))) (FP.i2f (nI (mm_sm (mm_nl T) T.nR))) else 3212836864)) ∧ mm_Xt σ σ2 T x0)
    (fun _ _ => False) := by
  refine mm_ofX (cc := cL_share) (nL := 2) (ret := (some .float)) (by decide) rfl (Nat.le_of_ble_eq_true rfl) hst ?_
  intro p e s m args below meth c ls F ht hr hN hl
  have hl : lv_has ls 2 [(0, .ref x0)] := hl
  obtain ⟨z, ad, hX, rfl⟩ := hV
  refine lv_aload_n (pc := 0) F.1 F.2.1 dL_share_0 rfl (lv_at hl 0 rfl) ?_
  refine mm_runV (pc := 1) (As := []) (rest := []) F hN (a_returnShare l b D hst T z ad σ hX hW ) mw_1081 mw_1082 mw_1083 mw_1 mw_1084 ⟨pmX6_returnShare, (Nat.le_of_ble_eq_true rfl), (Nat.le_of_ble_eq_true rfl)⟩ (mm_recv F.2.2.2.2.2.1 hN (mm_X0 hX) rfl) hl.1 rfl (Nat.le_of_ble_eq_true rfl) ⟨(Nat.le_of_ble_eq_true rfl), (Nat.le_of_ble_eq_true rfl)⟩ dL_share_1
    (fun E9 σ9 H locs q9 ce9 hp9 hN hq9 hv9 hcl9 => ?_) (fun v9 σ9 H locs hp9 hN => ?_)
  ·
    obtain ⟨hq, hx9⟩ := hp9
    obtain ⟨hq, rfl⟩ := hq
    refine lq_catch F hN [] ⟨0, 4, 5, 116⟩ [] ht (fun _ h => absurd h List.not_mem_nil) (by decide) (by decide) mw_1067 mw_1079 hq9 hv9 hcl9 ?_
    refine W.eq (g2 := F0 m 5 ls [.ref q9]) rfl ?_
    refine W.widen (k := 6) (n := 40) (Nat.le_of_ble_eq_true rfl) (Nat.le_of_ble_eq_true rfl) ?_
    refine lv_astore_n (pc := 5) (lv' := [(1, .ref q9), (0, .ref ((ad 0 0 0)))]) F.1 F.2.1 dL_share_5 rfl hl (by decide) rfl (fun ls hl => ?_)
    refine lv_ldcf (pc := 6) (v := 3212836864) F.1 F.2.1 F.2.2.2.1 (F.2.2.2.2.1 _ mw_1092) dL_share_6 ?_
    exact mm_fret (pc := 8) F hr hN (⟨by rw [if_neg (by omega)], hx9⟩) (Nat.le_of_ble_eq_true rfl) (Nat.le_of_ble_eq_true rfl) dL_share_8
  ·
    obtain ⟨hq, rfl, hx9⟩ := hp9
    refine W.eq (g2 := F0 m 4 ls [.float (FP.fdiv (FP.i2f (nI (mm_sm (mm_nb9 T) T.nR))) (FP.i2f (nI (mm_sm (mm_nl T) T.nR))))]) rfl ?_
    refine W.widen (k := 6) (n := 40) (Nat.le_of_ble_eq_true rfl) (Nat.le_of_ble_eq_true rfl) ?_
    exact mm_fret (pc := 4) F hr hN (⟨by rw [if_pos hq], hx9⟩) (Nat.le_of_ble_eq_true rfl) (Nat.le_of_ble_eq_true rfl) dL_share_4

set_option maxHeartbeats 4000000 in
set_option maxRecDepth 100000 in
theorem e_mean (l : Launch) (b : Nat) (D : mm_D) (hst : l.stackTraces = false) (T : mm_T) (x0 : Nat) (σ : mm_S) (hV : lq_V σ T x0) (hW : mm_WF T) : mm_K l b D yL_mean (.codeWith yL_mean cL_mean 2 (some .double) [(0, 4, 5, 116)]) ({ frames := 9, cells := 6, slots := 40, locals := 260 } : Room) [.ref x0] σ
    (fun v σ2 => v = some (.double (if mm_q_meanPages T = 0 then FP.ddiv (FP.i2d (nI (mm_sm (mm_s0 T) T.nR))) (FP.i2d (nI (mm_sm (mm_nl T) T.nR))) else 13830554455654793216)) ∧ mm_Xt σ σ2 T x0)
    (fun _ _ => False) := by
  refine mm_ofX (cc := cL_mean) (nL := 2) (ret := (some .double)) (by decide) rfl (Nat.le_of_ble_eq_true rfl) hst ?_
  intro p e s m args below meth c ls F ht hr hN hl
  have hl : lv_has ls 2 [(0, .ref x0)] := hl
  obtain ⟨z, ad, hX, rfl⟩ := hV
  refine lv_aload_n (pc := 0) F.1 F.2.1 dL_mean_0 rfl (lv_at hl 0 rfl) ?_
  refine mm_runV (pc := 1) (As := []) (rest := []) F hN (a_meanPages l b D hst T z ad σ hX hW ) mw_1096 mw_1097 mw_1098 mw_1 mw_1099 ⟨pmX6_meanPages, (Nat.le_of_ble_eq_true rfl), (Nat.le_of_ble_eq_true rfl)⟩ (mm_recv F.2.2.2.2.2.1 hN (mm_X0 hX) rfl) hl.1 rfl (Nat.le_of_ble_eq_true rfl) ⟨(Nat.le_of_ble_eq_true rfl), (Nat.le_of_ble_eq_true rfl)⟩ dL_mean_1
    (fun E9 σ9 H locs q9 ce9 hp9 hN hq9 hv9 hcl9 => ?_) (fun v9 σ9 H locs hp9 hN => ?_)
  ·
    obtain ⟨hq, hx9⟩ := hp9
    obtain ⟨hq, rfl⟩ := hq
    refine lq_catch F hN [] ⟨0, 4, 5, 116⟩ [] ht (fun _ h => absurd h List.not_mem_nil) (by decide) (by decide) mw_1067 mw_1079 hq9 hv9 hcl9 ?_
    refine W.eq (g2 := F0 m 5 ls [.ref q9]) rfl ?_
    refine W.widen (k := 6) (n := 40) (Nat.le_of_ble_eq_true rfl) (Nat.le_of_ble_eq_true rfl) ?_
    refine lv_astore_n (pc := 5) (lv' := [(1, .ref q9), (0, .ref ((ad 0 0 0)))]) F.1 F.2.1 dL_mean_5 rfl hl (by decide) rfl (fun ls hl => ?_)
    refine lv_ldc2d (pc := 6) (v := (13830554455654793216)) F.1 F.2.1 F.2.2.2.1 (F.2.2.2.2.1 _ mw_1104) dL_mean_6 ?_
    exact mm_dret (pc := 9) F hr hN (⟨by rw [if_neg (by omega)], hx9⟩) (Nat.le_of_ble_eq_true rfl) (Nat.le_of_ble_eq_true rfl) dL_mean_9
  ·
    obtain ⟨hq, rfl, hx9⟩ := hp9
    refine W.eq (g2 := F0 m 4 ls [.double (FP.ddiv (FP.i2d (nI (mm_sm (mm_s0 T) T.nR))) (FP.i2d (nI (mm_sm (mm_nl T) T.nR))))]) rfl ?_
    refine W.widen (k := 6) (n := 40) (Nat.le_of_ble_eq_true rfl) (Nat.le_of_ble_eq_true rfl) ?_
    exact mm_dret (pc := 4) F hr hN (⟨by rw [if_pos hq], hx9⟩) (Nat.le_of_ble_eq_true rfl) (Nat.le_of_ble_eq_true rfl) dL_mean_4
