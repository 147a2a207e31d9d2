/-- what is left: paper, envelopes small and large -/
def mm_l3 (l : Nat × Nat × Nat) (i : Nat) : Nat := match i with
  | 0 => l.1
  | 1 => l.2.1
  | 2 => l.2.2
  | _ => 0
theorem mm_M_off {σ : mm_S} {T : mm_T} {th : Nat} {rd : Nat → Nat → Nat} (h : mm_M σ T th rd) {a : Nat} {x : Option (Nat × mm_e)} (ha : ∀ k i, mm_lr k i → rd k i ≠ a) : mm_M (mm_u σ a x) T th rd :=
  ⟨(mm_u_ne (ha _ _ mm_l0)).trans h.1, fun k hk => (mm_u_ne (ha _ _ (mm_l1 hk))).trans (h.2.1 k hk), fun k hk => (mm_u_ne (ha _ _ (mm_l2 hk))).trans (h.2.2.1 k hk), fun k i hk hi => (mm_u_ne (ha _ _ (mm_l2i hk hi))).trans (h.2.2.2.1 k i hk hi), h.2.2.2.2⟩
theorem mm_M_fresh {σ : mm_S} {T : mm_T} {th : Nat} {rd : Nat → Nat → Nat} (h : mm_M σ T th rd) {a : Nat} (ha : σ a = none) : ∀ k i, mm_lr k i → rd k i ≠ a := by
  rintro k i (⟨rfl, rfl⟩ | ⟨hk, rfl⟩ | ⟨hk, hi⟩) e
  · have := h.1; rw [e, ha] at this; cases this
  · have := h.2.1 k hk; rw [e, ha] at this; cases this
  · match i, hi with
    | 0, _ => have := h.2.2.1 k hk; rw [e, ha] at this; cases this
    | i + 1, hi => have := h.2.2.2.1 k i hk hi; rw [e, ha] at this; cases this
theorem mm_row1 {g : Nat → Nat} {i v : Nat} (h : v = g i) : va_up (fun x => nI (if x < i then g x else 0)) i (nI v) = fun x => nI (if x < i + 1 then g x else 0) := by
  rw [mm_upn (fun x => if x < i then g x else 0)]
  funext x
  show nI (if x = i then v else if x < i then g x else 0) = _
  by_cases e : x = i
  · rw [if_pos e, if_pos (by omega), e, h]
  · by_cases e2 : x < i
    · rw [if_neg e, if_pos e2, if_pos (by omega)]
    · rw [if_neg e, if_neg e2, if_neg (by omega)]
theorem mm_l3u {l l' : Nat × Nat × Nat} {j v : Nat} (h0 : (if 0 = j then v else l.1) = l'.1) (h1 : (if 1 = j then v else l.2.1) = l'.2.1) (h2 : (if 2 = j then v else l.2.2) = l'.2.2) (hj : j < 3) : va_up (fun x => nI (mm_l3 l x)) j (nI v) = fun x => nI (mm_l3 l' x) := by
  rw [mm_upn (fun x => mm_l3 l x)]
  funext x
  match x with
  | 0 => exact congrArg nI h0
  | 1 => exact congrArg nI h1
  | 2 => exact congrArg nI h2
  | x + 3 => exact congrArg nI (if_neg (by omega))
set_option maxHeartbeats 4000000 in
set_option maxRecDepth 100000 in
theorem c_stock (l : Launch) (b : Nat) (D : mm_D) (hst : l.stackTraces = false) (T : mm_T) (th : Nat) (rd : Nat → Nat → Nat) (σ : mm_S) (hM : mm_M σ T th rd) (hW : mm_WF T) : mm_K l b D yX7_stock (.code yX7_stock cX7_stock 1 (some (.array .int))) ({ frames := 0, cells := 1, slots := 3, locals := 0 } : Room) [.ref ((rd 0 0))] σ
    (fun v σ2 => ∃ q : Nat, v = some (.ref q) ∧ σ q = none ∧ σ2 q = mm_ari 1 0 3 (fun x => nI (mm_l3 (T.pa, T.en 0, T.en 1) x)) ∧ mm_M σ2 T th rd ∧ mm_Fr 1 σ σ2)
    (fun _ _ => False) := by
  refine mm_of (cc := cX7_stock) (nL := 1) (ret := (some (.array .int))) (by decide) rfl (Nat.le_of_ble_eq_true rfl) hst ?_
  intro p e s m args below meth c ls F ht hr hin hN hl
  have hl : lv_has ls 1 [(0, .ref ((rd 0 0)))] := hl
  refine lv_iconst (pc := 0) (v := nI 3) F.1 F.2.1 dX7_stock_0 (by decide) ?_
  refine mm_newa (pc := 1) F hN 1 0 (3) (x := (3, .inl (fun _ => 0))) (atype := .int) rfl (by omega) mw_594 rfl (by intro C h; cases h) (by decide) (rfl) ((Nat.le_of_ble_eq_true rfl)) ((Nat.le_of_ble_eq_true rfl)) dX7_stock_1 (fun q1 H hq1 hN => ?_)
  have hN : mm_N b D s (mm_u σ q1 (mm_arr 1 0 (3, .inl (fun _ => 0)))) _ _ := hN
  obtain ⟨lf, elf⟩ : ∃ x, x = q1 := ⟨_, rfl⟩
  rw [← elf]
  rw [← elf] at hN hq1
  have hno := mm_M_fresh hM hq1
  obtain ⟨σ1, eσ1⟩ : ∃ q, q = mm_u σ lf (mm_arr 1 0 (3, .inl (fun _ => 0))) := ⟨_, rfl⟩
  rw [← eσ1] at hN
  have hM1 : mm_M σ1 T th rd := by rw [eσ1]; exact mm_M_off hM hno
  have hF1 : mm_Fr 1 σ σ1 := by rw [eσ1]; exact mm_Fr.new hq1
  have xlf1 : σ1 lf = mm_ari 1 0 3 (fun b9 => nI (mm_l3 (0, 0, 0) b9)) := by rw [eσ1, mm_u_eq]; exact congrArg (mm_ari 1 0 3) (funext fun x => by
    match x with
    | 0 => rfl
    | 1 => rfl
    | 2 => rfl
    | x + 3 => rfl)
  refine lv_dup (pc := 3) F.1 F.2.1 dX7_stock_3 rfl ?_
  refine lv_iconst (pc := 4) (v := nI 0) F.1 F.2.1 dX7_stock_4 (by decide) ?_
  refine lv_aload_n (pc := 5) F.1 F.2.1 dX7_stock_5 rfl (lv_at hl 0 rfl) ?_
  refine mm_get (pc := 6) F hN ((show σ1 (rd 0 0) = mm_obj 1 7 [.ref ((rd 1 0)), .ref ((rd 2 0)), .ref ((rd 3 0)), .int (nI T.nA), .ref ((rd 4 0)), .ref ((rd 5 0)), .ref ((rd 6 0)), .int (nI T.nP), .ref ((rd 7 0)), .ref ((rd 8 0)), .ref ((rd 9 0)), .ref ((rd 10 0)), .ref ((rd 11 0)), .int (nI T.nT), .int (nI T.pa), .ref ((rd 12 0)), .int (nI T.bo), .ref ((rd 13 0)), .ref ((rd 14 0)), .ref ((rd 15 0)), .ref ((rd 16 0)), .ref ((rd 17 0)), .ref ((rd 18 0)), .ref ((rd 19 0)), .int (nI T.nR), .int (nI th)] from mm_r0 (T := T) hM1)) (ci := 7) rfl 14 (by decide) mw_1193 rfl dX7_stock_6 ?_
  refine mm_iast (pc := 9) F hN (xlf1) (j := 0) (rfl) (by omega) (by decide) dX7_stock_9 (fun H locs hN => ?_)
  have hN : mm_N b D s (mm_u σ1 lf (mm_ari 1 0 3 (va_up (fun b9 => nI (mm_l3 (0, 0, 0) b9)) 0 (nI T.pa)))) _ _ := hN
  obtain ⟨σ3, eσ3⟩ : ∃ q, q = mm_u σ1 lf (mm_ari 1 0 3 (va_up (fun b9 => nI (mm_l3 (0, 0, 0) b9)) 0 (nI T.pa))) := ⟨_, rfl⟩
  rw [← eσ3] at hN
  have hM3 : mm_M σ3 T th rd := by rw [eσ3]; exact mm_M_off hM1 hno
  have hF3 : mm_Fr 1 σ σ3 := by rw [eσ3]; exact (hF1).tr (mm_Fr.u xlf1)
  have xlf3 : σ3 lf = mm_ari 1 0 3 (fun b9 => nI (mm_l3 (T.pa, 0, 0) b9)) := by rw [eσ3, mm_u_eq]; exact congrArg (mm_ari 1 0 3) (mm_l3u (l := (0, 0, 0)) (l' := (T.pa, 0, 0)) rfl rfl rfl (by decide))
  refine lv_dup (pc := 10) F.1 F.2.1 dX7_stock_10 rfl ?_
  refine lv_iconst (pc := 11) (v := nI 1) F.1 F.2.1 dX7_stock_11 (by decide) ?_
  refine lv_aload_n (pc := 12) F.1 F.2.1 dX7_stock_12 rfl (lv_at hl 0 rfl) ?_
  refine mm_get (pc := 13) F hN ((show σ3 (rd 0 0) = mm_obj 1 7 [.ref ((rd 1 0)), .ref ((rd 2 0)), .ref ((rd 3 0)), .int (nI T.nA), .ref ((rd 4 0)), .ref ((rd 5 0)), .ref ((rd 6 0)), .int (nI T.nP), .ref ((rd 7 0)), .ref ((rd 8 0)), .ref ((rd 9 0)), .ref ((rd 10 0)), .ref ((rd 11 0)), .int (nI T.nT), .int (nI T.pa), .ref ((rd 12 0)), .int (nI T.bo), .ref ((rd 13 0)), .ref ((rd 14 0)), .ref ((rd 15 0)), .ref ((rd 16 0)), .ref ((rd 17 0)), .ref ((rd 18 0)), .ref ((rd 19 0)), .int (nI T.nR), .int (nI th)] from mm_r0 (T := T) hM3)) (ci := 7) rfl 15 (by decide) mw_1194 rfl dX7_stock_13 ?_
  refine lv_iconst (pc := 16) (v := nI 0) F.1 F.2.1 dX7_stock_16 (by decide) ?_
  refine mm_iald (pc := 17) F hN ((show σ3 (rd 12 0) = mm_ari 1 0 2 (fun b9 => nI (T.en b9)) from mm_r12 (T := T) hM3)) (j := 0) (rfl) (by omega) (by decide) dX7_stock_17 ?_
  refine mm_iast (pc := 18) F hN (xlf3) (j := 1) (rfl) (by omega) (by decide) dX7_stock_18 (fun H locs hN => ?_)
  have hN : mm_N b D s (mm_u σ3 lf (mm_ari 1 0 3 (va_up (fun b9 => nI (mm_l3 (T.pa, 0, 0) b9)) 1 (nI (T.en 0))))) _ _ := hN
  obtain ⟨σ4, eσ4⟩ : ∃ q, q = mm_u σ3 lf (mm_ari 1 0 3 (va_up (fun b9 => nI (mm_l3 (T.pa, 0, 0) b9)) 1 (nI (T.en 0)))) := ⟨_, rfl⟩
  rw [← eσ4] at hN
  have hM4 : mm_M σ4 T th rd := by rw [eσ4]; exact mm_M_off hM3 hno
  have hF4 : mm_Fr 1 σ σ4 := by rw [eσ4]; exact (hF3).tr (mm_Fr.u xlf3)
  have xlf4 : σ4 lf = mm_ari 1 0 3 (fun b9 => nI (mm_l3 (T.pa, T.en 0, 0) b9)) := by rw [eσ4, mm_u_eq]; exact congrArg (mm_ari 1 0 3) (mm_l3u (l := (T.pa, 0, 0)) (l' := (T.pa, T.en 0, 0)) rfl rfl rfl (by decide))
  refine lv_dup (pc := 19) F.1 F.2.1 dX7_stock_19 rfl ?_
  refine lv_iconst (pc := 20) (v := nI 2) F.1 F.2.1 dX7_stock_20 (by decide) ?_
  refine lv_aload_n (pc := 21) F.1 F.2.1 dX7_stock_21 rfl (lv_at hl 0 rfl) ?_
  refine mm_get (pc := 22) F hN ((show σ4 (rd 0 0) = mm_obj 1 7 [.ref ((rd 1 0)), .ref ((rd 2 0)), .ref ((rd 3 0)), .int (nI T.nA), .ref ((rd 4 0)), .ref ((rd 5 0)), .ref ((rd 6 0)), .int (nI T.nP), .ref ((rd 7 0)), .ref ((rd 8 0)), .ref ((rd 9 0)), .ref ((rd 10 0)), .ref ((rd 11 0)), .int (nI T.nT), .int (nI T.pa), .ref ((rd 12 0)), .int (nI T.bo), .ref ((rd 13 0)), .ref ((rd 14 0)), .ref ((rd 15 0)), .ref ((rd 16 0)), .ref ((rd 17 0)), .ref ((rd 18 0)), .ref ((rd 19 0)), .int (nI T.nR), .int (nI th)] from mm_r0 (T := T) hM4)) (ci := 7) rfl 15 (by decide) mw_1194 rfl dX7_stock_22 ?_
  refine lv_iconst (pc := 25) (v := nI 1) F.1 F.2.1 dX7_stock_25 (by decide) ?_
  refine mm_iald (pc := 26) F hN ((show σ4 (rd 12 0) = mm_ari 1 0 2 (fun b9 => nI (T.en b9)) from mm_r12 (T := T) hM4)) (j := 1) (rfl) (by omega) (by decide) dX7_stock_26 ?_
  refine mm_iast (pc := 27) F hN (xlf4) (j := 2) (rfl) (by omega) (by decide) dX7_stock_27 (fun H locs hN => ?_)
  have hN : mm_N b D s (mm_u σ4 lf (mm_ari 1 0 3 (va_up (fun b9 => nI (mm_l3 (T.pa, T.en 0, 0) b9)) 2 (nI (T.en 1))))) _ _ := hN
  obtain ⟨σ5, eσ5⟩ : ∃ q, q = mm_u σ4 lf (mm_ari 1 0 3 (va_up (fun b9 => nI (mm_l3 (T.pa, T.en 0, 0) b9)) 2 (nI (T.en 1)))) := ⟨_, rfl⟩
  rw [← eσ5] at hN
  have hM5 : mm_M σ5 T th rd := by rw [eσ5]; exact mm_M_off hM4 hno
  have hF5 : mm_Fr 1 σ σ5 := by rw [eσ5]; exact (hF4).tr (mm_Fr.u xlf4)
  have xlf5 : σ5 lf = mm_ari 1 0 3 (fun b9 => nI (mm_l3 (T.pa, T.en 0, T.en 1) b9)) := by rw [eσ5, mm_u_eq]; exact congrArg (mm_ari 1 0 3) (mm_l3u (l := (T.pa, T.en 0, 0)) (l' := (T.pa, T.en 0, T.en 1)) rfl rfl rfl (by decide))
  exact mm_aret (pc := 28) F hr (Or.inr ⟨_, rfl⟩) hN (⟨lf, rfl, hq1, xlf5, hM5, hF5⟩) (Nat.le_of_ble_eq_true rfl) (Nat.le_of_ble_eq_true rfl) dX7_stock_28

set_option maxHeartbeats 4000000 in
set_option maxRecDepth 100000 in
theorem c_postage (l : Launch) (b : Nat) (D : mm_D) (hst : l.stackTraces = false) (pg : Nat) (hpg : pg ≤ 100) (σ : mm_S) : mm_K l b D yX7_postageOf (.code yX7_postageOf cX7_postageOf 2 (some .int)) ({ frames := 0, cells := 0, slots := 0, locals := 0 } : Room) [.int (nI pg)] σ
    (fun v σ2 => v = some (.int (nI (mm_cent pg))) ∧ σ2 = σ)
    (fun _ _ => False) := by
  refine mm_of (cc := cX7_postageOf) (nL := 2) (ret := (some .int)) (by decide) rfl (Nat.le_of_ble_eq_true rfl) hst ?_
  intro p e s m args below meth c ls F ht hr hin hN hl
  have hl : lv_has ls 2 [(0, .int (nI pg))] := hl
  refine lv_iconst (pc := 0) (v := nI 5) F.1 F.2.1 dX7_postageOf_0 (by decide) ?_
  refine lv_iload_n (pc := 1) F.1 F.2.1 dX7_postageOf_1 rfl (lv_at hl 0 rfl) ?_
  refine mm_imul (pc := 2) F (z := nI (5 * pg)) (pk_mul _ _) dX7_postageOf_2 ?_
  refine lv_iload_n (pc := 3) F.1 F.2.1 dX7_postageOf_3 rfl (lv_at hl 0 rfl) ?_
  refine lv_iconst (pc := 4) (v := nI 3) F.1 F.2.1 dX7_postageOf_4 (by decide) ?_
  refine mm_icmp_le (pc := 5) F (x := pg) (y := 3) (tgt := 13) (by omega) (by omega) dX7_postageOf_5 (by decide) (fun cz5 => ?_) (fun cz5 => ?_)
  ·
    refine lv_bipush (pc := 13) (v := nI 10) F.1 F.2.1 dX7_postageOf_13 (by decide) ?_
    refine mm_iadd (pc := 15) F (z := nI ((5 * pg) + 10)) (nI_add _ _) dX7_postageOf_15 ?_
    refine W.eq (g2 := F0 m 16 ls [.int (nI (5 * pg + (if 3 < pg then 25 else 10)))]) (congrArg (fun q => F0 m 16 ls [Value.int (nI q)]) (congrArg (5 * pg + ·) (if_neg (show ¬ 3 < pg by omega)).symm)) ?_
    have hg9 : 5 * pg + (if 3 < pg then 25 else 10) ≤ 525 := by split <;> omega
    refine lv_istore_n (pc := 16) (lv' := [(1, .int (nI (5 * pg + (if 3 < pg then 25 else 10)))), (0, .int (nI pg))]) F.1 F.2.1 dX7_postageOf_16 rfl hl (by decide) rfl (fun ls hl => ?_)
    refine lv_iload_n (pc := 17) F.1 F.2.1 dX7_postageOf_17 rfl (lv_at hl 0 rfl) ?_
    refine lv_bipush (pc := 18) (v := nI 20) F.1 F.2.1 dX7_postageOf_18 (by decide) ?_
    refine mm_icmp_gt (pc := 20) F (x := 5 * pg + (if 3 < pg then 25 else 10)) (y := 20) (tgt := 28) (by omega) (by omega) dX7_postageOf_20 (by decide) (fun cz20 => ?_) (fun cz20 => ?_)
    ·
      refine lv_iload_n (pc := 28) F.1 F.2.1 dX7_postageOf_28 rfl (lv_at hl 0 rfl) ?_
      refine lv_bipush (pc := 29) (v := nI 40) F.1 F.2.1 dX7_postageOf_29 (by decide) ?_
      refine mm_icmp_gt (pc := 31) F (x := 5 * pg + (if 3 < pg then 25 else 10)) (y := 40) (tgt := 39) (by omega) (by omega) dX7_postageOf_31 (by decide) (fun cz31 => ?_) (fun cz31 => ?_)
      ·
        refine lv_sipush (pc := 39) (v := nI 160) F.1 F.2.1 dX7_postageOf_39 (by decide) ?_
        exact mm_iret (pc := 42) F hr hN (⟨by rw [mm_cent, if_neg (by omega), if_neg (by omega)], rfl⟩) (Nat.le_of_ble_eq_true rfl) (Nat.le_of_ble_eq_true rfl) dX7_postageOf_42
      ·
        refine lv_bipush (pc := 34) (v := nI 95) F.1 F.2.1 dX7_postageOf_34 (by decide) ?_
        refine lv_goto (pc := 36) (tgt := 42) F.1 F.2.1 dX7_postageOf_36 (by decide) ?_
        exact mm_iret (pc := 42) F hr hN (⟨by rw [mm_cent, if_neg (by omega), if_pos (by omega)], rfl⟩) (Nat.le_of_ble_eq_true rfl) (Nat.le_of_ble_eq_true rfl) dX7_postageOf_42
    ·
      refine lv_bipush (pc := 23) (v := nI 80) F.1 F.2.1 dX7_postageOf_23 (by decide) ?_
      refine lv_goto (pc := 25) (tgt := 42) F.1 F.2.1 dX7_postageOf_25 (by decide) ?_
      exact mm_iret (pc := 42) F hr hN (⟨by rw [mm_cent, if_pos (by omega)], rfl⟩) (Nat.le_of_ble_eq_true rfl) (Nat.le_of_ble_eq_true rfl) dX7_postageOf_42
  ·
    refine lv_bipush (pc := 8) (v := nI 25) F.1 F.2.1 dX7_postageOf_8 (by decide) ?_
    refine lv_goto (pc := 10) (tgt := 15) F.1 F.2.1 dX7_postageOf_10 (by decide) ?_
    refine mm_iadd (pc := 15) F (z := nI ((5 * pg) + 25)) (nI_add _ _) dX7_postageOf_15 ?_
    refine W.eq (g2 := F0 m 16 ls [.int (nI (5 * pg + (if 3 < pg then 25 else 10)))]) (congrArg (fun q => F0 m 16 ls [Value.int (nI q)]) (congrArg (5 * pg + ·) (if_pos (show 3 < pg by omega)).symm)) ?_
    have hg9 : 5 * pg + (if 3 < pg then 25 else 10) ≤ 525 := by split <;> omega
    refine lv_istore_n (pc := 16) (lv' := [(1, .int (nI (5 * pg + (if 3 < pg then 25 else 10)))), (0, .int (nI pg))]) F.1 F.2.1 dX7_postageOf_16 rfl hl (by decide) rfl (fun ls hl => ?_)
    refine lv_iload_n (pc := 17) F.1 F.2.1 dX7_postageOf_17 rfl (lv_at hl 0 rfl) ?_
    refine lv_bipush (pc := 18) (v := nI 20) F.1 F.2.1 dX7_postageOf_18 (by decide) ?_
    refine mm_icmp_gt (pc := 20) F (x := 5 * pg + (if 3 < pg then 25 else 10)) (y := 20) (tgt := 28) (by omega) (by omega) dX7_postageOf_20 (by decide) (fun cz20 => ?_) (fun cz20 => ?_)
    ·
      refine lv_iload_n (pc := 28) F.1 F.2.1 dX7_postageOf_28 rfl (lv_at hl 0 rfl) ?_
      refine lv_bipush (pc := 29) (v := nI 40) F.1 F.2.1 dX7_postageOf_29 (by decide) ?_
      refine mm_icmp_gt (pc := 31) F (x := 5 * pg + (if 3 < pg then 25 else 10)) (y := 40) (tgt := 39) (by omega) (by omega) dX7_postageOf_31 (by decide) (fun cz31 => ?_) (fun cz31 => ?_)
      ·
        refine lv_sipush (pc := 39) (v := nI 160) F.1 F.2.1 dX7_postageOf_39 (by decide) ?_
        exact mm_iret (pc := 42) F hr hN (⟨by rw [mm_cent, if_neg (by omega), if_neg (by omega)], rfl⟩) (Nat.le_of_ble_eq_true rfl) (Nat.le_of_ble_eq_true rfl) dX7_postageOf_42
      ·
        refine lv_bipush (pc := 34) (v := nI 95) F.1 F.2.1 dX7_postageOf_34 (by decide) ?_
        refine lv_goto (pc := 36) (tgt := 42) F.1 F.2.1 dX7_postageOf_36 (by decide) ?_
        exact mm_iret (pc := 42) F hr hN (⟨by rw [mm_cent, if_neg (by omega), if_pos (by omega)], rfl⟩) (Nat.le_of_ble_eq_true rfl) (Nat.le_of_ble_eq_true rfl) dX7_postageOf_42
    ·
      refine lv_bipush (pc := 23) (v := nI 80) F.1 F.2.1 dX7_postageOf_23 (by decide) ?_
      refine lv_goto (pc := 25) (tgt := 42) F.1 F.2.1 dX7_postageOf_25 (by decide) ?_
      exact mm_iret (pc := 42) F hr hN (⟨by rw [mm_cent, if_pos (by omega)], rfl⟩) (Nat.le_of_ble_eq_true rfl) (Nat.le_of_ble_eq_true rfl) dX7_postageOf_42

set_option maxHeartbeats 4000000 in
set_option maxRecDepth 100000 in
theorem c_outs (l : Launch) (b : Nat) (D : mm_D) (hst : l.stackTraces = false) (T : mm_T) (th : Nat) (rd : Nat → Nat → Nat) (σ : mm_S) (hM : mm_M σ T th rd) (hW : mm_WF T) (t hh lf : Nat) (htn : t < T.nT) (hh2 : hh < 2) (hl0 : σ lf = mm_ari 1 0 3 (fun x => nI (mm_l3 (T.pa, T.en 0, T.en 1) x))) (nol : ∀ k i, mm_lr k i → rd k i ≠ lf) : mm_K l b D yX7_outcomesOf (.code yX7_outcomesOf cX7_outcomesOf 9 (some (.array .char))) ({ frames := 2, cells := 1, slots := 24, locals := 120 } : Room) [.ref ((rd 0 0)), .int (nI t), .int (nI hh), .ref lf] σ
    (fun v σ2 => ∃ q : Nat, v = some (.ref q) ∧ σ q = none ∧ σ2 q = mm_ari 1 3 24 (fun x => nI (if x < T.nP then mm_oc T t hh x else 0)) ∧ σ2 lf = mm_ari 1 0 3 (fun x => nI (mm_l3 (mm_lf T t hh T.nP) x)) ∧ mm_M σ2 T th rd ∧ mm_Fr 1 σ σ2)
    (fun _ _ => False) := by
  refine mm_of (cc := cX7_outcomesOf) (nL := 9) (ret := (some (.array .char))) (by decide) rfl (Nat.le_of_ble_eq_true rfl) hst ?_
  intro p e s m args below meth c ls F ht hr hin hN hl
  have hl : lv_has ls 9 [(0, .ref ((rd 0 0))), (1, .int (nI t)), (2, .int (nI hh)), (3, .ref lf)] := hl
  have wnA := hW.hnA
  have wnP := hW.hnP
  have wnT := hW.hnT
  have wnR := hW.hnR
  have wpa := hW.hpa
  have wbo := hW.hbo
  have wen0 := hW.hen 0
  have wen1 := hW.hen 1
  refine lv_bipush (pc := 0) (v := nI 24) F.1 F.2.1 dX7_outcomesOf_0 (by decide) ?_
  refine mm_newa (pc := 2) F hN 1 3 (24) (x := (24, .inl (fun _ => 0))) (atype := .char) rfl (by omega) mw_1259 rfl (by intro C h; cases h) (by decide) (rfl) ((Nat.le_of_ble_eq_true rfl)) ((Nat.le_of_ble_eq_true rfl)) dX7_outcomesOf_2 (fun q1 H hq1 hN => ?_)
  have hN : mm_N b D s (mm_u σ q1 (mm_arr 1 3 (24, .inl (fun _ => 0)))) _ _ := hN
  obtain ⟨ro, ero⟩ : ∃ x, x = q1 := ⟨_, rfl⟩
  rw [← ero]
  rw [← ero] at hN hq1
  have noq := mm_M_fresh hM hq1
  have nql : ro ≠ lf := fun e => by rw [e, hl0] at hq1; cases hq1
  obtain ⟨σ1, eσ1⟩ : ∃ q, q = mm_u σ ro (mm_arr 1 3 (24, .inl (fun _ => 0))) := ⟨_, rfl⟩
  rw [← eσ1] at hN
  have hM1 : mm_M σ1 T th rd := by rw [eσ1]; exact mm_M_off hM noq
  have hF1 : mm_Fr 1 σ σ1 := by rw [eσ1]; exact mm_Fr.new hq1
  have xro1 : σ1 ro = mm_ari 1 3 24 (fun b9 => nI (if b9 < 0 then mm_oc T t hh b9 else 0)) := by rw [eσ1, mm_u_eq]; exact congrArg (mm_ari 1 3 24) (funext fun x => (congrArg nI (if_neg (Nat.not_lt_zero x))).symm)
  have xlf1 : σ1 lf = mm_ari 1 0 3 (fun b9 => nI (mm_l3 (T.pa, T.en 0, T.en 1) b9)) := by rw [eσ1]; exact (mm_u_ne (Ne.symm nql)).trans hl0
  refine lv_astore (pc := 4) (lv' := [(4, .ref ro), (0, .ref ((rd 0 0))), (1, .int (nI t)), (2, .int (nI hh)), (3, .ref lf)]) F.1 F.2.1 dX7_outcomesOf_4 hl (by decide) rfl (fun ls hl => ?_)
  refine lv_iconst (pc := 6) (v := nI 0) F.1 F.2.1 dX7_outcomesOf_6 (by decide) ?_
  refine lv_istore (pc := 7) (lv' := [(5, .int (nI 0)), (4, .ref ro), (0, .ref ((rd 0 0))), (1, .int (nI t)), (2, .int (nI hh)), (3, .ref lf)]) F.1 F.2.1 dX7_outcomesOf_7 hl (by decide) rfl (fun ls hl => ?_)
  have lp9 : ∀ (k9 i : Nat) (σi : mm_S) (ls : Array Slot) (H : Heap) (locs : List Loc), T.nP < i + k9 → i ≤ T.nP → (mm_M σi T th rd) → (mm_Fr 1 σ σi) → (σi ro = mm_ari 1 3 24 (fun b9 => nI (if b9 < i then mm_oc T t hh b9 else 0))) → (σi lf = mm_ari 1 0 3 (fun b9 => nI (mm_l3 (mm_lf T t hh i) b9))) → mm_N b D s σi H locs → lv_has ls 9 [(0, .ref ((rd 0 0))), (1, .int (nI t)), (2, .int (nI hh)), (3, .ref lf), (4, .ref ro), (5, .int (nI i))] →
      W p l e ({ frames := 2, cells := 1, slots := 24, locals := 120 } : Room) s m args below meth c H locs (1) (24) (mm_Q b D (fun v σ2 => ∃ q : Nat, v = some (.ref q) ∧ σ q = none ∧ σ2 q = mm_ari 1 3 24 (fun x => nI (if x < T.nP then mm_oc T t hh x else 0)) ∧ σ2 lf = mm_ari 1 0 3 (fun x => nI (mm_l3 (mm_lf T t hh T.nP) x)) ∧ mm_M σ2 T th rd ∧ mm_Fr 1 σ σ2) (fun _ _ => False) below args s ({ frames := 2, cells := 1, slots := 24, locals := 120 } : Room)) (F0 m 9 ls []) := by
    intro k9
    induction k9 with
    | zero => intro i σi ls H locs hk9 hi9 hMi hFi xqi xli hN hl; omega
    | succ k9 ih9 =>
      intro i σi ls H locs hk9 hi9 hMi hFi xqi xli hN hl
      refine lv_iload (pc := 9) F.1 F.2.1 dX7_outcomesOf_9 (lv_at hl 5 rfl) ?_
      refine lv_aload_n (pc := 11) F.1 F.2.1 dX7_outcomesOf_11 rfl (lv_at hl 0 rfl) ?_
      refine mm_get (pc := 12) F hN ((show σi (rd 0 0) = mm_obj 1 7 [.ref ((rd 1 0)), .ref ((rd 2 0)), .ref ((rd 3 0)), .int (nI T.nA), .ref ((rd 4 0)), .ref ((rd 5 0)), .ref ((rd 6 0)), .int (nI T.nP), .ref ((rd 7 0)), .ref ((rd 8 0)), .ref ((rd 9 0)), .ref ((rd 10 0)), .ref ((rd 11 0)), .int (nI T.nT), .int (nI T.pa), .ref ((rd 12 0)), .int (nI T.bo), .ref ((rd 13 0)), .ref ((rd 14 0)), .ref ((rd 15 0)), .ref ((rd 16 0)), .ref ((rd 17 0)), .ref ((rd 18 0)), .ref ((rd 19 0)), .int (nI T.nR), .int (nI th)] from mm_r0 (T := T) hMi)) (ci := 7) rfl 7 (by decide) mw_1186 rfl dX7_outcomesOf_12 ?_
      refine mm_icmp_ge (pc := 15) F (x := i) (y := T.nP) (tgt := 270) (by omega) (by omega) dX7_outcomesOf_15 (by decide) (fun cz15 => ?_) (fun cz15 => ?_)
      ·
        refine lv_aload (pc := 270) F.1 F.2.1 dX7_outcomesOf_270 (lv_at hl 4 rfl) ?_
        exact mm_aret (pc := 272) F hr (Or.inr ⟨_, rfl⟩) hN (⟨ro, rfl, hq1, by rw [← show i = T.nP by omega]; exact xqi, by rw [← show i = T.nP by omega]; exact xli, hMi, hFi⟩) (Nat.le_of_ble_eq_true rfl) (Nat.le_of_ble_eq_true rfl) dX7_outcomesOf_272
      ·
        have hi2 : i < T.nP := by omega
        obtain ⟨who, wfl, wre⟩ := hW.hpe i hi2
        have wpg : mm_pgs T t (T.fl i) ≤ 8 := mm_pgs_le hW htn
        have hlf := mm_lf_le hW t hh i
        refine lv_aload_n (pc := 18) F.1 F.2.1 dX7_outcomesOf_18 rfl (lv_at hl 0 rfl) ?_
        refine lv_iload_n (pc := 19) F.1 F.2.1 dX7_outcomesOf_19 rfl (lv_at hl 1 rfl) ?_
        refine lv_aload_n (pc := 20) F.1 F.2.1 dX7_outcomesOf_20 rfl (lv_at hl 0 rfl) ?_
        refine mm_get (pc := 21) F hN ((show σi (rd 0 0) = mm_obj 1 7 [.ref ((rd 1 0)), .ref ((rd 2 0)), .ref ((rd 3 0)), .int (nI T.nA), .ref ((rd 4 0)), .ref ((rd 5 0)), .ref ((rd 6 0)), .int (nI T.nP), .ref ((rd 7 0)), .ref ((rd 8 0)), .ref ((rd 9 0)), .ref ((rd 10 0)), .ref ((rd 11 0)), .int (nI T.nT), .int (nI T.pa), .ref ((rd 12 0)), .int (nI T.bo), .ref ((rd 13 0)), .ref ((rd 14 0)), .ref ((rd 15 0)), .ref ((rd 16 0)), .ref ((rd 17 0)), .ref ((rd 18 0)), .ref ((rd 19 0)), .int (nI T.nR), .int (nI th)] from mm_r0 (T := T) hMi)) (ci := 7) rfl 5 (by decide) mw_1184 rfl dX7_outcomesOf_21 ?_
        refine lv_iload (pc := 24) F.1 F.2.1 dX7_outcomesOf_24 (lv_at hl 5 rfl) ?_
        refine mm_iald (pc := 26) F hN ((show σi (rd 5 0) = mm_ari 1 0 24 (fun b9 => nI (T.fl b9)) from mm_r5 (T := T) hMi)) (j := i) (rfl) (by omega) (by decide) dX7_outcomesOf_26 ?_
        refine mm_runV (pc := 27) (As := [.int (nI t), .int (nI (T.fl i))]) (rest := []) F hN (c_pages l b D hst T th rd σi hMi t (T.fl i) (by omega) (mm_tbW hW htn) (by omega)) mw_1331 mw_1333 mw_p27 mw_6 mw_1334 ⟨pmX7_pagesOf, (Nat.le_of_ble_eq_true rfl), (Nat.le_of_ble_eq_true rfl)⟩ (mm_recv F.2.2.2.2.2.1 hN ((show σi (rd 0 0) = mm_obj 1 7 [.ref ((rd 1 0)), .ref ((rd 2 0)), .ref ((rd 3 0)), .int (nI T.nA), .ref ((rd 4 0)), .ref ((rd 5 0)), .ref ((rd 6 0)), .int (nI T.nP), .ref ((rd 7 0)), .ref ((rd 8 0)), .ref ((rd 9 0)), .ref ((rd 10 0)), .ref ((rd 11 0)), .int (nI T.nT), .int (nI T.pa), .ref ((rd 12 0)), .int (nI T.bo), .ref ((rd 13 0)), .ref ((rd 14 0)), .ref ((rd 15 0)), .ref ((rd 16 0)), .ref ((rd 17 0)), .ref ((rd 18 0)), .ref ((rd 19 0)), .int (nI T.nR), .int (nI th)] from mm_r0 (T := T) hMi)) rfl) hl.1 rfl (Nat.le_of_ble_eq_true rfl) ⟨(Nat.le_of_ble_eq_true rfl), (Nat.le_of_ble_eq_true rfl)⟩ dX7_outcomesOf_27
          (fun _ _ _ _ _ _ h9 => False.elim h9)
          (fun v9 σ9 H locs hp9 hN => ?_)
        obtain ⟨rfl, h9⟩ := hp9
        rw [h9] at hN
        refine W.eq (g2 := F0 m 30 ls [.int (nI (mm_pgs T t (T.fl i)))]) rfl ?_
        refine W.widen (k := 1) (n := 24) (Nat.le_of_ble_eq_true rfl) (Nat.le_of_ble_eq_true rfl) ?_
        refine lv_istore (pc := 30) (lv' := [(6, .int (nI (mm_pgs T t (T.fl i)))), (0, .ref ((rd 0 0))), (1, .int (nI t)), (2, .int (nI hh)), (3, .ref lf), (4, .ref ro), (5, .int (nI i))]) F.1 F.2.1 dX7_outcomesOf_30 hl (by decide) rfl (fun ls hl => ?_)
        refine lv_iconst (pc := 32) (v := nI 0) F.1 F.2.1 dX7_outcomesOf_32 (by decide) ?_
        refine lv_istore (pc := 33) (lv' := [(7, .int (nI 0)), (6, .int (nI (mm_pgs T t (T.fl i)))), (0, .ref ((rd 0 0))), (1, .int (nI t)), (2, .int (nI hh)), (3, .ref lf), (4, .ref ro), (5, .int (nI i))]) F.1 F.2.1 dX7_outcomesOf_33 hl (by decide) rfl (fun ls hl => ?_)
        refine lv_iconst (pc := 35) (v := nI 0) F.1 F.2.1 dX7_outcomesOf_35 (by decide) ?_
        refine lv_istore (pc := 36) (lv' := [(8, .int (nI 0)), (7, .int (nI 0)), (6, .int (nI (mm_pgs T t (T.fl i)))), (0, .ref ((rd 0 0))), (1, .int (nI t)), (2, .int (nI hh)), (3, .ref lf), (4, .ref ro), (5, .int (nI i))]) F.1 F.2.1 dX7_outcomesOf_36 hl (by decide) rfl (fun ls hl => ?_)
        have lp38 : ∀ (k38 u : Nat) (is : Nat) (ls : Array Slot) (H : Heap) (locs : List Loc), i < u + k38 → u ≤ i → (is = if mm_ex (fun q => decide (T.ho q = T.ho i ∧ T.re q = 45 ∧ 0 < mm_pgs T t (T.fl q))) u = true then 1 else 0) → mm_N b D s σi H locs → lv_has ls 9 [(0, .ref ((rd 0 0))), (1, .int (nI t)), (2, .int (nI hh)), (3, .ref lf), (4, .ref ro), (5, .int (nI i)), (6, .int (nI (mm_pgs T t (T.fl i)))), (7, .int (nI is)), (8, .int (nI u))] →
            W p l e ({ frames := 2, cells := 1, slots := 24, locals := 120 } : Room) s m args below meth c H locs (1) (24) (mm_Q b D (fun v σ2 => ∃ q : Nat, v = some (.ref q) ∧ σ q = none ∧ σ2 q = mm_ari 1 3 24 (fun x => nI (if x < T.nP then mm_oc T t hh x else 0)) ∧ σ2 lf = mm_ari 1 0 3 (fun x => nI (mm_l3 (mm_lf T t hh T.nP) x)) ∧ mm_M σ2 T th rd ∧ mm_Fr 1 σ σ2) (fun _ _ => False) below args s ({ frames := 2, cells := 1, slots := 24, locals := 120 } : Room)) (F0 m 38 ls []) := by
          intro k38
          induction k38 with
          | zero => intro u is ls H locs hk38 hi38 his hN hl; omega
          | succ k38 ih38 =>
            intro u is ls H locs hk38 hi38 his hN hl
            have his2 : is < 2 := by rw [his]; split <;> decide
            refine lv_iload (pc := 38) F.1 F.2.1 dX7_outcomesOf_38 (lv_at hl 8 rfl) ?_
            refine lv_iload (pc := 40) F.1 F.2.1 dX7_outcomesOf_40 (lv_at hl 5 rfl) ?_
            refine mm_icmp_ge (pc := 42) F (x := u) (y := i) (tgt := 107) (by omega) (by omega) dX7_outcomesOf_42 (by decide) (fun cz42 => ?_) (fun cz42 => ?_)
            ·
              have hui : u = i := by omega
              rw [hui] at his
              have hsec : is = if mm_sec T t i = true then 1 else 0 := his
              refine lv_iload (pc := 107) F.1 F.2.1 dX7_outcomesOf_107 (lv_at hl 6 rfl) ?_
              refine lv_iconst (pc := 109) (v := nI 3) F.1 F.2.1 dX7_outcomesOf_109 (by decide) ?_
              refine mm_icmp_le (pc := 110) F (x := mm_pgs T t (T.fl i)) (y := 3) (tgt := 117) (by omega) (by omega) dX7_outcomesOf_110 (by decide) (fun cz110 => ?_) (fun cz110 => ?_)
              ·
                refine lv_iconst (pc := 117) (v := nI 1) F.1 F.2.1 dX7_outcomesOf_117 (by decide) ?_
                refine lv_istore (pc := 118) (lv' := [(8, .int (nI 1)), (0, .ref ((rd 0 0))), (1, .int (nI t)), (2, .int (nI hh)), (3, .ref lf), (4, .ref ro), (5, .int (nI i)), (6, .int (nI (mm_pgs T t (T.fl i)))), (7, .int (nI is))]) F.1 F.2.1 dX7_outcomesOf_118 hl (by decide) rfl (fun ls hl => ?_)
                refine lv_aload_n (pc := 120) F.1 F.2.1 dX7_outcomesOf_120 rfl (lv_at hl 1 rfl) ?_
                refine mm_get (pc := 121) F hN ((show σi (rd 0 0) = mm_obj 1 7 [.ref ((rd 1 0)), .ref ((rd 2 0)), .ref ((rd 3 0)), .int (nI T.nA), .ref ((rd 4 0)), .ref ((rd 5 0)), .ref ((rd 6 0)), .int (nI T.nP), .ref ((rd 7 0)), .ref ((rd 8 0)), .ref ((rd 9 0)), .ref ((rd 10 0)), .ref ((rd 11 0)), .int (nI T.nT), .int (nI T.pa), .ref ((rd 12 0)), .int (nI T.bo), .ref ((rd 13 0)), .ref ((rd 14 0)), .ref ((rd 15 0)), .ref ((rd 16 0)), .ref ((rd 17 0)), .ref ((rd 18 0)), .ref ((rd 19 0)), .int (nI T.nR), .int (nI th)] from mm_r0 (T := T) hMi)) (ci := 7) rfl 6 (by decide) mw_1185 rfl dX7_outcomesOf_121 ?_
                refine lv_iload (pc := 124) F.1 F.2.1 dX7_outcomesOf_124 (lv_at hl 6 rfl) ?_
                refine mm_cald (pc := 126) F hN ((show σi (rd 6 0) = mm_ari 1 3 24 (fun b9 => nI (T.re b9)) from mm_r6 (T := T) hMi)) (j := i) (rfl) (by omega) (by decide) dX7_outcomesOf_126 ?_
                refine lv_bipush (pc := 127) (v := nI 45) F.1 F.2.1 dX7_outcomesOf_127 (by decide) ?_
                refine mm_icmp_eq (pc := 129) F (x := T.re i) (y := 45) (tgt := 142) (by omega) (by omega) dX7_outcomesOf_129 (by decide) (fun cz129 => ?_) (fun cz129 => ?_)
                ·
                  refine lv_aload_n (pc := 142) F.1 F.2.1 dX7_outcomesOf_142 rfl (lv_at hl 1 rfl) ?_
                  refine mm_get (pc := 143) F hN ((show σi (rd 0 0) = mm_obj 1 7 [.ref ((rd 1 0)), .ref ((rd 2 0)), .ref ((rd 3 0)), .int (nI T.nA), .ref ((rd 4 0)), .ref ((rd 5 0)), .ref ((rd 6 0)), .int (nI T.nP), .ref ((rd 7 0)), .ref ((rd 8 0)), .ref ((rd 9 0)), .ref ((rd 10 0)), .ref ((rd 11 0)), .int (nI T.nT), .int (nI T.pa), .ref ((rd 12 0)), .int (nI T.bo), .ref ((rd 13 0)), .ref ((rd 14 0)), .ref ((rd 15 0)), .ref ((rd 16 0)), .ref ((rd 17 0)), .ref ((rd 18 0)), .ref ((rd 19 0)), .int (nI T.nR), .int (nI th)] from mm_r0 (T := T) hMi)) (ci := 7) rfl 1 (by decide) mw_1180 rfl dX7_outcomesOf_143 ?_
                  refine lv_aload_n (pc := 146) F.1 F.2.1 dX7_outcomesOf_146 rfl (lv_at hl 1 rfl) ?_
                  refine mm_get (pc := 147) F hN ((show σi (rd 0 0) = mm_obj 1 7 [.ref ((rd 1 0)), .ref ((rd 2 0)), .ref ((rd 3 0)), .int (nI T.nA), .ref ((rd 4 0)), .ref ((rd 5 0)), .ref ((rd 6 0)), .int (nI T.nP), .ref ((rd 7 0)), .ref ((rd 8 0)), .ref ((rd 9 0)), .ref ((rd 10 0)), .ref ((rd 11 0)), .int (nI T.nT), .int (nI T.pa), .ref ((rd 12 0)), .int (nI T.bo), .ref ((rd 13 0)), .ref ((rd 14 0)), .ref ((rd 15 0)), .ref ((rd 16 0)), .ref ((rd 17 0)), .ref ((rd 18 0)), .ref ((rd 19 0)), .int (nI T.nR), .int (nI th)] from mm_r0 (T := T) hMi)) (ci := 7) rfl 4 (by decide) mw_1183 rfl dX7_outcomesOf_147 ?_
                  refine lv_iload (pc := 150) F.1 F.2.1 dX7_outcomesOf_150 (lv_at hl 6 rfl) ?_
                  refine mm_iald (pc := 152) F hN ((show σi (rd 4 0) = mm_ari 1 0 24 (fun b9 => nI (T.ho b9)) from mm_r4 (T := T) hMi)) (j := i) (rfl) (by omega) (by decide) dX7_outcomesOf_152 ?_
                  refine mm_iald (pc := 153) F hN ((show σi (rd 2 0) = mm_ari 1 0 12 (fun b9 => nI (T.sk b9)) from mm_r2 (T := T) hMi)) (j := T.ho i) (rfl) (by omega) (by decide) dX7_outcomesOf_153 ?_
                  refine lv_iconst (pc := 154) (v := nI 2) F.1 F.2.1 dX7_outcomesOf_154 (by decide) ?_
                  refine lv_icmp_lt (pc := 155) (tgt := 182) F.1 F.2.1 dX7_outcomesOf_155 (by decide) (fun cz155 => ?_) (fun cz155 => ?_)
                  ·
                    refine lv_iload (pc := 182) F.1 F.2.1 dX7_outcomesOf_182 (lv_at hl 7 rfl) ?_
                    refine mm_if_ne (pc := 184) F (tgt := 197) (by omega) dX7_outcomesOf_184 (by decide) (fun cz184 => ?_) (fun cz184 => ?_)
                    ·
                      refine lv_iload_n (pc := 197) F.1 F.2.1 dX7_outcomesOf_197 rfl (lv_at hl 3 rfl) ?_
                      refine mm_if_eq (pc := 198) F (tgt := 216) (by omega) dX7_outcomesOf_198 (by decide) (fun cz198 => ?_) (fun cz198 => ?_)
                      ·
                        refine lv_aload_n (pc := 216) F.1 F.2.1 dX7_outcomesOf_216 rfl (lv_at hl 4 rfl) ?_
                        refine lv_iconst (pc := 217) (v := nI 0) F.1 F.2.1 dX7_outcomesOf_217 (by decide) ?_
                        refine mm_iald (pc := 218) F hN (xli) (j := 0) (rfl) (by omega) (by decide) dX7_outcomesOf_218 ?_
                        refine W.eq (g2 := F0 m 219 ls [.int (nI ((mm_lf T t hh i).1))]) rfl ?_
                        refine lv_iload (pc := 219) F.1 F.2.1 dX7_outcomesOf_219 (lv_at hl 7 rfl) ?_
                        refine mm_icmp_lt (pc := 221) F (x := (mm_lf T t hh i).1) (y := mm_pgs T t (T.fl i)) (tgt := 231) (by omega) (by omega) dX7_outcomesOf_221 (by decide) (fun cz221 => ?_) (fun cz221 => ?_)
                        ·
                          refine lv_aload (pc := 231) F.1 F.2.1 dX7_outcomesOf_231 (lv_at hl 5 rfl) ?_
                          refine lv_iload (pc := 233) F.1 F.2.1 dX7_outcomesOf_233 (lv_at hl 6 rfl) ?_
                          refine lv_bipush (pc := 235) (v := nI 112) F.1 F.2.1 dX7_outcomesOf_235 (by decide) ?_
                          refine mm_cast_ (pc := 237) F hN (xqi) (j := i) (rfl) (by omega) (by decide) (by decide) dX7_outcomesOf_237 (fun H locs hN => ?_)
                          have ho8 : mm_obs T t hh i = 45 := by rw [mm_obs, if_neg (fun q => q cz129), if_neg (show ¬ (¬ (nI (T.sk (T.ho i)) < nI 2) ∧ mm_ends T (T.ho i) = false) from fun q => q.1 cz155), if_neg cz184, if_neg (fun q => q.1 cz198)]
                          have hf8 : ¬ mm_fit (mm_lf T t hh i) (mm_pgs T t (T.fl i)) := fun q => by
                            obtain ⟨q1, q2⟩ := q
                            rw [if_neg (show ¬ 3 < mm_pgs T t (T.fl i) by omega)] at q2
                            omega
                          have hoc9 : 112 = mm_oc T t hh i := by rw [mm_oc, if_neg (fun q => q ho8), if_neg hf8]
                          have hl9 : mm_lf T t hh (i + 1) = (mm_lf T t hh i) := by rw [mm_lf, if_neg (fun q => hf8 q.2)]
                          have hN : mm_N b D s (mm_u σi ro (mm_ari 1 3 24 (va_up (fun b9 => nI (if b9 < i then mm_oc T t hh b9 else 0)) i (nI 112)))) _ _ := hN
                          obtain ⟨σ3, eσ3⟩ : ∃ q, q = mm_u σi ro (mm_ari 1 3 24 (va_up (fun b9 => nI (if b9 < i then mm_oc T t hh b9 else 0)) i (nI 112))) := ⟨_, rfl⟩
                          rw [← eσ3] at hN
                          have hM3 : mm_M σ3 T th rd := by rw [eσ3]; exact mm_M_off hMi noq
                          have hF3 : mm_Fr 1 σ σ3 := by rw [eσ3]; exact (hFi).tr (mm_Fr.u xqi)
                          have xro3 : σ3 ro = mm_ari 1 3 24 (fun b9 => nI (if b9 < (i + 1) then mm_oc T t hh b9 else 0)) := by rw [eσ3, mm_u_eq]; exact congrArg (mm_ari 1 3 24) (mm_row1 hoc9)
                          have xlf3 : σ3 lf = mm_ari 1 0 3 (fun b9 => nI (mm_l3 (mm_lf T t hh i) b9)) := by rw [eσ3]; exact (mm_u_ne (Ne.symm nql)).trans xli
                          refine lv_goto (pc := 238) (tgt := 264) F.1 F.2.1 dX7_outcomesOf_238 (by decide) ?_
                          refine lv_iinc (pc := 264) (v := nI (i + 1)) (lv' := [(5, .int (nI (i + 1))), (8, .int (nI 1)), (0, .ref ((rd 0 0))), (1, .int (nI t)), (2, .int (nI hh)), (3, .ref lf), (4, .ref ro), (6, .int (nI (mm_pgs T t (T.fl i)))), (7, .int (nI is))]) F.1 F.2.1 dX7_outcomesOf_264 hl (k := 6) rfl (by rw [← nI_add]; rfl) (by decide) rfl (fun ls hl => ?_)
                          refine lv_goto (pc := 267) (tgt := 9) F.1 F.2.1 dX7_outcomesOf_267 (by decide) ?_
                          have xl99 : σ3 lf = mm_ari 1 0 3 (fun b9 => nI (mm_l3 (mm_lf T t hh (i + 1)) b9)) := by rw [hl9]; exact xlf3
                          exact ih9 (i + 1) σ3 ls _ _ (by omega) (by omega) (hM3) (hF3) (xro3) (xl99) hN (lv_sub hl [2, 3, 4, 5, 6, 0] rfl)
                        ·
                          refine lv_aload_n (pc := 224) F.1 F.2.1 dX7_outcomesOf_224 rfl (lv_at hl 4 rfl) ?_
                          refine lv_iload (pc := 225) F.1 F.2.1 dX7_outcomesOf_225 (lv_at hl 0 rfl) ?_
                          refine mm_iald (pc := 227) F hN (xli) (j := 1) (rfl) (by omega) (by decide) dX7_outcomesOf_227 ?_
                          refine W.eq (g2 := F0 m 228 ls [.int (nI ((mm_lf T t hh i).2.1))]) rfl ?_
                          refine mm_if_ne (pc := 228) F (tgt := 241) (by omega) dX7_outcomesOf_228 (by decide) (fun cz228 => ?_) (fun cz228 => ?_)
                          ·
                            refine lv_aload (pc := 241) F.1 F.2.1 dX7_outcomesOf_241 (lv_at hl 5 rfl) ?_
                            refine lv_iload (pc := 243) F.1 F.2.1 dX7_outcomesOf_243 (lv_at hl 6 rfl) ?_
                            refine lv_bipush (pc := 245) (v := nI 108) F.1 F.2.1 dX7_outcomesOf_245 (by decide) ?_
                            refine mm_cast_ (pc := 247) F hN (xqi) (j := i) (rfl) (by omega) (by decide) (by decide) dX7_outcomesOf_247 (fun H locs hN => ?_)
                            have ho8 : mm_obs T t hh i = 45 := by rw [mm_obs, if_neg (fun q => q cz129), if_neg (show ¬ (¬ (nI (T.sk (T.ho i)) < nI 2) ∧ mm_ends T (T.ho i) = false) from fun q => q.1 cz155), if_neg cz184, if_neg (fun q => q.1 cz198)]
                            have hf8 : mm_fit (mm_lf T t hh i) (mm_pgs T t (T.fl i)) := ⟨by omega, by rw [if_neg (show ¬ 3 < mm_pgs T t (T.fl i) by omega)]; omega⟩
                            have hoc9 : 108 = mm_oc T t hh i := by rw [mm_oc, if_neg (fun q => q ho8), if_pos hf8]
                            have hl9 : mm_lf T t hh (i + 1) = mm_tk (mm_lf T t hh i) (mm_pgs T t (T.fl i)) := by rw [mm_lf, if_pos ⟨ho8, hf8⟩]
                            have hN : mm_N b D s (mm_u σi ro (mm_ari 1 3 24 (va_up (fun b9 => nI (if b9 < i then mm_oc T t hh b9 else 0)) i (nI 108)))) _ _ := hN
                            obtain ⟨σ4, eσ4⟩ : ∃ q, q = mm_u σi ro (mm_ari 1 3 24 (va_up (fun b9 => nI (if b9 < i then mm_oc T t hh b9 else 0)) i (nI 108))) := ⟨_, rfl⟩
                            rw [← eσ4] at hN
                            have hM4 : mm_M σ4 T th rd := by rw [eσ4]; exact mm_M_off hMi noq
                            have hF4 : mm_Fr 1 σ σ4 := by rw [eσ4]; exact (hFi).tr (mm_Fr.u xqi)
                            have xro4 : σ4 ro = mm_ari 1 3 24 (fun b9 => nI (if b9 < (i + 1) then mm_oc T t hh b9 else 0)) := by rw [eσ4, mm_u_eq]; exact congrArg (mm_ari 1 3 24) (mm_row1 hoc9)
                            have xlf4 : σ4 lf = mm_ari 1 0 3 (fun b9 => nI (mm_l3 (mm_lf T t hh i) b9)) := by rw [eσ4]; exact (mm_u_ne (Ne.symm nql)).trans xli
                            refine lv_aload_n (pc := 248) F.1 F.2.1 dX7_outcomesOf_248 rfl (lv_at hl 4 rfl) ?_
                            refine lv_iconst (pc := 249) (v := nI 0) F.1 F.2.1 dX7_outcomesOf_249 (by decide) ?_
                            refine lv_dup2_11 (pc := 250) F.1 F.2.1 dX7_outcomesOf_250 rfl rfl ?_
                            refine mm_iald (pc := 251) F hN (xlf4) (j := 0) (rfl) (by omega) (by decide) dX7_outcomesOf_251 ?_
                            refine W.eq (g2 := F0 m 252 ls [.int (nI ((mm_lf T t hh i).1)), .int (nI 0), .ref lf]) rfl ?_
                            refine lv_iload (pc := 252) F.1 F.2.1 dX7_outcomesOf_252 (lv_at hl 7 rfl) ?_
                            refine mm_isub (pc := 254) F (z := nI (((mm_lf T t hh i).1) - (mm_pgs T t (T.fl i)))) (pk_sub (by omega)) dX7_outcomesOf_254 ?_
                            refine mm_iast (pc := 255) F hN (xlf4) (j := 0) (rfl) (by omega) (by decide) dX7_outcomesOf_255 (fun H locs hN => ?_)
                            have hN : mm_N b D s (mm_u σ4 lf (mm_ari 1 0 3 (va_up (fun b9 => nI (mm_l3 (mm_lf T t hh i) b9)) 0 (nI (((mm_lf T t hh i).1) - (mm_pgs T t (T.fl i))))))) _ _ := hN
                            obtain ⟨σ5, eσ5⟩ : ∃ q, q = mm_u σ4 lf (mm_ari 1 0 3 (va_up (fun b9 => nI (mm_l3 (mm_lf T t hh i) b9)) 0 (nI (((mm_lf T t hh i).1) - (mm_pgs T t (T.fl i)))))) := ⟨_, rfl⟩
                            rw [← eσ5] at hN
                            have hM5 : mm_M σ5 T th rd := by rw [eσ5]; exact mm_M_off hM4 nol
                            have hF5 : mm_Fr 1 σ σ5 := by rw [eσ5]; exact (hF4).tr (mm_Fr.u xlf4)
                            have xro5 : σ5 ro = mm_ari 1 3 24 (fun b9 => nI (if b9 < (i + 1) then mm_oc T t hh b9 else 0)) := by rw [eσ5]; exact (mm_u_ne nql).trans xro4
                            have xlf5 : σ5 lf = mm_ari 1 0 3 (fun b9 => nI (mm_l3 (((mm_lf T t hh i).1) - (mm_pgs T t (T.fl i)), (mm_lf T t hh i).2.1, (mm_lf T t hh i).2.2) b9)) := by rw [eσ5, mm_u_eq]; exact congrArg (mm_ari 1 0 3) (mm_l3u (l := ((mm_lf T t hh i).1, (mm_lf T t hh i).2.1, (mm_lf T t hh i).2.2)) (l' := (((mm_lf T t hh i).1) - (mm_pgs T t (T.fl i)), (mm_lf T t hh i).2.1, (mm_lf T t hh i).2.2)) rfl rfl rfl (by decide))
                            refine lv_aload_n (pc := 256) F.1 F.2.1 dX7_outcomesOf_256 rfl (lv_at hl 4 rfl) ?_
                            refine lv_iload (pc := 257) F.1 F.2.1 dX7_outcomesOf_257 (lv_at hl 0 rfl) ?_
                            refine lv_dup2_11 (pc := 259) F.1 F.2.1 dX7_outcomesOf_259 rfl rfl ?_
                            refine mm_iald (pc := 260) F hN (xlf5) (j := 1) (rfl) (by omega) (by decide) dX7_outcomesOf_260 ?_
                            refine W.eq (g2 := F0 m 261 ls [.int (nI ((mm_lf T t hh i).2.1)), .int (nI 1), .ref lf]) rfl ?_
                            refine lv_iconst (pc := 261) (v := nI 1) F.1 F.2.1 dX7_outcomesOf_261 (by decide) ?_
                            refine mm_isub (pc := 262) F (z := nI (((mm_lf T t hh i).2.1) - 1)) (pk_sub (by omega)) dX7_outcomesOf_262 ?_
                            refine mm_iast (pc := 263) F hN (xlf5) (j := 1) (rfl) (by omega) (by decide) dX7_outcomesOf_263 (fun H locs hN => ?_)
                            have hN : mm_N b D s (mm_u σ5 lf (mm_ari 1 0 3 (va_up (fun b9 => nI (mm_l3 (((mm_lf T t hh i).1) - (mm_pgs T t (T.fl i)), (mm_lf T t hh i).2.1, (mm_lf T t hh i).2.2) b9)) 1 (nI (((mm_lf T t hh i).2.1) - 1))))) _ _ := hN
                            obtain ⟨σ6, eσ6⟩ : ∃ q, q = mm_u σ5 lf (mm_ari 1 0 3 (va_up (fun b9 => nI (mm_l3 (((mm_lf T t hh i).1) - (mm_pgs T t (T.fl i)), (mm_lf T t hh i).2.1, (mm_lf T t hh i).2.2) b9)) 1 (nI (((mm_lf T t hh i).2.1) - 1)))) := ⟨_, rfl⟩
                            rw [← eσ6] at hN
                            have hM6 : mm_M σ6 T th rd := by rw [eσ6]; exact mm_M_off hM5 nol
                            have hF6 : mm_Fr 1 σ σ6 := by rw [eσ6]; exact (hF5).tr (mm_Fr.u xlf5)
                            have xro6 : σ6 ro = mm_ari 1 3 24 (fun b9 => nI (if b9 < (i + 1) then mm_oc T t hh b9 else 0)) := by rw [eσ6]; exact (mm_u_ne nql).trans xro5
                            have xlf6 : σ6 lf = mm_ari 1 0 3 (fun b9 => nI (mm_l3 (((mm_lf T t hh i).1) - (mm_pgs T t (T.fl i)), ((mm_lf T t hh i).2.1) - 1, (mm_lf T t hh i).2.2) b9)) := by rw [eσ6, mm_u_eq]; exact congrArg (mm_ari 1 0 3) (mm_l3u (l := (((mm_lf T t hh i).1) - (mm_pgs T t (T.fl i)), (mm_lf T t hh i).2.1, (mm_lf T t hh i).2.2)) (l' := (((mm_lf T t hh i).1) - (mm_pgs T t (T.fl i)), ((mm_lf T t hh i).2.1) - 1, (mm_lf T t hh i).2.2)) rfl rfl rfl (by decide))
                            refine lv_iinc (pc := 264) (v := nI (i + 1)) (lv' := [(5, .int (nI (i + 1))), (8, .int (nI 1)), (0, .ref ((rd 0 0))), (1, .int (nI t)), (2, .int (nI hh)), (3, .ref lf), (4, .ref ro), (6, .int (nI (mm_pgs T t (T.fl i)))), (7, .int (nI is))]) F.1 F.2.1 dX7_outcomesOf_264 hl (k := 6) rfl (by rw [← nI_add]; rfl) (by decide) rfl (fun ls hl => ?_)
                            refine lv_goto (pc := 267) (tgt := 9) F.1 F.2.1 dX7_outcomesOf_267 (by decide) ?_
                            have xl99 : σ6 lf = mm_ari 1 0 3 (fun b9 => nI (mm_l3 (mm_lf T t hh (i + 1)) b9)) := by rw [hl9, mm_tk, if_neg (show ¬ 3 < mm_pgs T t (T.fl i) by omega), if_neg (show ¬ 3 < mm_pgs T t (T.fl i) by omega)]; exact xlf6
                            exact ih9 (i + 1) σ6 ls _ _ (by omega) (by omega) (hM6) (hF6) (xro6) (xl99) hN (lv_sub hl [2, 3, 4, 5, 6, 0] rfl)
                          ·
                            refine lv_aload (pc := 231) F.1 F.2.1 dX7_outcomesOf_231 (lv_at hl 5 rfl) ?_
                            refine lv_iload (pc := 233) F.1 F.2.1 dX7_outcomesOf_233 (lv_at hl 6 rfl) ?_
                            refine lv_bipush (pc := 235) (v := nI 112) F.1 F.2.1 dX7_outcomesOf_235 (by decide) ?_
                            refine mm_cast_ (pc := 237) F hN (xqi) (j := i) (rfl) (by omega) (by decide) (by decide) dX7_outcomesOf_237 (fun H locs hN => ?_)
                            have ho8 : mm_obs T t hh i = 45 := by rw [mm_obs, if_neg (fun q => q cz129), if_neg (show ¬ (¬ (nI (T.sk (T.ho i)) < nI 2) ∧ mm_ends T (T.ho i) = false) from fun q => q.1 cz155), if_neg cz184, if_neg (fun q => q.1 cz198)]
                            have hf8 : ¬ mm_fit (mm_lf T t hh i) (mm_pgs T t (T.fl i)) := fun q => by
                              obtain ⟨q1, q2⟩ := q
                              rw [if_neg (show ¬ 3 < mm_pgs T t (T.fl i) by omega)] at q2
                              omega
                            have hoc9 : 112 = mm_oc T t hh i := by rw [mm_oc, if_neg (fun q => q ho8), if_neg hf8]
                            have hl9 : mm_lf T t hh (i + 1) = (mm_lf T t hh i) := by rw [mm_lf, if_neg (fun q => hf8 q.2)]
                            have hN : mm_N b D s (mm_u σi ro (mm_ari 1 3 24 (va_up (fun b9 => nI (if b9 < i then mm_oc T t hh b9 else 0)) i (nI 112)))) _ _ := hN
                            obtain ⟨σ7, eσ7⟩ : ∃ q, q = mm_u σi ro (mm_ari 1 3 24 (va_up (fun b9 => nI (if b9 < i then mm_oc T t hh b9 else 0)) i (nI 112))) := ⟨_, rfl⟩
                            rw [← eσ7] at hN
                            have hM7 : mm_M σ7 T th rd := by rw [eσ7]; exact mm_M_off hMi noq
                            have hF7 : mm_Fr 1 σ σ7 := by rw [eσ7]; exact (hFi).tr (mm_Fr.u xqi)
                            have xro7 : σ7 ro = mm_ari 1 3 24 (fun b9 => nI (if b9 < (i + 1) then mm_oc T t hh b9 else 0)) := by rw [eσ7, mm_u_eq]; exact congrArg (mm_ari 1 3 24) (mm_row1 hoc9)
                            have xlf7 : σ7 lf = mm_ari 1 0 3 (fun b9 => nI (mm_l3 (mm_lf T t hh i) b9)) := by rw [eσ7]; exact (mm_u_ne (Ne.symm nql)).trans xli
                            refine lv_goto (pc := 238) (tgt := 264) F.1 F.2.1 dX7_outcomesOf_238 (by decide) ?_
                            refine lv_iinc (pc := 264) (v := nI (i + 1)) (lv' := [(5, .int (nI (i + 1))), (8, .int (nI 1)), (0, .ref ((rd 0 0))), (1, .int (nI t)), (2, .int (nI hh)), (3, .ref lf), (4, .ref ro), (6, .int (nI (mm_pgs T t (T.fl i)))), (7, .int (nI is))]) F.1 F.2.1 dX7_outcomesOf_264 hl (k := 6) rfl (by rw [← nI_add]; rfl) (by decide) rfl (fun ls hl => ?_)
                            refine lv_goto (pc := 267) (tgt := 9) F.1 F.2.1 dX7_outcomesOf_267 (by decide) ?_
                            have xl99 : σ7 lf = mm_ari 1 0 3 (fun b9 => nI (mm_l3 (mm_lf T t hh (i + 1)) b9)) := by rw [hl9]; exact xlf7
                            exact ih9 (i + 1) σ7 ls _ _ (by omega) (by omega) (hM7) (hF7) (xro7) (xl99) hN (lv_sub hl [2, 3, 4, 5, 6, 0] rfl)
                      ·
                        refine lv_iload (pc := 201) F.1 F.2.1 dX7_outcomesOf_201 (lv_at hl 8 rfl) ?_
                        refine mm_if_eq (pc := 203) F (tgt := 216) (by omega) dX7_outcomesOf_203 (by decide) (fun cz203 => ?_) (fun cz203 => ?_)
                        ·
                          refine lv_aload_n (pc := 216) F.1 F.2.1 dX7_outcomesOf_216 rfl (lv_at hl 4 rfl) ?_
                          refine lv_iconst (pc := 217) (v := nI 0) F.1 F.2.1 dX7_outcomesOf_217 (by decide) ?_
                          refine mm_iald (pc := 218) F hN (xli) (j := 0) (rfl) (by omega) (by decide) dX7_outcomesOf_218 ?_
                          refine W.eq (g2 := F0 m 219 ls [.int (nI ((mm_lf T t hh i).1))]) rfl ?_
                          refine lv_iload (pc := 219) F.1 F.2.1 dX7_outcomesOf_219 (lv_at hl 7 rfl) ?_
                          refine mm_icmp_lt (pc := 221) F (x := (mm_lf T t hh i).1) (y := mm_pgs T t (T.fl i)) (tgt := 231) (by omega) (by omega) dX7_outcomesOf_221 (by decide) (fun cz221 => ?_) (fun cz221 => ?_)
                          ·
                            refine lv_aload (pc := 231) F.1 F.2.1 dX7_outcomesOf_231 (lv_at hl 5 rfl) ?_
                            refine lv_iload (pc := 233) F.1 F.2.1 dX7_outcomesOf_233 (lv_at hl 6 rfl) ?_
                            refine lv_bipush (pc := 235) (v := nI 112) F.1 F.2.1 dX7_outcomesOf_235 (by decide) ?_
                            refine mm_cast_ (pc := 237) F hN (xqi) (j := i) (rfl) (by omega) (by decide) (by decide) dX7_outcomesOf_237 (fun H locs hN => ?_)
                            have ho8 : mm_obs T t hh i = 45 := by rw [mm_obs, if_neg (fun q => q cz129), if_neg (show ¬ (¬ (nI (T.sk (T.ho i)) < nI 2) ∧ mm_ends T (T.ho i) = false) from fun q => q.1 cz155), if_neg cz184, if_neg (fun q => by rw [if_pos q.2, cz203] at hsec; cases hsec)]
                            have hf8 : ¬ mm_fit (mm_lf T t hh i) (mm_pgs T t (T.fl i)) := fun q => by
                              obtain ⟨q1, q2⟩ := q
                              rw [if_neg (show ¬ 3 < mm_pgs T t (T.fl i) by omega)] at q2
                              omega
                            have hoc9 : 112 = mm_oc T t hh i := by rw [mm_oc, if_neg (fun q => q ho8), if_neg hf8]
                            have hl9 : mm_lf T t hh (i + 1) = (mm_lf T t hh i) := by rw [mm_lf, if_neg (fun q => hf8 q.2)]
                            have hN : mm_N b D s (mm_u σi ro (mm_ari 1 3 24 (va_up (fun b9 => nI (if b9 < i then mm_oc T t hh b9 else 0)) i (nI 112)))) _ _ := hN
                            obtain ⟨σ8, eσ8⟩ : ∃ q, q = mm_u σi ro (mm_ari 1 3 24 (va_up (fun b9 => nI (if b9 < i then mm_oc T t hh b9 else 0)) i (nI 112))) := ⟨_, rfl⟩
                            rw [← eσ8] at hN
                            have hM8 : mm_M σ8 T th rd := by rw [eσ8]; exact mm_M_off hMi noq
                            have hF8 : mm_Fr 1 σ σ8 := by rw [eσ8]; exact (hFi).tr (mm_Fr.u xqi)
                            have xro8 : σ8 ro = mm_ari 1 3 24 (fun b9 => nI (if b9 < (i + 1) then mm_oc T t hh b9 else 0)) := by rw [eσ8, mm_u_eq]; exact congrArg (mm_ari 1 3 24) (mm_row1 hoc9)
                            have xlf8 : σ8 lf = mm_ari 1 0 3 (fun b9 => nI (mm_l3 (mm_lf T t hh i) b9)) := by rw [eσ8]; exact (mm_u_ne (Ne.symm nql)).trans xli
                            refine lv_goto (pc := 238) (tgt := 264) F.1 F.2.1 dX7_outcomesOf_238 (by decide) ?_
                            refine lv_iinc (pc := 264) (v := nI (i + 1)) (lv' := [(5, .int (nI (i + 1))), (8, .int (nI 1)), (0, .ref ((rd 0 0))), (1, .int (nI t)), (2, .int (nI hh)), (3, .ref lf), (4, .ref ro), (6, .int (nI (mm_pgs T t (T.fl i)))), (7, .int (nI is))]) F.1 F.2.1 dX7_outcomesOf_264 hl (k := 6) rfl (by rw [← nI_add]; rfl) (by decide) rfl (fun ls hl => ?_)
                            refine lv_goto (pc := 267) (tgt := 9) F.1 F.2.1 dX7_outcomesOf_267 (by decide) ?_
                            have xl99 : σ8 lf = mm_ari 1 0 3 (fun b9 => nI (mm_l3 (mm_lf T t hh (i + 1)) b9)) := by rw [hl9]; exact xlf8
                            exact ih9 (i + 1) σ8 ls _ _ (by omega) (by omega) (hM8) (hF8) (xro8) (xl99) hN (lv_sub hl [2, 3, 4, 5, 6, 0] rfl)
                          ·
                            refine lv_aload_n (pc := 224) F.1 F.2.1 dX7_outcomesOf_224 rfl (lv_at hl 4 rfl) ?_
                            refine lv_iload (pc := 225) F.1 F.2.1 dX7_outcomesOf_225 (lv_at hl 0 rfl) ?_
                            refine mm_iald (pc := 227) F hN (xli) (j := 1) (rfl) (by omega) (by decide) dX7_outcomesOf_227 ?_
                            refine W.eq (g2 := F0 m 228 ls [.int (nI ((mm_lf T t hh i).2.1))]) rfl ?_
                            refine mm_if_ne (pc := 228) F (tgt := 241) (by omega) dX7_outcomesOf_228 (by decide) (fun cz228 => ?_) (fun cz228 => ?_)
                            ·
                              refine lv_aload (pc := 241) F.1 F.2.1 dX7_outcomesOf_241 (lv_at hl 5 rfl) ?_
                              refine lv_iload (pc := 243) F.1 F.2.1 dX7_outcomesOf_243 (lv_at hl 6 rfl) ?_
                              refine lv_bipush (pc := 245) (v := nI 108) F.1 F.2.1 dX7_outcomesOf_245 (by decide) ?_
                              refine mm_cast_ (pc := 247) F hN (xqi) (j := i) (rfl) (by omega) (by decide) (by decide) dX7_outcomesOf_247 (fun H locs hN => ?_)
                              have ho8 : mm_obs T t hh i = 45 := by rw [mm_obs, if_neg (fun q => q cz129), if_neg (show ¬ (¬ (nI (T.sk (T.ho i)) < nI 2) ∧ mm_ends T (T.ho i) = false) from fun q => q.1 cz155), if_neg cz184, if_neg (fun q => by rw [if_pos q.2, cz203] at hsec; cases hsec)]
                              have hf8 : mm_fit (mm_lf T t hh i) (mm_pgs T t (T.fl i)) := ⟨by omega, by rw [if_neg (show ¬ 3 < mm_pgs T t (T.fl i) by omega)]; omega⟩
                              have hoc9 : 108 = mm_oc T t hh i := by rw [mm_oc, if_neg (fun q => q ho8), if_pos hf8]
                              have hl9 : mm_lf T t hh (i + 1) = mm_tk (mm_lf T t hh i) (mm_pgs T t (T.fl i)) := by rw [mm_lf, if_pos ⟨ho8, hf8⟩]
                              have hN : mm_N b D s (mm_u σi ro (mm_ari 1 3 24 (va_up (fun b9 => nI (if b9 < i then mm_oc T t hh b9 else 0)) i (nI 108)))) _ _ := hN
                              obtain ⟨σ9, eσ9⟩ : ∃ q, q = mm_u σi ro (mm_ari 1 3 24 (va_up (fun b9 => nI (if b9 < i then mm_oc T t hh b9 else 0)) i (nI 108))) := ⟨_, rfl⟩
                              rw [← eσ9] at hN
                              have hM9 : mm_M σ9 T th rd := by rw [eσ9]; exact mm_M_off hMi noq
                              have hF9 : mm_Fr 1 σ σ9 := by rw [eσ9]; exact (hFi).tr (mm_Fr.u xqi)
                              have xro9 : σ9 ro = mm_ari 1 3 24 (fun b9 => nI (if b9 < (i + 1) then mm_oc T t hh b9 else 0)) := by rw [eσ9, mm_u_eq]; exact congrArg (mm_ari 1 3 24) (mm_row1 hoc9)
                              have xlf9 : σ9 lf = mm_ari 1 0 3 (fun b9 => nI (mm_l3 (mm_lf T t hh i) b9)) := by rw [eσ9]; exact (mm_u_ne (Ne.symm nql)).trans xli
                              refine lv_aload_n (pc := 248) F.1 F.2.1 dX7_outcomesOf_248 rfl (lv_at hl 4 rfl) ?_
                              refine lv_iconst (pc := 249) (v := nI 0) F.1 F.2.1 dX7_outcomesOf_249 (by decide) ?_
                              refine lv_dup2_11 (pc := 250) F.1 F.2.1 dX7_outcomesOf_250 rfl rfl ?_
                              refine mm_iald (pc := 251) F hN (xlf9) (j := 0) (rfl) (by omega) (by decide) dX7_outcomesOf_251 ?_
                              refine W.eq (g2 := F0 m 252 ls [.int (nI ((mm_lf T t hh i).1)), .int (nI 0), .ref lf]) rfl ?_
                              refine lv_iload (pc := 252) F.1 F.2.1 dX7_outcomesOf_252 (lv_at hl 7 rfl) ?_
                              refine mm_isub (pc := 254) F (z := nI (((mm_lf T t hh i).1) - (mm_pgs T t (T.fl i)))) (pk_sub (by omega)) dX7_outcomesOf_254 ?_
                              refine mm_iast (pc := 255) F hN (xlf9) (j := 0) (rfl) (by omega) (by decide) dX7_outcomesOf_255 (fun H locs hN => ?_)
                              have hN : mm_N b D s (mm_u σ9 lf (mm_ari 1 0 3 (va_up (fun b9 => nI (mm_l3 (mm_lf T t hh i) b9)) 0 (nI (((mm_lf T t hh i).1) - (mm_pgs T t (T.fl i))))))) _ _ := hN
                              obtain ⟨σ10, eσ10⟩ : ∃ q, q = mm_u σ9 lf (mm_ari 1 0 3 (va_up (fun b9 => nI (mm_l3 (mm_lf T t hh i) b9)) 0 (nI (((mm_lf T t hh i).1) - (mm_pgs T t (T.fl i)))))) := ⟨_, rfl⟩
                              rw [← eσ10] at hN
                              have hM10 : mm_M σ10 T th rd := by rw [eσ10]; exact mm_M_off hM9 nol
                              have hF10 : mm_Fr 1 σ σ10 := by rw [eσ10]; exact (hF9).tr (mm_Fr.u xlf9)
                              have xro10 : σ10 ro = mm_ari 1 3 24 (fun b9 => nI (if b9 < (i + 1) then mm_oc T t hh b9 else 0)) := by rw [eσ10]; exact (mm_u_ne nql).trans xro9
                              have xlf10 : σ10 lf = mm_ari 1 0 3 (fun b9 => nI (mm_l3 (((mm_lf T t hh i).1) - (mm_pgs T t (T.fl i)), (mm_lf T t hh i).2.1, (mm_lf T t hh i).2.2) b9)) := by rw [eσ10, mm_u_eq]; exact congrArg (mm_ari 1 0 3) (mm_l3u (l := ((mm_lf T t hh i).1, (mm_lf T t hh i).2.1, (mm_lf T t hh i).2.2)) (l' := (((mm_lf T t hh i).1) - (mm_pgs T t (T.fl i)), (mm_lf T t hh i).2.1, (mm_lf T t hh i).2.2)) rfl rfl rfl (by decide))
                              refine lv_aload_n (pc := 256) F.1 F.2.1 dX7_outcomesOf_256 rfl (lv_at hl 4 rfl) ?_
                              refine lv_iload (pc := 257) F.1 F.2.1 dX7_outcomesOf_257 (lv_at hl 0 rfl) ?_
                              refine lv_dup2_11 (pc := 259) F.1 F.2.1 dX7_outcomesOf_259 rfl rfl ?_
                              refine mm_iald (pc := 260) F hN (xlf10) (j := 1) (rfl) (by omega) (by decide) dX7_outcomesOf_260 ?_
                              refine W.eq (g2 := F0 m 261 ls [.int (nI ((mm_lf T t hh i).2.1)), .int (nI 1), .ref lf]) rfl ?_
                              refine lv_iconst (pc := 261) (v := nI 1) F.1 F.2.1 dX7_outcomesOf_261 (by decide) ?_
                              refine mm_isub (pc := 262) F (z := nI (((mm_lf T t hh i).2.1) - 1)) (pk_sub (by omega)) dX7_outcomesOf_262 ?_
                              refine mm_iast (pc := 263) F hN (xlf10) (j := 1) (rfl) (by omega) (by decide) dX7_outcomesOf_263 (fun H locs hN => ?_)
                              have hN : mm_N b D s (mm_u σ10 lf (mm_ari 1 0 3 (va_up (fun b9 => nI (mm_l3 (((mm_lf T t hh i).1) - (mm_pgs T t (T.fl i)), (mm_lf T t hh i).2.1, (mm_lf T t hh i).2.2) b9)) 1 (nI (((mm_lf T t hh i).2.1) - 1))))) _ _ := hN
                              obtain ⟨σ11, eσ11⟩ : ∃ q, q = mm_u σ10 lf (mm_ari 1 0 3 (va_up (fun b9 => nI (mm_l3 (((mm_lf T t hh i).1) - (mm_pgs T t (T.fl i)), (mm_lf T t hh i).2.1, (mm_lf T t hh i).2.2) b9)) 1 (nI (((mm_lf T t hh i).2.1) - 1)))) := ⟨_, rfl⟩
                              rw [← eσ11] at hN
                              have hM11 : mm_M σ11 T th rd := by rw [eσ11]; exact mm_M_off hM10 nol
                              have hF11 : mm_Fr 1 σ σ11 := by rw [eσ11]; exact (hF10).tr (mm_Fr.u xlf10)
                              have xro11 : σ11 ro = mm_ari 1 3 24 (fun b9 => nI (if b9 < (i + 1) then mm_oc T t hh b9 else 0)) := by rw [eσ11]; exact (mm_u_ne nql).trans xro10
                              have xlf11 : σ11 lf = mm_ari 1 0 3 (fun b9 => nI (mm_l3 (((mm_lf T t hh i).1) - (mm_pgs T t (T.fl i)), ((mm_lf T t hh i).2.1) - 1, (mm_lf T t hh i).2.2) b9)) := by rw [eσ11, mm_u_eq]; exact congrArg (mm_ari 1 0 3) (mm_l3u (l := (((mm_lf T t hh i).1) - (mm_pgs T t (T.fl i)), (mm_lf T t hh i).2.1, (mm_lf T t hh i).2.2)) (l' := (((mm_lf T t hh i).1) - (mm_pgs T t (T.fl i)), ((mm_lf T t hh i).2.1) - 1, (mm_lf T t hh i).2.2)) rfl rfl rfl (by decide))
                              refine lv_iinc (pc := 264) (v := nI (i + 1)) (lv' := [(5, .int (nI (i + 1))), (8, .int (nI 1)), (0, .ref ((rd 0 0))), (1, .int (nI t)), (2, .int (nI hh)), (3, .ref lf), (4, .ref ro), (6, .int (nI (mm_pgs T t (T.fl i)))), (7, .int (nI is))]) F.1 F.2.1 dX7_outcomesOf_264 hl (k := 6) rfl (by rw [← nI_add]; rfl) (by decide) rfl (fun ls hl => ?_)
                              refine lv_goto (pc := 267) (tgt := 9) F.1 F.2.1 dX7_outcomesOf_267 (by decide) ?_
                              have xl99 : σ11 lf = mm_ari 1 0 3 (fun b9 => nI (mm_l3 (mm_lf T t hh (i + 1)) b9)) := by rw [hl9, mm_tk, if_neg (show ¬ 3 < mm_pgs T t (T.fl i) by omega), if_neg (show ¬ 3 < mm_pgs T t (T.fl i) by omega)]; exact xlf11
                              exact ih9 (i + 1) σ11 ls _ _ (by omega) (by omega) (hM11) (hF11) (xro11) (xl99) hN (lv_sub hl [2, 3, 4, 5, 6, 0] rfl)
                            ·
                              refine lv_aload (pc := 231) F.1 F.2.1 dX7_outcomesOf_231 (lv_at hl 5 rfl) ?_
                              refine lv_iload (pc := 233) F.1 F.2.1 dX7_outcomesOf_233 (lv_at hl 6 rfl) ?_
                              refine lv_bipush (pc := 235) (v := nI 112) F.1 F.2.1 dX7_outcomesOf_235 (by decide) ?_
                              refine mm_cast_ (pc := 237) F hN (xqi) (j := i) (rfl) (by omega) (by decide) (by decide) dX7_outcomesOf_237 (fun H locs hN => ?_)
                              have ho8 : mm_obs T t hh i = 45 := by rw [mm_obs, if_neg (fun q => q cz129), if_neg (show ¬ (¬ (nI (T.sk (T.ho i)) < nI 2) ∧ mm_ends T (T.ho i) = false) from fun q => q.1 cz155), if_neg cz184, if_neg (fun q => by rw [if_pos q.2, cz203] at hsec; cases hsec)]
                              have hf8 : ¬ mm_fit (mm_lf T t hh i) (mm_pgs T t (T.fl i)) := fun q => by
                                obtain ⟨q1, q2⟩ := q
                                rw [if_neg (show ¬ 3 < mm_pgs T t (T.fl i) by omega)] at q2
                                omega
                              have hoc9 : 112 = mm_oc T t hh i := by rw [mm_oc, if_neg (fun q => q ho8), if_neg hf8]
                              have hl9 : mm_lf T t hh (i + 1) = (mm_lf T t hh i) := by rw [mm_lf, if_neg (fun q => hf8 q.2)]
                              have hN : mm_N b D s (mm_u σi ro (mm_ari 1 3 24 (va_up (fun b9 => nI (if b9 < i then mm_oc T t hh b9 else 0)) i (nI 112)))) _ _ := hN
                              obtain ⟨σ12, eσ12⟩ : ∃ q, q = mm_u σi ro (mm_ari 1 3 24 (va_up (fun b9 => nI (if b9 < i then mm_oc T t hh b9 else 0)) i (nI 112))) := ⟨_, rfl⟩
                              rw [← eσ12] at hN
                              have hM12 : mm_M σ12 T th rd := by rw [eσ12]; exact mm_M_off hMi noq
                              have hF12 : mm_Fr 1 σ σ12 := by rw [eσ12]; exact (hFi).tr (mm_Fr.u xqi)
                              have xro12 : σ12 ro = mm_ari 1 3 24 (fun b9 => nI (if b9 < (i + 1) then mm_oc T t hh b9 else 0)) := by rw [eσ12, mm_u_eq]; exact congrArg (mm_ari 1 3 24) (mm_row1 hoc9)
                              have xlf12 : σ12 lf = mm_ari 1 0 3 (fun b9 => nI (mm_l3 (mm_lf T t hh i) b9)) := by rw [eσ12]; exact (mm_u_ne (Ne.symm nql)).trans xli
                              refine lv_goto (pc := 238) (tgt := 264) F.1 F.2.1 dX7_outcomesOf_238 (by decide) ?_
                              refine lv_iinc (pc := 264) (v := nI (i + 1)) (lv' := [(5, .int (nI (i + 1))), (8, .int (nI 1)), (0, .ref ((rd 0 0))), (1, .int (nI t)), (2, .int (nI hh)), (3, .ref lf), (4, .ref ro), (6, .int (nI (mm_pgs T t (T.fl i)))), (7, .int (nI is))]) F.1 F.2.1 dX7_outcomesOf_264 hl (k := 6) rfl (by rw [← nI_add]; rfl) (by decide) rfl (fun ls hl => ?_)
                              refine lv_goto (pc := 267) (tgt := 9) F.1 F.2.1 dX7_outcomesOf_267 (by decide) ?_
                              have xl99 : σ12 lf = mm_ari 1 0 3 (fun b9 => nI (mm_l3 (mm_lf T t hh (i + 1)) b9)) := by rw [hl9]; exact xlf12
                              exact ih9 (i + 1) σ12 ls _ _ (by omega) (by omega) (hM12) (hF12) (xro12) (xl99) hN (lv_sub hl [2, 3, 4, 5, 6, 0] rfl)
                        ·
                          refine lv_aload (pc := 206) F.1 F.2.1 dX7_outcomesOf_206 (lv_at hl 5 rfl) ?_
                          refine lv_iload (pc := 208) F.1 F.2.1 dX7_outcomesOf_208 (lv_at hl 6 rfl) ?_
                          refine lv_bipush (pc := 210) (v := nI 104) F.1 F.2.1 dX7_outcomesOf_210 (by decide) ?_
                          refine mm_cast_ (pc := 212) F hN (xqi) (j := i) (rfl) (by omega) (by decide) (by decide) dX7_outcomesOf_212 (fun H locs hN => ?_)
                          have ho8 : mm_obs T t hh i = 104 := by rw [mm_obs, if_neg (fun q => q cz129), if_neg (show ¬ (¬ (nI (T.sk (T.ho i)) < nI 2) ∧ mm_ends T (T.ho i) = false) from fun q => q.1 cz155), if_neg cz184, if_pos ⟨cz198, by by_cases h9 : mm_sec T t i = true; exact h9; rw [if_neg h9] at hsec; exact absurd hsec cz203⟩]
                          have hoc9 : 104 = mm_oc T t hh i := by rw [mm_oc, if_pos (by rw [ho8]; decide), ho8]
                          have hl9 : mm_lf T t hh (i + 1) = (mm_lf T t hh i) := by rw [mm_lf, if_neg (fun q => by rw [ho8] at q; exact absurd q.1 (by decide))]
                          have hN : mm_N b D s (mm_u σi ro (mm_ari 1 3 24 (va_up (fun b9 => nI (if b9 < i then mm_oc T t hh b9 else 0)) i (nI 104)))) _ _ := hN
                          obtain ⟨σ13, eσ13⟩ : ∃ q, q = mm_u σi ro (mm_ari 1 3 24 (va_up (fun b9 => nI (if b9 < i then mm_oc T t hh b9 else 0)) i (nI 104))) := ⟨_, rfl⟩
                          rw [← eσ13] at hN
                          have hM13 : mm_M σ13 T th rd := by rw [eσ13]; exact mm_M_off hMi noq
                          have hF13 : mm_Fr 1 σ σ13 := by rw [eσ13]; exact (hFi).tr (mm_Fr.u xqi)
                          have xro13 : σ13 ro = mm_ari 1 3 24 (fun b9 => nI (if b9 < (i + 1) then mm_oc T t hh b9 else 0)) := by rw [eσ13, mm_u_eq]; exact congrArg (mm_ari 1 3 24) (mm_row1 hoc9)
                          have xlf13 : σ13 lf = mm_ari 1 0 3 (fun b9 => nI (mm_l3 (mm_lf T t hh i) b9)) := by rw [eσ13]; exact (mm_u_ne (Ne.symm nql)).trans xli
                          refine lv_goto (pc := 213) (tgt := 264) F.1 F.2.1 dX7_outcomesOf_213 (by decide) ?_
                          refine lv_iinc (pc := 264) (v := nI (i + 1)) (lv' := [(5, .int (nI (i + 1))), (8, .int (nI 1)), (0, .ref ((rd 0 0))), (1, .int (nI t)), (2, .int (nI hh)), (3, .ref lf), (4, .ref ro), (6, .int (nI (mm_pgs T t (T.fl i)))), (7, .int (nI is))]) F.1 F.2.1 dX7_outcomesOf_264 hl (k := 6) rfl (by rw [← nI_add]; rfl) (by decide) rfl (fun ls hl => ?_)
                          refine lv_goto (pc := 267) (tgt := 9) F.1 F.2.1 dX7_outcomesOf_267 (by decide) ?_
                          have xl99 : σ13 lf = mm_ari 1 0 3 (fun b9 => nI (mm_l3 (mm_lf T t hh (i + 1)) b9)) := by rw [hl9]; exact xlf13
                          exact ih9 (i + 1) σ13 ls _ _ (by omega) (by omega) (hM13) (hF13) (xro13) (xl99) hN (lv_sub hl [2, 3, 4, 5, 6, 0] rfl)
                    ·
                      refine lv_aload (pc := 187) F.1 F.2.1 dX7_outcomesOf_187 (lv_at hl 5 rfl) ?_
                      refine lv_iload (pc := 189) F.1 F.2.1 dX7_outcomesOf_189 (lv_at hl 6 rfl) ?_
                      refine lv_bipush (pc := 191) (v := nI 101) F.1 F.2.1 dX7_outcomesOf_191 (by decide) ?_
                      refine mm_cast_ (pc := 193) F hN (xqi) (j := i) (rfl) (by omega) (by decide) (by decide) dX7_outcomesOf_193 (fun H locs hN => ?_)
                      have ho8 : mm_obs T t hh i = 101 := by rw [mm_obs, if_neg (fun q => q cz129), if_neg (show ¬ (¬ (nI (T.sk (T.ho i)) < nI 2) ∧ mm_ends T (T.ho i) = false) from fun q => q.1 cz155), if_pos cz184]
                      have hoc9 : 101 = mm_oc T t hh i := by rw [mm_oc, if_pos (by rw [ho8]; decide), ho8]
                      have hl9 : mm_lf T t hh (i + 1) = (mm_lf T t hh i) := by rw [mm_lf, if_neg (fun q => by rw [ho8] at q; exact absurd q.1 (by decide))]
                      have hN : mm_N b D s (mm_u σi ro (mm_ari 1 3 24 (va_up (fun b9 => nI (if b9 < i then mm_oc T t hh b9 else 0)) i (nI 101)))) _ _ := hN
                      obtain ⟨σ14, eσ14⟩ : ∃ q, q = mm_u σi ro (mm_ari 1 3 24 (va_up (fun b9 => nI (if b9 < i then mm_oc T t hh b9 else 0)) i (nI 101))) := ⟨_, rfl⟩
                      rw [← eσ14] at hN
                      have hM14 : mm_M σ14 T th rd := by rw [eσ14]; exact mm_M_off hMi noq
                      have hF14 : mm_Fr 1 σ σ14 := by rw [eσ14]; exact (hFi).tr (mm_Fr.u xqi)
                      have xro14 : σ14 ro = mm_ari 1 3 24 (fun b9 => nI (if b9 < (i + 1) then mm_oc T t hh b9 else 0)) := by rw [eσ14, mm_u_eq]; exact congrArg (mm_ari 1 3 24) (mm_row1 hoc9)
                      have xlf14 : σ14 lf = mm_ari 1 0 3 (fun b9 => nI (mm_l3 (mm_lf T t hh i) b9)) := by rw [eσ14]; exact (mm_u_ne (Ne.symm nql)).trans xli
                      refine lv_goto (pc := 194) (tgt := 264) F.1 F.2.1 dX7_outcomesOf_194 (by decide) ?_
                      refine lv_iinc (pc := 264) (v := nI (i + 1)) (lv' := [(5, .int (nI (i + 1))), (8, .int (nI 1)), (0, .ref ((rd 0 0))), (1, .int (nI t)), (2, .int (nI hh)), (3, .ref lf), (4, .ref ro), (6, .int (nI (mm_pgs T t (T.fl i)))), (7, .int (nI is))]) F.1 F.2.1 dX7_outcomesOf_264 hl (k := 6) rfl (by rw [← nI_add]; rfl) (by decide) rfl (fun ls hl => ?_)
                      refine lv_goto (pc := 267) (tgt := 9) F.1 F.2.1 dX7_outcomesOf_267 (by decide) ?_
                      have xl99 : σ14 lf = mm_ari 1 0 3 (fun b9 => nI (mm_l3 (mm_lf T t hh (i + 1)) b9)) := by rw [hl9]; exact xlf14
                      exact ih9 (i + 1) σ14 ls _ _ (by omega) (by omega) (hM14) (hF14) (xro14) (xl99) hN (lv_sub hl [2, 3, 4, 5, 6, 0] rfl)
                  ·
                    refine lv_aload_n (pc := 158) F.1 F.2.1 dX7_outcomesOf_158 rfl (lv_at hl 1 rfl) ?_
                    refine lv_aload_n (pc := 159) F.1 F.2.1 dX7_outcomesOf_159 rfl (lv_at hl 1 rfl) ?_
                    refine mm_get (pc := 160) F hN ((show σi (rd 0 0) = mm_obj 1 7 [.ref ((rd 1 0)), .ref ((rd 2 0)), .ref ((rd 3 0)), .int (nI T.nA), .ref ((rd 4 0)), .ref ((rd 5 0)), .ref ((rd 6 0)), .int (nI T.nP), .ref ((rd 7 0)), .ref ((rd 8 0)), .ref ((rd 9 0)), .ref ((rd 10 0)), .ref ((rd 11 0)), .int (nI T.nT), .int (nI T.pa), .ref ((rd 12 0)), .int (nI T.bo), .ref ((rd 13 0)), .ref ((rd 14 0)), .ref ((rd 15 0)), .ref ((rd 16 0)), .ref ((rd 17 0)), .ref ((rd 18 0)), .ref ((rd 19 0)), .int (nI T.nR), .int (nI th)] from mm_r0 (T := T) hMi)) (ci := 7) rfl 4 (by decide) mw_1183 rfl dX7_outcomesOf_160 ?_
                    refine lv_iload (pc := 163) F.1 F.2.1 dX7_outcomesOf_163 (lv_at hl 6 rfl) ?_
                    refine mm_iald (pc := 165) F hN ((show σi (rd 4 0) = mm_ari 1 0 24 (fun b9 => nI (T.ho b9)) from mm_r4 (T := T) hMi)) (j := i) (rfl) (by omega) (by decide) dX7_outcomesOf_165 ?_
                    refine mm_runV (pc := 166) (As := [.int (nI (T.ho i))]) (rest := []) F hN (c_ends l b D hst T th rd σi hMi (T.ho i) (by omega) wnR (fun h => ⟨by have := (hW.hru (T.nR - 1) (by omega)).1; omega, fun p9 hp9 => ⟨((hW.hru (T.nR - 1) (by omega)).2.2.2 p9 hp9).1, ((hW.hru (T.nR - 1) (by omega)).2.2.2 p9 hp9).2.2.2.2.1, by have := (hW.hpe p9 (by have := (hW.hru (T.nR - 1) (by omega)).1; omega)).1; omega⟩⟩)) mw_1367 mw_1369 mw_p31 mw_6 mw_1370 ⟨pmX7_ends, (Nat.le_of_ble_eq_true rfl), (Nat.le_of_ble_eq_true rfl)⟩ (mm_recv F.2.2.2.2.2.1 hN ((show σi (rd 0 0) = mm_obj 1 7 [.ref ((rd 1 0)), .ref ((rd 2 0)), .ref ((rd 3 0)), .int (nI T.nA), .ref ((rd 4 0)), .ref ((rd 5 0)), .ref ((rd 6 0)), .int (nI T.nP), .ref ((rd 7 0)), .ref ((rd 8 0)), .ref ((rd 9 0)), .ref ((rd 10 0)), .ref ((rd 11 0)), .int (nI T.nT), .int (nI T.pa), .ref ((rd 12 0)), .int (nI T.bo), .ref ((rd 13 0)), .ref ((rd 14 0)), .ref ((rd 15 0)), .ref ((rd 16 0)), .ref ((rd 17 0)), .ref ((rd 18 0)), .ref ((rd 19 0)), .int (nI T.nR), .int (nI th)] from mm_r0 (T := T) hMi)) rfl) hl.1 rfl (Nat.le_of_ble_eq_true rfl) ⟨(Nat.le_of_ble_eq_true rfl), (Nat.le_of_ble_eq_true rfl)⟩ dX7_outcomesOf_166
                      (fun _ _ _ _ _ _ h9 => False.elim h9)
                      (fun v9 σ9 H locs hp9 hN => ?_)
                    obtain ⟨rfl, h9⟩ := hp9
                    rw [h9] at hN
                    refine W.eq (g2 := F0 m 169 ls [.int (nI (if mm_ends T (T.ho i) = true then 1 else 0))]) rfl ?_
                    refine W.widen (k := 1) (n := 24) (Nat.le_of_ble_eq_true rfl) (Nat.le_of_ble_eq_true rfl) ?_
                    by_cases hen9 : mm_ends T (T.ho i) = true
                    ·
                      refine W.eq (g2 := F0 m 169 ls [.int (nI 1)]) (by rw [if_pos hen9]) ?_
                      refine mm_if_ne (pc := 169) F (tgt := 182) (by omega) dX7_outcomesOf_169 (by decide) (fun cz169 => ?_) (fun h9 => absurd h9 (by decide))
                      refine lv_iload (pc := 182) F.1 F.2.1 dX7_outcomesOf_182 (lv_at hl 7 rfl) ?_
                      refine mm_if_ne (pc := 184) F (tgt := 197) (by omega) dX7_outcomesOf_184 (by decide) (fun cz184 => ?_) (fun cz184 => ?_)
                      ·
                        refine lv_iload_n (pc := 197) F.1 F.2.1 dX7_outcomesOf_197 rfl (lv_at hl 3 rfl) ?_
                        refine mm_if_eq (pc := 198) F (tgt := 216) (by omega) dX7_outcomesOf_198 (by decide) (fun cz198 => ?_) (fun cz198 => ?_)
                        ·
                          refine lv_aload_n (pc := 216) F.1 F.2.1 dX7_outcomesOf_216 rfl (lv_at hl 4 rfl) ?_
                          refine lv_iconst (pc := 217) (v := nI 0) F.1 F.2.1 dX7_outcomesOf_217 (by decide) ?_
                          refine mm_iald (pc := 218) F hN (xli) (j := 0) (rfl) (by omega) (by decide) dX7_outcomesOf_218 ?_
                          refine W.eq (g2 := F0 m 219 ls [.int (nI ((mm_lf T t hh i).1))]) rfl ?_
                          refine lv_iload (pc := 219) F.1 F.2.1 dX7_outcomesOf_219 (lv_at hl 7 rfl) ?_
                          refine mm_icmp_lt (pc := 221) F (x := (mm_lf T t hh i).1) (y := mm_pgs T t (T.fl i)) (tgt := 231) (by omega) (by omega) dX7_outcomesOf_221 (by decide) (fun cz221 => ?_) (fun cz221 => ?_)
                          ·
                            refine lv_aload (pc := 231) F.1 F.2.1 dX7_outcomesOf_231 (lv_at hl 5 rfl) ?_
                            refine lv_iload (pc := 233) F.1 F.2.1 dX7_outcomesOf_233 (lv_at hl 6 rfl) ?_
                            refine lv_bipush (pc := 235) (v := nI 112) F.1 F.2.1 dX7_outcomesOf_235 (by decide) ?_
                            refine mm_cast_ (pc := 237) F hN (xqi) (j := i) (rfl) (by omega) (by decide) (by decide) dX7_outcomesOf_237 (fun H locs hN => ?_)
                            have ho8 : mm_obs T t hh i = 45 := by rw [mm_obs, if_neg (fun q => q cz129), if_neg (show ¬ (¬ (nI (T.sk (T.ho i)) < nI 2) ∧ mm_ends T (T.ho i) = false) from fun q => by rw [q.2] at hen9; cases hen9), if_neg cz184, if_neg (fun q => q.1 cz198)]
                            have hf8 : ¬ mm_fit (mm_lf T t hh i) (mm_pgs T t (T.fl i)) := fun q => by
                              obtain ⟨q1, q2⟩ := q
                              rw [if_neg (show ¬ 3 < mm_pgs T t (T.fl i) by omega)] at q2
                              omega
                            have hoc9 : 112 = mm_oc T t hh i := by rw [mm_oc, if_neg (fun q => q ho8), if_neg hf8]
                            have hl9 : mm_lf T t hh (i + 1) = (mm_lf T t hh i) := by rw [mm_lf, if_neg (fun q => hf8 q.2)]
                            have hN : mm_N b D s (mm_u σi ro (mm_ari 1 3 24 (va_up (fun b9 => nI (if b9 < i then mm_oc T t hh b9 else 0)) i (nI 112)))) _ _ := hN
                            obtain ⟨σ15, eσ15⟩ : ∃ q, q = mm_u σi ro (mm_ari 1 3 24 (va_up (fun b9 => nI (if b9 < i then mm_oc T t hh b9 else 0)) i (nI 112))) := ⟨_, rfl⟩
                            rw [← eσ15] at hN
                            have hM15 : mm_M σ15 T th rd := by rw [eσ15]; exact mm_M_off hMi noq
                            have hF15 : mm_Fr 1 σ σ15 := by rw [eσ15]; exact (hFi).tr (mm_Fr.u xqi)
                            have xro15 : σ15 ro = mm_ari 1 3 24 (fun b9 => nI (if b9 < (i + 1) then mm_oc T t hh b9 else 0)) := by rw [eσ15, mm_u_eq]; exact congrArg (mm_ari 1 3 24) (mm_row1 hoc9)
                            have xlf15 : σ15 lf = mm_ari 1 0 3 (fun b9 => nI (mm_l3 (mm_lf T t hh i) b9)) := by rw [eσ15]; exact (mm_u_ne (Ne.symm nql)).trans xli
                            refine lv_goto (pc := 238) (tgt := 264) F.1 F.2.1 dX7_outcomesOf_238 (by decide) ?_
                            refine lv_iinc (pc := 264) (v := nI (i + 1)) (lv' := [(5, .int (nI (i + 1))), (8, .int (nI 1)), (0, .ref ((rd 0 0))), (1, .int (nI t)), (2, .int (nI hh)), (3, .ref lf), (4, .ref ro), (6, .int (nI (mm_pgs T t (T.fl i)))), (7, .int (nI is))]) F.1 F.2.1 dX7_outcomesOf_264 hl (k := 6) rfl (by rw [← nI_add]; rfl) (by decide) rfl (fun ls hl => ?_)
                            refine lv_goto (pc := 267) (tgt := 9) F.1 F.2.1 dX7_outcomesOf_267 (by decide) ?_
                            have xl99 : σ15 lf = mm_ari 1 0 3 (fun b9 => nI (mm_l3 (mm_lf T t hh (i + 1)) b9)) := by rw [hl9]; exact xlf15
                            exact ih9 (i + 1) σ15 ls _ _ (by omega) (by omega) (hM15) (hF15) (xro15) (xl99) hN (lv_sub hl [2, 3, 4, 5, 6, 0] rfl)
                          ·
                            refine lv_aload_n (pc := 224) F.1 F.2.1 dX7_outcomesOf_224 rfl (lv_at hl 4 rfl) ?_
                            refine lv_iload (pc := 225) F.1 F.2.1 dX7_outcomesOf_225 (lv_at hl 0 rfl) ?_
                            refine mm_iald (pc := 227) F hN (xli) (j := 1) (rfl) (by omega) (by decide) dX7_outcomesOf_227 ?_
                            refine W.eq (g2 := F0 m 228 ls [.int (nI ((mm_lf T t hh i).2.1))]) rfl ?_
                            refine mm_if_ne (pc := 228) F (tgt := 241) (by omega) dX7_outcomesOf_228 (by decide) (fun cz228 => ?_) (fun cz228 => ?_)
                            ·
                              refine lv_aload (pc := 241) F.1 F.2.1 dX7_outcomesOf_241 (lv_at hl 5 rfl) ?_
                              refine lv_iload (pc := 243) F.1 F.2.1 dX7_outcomesOf_243 (lv_at hl 6 rfl) ?_
                              refine lv_bipush (pc := 245) (v := nI 108) F.1 F.2.1 dX7_outcomesOf_245 (by decide) ?_
                              refine mm_cast_ (pc := 247) F hN (xqi) (j := i) (rfl) (by omega) (by decide) (by decide) dX7_outcomesOf_247 (fun H locs hN => ?_)
                              have ho8 : mm_obs T t hh i = 45 := by rw [mm_obs, if_neg (fun q => q cz129), if_neg (show ¬ (¬ (nI (T.sk (T.ho i)) < nI 2) ∧ mm_ends T (T.ho i) = false) from fun q => by rw [q.2] at hen9; cases hen9), if_neg cz184, if_neg (fun q => q.1 cz198)]
                              have hf8 : mm_fit (mm_lf T t hh i) (mm_pgs T t (T.fl i)) := ⟨by omega, by rw [if_neg (show ¬ 3 < mm_pgs T t (T.fl i) by omega)]; omega⟩
                              have hoc9 : 108 = mm_oc T t hh i := by rw [mm_oc, if_neg (fun q => q ho8), if_pos hf8]
                              have hl9 : mm_lf T t hh (i + 1) = mm_tk (mm_lf T t hh i) (mm_pgs T t (T.fl i)) := by rw [mm_lf, if_pos ⟨ho8, hf8⟩]
                              have hN : mm_N b D s (mm_u σi ro (mm_ari 1 3 24 (va_up (fun b9 => nI (if b9 < i then mm_oc T t hh b9 else 0)) i (nI 108)))) _ _ := hN
                              obtain ⟨σ16, eσ16⟩ : ∃ q, q = mm_u σi ro (mm_ari 1 3 24 (va_up (fun b9 => nI (if b9 < i then mm_oc T t hh b9 else 0)) i (nI 108))) := ⟨_, rfl⟩
                              rw [← eσ16] at hN
                              have hM16 : mm_M σ16 T th rd := by rw [eσ16]; exact mm_M_off hMi noq
                              have hF16 : mm_Fr 1 σ σ16 := by rw [eσ16]; exact (hFi).tr (mm_Fr.u xqi)
                              have xro16 : σ16 ro = mm_ari 1 3 24 (fun b9 => nI (if b9 < (i + 1) then mm_oc T t hh b9 else 0)) := by rw [eσ16, mm_u_eq]; exact congrArg (mm_ari 1 3 24) (mm_row1 hoc9)
                              have xlf16 : σ16 lf = mm_ari 1 0 3 (fun b9 => nI (mm_l3 (mm_lf T t hh i) b9)) := by rw [eσ16]; exact (mm_u_ne (Ne.symm nql)).trans xli
                              refine lv_aload_n (pc := 248) F.1 F.2.1 dX7_outcomesOf_248 rfl (lv_at hl 4 rfl) ?_
                              refine lv_iconst (pc := 249) (v := nI 0) F.1 F.2.1 dX7_outcomesOf_249 (by decide) ?_
                              refine lv_dup2_11 (pc := 250) F.1 F.2.1 dX7_outcomesOf_250 rfl rfl ?_
                              refine mm_iald (pc := 251) F hN (xlf16) (j := 0) (rfl) (by omega) (by decide) dX7_outcomesOf_251 ?_
                              refine W.eq (g2 := F0 m 252 ls [.int (nI ((mm_lf T t hh i).1)), .int (nI 0), .ref lf]) rfl ?_
                              refine lv_iload (pc := 252) F.1 F.2.1 dX7_outcomesOf_252 (lv_at hl 7 rfl) ?_
                              refine mm_isub (pc := 254) F (z := nI (((mm_lf T t hh i).1) - (mm_pgs T t (T.fl i)))) (pk_sub (by omega)) dX7_outcomesOf_254 ?_
                              refine mm_iast (pc := 255) F hN (xlf16) (j := 0) (rfl) (by omega) (by decide) dX7_outcomesOf_255 (fun H locs hN => ?_)
                              have hN : mm_N b D s (mm_u σ16 lf (mm_ari 1 0 3 (va_up (fun b9 => nI (mm_l3 (mm_lf T t hh i) b9)) 0 (nI (((mm_lf T t hh i).1) - (mm_pgs T t (T.fl i))))))) _ _ := hN
                              obtain ⟨σ17, eσ17⟩ : ∃ q, q = mm_u σ16 lf (mm_ari 1 0 3 (va_up (fun b9 => nI (mm_l3 (mm_lf T t hh i) b9)) 0 (nI (((mm_lf T t hh i).1) - (mm_pgs T t (T.fl i)))))) := ⟨_, rfl⟩
                              rw [← eσ17] at hN
                              have hM17 : mm_M σ17 T th rd := by rw [eσ17]; exact mm_M_off hM16 nol
                              have hF17 : mm_Fr 1 σ σ17 := by rw [eσ17]; exact (hF16).tr (mm_Fr.u xlf16)
                              have xro17 : σ17 ro = mm_ari 1 3 24 (fun b9 => nI (if b9 < (i + 1) then mm_oc T t hh b9 else 0)) := by rw [eσ17]; exact (mm_u_ne nql).trans xro16
                              have xlf17 : σ17 lf = mm_ari 1 0 3 (fun b9 => nI (mm_l3 (((mm_lf T t hh i).1) - (mm_pgs T t (T.fl i)), (mm_lf T t hh i).2.1, (mm_lf T t hh i).2.2) b9)) := by rw [eσ17, mm_u_eq]; exact congrArg (mm_ari 1 0 3) (mm_l3u (l := ((mm_lf T t hh i).1, (mm_lf T t hh i).2.1, (mm_lf T t hh i).2.2)) (l' := (((mm_lf T t hh i).1) - (mm_pgs T t (T.fl i)), (mm_lf T t hh i).2.1, (mm_lf T t hh i).2.2)) rfl rfl rfl (by decide))
                              refine lv_aload_n (pc := 256) F.1 F.2.1 dX7_outcomesOf_256 rfl (lv_at hl 4 rfl) ?_
                              refine lv_iload (pc := 257) F.1 F.2.1 dX7_outcomesOf_257 (lv_at hl 0 rfl) ?_
                              refine lv_dup2_11 (pc := 259) F.1 F.2.1 dX7_outcomesOf_259 rfl rfl ?_
                              refine mm_iald (pc := 260) F hN (xlf17) (j := 1) (rfl) (by omega) (by decide) dX7_outcomesOf_260 ?_
                              refine W.eq (g2 := F0 m 261 ls [.int (nI ((mm_lf T t hh i).2.1)), .int (nI 1), .ref lf]) rfl ?_
                              refine lv_iconst (pc := 261) (v := nI 1) F.1 F.2.1 dX7_outcomesOf_261 (by decide) ?_
                              refine mm_isub (pc := 262) F (z := nI (((mm_lf T t hh i).2.1) - 1)) (pk_sub (by omega)) dX7_outcomesOf_262 ?_
                              refine mm_iast (pc := 263) F hN (xlf17) (j := 1) (rfl) (by omega) (by decide) dX7_outcomesOf_263 (fun H locs hN => ?_)
                              have hN : mm_N b D s (mm_u σ17 lf (mm_ari 1 0 3 (va_up (fun b9 => nI (mm_l3 (((mm_lf T t hh i).1) - (mm_pgs T t (T.fl i)), (mm_lf T t hh i).2.1, (mm_lf T t hh i).2.2) b9)) 1 (nI (((mm_lf T t hh i).2.1) - 1))))) _ _ := hN
                              obtain ⟨σ18, eσ18⟩ : ∃ q, q = mm_u σ17 lf (mm_ari 1 0 3 (va_up (fun b9 => nI (mm_l3 (((mm_lf T t hh i).1) - (mm_pgs T t (T.fl i)), (mm_lf T t hh i).2.1, (mm_lf T t hh i).2.2) b9)) 1 (nI (((mm_lf T t hh i).2.1) - 1)))) := ⟨_, rfl⟩
                              rw [← eσ18] at hN
                              have hM18 : mm_M σ18 T th rd := by rw [eσ18]; exact mm_M_off hM17 nol
                              have hF18 : mm_Fr 1 σ σ18 := by rw [eσ18]; exact (hF17).tr (mm_Fr.u xlf17)
                              have xro18 : σ18 ro = mm_ari 1 3 24 (fun b9 => nI (if b9 < (i + 1) then mm_oc T t hh b9 else 0)) := by rw [eσ18]; exact (mm_u_ne nql).trans xro17
                              have xlf18 : σ18 lf = mm_ari 1 0 3 (fun b9 => nI (mm_l3 (((mm_lf T t hh i).1) - (mm_pgs T t (T.fl i)), ((mm_lf T t hh i).2.1) - 1, (mm_lf T t hh i).2.2) b9)) := by rw [eσ18, mm_u_eq]; exact congrArg (mm_ari 1 0 3) (mm_l3u (l := (((mm_lf T t hh i).1) - (mm_pgs T t (T.fl i)), (mm_lf T t hh i).2.1, (mm_lf T t hh i).2.2)) (l' := (((mm_lf T t hh i).1) - (mm_pgs T t (T.fl i)), ((mm_lf T t hh i).2.1) - 1, (mm_lf T t hh i).2.2)) rfl rfl rfl (by decide))
                              refine lv_iinc (pc := 264) (v := nI (i + 1)) (lv' := [(5, .int (nI (i + 1))), (8, .int (nI 1)), (0, .ref ((rd 0 0))), (1, .int (nI t)), (2, .int (nI hh)), (3, .ref lf), (4, .ref ro), (6, .int (nI (mm_pgs T t (T.fl i)))), (7, .int (nI is))]) F.1 F.2.1 dX7_outcomesOf_264 hl (k := 6) rfl (by rw [← nI_add]; rfl) (by decide) rfl (fun ls hl => ?_)
                              refine lv_goto (pc := 267) (tgt := 9) F.1 F.2.1 dX7_outcomesOf_267 (by decide) ?_
                              have xl99 : σ18 lf = mm_ari 1 0 3 (fun b9 => nI (mm_l3 (mm_lf T t hh (i + 1)) b9)) := by rw [hl9, mm_tk, if_neg (show ¬ 3 < mm_pgs T t (T.fl i) by omega), if_neg (show ¬ 3 < mm_pgs T t (T.fl i) by omega)]; exact xlf18
                              exact ih9 (i + 1) σ18 ls _ _ (by omega) (by omega) (hM18) (hF18) (xro18) (xl99) hN (lv_sub hl [2, 3, 4, 5, 6, 0] rfl)
                            ·
                              refine lv_aload (pc := 231) F.1 F.2.1 dX7_outcomesOf_231 (lv_at hl 5 rfl) ?_
                              refine lv_iload (pc := 233) F.1 F.2.1 dX7_outcomesOf_233 (lv_at hl 6 rfl) ?_
                              refine lv_bipush (pc := 235) (v := nI 112) F.1 F.2.1 dX7_outcomesOf_235 (by decide) ?_
                              refine mm_cast_ (pc := 237) F hN (xqi) (j := i) (rfl) (by omega) (by decide) (by decide) dX7_outcomesOf_237 (fun H locs hN => ?_)
                              have ho8 : mm_obs T t hh i = 45 := by rw [mm_obs, if_neg (fun q => q cz129), if_neg (show ¬ (¬ (nI (T.sk (T.ho i)) < nI 2) ∧ mm_ends T (T.ho i) = false) from fun q => by rw [q.2] at hen9; cases hen9), if_neg cz184, if_neg (fun q => q.1 cz198)]
                              have hf8 : ¬ mm_fit (mm_lf T t hh i) (mm_pgs T t (T.fl i)) := fun q => by
                                obtain ⟨q1, q2⟩ := q
                                rw [if_neg (show ¬ 3 < mm_pgs T t (T.fl i) by omega)] at q2
                                omega
                              have hoc9 : 112 = mm_oc T t hh i := by rw [mm_oc, if_neg (fun q => q ho8), if_neg hf8]
                              have hl9 : mm_lf T t hh (i + 1) = (mm_lf T t hh i) := by rw [mm_lf, if_neg (fun q => hf8 q.2)]
                              have hN : mm_N b D s (mm_u σi ro (mm_ari 1 3 24 (va_up (fun b9 => nI (if b9 < i then mm_oc T t hh b9 else 0)) i (nI 112)))) _ _ := hN
                              obtain ⟨σ19, eσ19⟩ : ∃ q, q = mm_u σi ro (mm_ari 1 3 24 (va_up (fun b9 => nI (if b9 < i then mm_oc T t hh b9 else 0)) i (nI 112))) := ⟨_, rfl⟩
                              rw [← eσ19] at hN
                              have hM19 : mm_M σ19 T th rd := by rw [eσ19]; exact mm_M_off hMi noq
                              have hF19 : mm_Fr 1 σ σ19 := by rw [eσ19]; exact (hFi).tr (mm_Fr.u xqi)
                              have xro19 : σ19 ro = mm_ari 1 3 24 (fun b9 => nI (if b9 < (i + 1) then mm_oc T t hh b9 else 0)) := by rw [eσ19, mm_u_eq]; exact congrArg (mm_ari 1 3 24) (mm_row1 hoc9)
                              have xlf19 : σ19 lf = mm_ari 1 0 3 (fun b9 => nI (mm_l3 (mm_lf T t hh i) b9)) := by rw [eσ19]; exact (mm_u_ne (Ne.symm nql)).trans xli
                              refine lv_goto (pc := 238) (tgt := 264) F.1 F.2.1 dX7_outcomesOf_238 (by decide) ?_
                              refine lv_iinc (pc := 264) (v := nI (i + 1)) (lv' := [(5, .int (nI (i + 1))), (8, .int (nI 1)), (0, .ref ((rd 0 0))), (1, .int (nI t)), (2, .int (nI hh)), (3, .ref lf), (4, .ref ro), (6, .int (nI (mm_pgs T t (T.fl i)))), (7, .int (nI is))]) F.1 F.2.1 dX7_outcomesOf_264 hl (k := 6) rfl (by rw [← nI_add]; rfl) (by decide) rfl (fun ls hl => ?_)
                              refine lv_goto (pc := 267) (tgt := 9) F.1 F.2.1 dX7_outcomesOf_267 (by decide) ?_
                              have xl99 : σ19 lf = mm_ari 1 0 3 (fun b9 => nI (mm_l3 (mm_lf T t hh (i + 1)) b9)) := by rw [hl9]; exact xlf19
                              exact ih9 (i + 1) σ19 ls _ _ (by omega) (by omega) (hM19) (hF19) (xro19) (xl99) hN (lv_sub hl [2, 3, 4, 5, 6, 0] rfl)
                        ·
                          refine lv_iload (pc := 201) F.1 F.2.1 dX7_outcomesOf_201 (lv_at hl 8 rfl) ?_
                          refine mm_if_eq (pc := 203) F (tgt := 216) (by omega) dX7_outcomesOf_203 (by decide) (fun cz203 => ?_) (fun cz203 => ?_)
                          ·
                            refine lv_aload_n (pc := 216) F.1 F.2.1 dX7_outcomesOf_216 rfl (lv_at hl 4 rfl) ?_
                            refine lv_iconst (pc := 217) (v := nI 0) F.1 F.2.1 dX7_outcomesOf_217 (by decide) ?_
                            refine mm_iald (pc := 218) F hN (xli) (j := 0) (rfl) (by omega) (by decide) dX7_outcomesOf_218 ?_
                            refine W.eq (g2 := F0 m 219 ls [.int (nI ((mm_lf T t hh i).1))]) rfl ?_
                            refine lv_iload (pc := 219) F.1 F.2.1 dX7_outcomesOf_219 (lv_at hl 7 rfl) ?_
                            refine mm_icmp_lt (pc := 221) F (x := (mm_lf T t hh i).1) (y := mm_pgs T t (T.fl i)) (tgt := 231) (by omega) (by omega) dX7_outcomesOf_221 (by decide) (fun cz221 => ?_) (fun cz221 => ?_)
                            ·
                              refine lv_aload (pc := 231) F.1 F.2.1 dX7_outcomesOf_231 (lv_at hl 5 rfl) ?_
                              refine lv_iload (pc := 233) F.1 F.2.1 dX7_outcomesOf_233 (lv_at hl 6 rfl) ?_
                              refine lv_bipush (pc := 235) (v := nI 112) F.1 F.2.1 dX7_outcomesOf_235 (by decide) ?_
                              refine mm_cast_ (pc := 237) F hN (xqi) (j := i) (rfl) (by omega) (by decide) (by decide) dX7_outcomesOf_237 (fun H locs hN => ?_)
                              have ho8 : mm_obs T t hh i = 45 := by rw [mm_obs, if_neg (fun q => q cz129), if_neg (show ¬ (¬ (nI (T.sk (T.ho i)) < nI 2) ∧ mm_ends T (T.ho i) = false) from fun q => by rw [q.2] at hen9; cases hen9), if_neg cz184, if_neg (fun q => by rw [if_pos q.2, cz203] at hsec; cases hsec)]
                              have hf8 : ¬ mm_fit (mm_lf T t hh i) (mm_pgs T t (T.fl i)) := fun q => by
                                obtain ⟨q1, q2⟩ := q
                                rw [if_neg (show ¬ 3 < mm_pgs T t (T.fl i) by omega)] at q2
                                omega
                              have hoc9 : 112 = mm_oc T t hh i := by rw [mm_oc, if_neg (fun q => q ho8), if_neg hf8]
                              have hl9 : mm_lf T t hh (i + 1) = (mm_lf T t hh i) := by rw [mm_lf, if_neg (fun q => hf8 q.2)]
                              have hN : mm_N b D s (mm_u σi ro (mm_ari 1 3 24 (va_up (fun b9 => nI (if b9 < i then mm_oc T t hh b9 else 0)) i (nI 112)))) _ _ := hN
                              obtain ⟨σ20, eσ20⟩ : ∃ q, q = mm_u σi ro (mm_ari 1 3 24 (va_up (fun b9 => nI (if b9 < i then mm_oc T t hh b9 else 0)) i (nI 112))) := ⟨_, rfl⟩
                              rw [← eσ20] at hN
                              have hM20 : mm_M σ20 T th rd := by rw [eσ20]; exact mm_M_off hMi noq
                              have hF20 : mm_Fr 1 σ σ20 := by rw [eσ20]; exact (hFi).tr (mm_Fr.u xqi)
                              have xro20 : σ20 ro = mm_ari 1 3 24 (fun b9 => nI (if b9 < (i + 1) then mm_oc T t hh b9 else 0)) := by rw [eσ20, mm_u_eq]; exact congrArg (mm_ari 1 3 24) (mm_row1 hoc9)
                              have xlf20 : σ20 lf = mm_ari 1 0 3 (fun b9 => nI (mm_l3 (mm_lf T t hh i) b9)) := by rw [eσ20]; exact (mm_u_ne (Ne.symm nql)).trans xli
                              refine lv_goto (pc := 238) (tgt := 264) F.1 F.2.1 dX7_outcomesOf_238 (by decide) ?_
                              refine lv_iinc (pc := 264) (v := nI (i + 1)) (lv' := [(5, .int (nI (i + 1))), (8, .int (nI 1)), (0, .ref ((rd 0 0))), (1, .int (nI t)), (2, .int (nI hh)), (3, .ref lf), (4, .ref ro), (6, .int (nI (mm_pgs T t (T.fl i)))), (7, .int (nI is))]) F.1 F.2.1 dX7_outcomesOf_264 hl (k := 6) rfl (by rw [← nI_add]; rfl) (by decide) rfl (fun ls hl => ?_)
                              refine lv_goto (pc := 267) (tgt := 9) F.1 F.2.1 dX7_outcomesOf_267 (by decide) ?_
                              have xl99 : σ20 lf = mm_ari 1 0 3 (fun b9 => nI (mm_l3 (mm_lf T t hh (i + 1)) b9)) := by rw [hl9]; exact xlf20
                              exact ih9 (i + 1) σ20 ls _ _ (by omega) (by omega) (hM20) (hF20) (xro20) (xl99) hN (lv_sub hl [2, 3, 4, 5, 6, 0] rfl)
                            ·
                              refine lv_aload_n (pc := 224) F.1 F.2.1 dX7_outcomesOf_224 rfl (lv_at hl 4 rfl) ?_
                              refine lv_iload (pc := 225) F.1 F.2.1 dX7_outcomesOf_225 (lv_at hl 0 rfl) ?_
                              refine mm_iald (pc := 227) F hN (xli) (j := 1) (rfl) (by omega) (by decide) dX7_outcomesOf_227 ?_
                              refine W.eq (g2 := F0 m 228 ls [.int (nI ((mm_lf T t hh i).2.1))]) rfl ?_
                              refine mm_if_ne (pc := 228) F (tgt := 241) (by omega) dX7_outcomesOf_228 (by decide) (fun cz228 => ?_) (fun cz228 => ?_)
                              ·
                                refine lv_aload (pc := 241) F.1 F.2.1 dX7_outcomesOf_241 (lv_at hl 5 rfl) ?_
                                refine lv_iload (pc := 243) F.1 F.2.1 dX7_outcomesOf_243 (lv_at hl 6 rfl) ?_
                                refine lv_bipush (pc := 245) (v := nI 108) F.1 F.2.1 dX7_outcomesOf_245 (by decide) ?_
                                refine mm_cast_ (pc := 247) F hN (xqi) (j := i) (rfl) (by omega) (by decide) (by decide) dX7_outcomesOf_247 (fun H locs hN => ?_)
                                have ho8 : mm_obs T t hh i = 45 := by rw [mm_obs, if_neg (fun q => q cz129), if_neg (show ¬ (¬ (nI (T.sk (T.ho i)) < nI 2) ∧ mm_ends T (T.ho i) = false) from fun q => by rw [q.2] at hen9; cases hen9), if_neg cz184, if_neg (fun q => by rw [if_pos q.2, cz203] at hsec; cases hsec)]
                                have hf8 : mm_fit (mm_lf T t hh i) (mm_pgs T t (T.fl i)) := ⟨by omega, by rw [if_neg (show ¬ 3 < mm_pgs T t (T.fl i) by omega)]; omega⟩
                                have hoc9 : 108 = mm_oc T t hh i := by rw [mm_oc, if_neg (fun q => q ho8), if_pos hf8]
                                have hl9 : mm_lf T t hh (i + 1) = mm_tk (mm_lf T t hh i) (mm_pgs T t (T.fl i)) := by rw [mm_lf, if_pos ⟨ho8, hf8⟩]
                                have hN : mm_N b D s (mm_u σi ro (mm_ari 1 3 24 (va_up (fun b9 => nI (if b9 < i then mm_oc T t hh b9 else 0)) i (nI 108)))) _ _ := hN
                                obtain ⟨σ21, eσ21⟩ : ∃ q, q = mm_u σi ro (mm_ari 1 3 24 (va_up (fun b9 => nI (if b9 < i then mm_oc T t hh b9 else 0)) i (nI 108))) := ⟨_, rfl⟩
                                rw [← eσ21] at hN
                                have hM21 : mm_M σ21 T th rd := by rw [eσ21]; exact mm_M_off hMi noq
                                have hF21 : mm_Fr 1 σ σ21 := by rw [eσ21]; exact (hFi).tr (mm_Fr.u xqi)
                                have xro21 : σ21 ro = mm_ari 1 3 24 (fun b9 => nI (if b9 < (i + 1) then mm_oc T t hh b9 else 0)) := by rw [eσ21, mm_u_eq]; exact congrArg (mm_ari 1 3 24) (mm_row1 hoc9)
                                have xlf21 : σ21 lf = mm_ari 1 0 3 (fun b9 => nI (mm_l3 (mm_lf T t hh i) b9)) := by rw [eσ21]; exact (mm_u_ne (Ne.symm nql)).trans xli
                                refine lv_aload_n (pc := 248) F.1 F.2.1 dX7_outcomesOf_248 rfl (lv_at hl 4 rfl) ?_
                                refine lv_iconst (pc := 249) (v := nI 0) F.1 F.2.1 dX7_outcomesOf_249 (by decide) ?_
                                refine lv_dup2_11 (pc := 250) F.1 F.2.1 dX7_outcomesOf_250 rfl rfl ?_
                                refine mm_iald (pc := 251) F hN (xlf21) (j := 0) (rfl) (by omega) (by decide) dX7_outcomesOf_251 ?_
                                refine W.eq (g2 := F0 m 252 ls [.int (nI ((mm_lf T t hh i).1)), .int (nI 0), .ref lf]) rfl ?_
                                refine lv_iload (pc := 252) F.1 F.2.1 dX7_outcomesOf_252 (lv_at hl 7 rfl) ?_
                                refine mm_isub (pc := 254) F (z := nI (((mm_lf T t hh i).1) - (mm_pgs T t (T.fl i)))) (pk_sub (by omega)) dX7_outcomesOf_254 ?_
                                refine mm_iast (pc := 255) F hN (xlf21) (j := 0) (rfl) (by omega) (by decide) dX7_outcomesOf_255 (fun H locs hN => ?_)
                                have hN : mm_N b D s (mm_u σ21 lf (mm_ari 1 0 3 (va_up (fun b9 => nI (mm_l3 (mm_lf T t hh i) b9)) 0 (nI (((mm_lf T t hh i).1) - (mm_pgs T t (T.fl i))))))) _ _ := hN
                                obtain ⟨σ22, eσ22⟩ : ∃ q, q = mm_u σ21 lf (mm_ari 1 0 3 (va_up (fun b9 => nI (mm_l3 (mm_lf T t hh i) b9)) 0 (nI (((mm_lf T t hh i).1) - (mm_pgs T t (T.fl i)))))) := ⟨_, rfl⟩
                                rw [← eσ22] at hN
                                have hM22 : mm_M σ22 T th rd := by rw [eσ22]; exact mm_M_off hM21 nol
                                have hF22 : mm_Fr 1 σ σ22 := by rw [eσ22]; exact (hF21).tr (mm_Fr.u xlf21)
                                have xro22 : σ22 ro = mm_ari 1 3 24 (fun b9 => nI (if b9 < (i + 1) then mm_oc T t hh b9 else 0)) := by rw [eσ22]; exact (mm_u_ne nql).trans xro21
                                have xlf22 : σ22 lf = mm_ari 1 0 3 (fun b9 => nI (mm_l3 (((mm_lf T t hh i).1) - (mm_pgs T t (T.fl i)), (mm_lf T t hh i).2.1, (mm_lf T t hh i).2.2) b9)) := by rw [eσ22, mm_u_eq]; exact congrArg (mm_ari 1 0 3) (mm_l3u (l := ((mm_lf T t hh i).1, (mm_lf T t hh i).2.1, (mm_lf T t hh i).2.2)) (l' := (((mm_lf T t hh i).1) - (mm_pgs T t (T.fl i)), (mm_lf T t hh i).2.1, (mm_lf T t hh i).2.2)) rfl rfl rfl (by decide))
                                refine lv_aload_n (pc := 256) F.1 F.2.1 dX7_outcomesOf_256 rfl (lv_at hl 4 rfl) ?_
                                refine lv_iload (pc := 257) F.1 F.2.1 dX7_outcomesOf_257 (lv_at hl 0 rfl) ?_
                                refine lv_dup2_11 (pc := 259) F.1 F.2.1 dX7_outcomesOf_259 rfl rfl ?_
                                refine mm_iald (pc := 260) F hN (xlf22) (j := 1) (rfl) (by omega) (by decide) dX7_outcomesOf_260 ?_
                                refine W.eq (g2 := F0 m 261 ls [.int (nI ((mm_lf T t hh i).2.1)), .int (nI 1), .ref lf]) rfl ?_
                                refine lv_iconst (pc := 261) (v := nI 1) F.1 F.2.1 dX7_outcomesOf_261 (by decide) ?_
                                refine mm_isub (pc := 262) F (z := nI (((mm_lf T t hh i).2.1) - 1)) (pk_sub (by omega)) dX7_outcomesOf_262 ?_
                                refine mm_iast (pc := 263) F hN (xlf22) (j := 1) (rfl) (by omega) (by decide) dX7_outcomesOf_263 (fun H locs hN => ?_)
                                have hN : mm_N b D s (mm_u σ22 lf (mm_ari 1 0 3 (va_up (fun b9 => nI (mm_l3 (((mm_lf T t hh i).1) - (mm_pgs T t (T.fl i)), (mm_lf T t hh i).2.1, (mm_lf T t hh i).2.2) b9)) 1 (nI (((mm_lf T t hh i).2.1) - 1))))) _ _ := hN
                                obtain ⟨σ23, eσ23⟩ : ∃ q, q = mm_u σ22 lf (mm_ari 1 0 3 (va_up (fun b9 => nI (mm_l3 (((mm_lf T t hh i).1) - (mm_pgs T t (T.fl i)), (mm_lf T t hh i).2.1, (mm_lf T t hh i).2.2) b9)) 1 (nI (((mm_lf T t hh i).2.1) - 1)))) := ⟨_, rfl⟩
                                rw [← eσ23] at hN
                                have hM23 : mm_M σ23 T th rd := by rw [eσ23]; exact mm_M_off hM22 nol
                                have hF23 : mm_Fr 1 σ σ23 := by rw [eσ23]; exact (hF22).tr (mm_Fr.u xlf22)
                                have xro23 : σ23 ro = mm_ari 1 3 24 (fun b9 => nI (if b9 < (i + 1) then mm_oc T t hh b9 else 0)) := by rw [eσ23]; exact (mm_u_ne nql).trans xro22
                                have xlf23 : σ23 lf = mm_ari 1 0 3 (fun b9 => nI (mm_l3 (((mm_lf T t hh i).1) - (mm_pgs T t (T.fl i)), ((mm_lf T t hh i).2.1) - 1, (mm_lf T t hh i).2.2) b9)) := by rw [eσ23, mm_u_eq]; exact congrArg (mm_ari 1 0 3) (mm_l3u (l := (((mm_lf T t hh i).1) - (mm_pgs T t (T.fl i)), (mm_lf T t hh i).2.1, (mm_lf T t hh i).2.2)) (l' := (((mm_lf T t hh i).1) - (mm_pgs T t (T.fl i)), ((mm_lf T t hh i).2.1) - 1, (mm_lf T t hh i).2.2)) rfl rfl rfl (by decide))
                                refine lv_iinc (pc := 264) (v := nI (i + 1)) (lv' := [(5, .int (nI (i + 1))), (8, .int (nI 1)), (0, .ref ((rd 0 0))), (1, .int (nI t)), (2, .int (nI hh)), (3, .ref lf), (4, .ref ro), (6, .int (nI (mm_pgs T t (T.fl i)))), (7, .int (nI is))]) F.1 F.2.1 dX7_outcomesOf_264 hl (k := 6) rfl (by rw [← nI_add]; rfl) (by decide) rfl (fun ls hl => ?_)
                                refine lv_goto (pc := 267) (tgt := 9) F.1 F.2.1 dX7_outcomesOf_267 (by decide) ?_
                                have xl99 : σ23 lf = mm_ari 1 0 3 (fun b9 => nI (mm_l3 (mm_lf T t hh (i + 1)) b9)) := by rw [hl9, mm_tk, if_neg (show ¬ 3 < mm_pgs T t (T.fl i) by omega), if_neg (show ¬ 3 < mm_pgs T t (T.fl i) by omega)]; exact xlf23
                                exact ih9 (i + 1) σ23 ls _ _ (by omega) (by omega) (hM23) (hF23) (xro23) (xl99) hN (lv_sub hl [2, 3, 4, 5, 6, 0] rfl)
                              ·
                                refine lv_aload (pc := 231) F.1 F.2.1 dX7_outcomesOf_231 (lv_at hl 5 rfl) ?_
                                refine lv_iload (pc := 233) F.1 F.2.1 dX7_outcomesOf_233 (lv_at hl 6 rfl) ?_
                                refine lv_bipush (pc := 235) (v := nI 112) F.1 F.2.1 dX7_outcomesOf_235 (by decide) ?_
                                refine mm_cast_ (pc := 237) F hN (xqi) (j := i) (rfl) (by omega) (by decide) (by decide) dX7_outcomesOf_237 (fun H locs hN => ?_)
                                have ho8 : mm_obs T t hh i = 45 := by rw [mm_obs, if_neg (fun q => q cz129), if_neg (show ¬ (¬ (nI (T.sk (T.ho i)) < nI 2) ∧ mm_ends T (T.ho i) = false) from fun q => by rw [q.2] at hen9; cases hen9), if_neg cz184, if_neg (fun q => by rw [if_pos q.2, cz203] at hsec; cases hsec)]
                                have hf8 : ¬ mm_fit (mm_lf T t hh i) (mm_pgs T t (T.fl i)) := fun q => by
                                  obtain ⟨q1, q2⟩ := q
                                  rw [if_neg (show ¬ 3 < mm_pgs T t (T.fl i) by omega)] at q2
                                  omega
                                have hoc9 : 112 = mm_oc T t hh i := by rw [mm_oc, if_neg (fun q => q ho8), if_neg hf8]
                                have hl9 : mm_lf T t hh (i + 1) = (mm_lf T t hh i) := by rw [mm_lf, if_neg (fun q => hf8 q.2)]
                                have hN : mm_N b D s (mm_u σi ro (mm_ari 1 3 24 (va_up (fun b9 => nI (if b9 < i then mm_oc T t hh b9 else 0)) i (nI 112)))) _ _ := hN
                                obtain ⟨σ24, eσ24⟩ : ∃ q, q = mm_u σi ro (mm_ari 1 3 24 (va_up (fun b9 => nI (if b9 < i then mm_oc T t hh b9 else 0)) i (nI 112))) := ⟨_, rfl⟩
                                rw [← eσ24] at hN
                                have hM24 : mm_M σ24 T th rd := by rw [eσ24]; exact mm_M_off hMi noq
                                have hF24 : mm_Fr 1 σ σ24 := by rw [eσ24]; exact (hFi).tr (mm_Fr.u xqi)
                                have xro24 : σ24 ro = mm_ari 1 3 24 (fun b9 => nI (if b9 < (i + 1) then mm_oc T t hh b9 else 0)) := by rw [eσ24, mm_u_eq]; exact congrArg (mm_ari 1 3 24) (mm_row1 hoc9)
                                have xlf24 : σ24 lf = mm_ari 1 0 3 (fun b9 => nI (mm_l3 (mm_lf T t hh i) b9)) := by rw [eσ24]; exact (mm_u_ne (Ne.symm nql)).trans xli
                                refine lv_goto (pc := 238) (tgt := 264) F.1 F.2.1 dX7_outcomesOf_238 (by decide) ?_
                                refine lv_iinc (pc := 264) (v := nI (i + 1)) (lv' := [(5, .int (nI (i + 1))), (8, .int (nI 1)), (0, .ref ((rd 0 0))), (1, .int (nI t)), (2, .int (nI hh)), (3, .ref lf), (4, .ref ro), (6, .int (nI (mm_pgs T t (T.fl i)))), (7, .int (nI is))]) F.1 F.2.1 dX7_outcomesOf_264 hl (k := 6) rfl (by rw [← nI_add]; rfl) (by decide) rfl (fun ls hl => ?_)
                                refine lv_goto (pc := 267) (tgt := 9) F.1 F.2.1 dX7_outcomesOf_267 (by decide) ?_
                                have xl99 : σ24 lf = mm_ari 1 0 3 (fun b9 => nI (mm_l3 (mm_lf T t hh (i + 1)) b9)) := by rw [hl9]; exact xlf24
                                exact ih9 (i + 1) σ24 ls _ _ (by omega) (by omega) (hM24) (hF24) (xro24) (xl99) hN (lv_sub hl [2, 3, 4, 5, 6, 0] rfl)
                          ·
                            refine lv_aload (pc := 206) F.1 F.2.1 dX7_outcomesOf_206 (lv_at hl 5 rfl) ?_
                            refine lv_iload (pc := 208) F.1 F.2.1 dX7_outcomesOf_208 (lv_at hl 6 rfl) ?_
                            refine lv_bipush (pc := 210) (v := nI 104) F.1 F.2.1 dX7_outcomesOf_210 (by decide) ?_
                            refine mm_cast_ (pc := 212) F hN (xqi) (j := i) (rfl) (by omega) (by decide) (by decide) dX7_outcomesOf_212 (fun H locs hN => ?_)
                            have ho8 : mm_obs T t hh i = 104 := by rw [mm_obs, if_neg (fun q => q cz129), if_neg (show ¬ (¬ (nI (T.sk (T.ho i)) < nI 2) ∧ mm_ends T (T.ho i) = false) from fun q => by rw [q.2] at hen9; cases hen9), if_neg cz184, if_pos ⟨cz198, by by_cases h9 : mm_sec T t i = true; exact h9; rw [if_neg h9] at hsec; exact absurd hsec cz203⟩]
                            have hoc9 : 104 = mm_oc T t hh i := by rw [mm_oc, if_pos (by rw [ho8]; decide), ho8]
                            have hl9 : mm_lf T t hh (i + 1) = (mm_lf T t hh i) := by rw [mm_lf, if_neg (fun q => by rw [ho8] at q; exact absurd q.1 (by decide))]
                            have hN : mm_N b D s (mm_u σi ro (mm_ari 1 3 24 (va_up (fun b9 => nI (if b9 < i then mm_oc T t hh b9 else 0)) i (nI 104)))) _ _ := hN
                            obtain ⟨σ25, eσ25⟩ : ∃ q, q = mm_u σi ro (mm_ari 1 3 24 (va_up (fun b9 => nI (if b9 < i then mm_oc T t hh b9 else 0)) i (nI 104))) := ⟨_, rfl⟩
                            rw [← eσ25] at hN
                            have hM25 : mm_M σ25 T th rd := by rw [eσ25]; exact mm_M_off hMi noq
                            have hF25 : mm_Fr 1 σ σ25 := by rw [eσ25]; exact (hFi).tr (mm_Fr.u xqi)
                            have xro25 : σ25 ro = mm_ari 1 3 24 (fun b9 => nI (if b9 < (i + 1) then mm_oc T t hh b9 else 0)) := by rw [eσ25, mm_u_eq]; exact congrArg (mm_ari 1 3 24) (mm_row1 hoc9)
                            have xlf25 : σ25 lf = mm_ari 1 0 3 (fun b9 => nI (mm_l3 (mm_lf T t hh i) b9)) := by rw [eσ25]; exact (mm_u_ne (Ne.symm nql)).trans xli
                            refine lv_goto (pc := 213) (tgt := 264) F.1 F.2.1 dX7_outcomesOf_213 (by decide) ?_
                            refine lv_iinc (pc := 264) (v := nI (i + 1)) (lv' := [(5, .int (nI (i + 1))), (8, .int (nI 1)), (0, .ref ((rd 0 0))), (1, .int (nI t)), (2, .int (nI hh)), (3, .ref lf), (4, .ref ro), (6, .int (nI (mm_pgs T t (T.fl i)))), (7, .int (nI is))]) F.1 F.2.1 dX7_outcomesOf_264 hl (k := 6) rfl (by rw [← nI_add]; rfl) (by decide) rfl (fun ls hl => ?_)
                            refine lv_goto (pc := 267) (tgt := 9) F.1 F.2.1 dX7_outcomesOf_267 (by decide) ?_
                            have xl99 : σ25 lf = mm_ari 1 0 3 (fun b9 => nI (mm_l3 (mm_lf T t hh (i + 1)) b9)) := by rw [hl9]; exact xlf25
                            exact ih9 (i + 1) σ25 ls _ _ (by omega) (by omega) (hM25) (hF25) (xro25) (xl99) hN (lv_sub hl [2, 3, 4, 5, 6, 0] rfl)
                      ·
                        refine lv_aload (pc := 187) F.1 F.2.1 dX7_outcomesOf_187 (lv_at hl 5 rfl) ?_
                        refine lv_iload (pc := 189) F.1 F.2.1 dX7_outcomesOf_189 (lv_at hl 6 rfl) ?_
                        refine lv_bipush (pc := 191) (v := nI 101) F.1 F.2.1 dX7_outcomesOf_191 (by decide) ?_
                        refine mm_cast_ (pc := 193) F hN (xqi) (j := i) (rfl) (by omega) (by decide) (by decide) dX7_outcomesOf_193 (fun H locs hN => ?_)
                        have ho8 : mm_obs T t hh i = 101 := by rw [mm_obs, if_neg (fun q => q cz129), if_neg (show ¬ (¬ (nI (T.sk (T.ho i)) < nI 2) ∧ mm_ends T (T.ho i) = false) from fun q => by rw [q.2] at hen9; cases hen9), if_pos cz184]
                        have hoc9 : 101 = mm_oc T t hh i := by rw [mm_oc, if_pos (by rw [ho8]; decide), ho8]
                        have hl9 : mm_lf T t hh (i + 1) = (mm_lf T t hh i) := by rw [mm_lf, if_neg (fun q => by rw [ho8] at q; exact absurd q.1 (by decide))]
                        have hN : mm_N b D s (mm_u σi ro (mm_ari 1 3 24 (va_up (fun b9 => nI (if b9 < i then mm_oc T t hh b9 else 0)) i (nI 101)))) _ _ := hN
                        obtain ⟨σ26, eσ26⟩ : ∃ q, q = mm_u σi ro (mm_ari 1 3 24 (va_up (fun b9 => nI (if b9 < i then mm_oc T t hh b9 else 0)) i (nI 101))) := ⟨_, rfl⟩
                        rw [← eσ26] at hN
                        have hM26 : mm_M σ26 T th rd := by rw [eσ26]; exact mm_M_off hMi noq
                        have hF26 : mm_Fr 1 σ σ26 := by rw [eσ26]; exact (hFi).tr (mm_Fr.u xqi)
                        have xro26 : σ26 ro = mm_ari 1 3 24 (fun b9 => nI (if b9 < (i + 1) then mm_oc T t hh b9 else 0)) := by rw [eσ26, mm_u_eq]; exact congrArg (mm_ari 1 3 24) (mm_row1 hoc9)
                        have xlf26 : σ26 lf = mm_ari 1 0 3 (fun b9 => nI (mm_l3 (mm_lf T t hh i) b9)) := by rw [eσ26]; exact (mm_u_ne (Ne.symm nql)).trans xli
                        refine lv_goto (pc := 194) (tgt := 264) F.1 F.2.1 dX7_outcomesOf_194 (by decide) ?_
                        refine lv_iinc (pc := 264) (v := nI (i + 1)) (lv' := [(5, .int (nI (i + 1))), (8, .int (nI 1)), (0, .ref ((rd 0 0))), (1, .int (nI t)), (2, .int (nI hh)), (3, .ref lf), (4, .ref ro), (6, .int (nI (mm_pgs T t (T.fl i)))), (7, .int (nI is))]) F.1 F.2.1 dX7_outcomesOf_264 hl (k := 6) rfl (by rw [← nI_add]; rfl) (by decide) rfl (fun ls hl => ?_)
                        refine lv_goto (pc := 267) (tgt := 9) F.1 F.2.1 dX7_outcomesOf_267 (by decide) ?_
                        have xl99 : σ26 lf = mm_ari 1 0 3 (fun b9 => nI (mm_l3 (mm_lf T t hh (i + 1)) b9)) := by rw [hl9]; exact xlf26
                        exact ih9 (i + 1) σ26 ls _ _ (by omega) (by omega) (hM26) (hF26) (xro26) (xl99) hN (lv_sub hl [2, 3, 4, 5, 6, 0] rfl)
                    ·
                      refine W.eq (g2 := F0 m 169 ls [.int (nI 0)]) (by rw [if_neg hen9]) ?_
                      refine mm_if_ne (pc := 169) F (tgt := 182) (by omega) dX7_outcomesOf_169 (by decide) (fun h9 => absurd h9 (by decide)) (fun cz169 => ?_)
                      refine lv_aload (pc := 172) F.1 F.2.1 dX7_outcomesOf_172 (lv_at hl 5 rfl) ?_
                      refine lv_iload (pc := 174) F.1 F.2.1 dX7_outcomesOf_174 (lv_at hl 6 rfl) ?_
                      refine lv_bipush (pc := 176) (v := nI 98) F.1 F.2.1 dX7_outcomesOf_176 (by decide) ?_
                      refine mm_cast_ (pc := 178) F hN (xqi) (j := i) (rfl) (by omega) (by decide) (by decide) dX7_outcomesOf_178 (fun H locs hN => ?_)
                      have ho8 : mm_obs T t hh i = 98 := by rw [mm_obs, if_neg (fun q => q cz129), if_pos ⟨cz155, by cases h9 : mm_ends T (T.ho i) with | true => exact absurd h9 hen9 | false => rfl⟩]
                      have hoc9 : 98 = mm_oc T t hh i := by rw [mm_oc, if_pos (by rw [ho8]; decide), ho8]
                      have hl9 : mm_lf T t hh (i + 1) = (mm_lf T t hh i) := by rw [mm_lf, if_neg (fun q => by rw [ho8] at q; exact absurd q.1 (by decide))]
                      have hN : mm_N b D s (mm_u σi ro (mm_ari 1 3 24 (va_up (fun b9 => nI (if b9 < i then mm_oc T t hh b9 else 0)) i (nI 98)))) _ _ := hN
                      obtain ⟨σ27, eσ27⟩ : ∃ q, q = mm_u σi ro (mm_ari 1 3 24 (va_up (fun b9 => nI (if b9 < i then mm_oc T t hh b9 else 0)) i (nI 98))) := ⟨_, rfl⟩
                      rw [← eσ27] at hN
                      have hM27 : mm_M σ27 T th rd := by rw [eσ27]; exact mm_M_off hMi noq
                      have hF27 : mm_Fr 1 σ σ27 := by rw [eσ27]; exact (hFi).tr (mm_Fr.u xqi)
                      have xro27 : σ27 ro = mm_ari 1 3 24 (fun b9 => nI (if b9 < (i + 1) then mm_oc T t hh b9 else 0)) := by rw [eσ27, mm_u_eq]; exact congrArg (mm_ari 1 3 24) (mm_row1 hoc9)
                      have xlf27 : σ27 lf = mm_ari 1 0 3 (fun b9 => nI (mm_l3 (mm_lf T t hh i) b9)) := by rw [eσ27]; exact (mm_u_ne (Ne.symm nql)).trans xli
                      refine lv_goto (pc := 179) (tgt := 264) F.1 F.2.1 dX7_outcomesOf_179 (by decide) ?_
                      refine lv_iinc (pc := 264) (v := nI (i + 1)) (lv' := [(5, .int (nI (i + 1))), (8, .int (nI 1)), (0, .ref ((rd 0 0))), (1, .int (nI t)), (2, .int (nI hh)), (3, .ref lf), (4, .ref ro), (6, .int (nI (mm_pgs T t (T.fl i)))), (7, .int (nI is))]) F.1 F.2.1 dX7_outcomesOf_264 hl (k := 6) rfl (by rw [← nI_add]; rfl) (by decide) rfl (fun ls hl => ?_)
                      refine lv_goto (pc := 267) (tgt := 9) F.1 F.2.1 dX7_outcomesOf_267 (by decide) ?_
                      have xl99 : σ27 lf = mm_ari 1 0 3 (fun b9 => nI (mm_l3 (mm_lf T t hh (i + 1)) b9)) := by rw [hl9]; exact xlf27
                      exact ih9 (i + 1) σ27 ls _ _ (by omega) (by omega) (hM27) (hF27) (xro27) (xl99) hN (lv_sub hl [2, 3, 4, 5, 6, 0] rfl)
                ·
                  refine lv_aload (pc := 132) F.1 F.2.1 dX7_outcomesOf_132 (lv_at hl 5 rfl) ?_
                  refine lv_iload (pc := 134) F.1 F.2.1 dX7_outcomesOf_134 (lv_at hl 6 rfl) ?_
                  refine lv_bipush (pc := 136) (v := nI 115) F.1 F.2.1 dX7_outcomesOf_136 (by decide) ?_
                  refine mm_cast_ (pc := 138) F hN (xqi) (j := i) (rfl) (by omega) (by decide) (by decide) dX7_outcomesOf_138 (fun H locs hN => ?_)
                  have ho8 : mm_obs T t hh i = 115 := by rw [mm_obs, if_pos cz129]
                  have hoc9 : 115 = mm_oc T t hh i := by rw [mm_oc, if_pos (by rw [ho8]; decide), ho8]
                  have hl9 : mm_lf T t hh (i + 1) = (mm_lf T t hh i) := by rw [mm_lf, if_neg (fun q => by rw [ho8] at q; exact absurd q.1 (by decide))]
                  have hN : mm_N b D s (mm_u σi ro (mm_ari 1 3 24 (va_up (fun b9 => nI (if b9 < i then mm_oc T t hh b9 else 0)) i (nI 115)))) _ _ := hN
                  obtain ⟨σ28, eσ28⟩ : ∃ q, q = mm_u σi ro (mm_ari 1 3 24 (va_up (fun b9 => nI (if b9 < i then mm_oc T t hh b9 else 0)) i (nI 115))) := ⟨_, rfl⟩
                  rw [← eσ28] at hN
                  have hM28 : mm_M σ28 T th rd := by rw [eσ28]; exact mm_M_off hMi noq
                  have hF28 : mm_Fr 1 σ σ28 := by rw [eσ28]; exact (hFi).tr (mm_Fr.u xqi)
                  have xro28 : σ28 ro = mm_ari 1 3 24 (fun b9 => nI (if b9 < (i + 1) then mm_oc T t hh b9 else 0)) := by rw [eσ28, mm_u_eq]; exact congrArg (mm_ari 1 3 24) (mm_row1 hoc9)
                  have xlf28 : σ28 lf = mm_ari 1 0 3 (fun b9 => nI (mm_l3 (mm_lf T t hh i) b9)) := by rw [eσ28]; exact (mm_u_ne (Ne.symm nql)).trans xli
                  refine lv_goto (pc := 139) (tgt := 264) F.1 F.2.1 dX7_outcomesOf_139 (by decide) ?_
                  refine lv_iinc (pc := 264) (v := nI (i + 1)) (lv' := [(5, .int (nI (i + 1))), (8, .int (nI 1)), (0, .ref ((rd 0 0))), (1, .int (nI t)), (2, .int (nI hh)), (3, .ref lf), (4, .ref ro), (6, .int (nI (mm_pgs T t (T.fl i)))), (7, .int (nI is))]) F.1 F.2.1 dX7_outcomesOf_264 hl (k := 6) rfl (by rw [← nI_add]; rfl) (by decide) rfl (fun ls hl => ?_)
                  refine lv_goto (pc := 267) (tgt := 9) F.1 F.2.1 dX7_outcomesOf_267 (by decide) ?_
                  have xl99 : σ28 lf = mm_ari 1 0 3 (fun b9 => nI (mm_l3 (mm_lf T t hh (i + 1)) b9)) := by rw [hl9]; exact xlf28
                  exact ih9 (i + 1) σ28 ls _ _ (by omega) (by omega) (hM28) (hF28) (xro28) (xl99) hN (lv_sub hl [2, 3, 4, 5, 6, 0] rfl)
              ·
                refine lv_iconst (pc := 113) (v := nI 2) F.1 F.2.1 dX7_outcomesOf_113 (by decide) ?_
                refine lv_goto (pc := 114) (tgt := 118) F.1 F.2.1 dX7_outcomesOf_114 (by decide) ?_
                refine lv_istore (pc := 118) (lv' := [(8, .int (nI 2)), (0, .ref ((rd 0 0))), (1, .int (nI t)), (2, .int (nI hh)), (3, .ref lf), (4, .ref ro), (5, .int (nI i)), (6, .int (nI (mm_pgs T t (T.fl i)))), (7, .int (nI is))]) F.1 F.2.1 dX7_outcomesOf_118 hl (by decide) rfl (fun ls hl => ?_)
                refine lv_aload_n (pc := 120) F.1 F.2.1 dX7_outcomesOf_120 rfl (lv_at hl 1 rfl) ?_
                refine mm_get (pc := 121) F hN ((show σi (rd 0 0) = mm_obj 1 7 [.ref ((rd 1 0)), .ref ((rd 2 0)), .ref ((rd 3 0)), .int (nI T.nA), .ref ((rd 4 0)), .ref ((rd 5 0)), .ref ((rd 6 0)), .int (nI T.nP), .ref ((rd 7 0)), .ref ((rd 8 0)), .ref ((rd 9 0)), .ref ((rd 10 0)), .ref ((rd 11 0)), .int (nI T.nT), .int (nI T.pa), .ref ((rd 12 0)), .int (nI T.bo), .ref ((rd 13 0)), .ref ((rd 14 0)), .ref ((rd 15 0)), .ref ((rd 16 0)), .ref ((rd 17 0)), .ref ((rd 18 0)), .ref ((rd 19 0)), .int (nI T.nR), .int (nI th)] from mm_r0 (T := T) hMi)) (ci := 7) rfl 6 (by decide) mw_1185 rfl dX7_outcomesOf_121 ?_
                refine lv_iload (pc := 124) F.1 F.2.1 dX7_outcomesOf_124 (lv_at hl 6 rfl) ?_
                refine mm_cald (pc := 126) F hN ((show σi (rd 6 0) = mm_ari 1 3 24 (fun b9 => nI (T.re b9)) from mm_r6 (T := T) hMi)) (j := i) (rfl) (by omega) (by decide) dX7_outcomesOf_126 ?_
                refine lv_bipush (pc := 127) (v := nI 45) F.1 F.2.1 dX7_outcomesOf_127 (by decide) ?_
                refine mm_icmp_eq (pc := 129) F (x := T.re i) (y := 45) (tgt := 142) (by omega) (by omega) dX7_outcomesOf_129 (by decide) (fun cz129 => ?_) (fun cz129 => ?_)
                ·
                  refine lv_aload_n (pc := 142) F.1 F.2.1 dX7_outcomesOf_142 rfl (lv_at hl 1 rfl) ?_
                  refine mm_get (pc := 143) F hN ((show σi (rd 0 0) = mm_obj 1 7 [.ref ((rd 1 0)), .ref ((rd 2 0)), .ref ((rd 3 0)), .int (nI T.nA), .ref ((rd 4 0)), .ref ((rd 5 0)), .ref ((rd 6 0)), .int (nI T.nP), .ref ((rd 7 0)), .ref ((rd 8 0)), .ref ((rd 9 0)), .ref ((rd 10 0)), .ref ((rd 11 0)), .int (nI T.nT), .int (nI T.pa), .ref ((rd 12 0)), .int (nI T.bo), .ref ((rd 13 0)), .ref ((rd 14 0)), .ref ((rd 15 0)), .ref ((rd 16 0)), .ref ((rd 17 0)), .ref ((rd 18 0)), .ref ((rd 19 0)), .int (nI T.nR), .int (nI th)] from mm_r0 (T := T) hMi)) (ci := 7) rfl 1 (by decide) mw_1180 rfl dX7_outcomesOf_143 ?_
                  refine lv_aload_n (pc := 146) F.1 F.2.1 dX7_outcomesOf_146 rfl (lv_at hl 1 rfl) ?_
                  refine mm_get (pc := 147) F hN ((show σi (rd 0 0) = mm_obj 1 7 [.ref ((rd 1 0)), .ref ((rd 2 0)), .ref ((rd 3 0)), .int (nI T.nA), .ref ((rd 4 0)), .ref ((rd 5 0)), .ref ((rd 6 0)), .int (nI T.nP), .ref ((rd 7 0)), .ref ((rd 8 0)), .ref ((rd 9 0)), .ref ((rd 10 0)), .ref ((rd 11 0)), .int (nI T.nT), .int (nI T.pa), .ref ((rd 12 0)), .int (nI T.bo), .ref ((rd 13 0)), .ref ((rd 14 0)), .ref ((rd 15 0)), .ref ((rd 16 0)), .ref ((rd 17 0)), .ref ((rd 18 0)), .ref ((rd 19 0)), .int (nI T.nR), .int (nI th)] from mm_r0 (T := T) hMi)) (ci := 7) rfl 4 (by decide) mw_1183 rfl dX7_outcomesOf_147 ?_
                  refine lv_iload (pc := 150) F.1 F.2.1 dX7_outcomesOf_150 (lv_at hl 6 rfl) ?_
                  refine mm_iald (pc := 152) F hN ((show σi (rd 4 0) = mm_ari 1 0 24 (fun b9 => nI (T.ho b9)) from mm_r4 (T := T) hMi)) (j := i) (rfl) (by omega) (by decide) dX7_outcomesOf_152 ?_
                  refine mm_iald (pc := 153) F hN ((show σi (rd 2 0) = mm_ari 1 0 12 (fun b9 => nI (T.sk b9)) from mm_r2 (T := T) hMi)) (j := T.ho i) (rfl) (by omega) (by decide) dX7_outcomesOf_153 ?_
                  refine lv_iconst (pc := 154) (v := nI 2) F.1 F.2.1 dX7_outcomesOf_154 (by decide) ?_
                  refine lv_icmp_lt (pc := 155) (tgt := 182) F.1 F.2.1 dX7_outcomesOf_155 (by decide) (fun cz155 => ?_) (fun cz155 => ?_)
                  ·
                    refine lv_iload (pc := 182) F.1 F.2.1 dX7_outcomesOf_182 (lv_at hl 7 rfl) ?_
                    refine mm_if_ne (pc := 184) F (tgt := 197) (by omega) dX7_outcomesOf_184 (by decide) (fun cz184 => ?_) (fun cz184 => ?_)
                    ·
                      refine lv_iload_n (pc := 197) F.1 F.2.1 dX7_outcomesOf_197 rfl (lv_at hl 3 rfl) ?_
                      refine mm_if_eq (pc := 198) F (tgt := 216) (by omega) dX7_outcomesOf_198 (by decide) (fun cz198 => ?_) (fun cz198 => ?_)
                      ·
                        refine lv_aload_n (pc := 216) F.1 F.2.1 dX7_outcomesOf_216 rfl (lv_at hl 4 rfl) ?_
                        refine lv_iconst (pc := 217) (v := nI 0) F.1 F.2.1 dX7_outcomesOf_217 (by decide) ?_
                        refine mm_iald (pc := 218) F hN (xli) (j := 0) (rfl) (by omega) (by decide) dX7_outcomesOf_218 ?_
                        refine W.eq (g2 := F0 m 219 ls [.int (nI ((mm_lf T t hh i).1))]) rfl ?_
                        refine lv_iload (pc := 219) F.1 F.2.1 dX7_outcomesOf_219 (lv_at hl 7 rfl) ?_
                        refine mm_icmp_lt (pc := 221) F (x := (mm_lf T t hh i).1) (y := mm_pgs T t (T.fl i)) (tgt := 231) (by omega) (by omega) dX7_outcomesOf_221 (by decide) (fun cz221 => ?_) (fun cz221 => ?_)
                        ·
                          refine lv_aload (pc := 231) F.1 F.2.1 dX7_outcomesOf_231 (lv_at hl 5 rfl) ?_
                          refine lv_iload (pc := 233) F.1 F.2.1 dX7_outcomesOf_233 (lv_at hl 6 rfl) ?_
                          refine lv_bipush (pc := 235) (v := nI 112) F.1 F.2.1 dX7_outcomesOf_235 (by decide) ?_
                          refine mm_cast_ (pc := 237) F hN (xqi) (j := i) (rfl) (by omega) (by decide) (by decide) dX7_outcomesOf_237 (fun H locs hN => ?_)
                          have ho8 : mm_obs T t hh i = 45 := by rw [mm_obs, if_neg (fun q => q cz129), if_neg (show ¬ (¬ (nI (T.sk (T.ho i)) < nI 2) ∧ mm_ends T (T.ho i) = false) from fun q => q.1 cz155), if_neg cz184, if_neg (fun q => q.1 cz198)]
                          have hf8 : ¬ mm_fit (mm_lf T t hh i) (mm_pgs T t (T.fl i)) := fun q => by
                            obtain ⟨q1, q2⟩ := q
                            rw [if_pos (show 3 < mm_pgs T t (T.fl i) by omega)] at q2
                            omega
                          have hoc9 : 112 = mm_oc T t hh i := by rw [mm_oc, if_neg (fun q => q ho8), if_neg hf8]
                          have hl9 : mm_lf T t hh (i + 1) = (mm_lf T t hh i) := by rw [mm_lf, if_neg (fun q => hf8 q.2)]
                          have hN : mm_N b D s (mm_u σi ro (mm_ari 1 3 24 (va_up (fun b9 => nI (if b9 < i then mm_oc T t hh b9 else 0)) i (nI 112)))) _ _ := hN
                          obtain ⟨σ29, eσ29⟩ : ∃ q, q = mm_u σi ro (mm_ari 1 3 24 (va_up (fun b9 => nI (if b9 < i then mm_oc T t hh b9 else 0)) i (nI 112))) := ⟨_, rfl⟩
                          rw [← eσ29] at hN
                          have hM29 : mm_M σ29 T th rd := by rw [eσ29]; exact mm_M_off hMi noq
                          have hF29 : mm_Fr 1 σ σ29 := by rw [eσ29]; exact (hFi).tr (mm_Fr.u xqi)
                          have xro29 : σ29 ro = mm_ari 1 3 24 (fun b9 => nI (if b9 < (i + 1) then mm_oc T t hh b9 else 0)) := by rw [eσ29, mm_u_eq]; exact congrArg (mm_ari 1 3 24) (mm_row1 hoc9)
                          have xlf29 : σ29 lf = mm_ari 1 0 3 (fun b9 => nI (mm_l3 (mm_lf T t hh i) b9)) := by rw [eσ29]; exact (mm_u_ne (Ne.symm nql)).trans xli
                          refine lv_goto (pc := 238) (tgt := 264) F.1 F.2.1 dX7_outcomesOf_238 (by decide) ?_
                          refine lv_iinc (pc := 264) (v := nI (i + 1)) (lv' := [(5, .int (nI (i + 1))), (8, .int (nI 2)), (0, .ref ((rd 0 0))), (1, .int (nI t)), (2, .int (nI hh)), (3, .ref lf), (4, .ref ro), (6, .int (nI (mm_pgs T t (T.fl i)))), (7, .int (nI is))]) F.1 F.2.1 dX7_outcomesOf_264 hl (k := 6) rfl (by rw [← nI_add]; rfl) (by decide) rfl (fun ls hl => ?_)
                          refine lv_goto (pc := 267) (tgt := 9) F.1 F.2.1 dX7_outcomesOf_267 (by decide) ?_
                          have xl99 : σ29 lf = mm_ari 1 0 3 (fun b9 => nI (mm_l3 (mm_lf T t hh (i + 1)) b9)) := by rw [hl9]; exact xlf29
                          exact ih9 (i + 1) σ29 ls _ _ (by omega) (by omega) (hM29) (hF29) (xro29) (xl99) hN (lv_sub hl [2, 3, 4, 5, 6, 0] rfl)
                        ·
                          refine lv_aload_n (pc := 224) F.1 F.2.1 dX7_outcomesOf_224 rfl (lv_at hl 4 rfl) ?_
                          refine lv_iload (pc := 225) F.1 F.2.1 dX7_outcomesOf_225 (lv_at hl 0 rfl) ?_
                          refine mm_iald (pc := 227) F hN (xli) (j := 2) (rfl) (by omega) (by decide) dX7_outcomesOf_227 ?_
                          refine W.eq (g2 := F0 m 228 ls [.int (nI ((mm_lf T t hh i).2.2))]) rfl ?_
                          refine mm_if_ne (pc := 228) F (tgt := 241) (by omega) dX7_outcomesOf_228 (by decide) (fun cz228 => ?_) (fun cz228 => ?_)
                          ·
                            refine lv_aload (pc := 241) F.1 F.2.1 dX7_outcomesOf_241 (lv_at hl 5 rfl) ?_
                            refine lv_iload (pc := 243) F.1 F.2.1 dX7_outcomesOf_243 (lv_at hl 6 rfl) ?_
                            refine lv_bipush (pc := 245) (v := nI 108) F.1 F.2.1 dX7_outcomesOf_245 (by decide) ?_
                            refine mm_cast_ (pc := 247) F hN (xqi) (j := i) (rfl) (by omega) (by decide) (by decide) dX7_outcomesOf_247 (fun H locs hN => ?_)
                            have ho8 : mm_obs T t hh i = 45 := by rw [mm_obs, if_neg (fun q => q cz129), if_neg (show ¬ (¬ (nI (T.sk (T.ho i)) < nI 2) ∧ mm_ends T (T.ho i) = false) from fun q => q.1 cz155), if_neg cz184, if_neg (fun q => q.1 cz198)]
                            have hf8 : mm_fit (mm_lf T t hh i) (mm_pgs T t (T.fl i)) := ⟨by omega, by rw [if_pos (show 3 < mm_pgs T t (T.fl i) by omega)]; omega⟩
                            have hoc9 : 108 = mm_oc T t hh i := by rw [mm_oc, if_neg (fun q => q ho8), if_pos hf8]
                            have hl9 : mm_lf T t hh (i + 1) = mm_tk (mm_lf T t hh i) (mm_pgs T t (T.fl i)) := by rw [mm_lf, if_pos ⟨ho8, hf8⟩]
                            have hN : mm_N b D s (mm_u σi ro (mm_ari 1 3 24 (va_up (fun b9 => nI (if b9 < i then mm_oc T t hh b9 else 0)) i (nI 108)))) _ _ := hN
                            obtain ⟨σ30, eσ30⟩ : ∃ q, q = mm_u σi ro (mm_ari 1 3 24 (va_up (fun b9 => nI (if b9 < i then mm_oc T t hh b9 else 0)) i (nI 108))) := ⟨_, rfl⟩
                            rw [← eσ30] at hN
                            have hM30 : mm_M σ30 T th rd := by rw [eσ30]; exact mm_M_off hMi noq
                            have hF30 : mm_Fr 1 σ σ30 := by rw [eσ30]; exact (hFi).tr (mm_Fr.u xqi)
                            have xro30 : σ30 ro = mm_ari 1 3 24 (fun b9 => nI (if b9 < (i + 1) then mm_oc T t hh b9 else 0)) := by rw [eσ30, mm_u_eq]; exact congrArg (mm_ari 1 3 24) (mm_row1 hoc9)
                            have xlf30 : σ30 lf = mm_ari 1 0 3 (fun b9 => nI (mm_l3 (mm_lf T t hh i) b9)) := by rw [eσ30]; exact (mm_u_ne (Ne.symm nql)).trans xli
                            refine lv_aload_n (pc := 248) F.1 F.2.1 dX7_outcomesOf_248 rfl (lv_at hl 4 rfl) ?_
                            refine lv_iconst (pc := 249) (v := nI 0) F.1 F.2.1 dX7_outcomesOf_249 (by decide) ?_
                            refine lv_dup2_11 (pc := 250) F.1 F.2.1 dX7_outcomesOf_250 rfl rfl ?_
                            refine mm_iald (pc := 251) F hN (xlf30) (j := 0) (rfl) (by omega) (by decide) dX7_outcomesOf_251 ?_
                            refine W.eq (g2 := F0 m 252 ls [.int (nI ((mm_lf T t hh i).1)), .int (nI 0), .ref lf]) rfl ?_
                            refine lv_iload (pc := 252) F.1 F.2.1 dX7_outcomesOf_252 (lv_at hl 7 rfl) ?_
                            refine mm_isub (pc := 254) F (z := nI (((mm_lf T t hh i).1) - (mm_pgs T t (T.fl i)))) (pk_sub (by omega)) dX7_outcomesOf_254 ?_
                            refine mm_iast (pc := 255) F hN (xlf30) (j := 0) (rfl) (by omega) (by decide) dX7_outcomesOf_255 (fun H locs hN => ?_)
                            have hN : mm_N b D s (mm_u σ30 lf (mm_ari 1 0 3 (va_up (fun b9 => nI (mm_l3 (mm_lf T t hh i) b9)) 0 (nI (((mm_lf T t hh i).1) - (mm_pgs T t (T.fl i))))))) _ _ := hN
                            obtain ⟨σ31, eσ31⟩ : ∃ q, q = mm_u σ30 lf (mm_ari 1 0 3 (va_up (fun b9 => nI (mm_l3 (mm_lf T t hh i) b9)) 0 (nI (((mm_lf T t hh i).1) - (mm_pgs T t (T.fl i)))))) := ⟨_, rfl⟩
                            rw [← eσ31] at hN
                            have hM31 : mm_M σ31 T th rd := by rw [eσ31]; exact mm_M_off hM30 nol
                            have hF31 : mm_Fr 1 σ σ31 := by rw [eσ31]; exact (hF30).tr (mm_Fr.u xlf30)
                            have xro31 : σ31 ro = mm_ari 1 3 24 (fun b9 => nI (if b9 < (i + 1) then mm_oc T t hh b9 else 0)) := by rw [eσ31]; exact (mm_u_ne nql).trans xro30
                            have xlf31 : σ31 lf = mm_ari 1 0 3 (fun b9 => nI (mm_l3 (((mm_lf T t hh i).1) - (mm_pgs T t (T.fl i)), (mm_lf T t hh i).2.1, (mm_lf T t hh i).2.2) b9)) := by rw [eσ31, mm_u_eq]; exact congrArg (mm_ari 1 0 3) (mm_l3u (l := ((mm_lf T t hh i).1, (mm_lf T t hh i).2.1, (mm_lf T t hh i).2.2)) (l' := (((mm_lf T t hh i).1) - (mm_pgs T t (T.fl i)), (mm_lf T t hh i).2.1, (mm_lf T t hh i).2.2)) rfl rfl rfl (by decide))
                            refine lv_aload_n (pc := 256) F.1 F.2.1 dX7_outcomesOf_256 rfl (lv_at hl 4 rfl) ?_
                            refine lv_iload (pc := 257) F.1 F.2.1 dX7_outcomesOf_257 (lv_at hl 0 rfl) ?_
                            refine lv_dup2_11 (pc := 259) F.1 F.2.1 dX7_outcomesOf_259 rfl rfl ?_
                            refine mm_iald (pc := 260) F hN (xlf31) (j := 2) (rfl) (by omega) (by decide) dX7_outcomesOf_260 ?_
                            refine W.eq (g2 := F0 m 261 ls [.int (nI ((mm_lf T t hh i).2.2)), .int (nI 2), .ref lf]) rfl ?_
                            refine lv_iconst (pc := 261) (v := nI 1) F.1 F.2.1 dX7_outcomesOf_261 (by decide) ?_
                            refine mm_isub (pc := 262) F (z := nI (((mm_lf T t hh i).2.2) - 1)) (pk_sub (by omega)) dX7_outcomesOf_262 ?_
                            refine mm_iast (pc := 263) F hN (xlf31) (j := 2) (rfl) (by omega) (by decide) dX7_outcomesOf_263 (fun H locs hN => ?_)
                            have hN : mm_N b D s (mm_u σ31 lf (mm_ari 1 0 3 (va_up (fun b9 => nI (mm_l3 (((mm_lf T t hh i).1) - (mm_pgs T t (T.fl i)), (mm_lf T t hh i).2.1, (mm_lf T t hh i).2.2) b9)) 2 (nI (((mm_lf T t hh i).2.2) - 1))))) _ _ := hN
                            obtain ⟨σ32, eσ32⟩ : ∃ q, q = mm_u σ31 lf (mm_ari 1 0 3 (va_up (fun b9 => nI (mm_l3 (((mm_lf T t hh i).1) - (mm_pgs T t (T.fl i)), (mm_lf T t hh i).2.1, (mm_lf T t hh i).2.2) b9)) 2 (nI (((mm_lf T t hh i).2.2) - 1)))) := ⟨_, rfl⟩
                            rw [← eσ32] at hN
                            have hM32 : mm_M σ32 T th rd := by rw [eσ32]; exact mm_M_off hM31 nol
                            have hF32 : mm_Fr 1 σ σ32 := by rw [eσ32]; exact (hF31).tr (mm_Fr.u xlf31)
                            have xro32 : σ32 ro = mm_ari 1 3 24 (fun b9 => nI (if b9 < (i + 1) then mm_oc T t hh b9 else 0)) := by rw [eσ32]; exact (mm_u_ne nql).trans xro31
                            have xlf32 : σ32 lf = mm_ari 1 0 3 (fun b9 => nI (mm_l3 (((mm_lf T t hh i).1) - (mm_pgs T t (T.fl i)), (mm_lf T t hh i).2.1, ((mm_lf T t hh i).2.2) - 1) b9)) := by rw [eσ32, mm_u_eq]; exact congrArg (mm_ari 1 0 3) (mm_l3u (l := (((mm_lf T t hh i).1) - (mm_pgs T t (T.fl i)), (mm_lf T t hh i).2.1, (mm_lf T t hh i).2.2)) (l' := (((mm_lf T t hh i).1) - (mm_pgs T t (T.fl i)), (mm_lf T t hh i).2.1, ((mm_lf T t hh i).2.2) - 1)) rfl rfl rfl (by decide))
                            refine lv_iinc (pc := 264) (v := nI (i + 1)) (lv' := [(5, .int (nI (i + 1))), (8, .int (nI 2)), (0, .ref ((rd 0 0))), (1, .int (nI t)), (2, .int (nI hh)), (3, .ref lf), (4, .ref ro), (6, .int (nI (mm_pgs T t (T.fl i)))), (7, .int (nI is))]) F.1 F.2.1 dX7_outcomesOf_264 hl (k := 6) rfl (by rw [← nI_add]; rfl) (by decide) rfl (fun ls hl => ?_)
                            refine lv_goto (pc := 267) (tgt := 9) F.1 F.2.1 dX7_outcomesOf_267 (by decide) ?_
                            have xl99 : σ32 lf = mm_ari 1 0 3 (fun b9 => nI (mm_l3 (mm_lf T t hh (i + 1)) b9)) := by rw [hl9, mm_tk, if_pos (show 3 < mm_pgs T t (T.fl i) by omega), if_pos (show 3 < mm_pgs T t (T.fl i) by omega)]; exact xlf32
                            exact ih9 (i + 1) σ32 ls _ _ (by omega) (by omega) (hM32) (hF32) (xro32) (xl99) hN (lv_sub hl [2, 3, 4, 5, 6, 0] rfl)
                          ·
                            refine lv_aload (pc := 231) F.1 F.2.1 dX7_outcomesOf_231 (lv_at hl 5 rfl) ?_
                            refine lv_iload (pc := 233) F.1 F.2.1 dX7_outcomesOf_233 (lv_at hl 6 rfl) ?_
                            refine lv_bipush (pc := 235) (v := nI 112) F.1 F.2.1 dX7_outcomesOf_235 (by decide) ?_
                            refine mm_cast_ (pc := 237) F hN (xqi) (j := i) (rfl) (by omega) (by decide) (by decide) dX7_outcomesOf_237 (fun H locs hN => ?_)
                            have ho8 : mm_obs T t hh i = 45 := by rw [mm_obs, if_neg (fun q => q cz129), if_neg (show ¬ (¬ (nI (T.sk (T.ho i)) < nI 2) ∧ mm_ends T (T.ho i) = false) from fun q => q.1 cz155), if_neg cz184, if_neg (fun q => q.1 cz198)]
                            have hf8 : ¬ mm_fit (mm_lf T t hh i) (mm_pgs T t (T.fl i)) := fun q => by
                              obtain ⟨q1, q2⟩ := q
                              rw [if_pos (show 3 < mm_pgs T t (T.fl i) by omega)] at q2
                              omega
                            have hoc9 : 112 = mm_oc T t hh i := by rw [mm_oc, if_neg (fun q => q ho8), if_neg hf8]
                            have hl9 : mm_lf T t hh (i + 1) = (mm_lf T t hh i) := by rw [mm_lf, if_neg (fun q => hf8 q.2)]
                            have hN : mm_N b D s (mm_u σi ro (mm_ari 1 3 24 (va_up (fun b9 => nI (if b9 < i then mm_oc T t hh b9 else 0)) i (nI 112)))) _ _ := hN
                            obtain ⟨σ33, eσ33⟩ : ∃ q, q = mm_u σi ro (mm_ari 1 3 24 (va_up (fun b9 => nI (if b9 < i then mm_oc T t hh b9 else 0)) i (nI 112))) := ⟨_, rfl⟩
                            rw [← eσ33] at hN
                            have hM33 : mm_M σ33 T th rd := by rw [eσ33]; exact mm_M_off hMi noq
                            have hF33 : mm_Fr 1 σ σ33 := by rw [eσ33]; exact (hFi).tr (mm_Fr.u xqi)
                            have xro33 : σ33 ro = mm_ari 1 3 24 (fun b9 => nI (if b9 < (i + 1) then mm_oc T t hh b9 else 0)) := by rw [eσ33, mm_u_eq]; exact congrArg (mm_ari 1 3 24) (mm_row1 hoc9)
                            have xlf33 : σ33 lf = mm_ari 1 0 3 (fun b9 => nI (mm_l3 (mm_lf T t hh i) b9)) := by rw [eσ33]; exact (mm_u_ne (Ne.symm nql)).trans xli
                            refine lv_goto (pc := 238) (tgt := 264) F.1 F.2.1 dX7_outcomesOf_238 (by decide) ?_
                            refine lv_iinc (pc := 264) (v := nI (i + 1)) (lv' := [(5, .int (nI (i + 1))), (8, .int (nI 2)), (0, .ref ((rd 0 0))), (1, .int (nI t)), (2, .int (nI hh)), (3, .ref lf), (4, .ref ro), (6, .int (nI (mm_pgs T t (T.fl i)))), (7, .int (nI is))]) F.1 F.2.1 dX7_outcomesOf_264 hl (k := 6) rfl (by rw [← nI_add]; rfl) (by decide) rfl (fun ls hl => ?_)
                            refine lv_goto (pc := 267) (tgt := 9) F.1 F.2.1 dX7_outcomesOf_267 (by decide) ?_
                            have xl99 : σ33 lf = mm_ari 1 0 3 (fun b9 => nI (mm_l3 (mm_lf T t hh (i + 1)) b9)) := by rw [hl9]; exact xlf33
                            exact ih9 (i + 1) σ33 ls _ _ (by omega) (by omega) (hM33) (hF33) (xro33) (xl99) hN (lv_sub hl [2, 3, 4, 5, 6, 0] rfl)
                      ·
                        refine lv_iload (pc := 201) F.1 F.2.1 dX7_outcomesOf_201 (lv_at hl 8 rfl) ?_
                        refine mm_if_eq (pc := 203) F (tgt := 216) (by omega) dX7_outcomesOf_203 (by decide) (fun cz203 => ?_) (fun cz203 => ?_)
                        ·
                          refine lv_aload_n (pc := 216) F.1 F.2.1 dX7_outcomesOf_216 rfl (lv_at hl 4 rfl) ?_
                          refine lv_iconst (pc := 217) (v := nI 0) F.1 F.2.1 dX7_outcomesOf_217 (by decide) ?_
                          refine mm_iald (pc := 218) F hN (xli) (j := 0) (rfl) (by omega) (by decide) dX7_outcomesOf_218 ?_
                          refine W.eq (g2 := F0 m 219 ls [.int (nI ((mm_lf T t hh i).1))]) rfl ?_
                          refine lv_iload (pc := 219) F.1 F.2.1 dX7_outcomesOf_219 (lv_at hl 7 rfl) ?_
                          refine mm_icmp_lt (pc := 221) F (x := (mm_lf T t hh i).1) (y := mm_pgs T t (T.fl i)) (tgt := 231) (by omega) (by omega) dX7_outcomesOf_221 (by decide) (fun cz221 => ?_) (fun cz221 => ?_)
                          ·
                            refine lv_aload (pc := 231) F.1 F.2.1 dX7_outcomesOf_231 (lv_at hl 5 rfl) ?_
                            refine lv_iload (pc := 233) F.1 F.2.1 dX7_outcomesOf_233 (lv_at hl 6 rfl) ?_
                            refine lv_bipush (pc := 235) (v := nI 112) F.1 F.2.1 dX7_outcomesOf_235 (by decide) ?_
                            refine mm_cast_ (pc := 237) F hN (xqi) (j := i) (rfl) (by omega) (by decide) (by decide) dX7_outcomesOf_237 (fun H locs hN => ?_)
                            have ho8 : mm_obs T t hh i = 45 := by rw [mm_obs, if_neg (fun q => q cz129), if_neg (show ¬ (¬ (nI (T.sk (T.ho i)) < nI 2) ∧ mm_ends T (T.ho i) = false) from fun q => q.1 cz155), if_neg cz184, if_neg (fun q => by rw [if_pos q.2, cz203] at hsec; cases hsec)]
                            have hf8 : ¬ mm_fit (mm_lf T t hh i) (mm_pgs T t (T.fl i)) := fun q => by
                              obtain ⟨q1, q2⟩ := q
                              rw [if_pos (show 3 < mm_pgs T t (T.fl i) by omega)] at q2
                              omega
                            have hoc9 : 112 = mm_oc T t hh i := by rw [mm_oc, if_neg (fun q => q ho8), if_neg hf8]
                            have hl9 : mm_lf T t hh (i + 1) = (mm_lf T t hh i) := by rw [mm_lf, if_neg (fun q => hf8 q.2)]
                            have hN : mm_N b D s (mm_u σi ro (mm_ari 1 3 24 (va_up (fun b9 => nI (if b9 < i then mm_oc T t hh b9 else 0)) i (nI 112)))) _ _ := hN
                            obtain ⟨σ34, eσ34⟩ : ∃ q, q = mm_u σi ro (mm_ari 1 3 24 (va_up (fun b9 => nI (if b9 < i then mm_oc T t hh b9 else 0)) i (nI 112))) := ⟨_, rfl⟩
                            rw [← eσ34] at hN
                            have hM34 : mm_M σ34 T th rd := by rw [eσ34]; exact mm_M_off hMi noq
                            have hF34 : mm_Fr 1 σ σ34 := by rw [eσ34]; exact (hFi).tr (mm_Fr.u xqi)
                            have xro34 : σ34 ro = mm_ari 1 3 24 (fun b9 => nI (if b9 < (i + 1) then mm_oc T t hh b9 else 0)) := by rw [eσ34, mm_u_eq]; exact congrArg (mm_ari 1 3 24) (mm_row1 hoc9)
                            have xlf34 : σ34 lf = mm_ari 1 0 3 (fun b9 => nI (mm_l3 (mm_lf T t hh i) b9)) := by rw [eσ34]; exact (mm_u_ne (Ne.symm nql)).trans xli
                            refine lv_goto (pc := 238) (tgt := 264) F.1 F.2.1 dX7_outcomesOf_238 (by decide) ?_
                            refine lv_iinc (pc := 264) (v := nI (i + 1)) (lv' := [(5, .int (nI (i + 1))), (8, .int (nI 2)), (0, .ref ((rd 0 0))), (1, .int (nI t)), (2, .int (nI hh)), (3, .ref lf), (4, .ref ro), (6, .int (nI (mm_pgs T t (T.fl i)))), (7, .int (nI is))]) F.1 F.2.1 dX7_outcomesOf_264 hl (k := 6) rfl (by rw [← nI_add]; rfl) (by decide) rfl (fun ls hl => ?_)
                            refine lv_goto (pc := 267) (tgt := 9) F.1 F.2.1 dX7_outcomesOf_267 (by decide) ?_
                            have xl99 : σ34 lf = mm_ari 1 0 3 (fun b9 => nI (mm_l3 (mm_lf T t hh (i + 1)) b9)) := by rw [hl9]; exact xlf34
                            exact ih9 (i + 1) σ34 ls _ _ (by omega) (by omega) (hM34) (hF34) (xro34) (xl99) hN (lv_sub hl [2, 3, 4, 5, 6, 0] rfl)
                          ·
                            refine lv_aload_n (pc := 224) F.1 F.2.1 dX7_outcomesOf_224 rfl (lv_at hl 4 rfl) ?_
                            refine lv_iload (pc := 225) F.1 F.2.1 dX7_outcomesOf_225 (lv_at hl 0 rfl) ?_
                            refine mm_iald (pc := 227) F hN (xli) (j := 2) (rfl) (by omega) (by decide) dX7_outcomesOf_227 ?_
                            refine W.eq (g2 := F0 m 228 ls [.int (nI ((mm_lf T t hh i).2.2))]) rfl ?_
                            refine mm_if_ne (pc := 228) F (tgt := 241) (by omega) dX7_outcomesOf_228 (by decide) (fun cz228 => ?_) (fun cz228 => ?_)
                            ·
                              refine lv_aload (pc := 241) F.1 F.2.1 dX7_outcomesOf_241 (lv_at hl 5 rfl) ?_
                              refine lv_iload (pc := 243) F.1 F.2.1 dX7_outcomesOf_243 (lv_at hl 6 rfl) ?_
                              refine lv_bipush (pc := 245) (v := nI 108) F.1 F.2.1 dX7_outcomesOf_245 (by decide) ?_
                              refine mm_cast_ (pc := 247) F hN (xqi) (j := i) (rfl) (by omega) (by decide) (by decide) dX7_outcomesOf_247 (fun H locs hN => ?_)
                              have ho8 : mm_obs T t hh i = 45 := by rw [mm_obs, if_neg (fun q => q cz129), if_neg (show ¬ (¬ (nI (T.sk (T.ho i)) < nI 2) ∧ mm_ends T (T.ho i) = false) from fun q => q.1 cz155), if_neg cz184, if_neg (fun q => by rw [if_pos q.2, cz203] at hsec; cases hsec)]
                              have hf8 : mm_fit (mm_lf T t hh i) (mm_pgs T t (T.fl i)) := ⟨by omega, by rw [if_pos (show 3 < mm_pgs T t (T.fl i) by omega)]; omega⟩
                              have hoc9 : 108 = mm_oc T t hh i := by rw [mm_oc, if_neg (fun q => q ho8), if_pos hf8]
                              have hl9 : mm_lf T t hh (i + 1) = mm_tk (mm_lf T t hh i) (mm_pgs T t (T.fl i)) := by rw [mm_lf, if_pos ⟨ho8, hf8⟩]
                              have hN : mm_N b D s (mm_u σi ro (mm_ari 1 3 24 (va_up (fun b9 => nI (if b9 < i then mm_oc T t hh b9 else 0)) i (nI 108)))) _ _ := hN
                              obtain ⟨σ35, eσ35⟩ : ∃ q, q = mm_u σi ro (mm_ari 1 3 24 (va_up (fun b9 => nI (if b9 < i then mm_oc T t hh b9 else 0)) i (nI 108))) := ⟨_, rfl⟩
                              rw [← eσ35] at hN
                              have hM35 : mm_M σ35 T th rd := by rw [eσ35]; exact mm_M_off hMi noq
                              have hF35 : mm_Fr 1 σ σ35 := by rw [eσ35]; exact (hFi).tr (mm_Fr.u xqi)
                              have xro35 : σ35 ro = mm_ari 1 3 24 (fun b9 => nI (if b9 < (i + 1) then mm_oc T t hh b9 else 0)) := by rw [eσ35, mm_u_eq]; exact congrArg (mm_ari 1 3 24) (mm_row1 hoc9)
                              have xlf35 : σ35 lf = mm_ari 1 0 3 (fun b9 => nI (mm_l3 (mm_lf T t hh i) b9)) := by rw [eσ35]; exact (mm_u_ne (Ne.symm nql)).trans xli
                              refine lv_aload_n (pc := 248) F.1 F.2.1 dX7_outcomesOf_248 rfl (lv_at hl 4 rfl) ?_
                              refine lv_iconst (pc := 249) (v := nI 0) F.1 F.2.1 dX7_outcomesOf_249 (by decide) ?_
                              refine lv_dup2_11 (pc := 250) F.1 F.2.1 dX7_outcomesOf_250 rfl rfl ?_
                              refine mm_iald (pc := 251) F hN (xlf35) (j := 0) (rfl) (by omega) (by decide) dX7_outcomesOf_251 ?_
                              refine W.eq (g2 := F0 m 252 ls [.int (nI ((mm_lf T t hh i).1)), .int (nI 0), .ref lf]) rfl ?_
                              refine lv_iload (pc := 252) F.1 F.2.1 dX7_outcomesOf_252 (lv_at hl 7 rfl) ?_
                              refine mm_isub (pc := 254) F (z := nI (((mm_lf T t hh i).1) - (mm_pgs T t (T.fl i)))) (pk_sub (by omega)) dX7_outcomesOf_254 ?_
                              refine mm_iast (pc := 255) F hN (xlf35) (j := 0) (rfl) (by omega) (by decide) dX7_outcomesOf_255 (fun H locs hN => ?_)
                              have hN : mm_N b D s (mm_u σ35 lf (mm_ari 1 0 3 (va_up (fun b9 => nI (mm_l3 (mm_lf T t hh i) b9)) 0 (nI (((mm_lf T t hh i).1) - (mm_pgs T t (T.fl i))))))) _ _ := hN
                              obtain ⟨σ36, eσ36⟩ : ∃ q, q = mm_u σ35 lf (mm_ari 1 0 3 (va_up (fun b9 => nI (mm_l3 (mm_lf T t hh i) b9)) 0 (nI (((mm_lf T t hh i).1) - (mm_pgs T t (T.fl i)))))) := ⟨_, rfl⟩
                              rw [← eσ36] at hN
                              have hM36 : mm_M σ36 T th rd := by rw [eσ36]; exact mm_M_off hM35 nol
                              have hF36 : mm_Fr 1 σ σ36 := by rw [eσ36]; exact (hF35).tr (mm_Fr.u xlf35)
                              have xro36 : σ36 ro = mm_ari 1 3 24 (fun b9 => nI (if b9 < (i + 1) then mm_oc T t hh b9 else 0)) := by rw [eσ36]; exact (mm_u_ne nql).trans xro35
                              have xlf36 : σ36 lf = mm_ari 1 0 3 (fun b9 => nI (mm_l3 (((mm_lf T t hh i).1) - (mm_pgs T t (T.fl i)), (mm_lf T t hh i).2.1, (mm_lf T t hh i).2.2) b9)) := by rw [eσ36, mm_u_eq]; exact congrArg (mm_ari 1 0 3) (mm_l3u (l := ((mm_lf T t hh i).1, (mm_lf T t hh i).2.1, (mm_lf T t hh i).2.2)) (l' := (((mm_lf T t hh i).1) - (mm_pgs T t (T.fl i)), (mm_lf T t hh i).2.1, (mm_lf T t hh i).2.2)) rfl rfl rfl (by decide))
                              refine lv_aload_n (pc := 256) F.1 F.2.1 dX7_outcomesOf_256 rfl (lv_at hl 4 rfl) ?_
                              refine lv_iload (pc := 257) F.1 F.2.1 dX7_outcomesOf_257 (lv_at hl 0 rfl) ?_
                              refine lv_dup2_11 (pc := 259) F.1 F.2.1 dX7_outcomesOf_259 rfl rfl ?_
                              refine mm_iald (pc := 260) F hN (xlf36) (j := 2) (rfl) (by omega) (by decide) dX7_outcomesOf_260 ?_
                              refine W.eq (g2 := F0 m 261 ls [.int (nI ((mm_lf T t hh i).2.2)), .int (nI 2), .ref lf]) rfl ?_
                              refine lv_iconst (pc := 261) (v := nI 1) F.1 F.2.1 dX7_outcomesOf_261 (by decide) ?_
                              refine mm_isub (pc := 262) F (z := nI (((mm_lf T t hh i).2.2) - 1)) (pk_sub (by omega)) dX7_outcomesOf_262 ?_
                              refine mm_iast (pc := 263) F hN (xlf36) (j := 2) (rfl) (by omega) (by decide) dX7_outcomesOf_263 (fun H locs hN => ?_)
                              have hN : mm_N b D s (mm_u σ36 lf (mm_ari 1 0 3 (va_up (fun b9 => nI (mm_l3 (((mm_lf T t hh i).1) - (mm_pgs T t (T.fl i)), (mm_lf T t hh i).2.1, (mm_lf T t hh i).2.2) b9)) 2 (nI (((mm_lf T t hh i).2.2) - 1))))) _ _ := hN
                              obtain ⟨σ37, eσ37⟩ : ∃ q, q = mm_u σ36 lf (mm_ari 1 0 3 (va_up (fun b9 => nI (mm_l3 (((mm_lf T t hh i).1) - (mm_pgs T t (T.fl i)), (mm_lf T t hh i).2.1, (mm_lf T t hh i).2.2) b9)) 2 (nI (((mm_lf T t hh i).2.2) - 1)))) := ⟨_, rfl⟩
                              rw [← eσ37] at hN
                              have hM37 : mm_M σ37 T th rd := by rw [eσ37]; exact mm_M_off hM36 nol
                              have hF37 : mm_Fr 1 σ σ37 := by rw [eσ37]; exact (hF36).tr (mm_Fr.u xlf36)
                              have xro37 : σ37 ro = mm_ari 1 3 24 (fun b9 => nI (if b9 < (i + 1) then mm_oc T t hh b9 else 0)) := by rw [eσ37]; exact (mm_u_ne nql).trans xro36
                              have xlf37 : σ37 lf = mm_ari 1 0 3 (fun b9 => nI (mm_l3 (((mm_lf T t hh i).1) - (mm_pgs T t (T.fl i)), (mm_lf T t hh i).2.1, ((mm_lf T t hh i).2.2) - 1) b9)) := by rw [eσ37, mm_u_eq]; exact congrArg (mm_ari 1 0 3) (mm_l3u (l := (((mm_lf T t hh i).1) - (mm_pgs T t (T.fl i)), (mm_lf T t hh i).2.1, (mm_lf T t hh i).2.2)) (l' := (((mm_lf T t hh i).1) - (mm_pgs T t (T.fl i)), (mm_lf T t hh i).2.1, ((mm_lf T t hh i).2.2) - 1)) rfl rfl rfl (by decide))
                              refine lv_iinc (pc := 264) (v := nI (i + 1)) (lv' := [(5, .int (nI (i + 1))), (8, .int (nI 2)), (0, .ref ((rd 0 0))), (1, .int (nI t)), (2, .int (nI hh)), (3, .ref lf), (4, .ref ro), (6, .int (nI (mm_pgs T t (T.fl i)))), (7, .int (nI is))]) F.1 F.2.1 dX7_outcomesOf_264 hl (k := 6) rfl (by rw [← nI_add]; rfl) (by decide) rfl (fun ls hl => ?_)
                              refine lv_goto (pc := 267) (tgt := 9) F.1 F.2.1 dX7_outcomesOf_267 (by decide) ?_
                              have xl99 : σ37 lf = mm_ari 1 0 3 (fun b9 => nI (mm_l3 (mm_lf T t hh (i + 1)) b9)) := by rw [hl9, mm_tk, if_pos (show 3 < mm_pgs T t (T.fl i) by omega), if_pos (show 3 < mm_pgs T t (T.fl i) by omega)]; exact xlf37
                              exact ih9 (i + 1) σ37 ls _ _ (by omega) (by omega) (hM37) (hF37) (xro37) (xl99) hN (lv_sub hl [2, 3, 4, 5, 6, 0] rfl)
                            ·
                              refine lv_aload (pc := 231) F.1 F.2.1 dX7_outcomesOf_231 (lv_at hl 5 rfl) ?_
                              refine lv_iload (pc := 233) F.1 F.2.1 dX7_outcomesOf_233 (lv_at hl 6 rfl) ?_
                              refine lv_bipush (pc := 235) (v := nI 112) F.1 F.2.1 dX7_outcomesOf_235 (by decide) ?_
                              refine mm_cast_ (pc := 237) F hN (xqi) (j := i) (rfl) (by omega) (by decide) (by decide) dX7_outcomesOf_237 (fun H locs hN => ?_)
                              have ho8 : mm_obs T t hh i = 45 := by rw [mm_obs, if_neg (fun q => q cz129), if_neg (show ¬ (¬ (nI (T.sk (T.ho i)) < nI 2) ∧ mm_ends T (T.ho i) = false) from fun q => q.1 cz155), if_neg cz184, if_neg (fun q => by rw [if_pos q.2, cz203] at hsec; cases hsec)]
                              have hf8 : ¬ mm_fit (mm_lf T t hh i) (mm_pgs T t (T.fl i)) := fun q => by
                                obtain ⟨q1, q2⟩ := q
                                rw [if_pos (show 3 < mm_pgs T t (T.fl i) by omega)] at q2
                                omega
                              have hoc9 : 112 = mm_oc T t hh i := by rw [mm_oc, if_neg (fun q => q ho8), if_neg hf8]
                              have hl9 : mm_lf T t hh (i + 1) = (mm_lf T t hh i) := by rw [mm_lf, if_neg (fun q => hf8 q.2)]
                              have hN : mm_N b D s (mm_u σi ro (mm_ari 1 3 24 (va_up (fun b9 => nI (if b9 < i then mm_oc T t hh b9 else 0)) i (nI 112)))) _ _ := hN
                              obtain ⟨σ38, eσ38⟩ : ∃ q, q = mm_u σi ro (mm_ari 1 3 24 (va_up (fun b9 => nI (if b9 < i then mm_oc T t hh b9 else 0)) i (nI 112))) := ⟨_, rfl⟩
                              rw [← eσ38] at hN
                              have hM38 : mm_M σ38 T th rd := by rw [eσ38]; exact mm_M_off hMi noq
                              have hF38 : mm_Fr 1 σ σ38 := by rw [eσ38]; exact (hFi).tr (mm_Fr.u xqi)
                              have xro38 : σ38 ro = mm_ari 1 3 24 (fun b9 => nI (if b9 < (i + 1) then mm_oc T t hh b9 else 0)) := by rw [eσ38, mm_u_eq]; exact congrArg (mm_ari 1 3 24) (mm_row1 hoc9)
                              have xlf38 : σ38 lf = mm_ari 1 0 3 (fun b9 => nI (mm_l3 (mm_lf T t hh i) b9)) := by rw [eσ38]; exact (mm_u_ne (Ne.symm nql)).trans xli
                              refine lv_goto (pc := 238) (tgt := 264) F.1 F.2.1 dX7_outcomesOf_238 (by decide) ?_
                              refine lv_iinc (pc := 264) (v := nI (i + 1)) (lv' := [(5, .int (nI (i + 1))), (8, .int (nI 2)), (0, .ref ((rd 0 0))), (1, .int (nI t)), (2, .int (nI hh)), (3, .ref lf), (4, .ref ro), (6, .int (nI (mm_pgs T t (T.fl i)))), (7, .int (nI is))]) F.1 F.2.1 dX7_outcomesOf_264 hl (k := 6) rfl (by rw [← nI_add]; rfl) (by decide) rfl (fun ls hl => ?_)
                              refine lv_goto (pc := 267) (tgt := 9) F.1 F.2.1 dX7_outcomesOf_267 (by decide) ?_
                              have xl99 : σ38 lf = mm_ari 1 0 3 (fun b9 => nI (mm_l3 (mm_lf T t hh (i + 1)) b9)) := by rw [hl9]; exact xlf38
                              exact ih9 (i + 1) σ38 ls _ _ (by omega) (by omega) (hM38) (hF38) (xro38) (xl99) hN (lv_sub hl [2, 3, 4, 5, 6, 0] rfl)
                        ·
                          refine lv_aload (pc := 206) F.1 F.2.1 dX7_outcomesOf_206 (lv_at hl 5 rfl) ?_
                          refine lv_iload (pc := 208) F.1 F.2.1 dX7_outcomesOf_208 (lv_at hl 6 rfl) ?_
                          refine lv_bipush (pc := 210) (v := nI 104) F.1 F.2.1 dX7_outcomesOf_210 (by decide) ?_
                          refine mm_cast_ (pc := 212) F hN (xqi) (j := i) (rfl) (by omega) (by decide) (by decide) dX7_outcomesOf_212 (fun H locs hN => ?_)
                          have ho8 : mm_obs T t hh i = 104 := by rw [mm_obs, if_neg (fun q => q cz129), if_neg (show ¬ (¬ (nI (T.sk (T.ho i)) < nI 2) ∧ mm_ends T (T.ho i) = false) from fun q => q.1 cz155), if_neg cz184, if_pos ⟨cz198, by by_cases h9 : mm_sec T t i = true; exact h9; rw [if_neg h9] at hsec; exact absurd hsec cz203⟩]
                          have hoc9 : 104 = mm_oc T t hh i := by rw [mm_oc, if_pos (by rw [ho8]; decide), ho8]
                          have hl9 : mm_lf T t hh (i + 1) = (mm_lf T t hh i) := by rw [mm_lf, if_neg (fun q => by rw [ho8] at q; exact absurd q.1 (by decide))]
                          have hN : mm_N b D s (mm_u σi ro (mm_ari 1 3 24 (va_up (fun b9 => nI (if b9 < i then mm_oc T t hh b9 else 0)) i (nI 104)))) _ _ := hN
                          obtain ⟨σ39, eσ39⟩ : ∃ q, q = mm_u σi ro (mm_ari 1 3 24 (va_up (fun b9 => nI (if b9 < i then mm_oc T t hh b9 else 0)) i (nI 104))) := ⟨_, rfl⟩
                          rw [← eσ39] at hN
                          have hM39 : mm_M σ39 T th rd := by rw [eσ39]; exact mm_M_off hMi noq
                          have hF39 : mm_Fr 1 σ σ39 := by rw [eσ39]; exact (hFi).tr (mm_Fr.u xqi)
                          have xro39 : σ39 ro = mm_ari 1 3 24 (fun b9 => nI (if b9 < (i + 1) then mm_oc T t hh b9 else 0)) := by rw [eσ39, mm_u_eq]; exact congrArg (mm_ari 1 3 24) (mm_row1 hoc9)
                          have xlf39 : σ39 lf = mm_ari 1 0 3 (fun b9 => nI (mm_l3 (mm_lf T t hh i) b9)) := by rw [eσ39]; exact (mm_u_ne (Ne.symm nql)).trans xli
                          refine lv_goto (pc := 213) (tgt := 264) F.1 F.2.1 dX7_outcomesOf_213 (by decide) ?_
                          refine lv_iinc (pc := 264) (v := nI (i + 1)) (lv' := [(5, .int (nI (i + 1))), (8, .int (nI 2)), (0, .ref ((rd 0 0))), (1, .int (nI t)), (2, .int (nI hh)), (3, .ref lf), (4, .ref ro), (6, .int (nI (mm_pgs T t (T.fl i)))), (7, .int (nI is))]) F.1 F.2.1 dX7_outcomesOf_264 hl (k := 6) rfl (by rw [← nI_add]; rfl) (by decide) rfl (fun ls hl => ?_)
                          refine lv_goto (pc := 267) (tgt := 9) F.1 F.2.1 dX7_outcomesOf_267 (by decide) ?_
                          have xl99 : σ39 lf = mm_ari 1 0 3 (fun b9 => nI (mm_l3 (mm_lf T t hh (i + 1)) b9)) := by rw [hl9]; exact xlf39
                          exact ih9 (i + 1) σ39 ls _ _ (by omega) (by omega) (hM39) (hF39) (xro39) (xl99) hN (lv_sub hl [2, 3, 4, 5, 6, 0] rfl)
                    ·
                      refine lv_aload (pc := 187) F.1 F.2.1 dX7_outcomesOf_187 (lv_at hl 5 rfl) ?_
                      refine lv_iload (pc := 189) F.1 F.2.1 dX7_outcomesOf_189 (lv_at hl 6 rfl) ?_
                      refine lv_bipush (pc := 191) (v := nI 101) F.1 F.2.1 dX7_outcomesOf_191 (by decide) ?_
                      refine mm_cast_ (pc := 193) F hN (xqi) (j := i) (rfl) (by omega) (by decide) (by decide) dX7_outcomesOf_193 (fun H locs hN => ?_)
                      have ho8 : mm_obs T t hh i = 101 := by rw [mm_obs, if_neg (fun q => q cz129), if_neg (show ¬ (¬ (nI (T.sk (T.ho i)) < nI 2) ∧ mm_ends T (T.ho i) = false) from fun q => q.1 cz155), if_pos cz184]
                      have hoc9 : 101 = mm_oc T t hh i := by rw [mm_oc, if_pos (by rw [ho8]; decide), ho8]
                      have hl9 : mm_lf T t hh (i + 1) = (mm_lf T t hh i) := by rw [mm_lf, if_neg (fun q => by rw [ho8] at q; exact absurd q.1 (by decide))]
                      have hN : mm_N b D s (mm_u σi ro (mm_ari 1 3 24 (va_up (fun b9 => nI (if b9 < i then mm_oc T t hh b9 else 0)) i (nI 101)))) _ _ := hN
                      obtain ⟨σ40, eσ40⟩ : ∃ q, q = mm_u σi ro (mm_ari 1 3 24 (va_up (fun b9 => nI (if b9 < i then mm_oc T t hh b9 else 0)) i (nI 101))) := ⟨_, rfl⟩
                      rw [← eσ40] at hN
                      have hM40 : mm_M σ40 T th rd := by rw [eσ40]; exact mm_M_off hMi noq
                      have hF40 : mm_Fr 1 σ σ40 := by rw [eσ40]; exact (hFi).tr (mm_Fr.u xqi)
                      have xro40 : σ40 ro = mm_ari 1 3 24 (fun b9 => nI (if b9 < (i + 1) then mm_oc T t hh b9 else 0)) := by rw [eσ40, mm_u_eq]; exact congrArg (mm_ari 1 3 24) (mm_row1 hoc9)
                      have xlf40 : σ40 lf = mm_ari 1 0 3 (fun b9 => nI (mm_l3 (mm_lf T t hh i) b9)) := by rw [eσ40]; exact (mm_u_ne (Ne.symm nql)).trans xli
                      refine lv_goto (pc := 194) (tgt := 264) F.1 F.2.1 dX7_outcomesOf_194 (by decide) ?_
                      refine lv_iinc (pc := 264) (v := nI (i + 1)) (lv' := [(5, .int (nI (i + 1))), (8, .int (nI 2)), (0, .ref ((rd 0 0))), (1, .int (nI t)), (2, .int (nI hh)), (3, .ref lf), (4, .ref ro), (6, .int (nI (mm_pgs T t (T.fl i)))), (7, .int (nI is))]) F.1 F.2.1 dX7_outcomesOf_264 hl (k := 6) rfl (by rw [← nI_add]; rfl) (by decide) rfl (fun ls hl => ?_)
                      refine lv_goto (pc := 267) (tgt := 9) F.1 F.2.1 dX7_outcomesOf_267 (by decide) ?_
                      have xl99 : σ40 lf = mm_ari 1 0 3 (fun b9 => nI (mm_l3 (mm_lf T t hh (i + 1)) b9)) := by rw [hl9]; exact xlf40
                      exact ih9 (i + 1) σ40 ls _ _ (by omega) (by omega) (hM40) (hF40) (xro40) (xl99) hN (lv_sub hl [2, 3, 4, 5, 6, 0] rfl)
                  ·
                    refine lv_aload_n (pc := 158) F.1 F.2.1 dX7_outcomesOf_158 rfl (lv_at hl 1 rfl) ?_
                    refine lv_aload_n (pc := 159) F.1 F.2.1 dX7_outcomesOf_159 rfl (lv_at hl 1 rfl) ?_
                    refine mm_get (pc := 160) F hN ((show σi (rd 0 0) = mm_obj 1 7 [.ref ((rd 1 0)), .ref ((rd 2 0)), .ref ((rd 3 0)), .int (nI T.nA), .ref ((rd 4 0)), .ref ((rd 5 0)), .ref ((rd 6 0)), .int (nI T.nP), .ref ((rd 7 0)), .ref ((rd 8 0)), .ref ((rd 9 0)), .ref ((rd 10 0)), .ref ((rd 11 0)), .int (nI T.nT), .int (nI T.pa), .ref ((rd 12 0)), .int (nI T.bo), .ref ((rd 13 0)), .ref ((rd 14 0)), .ref ((rd 15 0)), .ref ((rd 16 0)), .ref ((rd 17 0)), .ref ((rd 18 0)), .ref ((rd 19 0)), .int (nI T.nR), .int (nI th)] from mm_r0 (T := T) hMi)) (ci := 7) rfl 4 (by decide) mw_1183 rfl dX7_outcomesOf_160 ?_
                    refine lv_iload (pc := 163) F.1 F.2.1 dX7_outcomesOf_163 (lv_at hl 6 rfl) ?_
                    refine mm_iald (pc := 165) F hN ((show σi (rd 4 0) = mm_ari 1 0 24 (fun b9 => nI (T.ho b9)) from mm_r4 (T := T) hMi)) (j := i) (rfl) (by omega) (by decide) dX7_outcomesOf_165 ?_
                    refine mm_runV (pc := 166) (As := [.int (nI (T.ho i))]) (rest := []) F hN (c_ends l b D hst T th rd σi hMi (T.ho i) (by omega) wnR (fun h => ⟨by have := (hW.hru (T.nR - 1) (by omega)).1; omega, fun p9 hp9 => ⟨((hW.hru (T.nR - 1) (by omega)).2.2.2 p9 hp9).1, ((hW.hru (T.nR - 1) (by omega)).2.2.2 p9 hp9).2.2.2.2.1, by have := (hW.hpe p9 (by have := (hW.hru (T.nR - 1) (by omega)).1; omega)).1; omega⟩⟩)) mw_1367 mw_1369 mw_p31 mw_6 mw_1370 ⟨pmX7_ends, (Nat.le_of_ble_eq_true rfl), (Nat.le_of_ble_eq_true rfl)⟩ (mm_recv F.2.2.2.2.2.1 hN ((show σi (rd 0 0) = mm_obj 1 7 [.ref ((rd 1 0)), .ref ((rd 2 0)), .ref ((rd 3 0)), .int (nI T.nA), .ref ((rd 4 0)), .ref ((rd 5 0)), .ref ((rd 6 0)), .int (nI T.nP), .ref ((rd 7 0)), .ref ((rd 8 0)), .ref ((rd 9 0)), .ref ((rd 10 0)), .ref ((rd 11 0)), .int (nI T.nT), .int (nI T.pa), .ref ((rd 12 0)), .int (nI T.bo), .ref ((rd 13 0)), .ref ((rd 14 0)), .ref ((rd 15 0)), .ref ((rd 16 0)), .ref ((rd 17 0)), .ref ((rd 18 0)), .ref ((rd 19 0)), .int (nI T.nR), .int (nI th)] from mm_r0 (T := T) hMi)) rfl) hl.1 rfl (Nat.le_of_ble_eq_true rfl) ⟨(Nat.le_of_ble_eq_true rfl), (Nat.le_of_ble_eq_true rfl)⟩ dX7_outcomesOf_166
                      (fun _ _ _ _ _ _ h9 => False.elim h9)
                      (fun v9 σ9 H locs hp9 hN => ?_)
                    obtain ⟨rfl, h9⟩ := hp9
                    rw [h9] at hN
                    refine W.eq (g2 := F0 m 169 ls [.int (nI (if mm_ends T (T.ho i) = true then 1 else 0))]) rfl ?_
                    refine W.widen (k := 1) (n := 24) (Nat.le_of_ble_eq_true rfl) (Nat.le_of_ble_eq_true rfl) ?_
                    by_cases hen9 : mm_ends T (T.ho i) = true
                    ·
                      refine W.eq (g2 := F0 m 169 ls [.int (nI 1)]) (by rw [if_pos hen9]) ?_
                      refine mm_if_ne (pc := 169) F (tgt := 182) (by omega) dX7_outcomesOf_169 (by decide) (fun cz169 => ?_) (fun h9 => absurd h9 (by decide))
                      refine lv_iload (pc := 182) F.1 F.2.1 dX7_outcomesOf_182 (lv_at hl 7 rfl) ?_
                      refine mm_if_ne (pc := 184) F (tgt := 197) (by omega) dX7_outcomesOf_184 (by decide) (fun cz184 => ?_) (fun cz184 => ?_)
                      ·
                        refine lv_iload_n (pc := 197) F.1 F.2.1 dX7_outcomesOf_197 rfl (lv_at hl 3 rfl) ?_
                        refine mm_if_eq (pc := 198) F (tgt := 216) (by omega) dX7_outcomesOf_198 (by decide) (fun cz198 => ?_) (fun cz198 => ?_)
                        ·
                          refine lv_aload_n (pc := 216) F.1 F.2.1 dX7_outcomesOf_216 rfl (lv_at hl 4 rfl) ?_
                          refine lv_iconst (pc := 217) (v := nI 0) F.1 F.2.1 dX7_outcomesOf_217 (by decide) ?_
                          refine mm_iald (pc := 218) F hN (xli) (j := 0) (rfl) (by omega) (by decide) dX7_outcomesOf_218 ?_
                          refine W.eq (g2 := F0 m 219 ls [.int (nI ((mm_lf T t hh i).1))]) rfl ?_
                          refine lv_iload (pc := 219) F.1 F.2.1 dX7_outcomesOf_219 (lv_at hl 7 rfl) ?_
                          refine mm_icmp_lt (pc := 221) F (x := (mm_lf T t hh i).1) (y := mm_pgs T t (T.fl i)) (tgt := 231) (by omega) (by omega) dX7_outcomesOf_221 (by decide) (fun cz221 => ?_) (fun cz221 => ?_)
                          ·
                            refine lv_aload (pc := 231) F.1 F.2.1 dX7_outcomesOf_231 (lv_at hl 5 rfl) ?_
                            refine lv_iload (pc := 233) F.1 F.2.1 dX7_outcomesOf_233 (lv_at hl 6 rfl) ?_
                            refine lv_bipush (pc := 235) (v := nI 112) F.1 F.2.1 dX7_outcomesOf_235 (by decide) ?_
                            refine mm_cast_ (pc := 237) F hN (xqi) (j := i) (rfl) (by omega) (by decide) (by decide) dX7_outcomesOf_237 (fun H locs hN => ?_)
                            have ho8 : mm_obs T t hh i = 45 := by rw [mm_obs, if_neg (fun q => q cz129), if_neg (show ¬ (¬ (nI (T.sk (T.ho i)) < nI 2) ∧ mm_ends T (T.ho i) = false) from fun q => by rw [q.2] at hen9; cases hen9), if_neg cz184, if_neg (fun q => q.1 cz198)]
                            have hf8 : ¬ mm_fit (mm_lf T t hh i) (mm_pgs T t (T.fl i)) := fun q => by
                              obtain ⟨q1, q2⟩ := q
                              rw [if_pos (show 3 < mm_pgs T t (T.fl i) by omega)] at q2
                              omega
                            have hoc9 : 112 = mm_oc T t hh i := by rw [mm_oc, if_neg (fun q => q ho8), if_neg hf8]
                            have hl9 : mm_lf T t hh (i + 1) = (mm_lf T t hh i) := by rw [mm_lf, if_neg (fun q => hf8 q.2)]
                            have hN : mm_N b D s (mm_u σi ro (mm_ari 1 3 24 (va_up (fun b9 => nI (if b9 < i then mm_oc T t hh b9 else 0)) i (nI 112)))) _ _ := hN
                            obtain ⟨σ41, eσ41⟩ : ∃ q, q = mm_u σi ro (mm_ari 1 3 24 (va_up (fun b9 => nI (if b9 < i then mm_oc T t hh b9 else 0)) i (nI 112))) := ⟨_, rfl⟩
                            rw [← eσ41] at hN
                            have hM41 : mm_M σ41 T th rd := by rw [eσ41]; exact mm_M_off hMi noq
                            have hF41 : mm_Fr 1 σ σ41 := by rw [eσ41]; exact (hFi).tr (mm_Fr.u xqi)
                            have xro41 : σ41 ro = mm_ari 1 3 24 (fun b9 => nI (if b9 < (i + 1) then mm_oc T t hh b9 else 0)) := by rw [eσ41, mm_u_eq]; exact congrArg (mm_ari 1 3 24) (mm_row1 hoc9)
                            have xlf41 : σ41 lf = mm_ari 1 0 3 (fun b9 => nI (mm_l3 (mm_lf T t hh i) b9)) := by rw [eσ41]; exact (mm_u_ne (Ne.symm nql)).trans xli
                            refine lv_goto (pc := 238) (tgt := 264) F.1 F.2.1 dX7_outcomesOf_238 (by decide) ?_
                            refine lv_iinc (pc := 264) (v := nI (i + 1)) (lv' := [(5, .int (nI (i + 1))), (8, .int (nI 2)), (0, .ref ((rd 0 0))), (1, .int (nI t)), (2, .int (nI hh)), (3, .ref lf), (4, .ref ro), (6, .int (nI (mm_pgs T t (T.fl i)))), (7, .int (nI is))]) F.1 F.2.1 dX7_outcomesOf_264 hl (k := 6) rfl (by rw [← nI_add]; rfl) (by decide) rfl (fun ls hl => ?_)
                            refine lv_goto (pc := 267) (tgt := 9) F.1 F.2.1 dX7_outcomesOf_267 (by decide) ?_
                            have xl99 : σ41 lf = mm_ari 1 0 3 (fun b9 => nI (mm_l3 (mm_lf T t hh (i + 1)) b9)) := by rw [hl9]; exact xlf41
                            exact ih9 (i + 1) σ41 ls _ _ (by omega) (by omega) (hM41) (hF41) (xro41) (xl99) hN (lv_sub hl [2, 3, 4, 5, 6, 0] rfl)
                          ·
                            refine lv_aload_n (pc := 224) F.1 F.2.1 dX7_outcomesOf_224 rfl (lv_at hl 4 rfl) ?_
                            refine lv_iload (pc := 225) F.1 F.2.1 dX7_outcomesOf_225 (lv_at hl 0 rfl) ?_
                            refine mm_iald (pc := 227) F hN (xli) (j := 2) (rfl) (by omega) (by decide) dX7_outcomesOf_227 ?_
                            refine W.eq (g2 := F0 m 228 ls [.int (nI ((mm_lf T t hh i).2.2))]) rfl ?_
                            refine mm_if_ne (pc := 228) F (tgt := 241) (by omega) dX7_outcomesOf_228 (by decide) (fun cz228 => ?_) (fun cz228 => ?_)
                            ·
                              refine lv_aload (pc := 241) F.1 F.2.1 dX7_outcomesOf_241 (lv_at hl 5 rfl) ?_
                              refine lv_iload (pc := 243) F.1 F.2.1 dX7_outcomesOf_243 (lv_at hl 6 rfl) ?_
                              refine lv_bipush (pc := 245) (v := nI 108) F.1 F.2.1 dX7_outcomesOf_245 (by decide) ?_
                              refine mm_cast_ (pc := 247) F hN (xqi) (j := i) (rfl) (by omega) (by decide) (by decide) dX7_outcomesOf_247 (fun H locs hN => ?_)
                              have ho8 : mm_obs T t hh i = 45 := by rw [mm_obs, if_neg (fun q => q cz129), if_neg (show ¬ (¬ (nI (T.sk (T.ho i)) < nI 2) ∧ mm_ends T (T.ho i) = false) from fun q => by rw [q.2] at hen9; cases hen9), if_neg cz184, if_neg (fun q => q.1 cz198)]
                              have hf8 : mm_fit (mm_lf T t hh i) (mm_pgs T t (T.fl i)) := ⟨by omega, by rw [if_pos (show 3 < mm_pgs T t (T.fl i) by omega)]; omega⟩
                              have hoc9 : 108 = mm_oc T t hh i := by rw [mm_oc, if_neg (fun q => q ho8), if_pos hf8]
                              have hl9 : mm_lf T t hh (i + 1) = mm_tk (mm_lf T t hh i) (mm_pgs T t (T.fl i)) := by rw [mm_lf, if_pos ⟨ho8, hf8⟩]
                              have hN : mm_N b D s (mm_u σi ro (mm_ari 1 3 24 (va_up (fun b9 => nI (if b9 < i then mm_oc T t hh b9 else 0)) i (nI 108)))) _ _ := hN
                              obtain ⟨σ42, eσ42⟩ : ∃ q, q = mm_u σi ro (mm_ari 1 3 24 (va_up (fun b9 => nI (if b9 < i then mm_oc T t hh b9 else 0)) i (nI 108))) := ⟨_, rfl⟩
                              rw [← eσ42] at hN
                              have hM42 : mm_M σ42 T th rd := by rw [eσ42]; exact mm_M_off hMi noq
                              have hF42 : mm_Fr 1 σ σ42 := by rw [eσ42]; exact (hFi).tr (mm_Fr.u xqi)
                              have xro42 : σ42 ro = mm_ari 1 3 24 (fun b9 => nI (if b9 < (i + 1) then mm_oc T t hh b9 else 0)) := by rw [eσ42, mm_u_eq]; exact congrArg (mm_ari 1 3 24) (mm_row1 hoc9)
                              have xlf42 : σ42 lf = mm_ari 1 0 3 (fun b9 => nI (mm_l3 (mm_lf T t hh i) b9)) := by rw [eσ42]; exact (mm_u_ne (Ne.symm nql)).trans xli
                              refine lv_aload_n (pc := 248) F.1 F.2.1 dX7_outcomesOf_248 rfl (lv_at hl 4 rfl) ?_
                              refine lv_iconst (pc := 249) (v := nI 0) F.1 F.2.1 dX7_outcomesOf_249 (by decide) ?_
                              refine lv_dup2_11 (pc := 250) F.1 F.2.1 dX7_outcomesOf_250 rfl rfl ?_
                              refine mm_iald (pc := 251) F hN (xlf42) (j := 0) (rfl) (by omega) (by decide) dX7_outcomesOf_251 ?_
                              refine W.eq (g2 := F0 m 252 ls [.int (nI ((mm_lf T t hh i).1)), .int (nI 0), .ref lf]) rfl ?_
                              refine lv_iload (pc := 252) F.1 F.2.1 dX7_outcomesOf_252 (lv_at hl 7 rfl) ?_
                              refine mm_isub (pc := 254) F (z := nI (((mm_lf T t hh i).1) - (mm_pgs T t (T.fl i)))) (pk_sub (by omega)) dX7_outcomesOf_254 ?_
                              refine mm_iast (pc := 255) F hN (xlf42) (j := 0) (rfl) (by omega) (by decide) dX7_outcomesOf_255 (fun H locs hN => ?_)
                              have hN : mm_N b D s (mm_u σ42 lf (mm_ari 1 0 3 (va_up (fun b9 => nI (mm_l3 (mm_lf T t hh i) b9)) 0 (nI (((mm_lf T t hh i).1) - (mm_pgs T t (T.fl i))))))) _ _ := hN
                              obtain ⟨σ43, eσ43⟩ : ∃ q, q = mm_u σ42 lf (mm_ari 1 0 3 (va_up (fun b9 => nI (mm_l3 (mm_lf T t hh i) b9)) 0 (nI (((mm_lf T t hh i).1) - (mm_pgs T t (T.fl i)))))) := ⟨_, rfl⟩
                              rw [← eσ43] at hN
                              have hM43 : mm_M σ43 T th rd := by rw [eσ43]; exact mm_M_off hM42 nol
                              have hF43 : mm_Fr 1 σ σ43 := by rw [eσ43]; exact (hF42).tr (mm_Fr.u xlf42)
                              have xro43 : σ43 ro = mm_ari 1 3 24 (fun b9 => nI (if b9 < (i + 1) then mm_oc T t hh b9 else 0)) := by rw [eσ43]; exact (mm_u_ne nql).trans xro42
                              have xlf43 : σ43 lf = mm_ari 1 0 3 (fun b9 => nI (mm_l3 (((mm_lf T t hh i).1) - (mm_pgs T t (T.fl i)), (mm_lf T t hh i).2.1, (mm_lf T t hh i).2.2) b9)) := by rw [eσ43, mm_u_eq]; exact congrArg (mm_ari 1 0 3) (mm_l3u (l := ((mm_lf T t hh i).1, (mm_lf T t hh i).2.1, (mm_lf T t hh i).2.2)) (l' := (((mm_lf T t hh i).1) - (mm_pgs T t (T.fl i)), (mm_lf T t hh i).2.1, (mm_lf T t hh i).2.2)) rfl rfl rfl (by decide))
                              refine lv_aload_n (pc := 256) F.1 F.2.1 dX7_outcomesOf_256 rfl (lv_at hl 4 rfl) ?_
                              refine lv_iload (pc := 257) F.1 F.2.1 dX7_outcomesOf_257 (lv_at hl 0 rfl) ?_
                              refine lv_dup2_11 (pc := 259) F.1 F.2.1 dX7_outcomesOf_259 rfl rfl ?_
                              refine mm_iald (pc := 260) F hN (xlf43) (j := 2) (rfl) (by omega) (by decide) dX7_outcomesOf_260 ?_
                              refine W.eq (g2 := F0 m 261 ls [.int (nI ((mm_lf T t hh i).2.2)), .int (nI 2), .ref lf]) rfl ?_
                              refine lv_iconst (pc := 261) (v := nI 1) F.1 F.2.1 dX7_outcomesOf_261 (by decide) ?_
                              refine mm_isub (pc := 262) F (z := nI (((mm_lf T t hh i).2.2) - 1)) (pk_sub (by omega)) dX7_outcomesOf_262 ?_
                              refine mm_iast (pc := 263) F hN (xlf43) (j := 2) (rfl) (by omega) (by decide) dX7_outcomesOf_263 (fun H locs hN => ?_)
                              have hN : mm_N b D s (mm_u σ43 lf (mm_ari 1 0 3 (va_up (fun b9 => nI (mm_l3 (((mm_lf T t hh i).1) - (mm_pgs T t (T.fl i)), (mm_lf T t hh i).2.1, (mm_lf T t hh i).2.2) b9)) 2 (nI (((mm_lf T t hh i).2.2) - 1))))) _ _ := hN
                              obtain ⟨σ44, eσ44⟩ : ∃ q, q = mm_u σ43 lf (mm_ari 1 0 3 (va_up (fun b9 => nI (mm_l3 (((mm_lf T t hh i).1) - (mm_pgs T t (T.fl i)), (mm_lf T t hh i).2.1, (mm_lf T t hh i).2.2) b9)) 2 (nI (((mm_lf T t hh i).2.2) - 1)))) := ⟨_, rfl⟩
                              rw [← eσ44] at hN
                              have hM44 : mm_M σ44 T th rd := by rw [eσ44]; exact mm_M_off hM43 nol
                              have hF44 : mm_Fr 1 σ σ44 := by rw [eσ44]; exact (hF43).tr (mm_Fr.u xlf43)
                              have xro44 : σ44 ro = mm_ari 1 3 24 (fun b9 => nI (if b9 < (i + 1) then mm_oc T t hh b9 else 0)) := by rw [eσ44]; exact (mm_u_ne nql).trans xro43
                              have xlf44 : σ44 lf = mm_ari 1 0 3 (fun b9 => nI (mm_l3 (((mm_lf T t hh i).1) - (mm_pgs T t (T.fl i)), (mm_lf T t hh i).2.1, ((mm_lf T t hh i).2.2) - 1) b9)) := by rw [eσ44, mm_u_eq]; exact congrArg (mm_ari 1 0 3) (mm_l3u (l := (((mm_lf T t hh i).1) - (mm_pgs T t (T.fl i)), (mm_lf T t hh i).2.1, (mm_lf T t hh i).2.2)) (l' := (((mm_lf T t hh i).1) - (mm_pgs T t (T.fl i)), (mm_lf T t hh i).2.1, ((mm_lf T t hh i).2.2) - 1)) rfl rfl rfl (by decide))
                              refine lv_iinc (pc := 264) (v := nI (i + 1)) (lv' := [(5, .int (nI (i + 1))), (8, .int (nI 2)), (0, .ref ((rd 0 0))), (1, .int (nI t)), (2, .int (nI hh)), (3, .ref lf), (4, .ref ro), (6, .int (nI (mm_pgs T t (T.fl i)))), (7, .int (nI is))]) F.1 F.2.1 dX7_outcomesOf_264 hl (k := 6) rfl (by rw [← nI_add]; rfl) (by decide) rfl (fun ls hl => ?_)
                              refine lv_goto (pc := 267) (tgt := 9) F.1 F.2.1 dX7_outcomesOf_267 (by decide) ?_
                              have xl99 : σ44 lf = mm_ari 1 0 3 (fun b9 => nI (mm_l3 (mm_lf T t hh (i + 1)) b9)) := by rw [hl9, mm_tk, if_pos (show 3 < mm_pgs T t (T.fl i) by omega), if_pos (show 3 < mm_pgs T t (T.fl i) by omega)]; exact xlf44
                              exact ih9 (i + 1) σ44 ls _ _ (by omega) (by omega) (hM44) (hF44) (xro44) (xl99) hN (lv_sub hl [2, 3, 4, 5, 6, 0] rfl)
                            ·
                              refine lv_aload (pc := 231) F.1 F.2.1 dX7_outcomesOf_231 (lv_at hl 5 rfl) ?_
                              refine lv_iload (pc := 233) F.1 F.2.1 dX7_outcomesOf_233 (lv_at hl 6 rfl) ?_
                              refine lv_bipush (pc := 235) (v := nI 112) F.1 F.2.1 dX7_outcomesOf_235 (by decide) ?_
                              refine mm_cast_ (pc := 237) F hN (xqi) (j := i) (rfl) (by omega) (by decide) (by decide) dX7_outcomesOf_237 (fun H locs hN => ?_)
                              have ho8 : mm_obs T t hh i = 45 := by rw [mm_obs, if_neg (fun q => q cz129), if_neg (show ¬ (¬ (nI (T.sk (T.ho i)) < nI 2) ∧ mm_ends T (T.ho i) = false) from fun q => by rw [q.2] at hen9; cases hen9), if_neg cz184, if_neg (fun q => q.1 cz198)]
                              have hf8 : ¬ mm_fit (mm_lf T t hh i) (mm_pgs T t (T.fl i)) := fun q => by
                                obtain ⟨q1, q2⟩ := q
                                rw [if_pos (show 3 < mm_pgs T t (T.fl i) by omega)] at q2
                                omega
                              have hoc9 : 112 = mm_oc T t hh i := by rw [mm_oc, if_neg (fun q => q ho8), if_neg hf8]
                              have hl9 : mm_lf T t hh (i + 1) = (mm_lf T t hh i) := by rw [mm_lf, if_neg (fun q => hf8 q.2)]
                              have hN : mm_N b D s (mm_u σi ro (mm_ari 1 3 24 (va_up (fun b9 => nI (if b9 < i then mm_oc T t hh b9 else 0)) i (nI 112)))) _ _ := hN
                              obtain ⟨σ45, eσ45⟩ : ∃ q, q = mm_u σi ro (mm_ari 1 3 24 (va_up (fun b9 => nI (if b9 < i then mm_oc T t hh b9 else 0)) i (nI 112))) := ⟨_, rfl⟩
                              rw [← eσ45] at hN
                              have hM45 : mm_M σ45 T th rd := by rw [eσ45]; exact mm_M_off hMi noq
                              have hF45 : mm_Fr 1 σ σ45 := by rw [eσ45]; exact (hFi).tr (mm_Fr.u xqi)
                              have xro45 : σ45 ro = mm_ari 1 3 24 (fun b9 => nI (if b9 < (i + 1) then mm_oc T t hh b9 else 0)) := by rw [eσ45, mm_u_eq]; exact congrArg (mm_ari 1 3 24) (mm_row1 hoc9)
                              have xlf45 : σ45 lf = mm_ari 1 0 3 (fun b9 => nI (mm_l3 (mm_lf T t hh i) b9)) := by rw [eσ45]; exact (mm_u_ne (Ne.symm nql)).trans xli
                              refine lv_goto (pc := 238) (tgt := 264) F.1 F.2.1 dX7_outcomesOf_238 (by decide) ?_
                              refine lv_iinc (pc := 264) (v := nI (i + 1)) (lv' := [(5, .int (nI (i + 1))), (8, .int (nI 2)), (0, .ref ((rd 0 0))), (1, .int (nI t)), (2, .int (nI hh)), (3, .ref lf), (4, .ref ro), (6, .int (nI (mm_pgs T t (T.fl i)))), (7, .int (nI is))]) F.1 F.2.1 dX7_outcomesOf_264 hl (k := 6) rfl (by rw [← nI_add]; rfl) (by decide) rfl (fun ls hl => ?_)
                              refine lv_goto (pc := 267) (tgt := 9) F.1 F.2.1 dX7_outcomesOf_267 (by decide) ?_
                              have xl99 : σ45 lf = mm_ari 1 0 3 (fun b9 => nI (mm_l3 (mm_lf T t hh (i + 1)) b9)) := by rw [hl9]; exact xlf45
                              exact ih9 (i + 1) σ45 ls _ _ (by omega) (by omega) (hM45) (hF45) (xro45) (xl99) hN (lv_sub hl [2, 3, 4, 5, 6, 0] rfl)
                        ·
                          refine lv_iload (pc := 201) F.1 F.2.1 dX7_outcomesOf_201 (lv_at hl 8 rfl) ?_
                          refine mm_if_eq (pc := 203) F (tgt := 216) (by omega) dX7_outcomesOf_203 (by decide) (fun cz203 => ?_) (fun cz203 => ?_)
                          ·
                            refine lv_aload_n (pc := 216) F.1 F.2.1 dX7_outcomesOf_216 rfl (lv_at hl 4 rfl) ?_
                            refine lv_iconst (pc := 217) (v := nI 0) F.1 F.2.1 dX7_outcomesOf_217 (by decide) ?_
                            refine mm_iald (pc := 218) F hN (xli) (j := 0) (rfl) (by omega) (by decide) dX7_outcomesOf_218 ?_
                            refine W.eq (g2 := F0 m 219 ls [.int (nI ((mm_lf T t hh i).1))]) rfl ?_
                            refine lv_iload (pc := 219) F.1 F.2.1 dX7_outcomesOf_219 (lv_at hl 7 rfl) ?_
                            refine mm_icmp_lt (pc := 221) F (x := (mm_lf T t hh i).1) (y := mm_pgs T t (T.fl i)) (tgt := 231) (by omega) (by omega) dX7_outcomesOf_221 (by decide) (fun cz221 => ?_) (fun cz221 => ?_)
                            ·
                              refine lv_aload (pc := 231) F.1 F.2.1 dX7_outcomesOf_231 (lv_at hl 5 rfl) ?_
                              refine lv_iload (pc := 233) F.1 F.2.1 dX7_outcomesOf_233 (lv_at hl 6 rfl) ?_
                              refine lv_bipush (pc := 235) (v := nI 112) F.1 F.2.1 dX7_outcomesOf_235 (by decide) ?_
                              refine mm_cast_ (pc := 237) F hN (xqi) (j := i) (rfl) (by omega) (by decide) (by decide) dX7_outcomesOf_237 (fun H locs hN => ?_)
                              have ho8 : mm_obs T t hh i = 45 := by rw [mm_obs, if_neg (fun q => q cz129), if_neg (show ¬ (¬ (nI (T.sk (T.ho i)) < nI 2) ∧ mm_ends T (T.ho i) = false) from fun q => by rw [q.2] at hen9; cases hen9), if_neg cz184, if_neg (fun q => by rw [if_pos q.2, cz203] at hsec; cases hsec)]
                              have hf8 : ¬ mm_fit (mm_lf T t hh i) (mm_pgs T t (T.fl i)) := fun q => by
                                obtain ⟨q1, q2⟩ := q
                                rw [if_pos (show 3 < mm_pgs T t (T.fl i) by omega)] at q2
                                omega
                              have hoc9 : 112 = mm_oc T t hh i := by rw [mm_oc, if_neg (fun q => q ho8), if_neg hf8]
                              have hl9 : mm_lf T t hh (i + 1) = (mm_lf T t hh i) := by rw [mm_lf, if_neg (fun q => hf8 q.2)]
                              have hN : mm_N b D s (mm_u σi ro (mm_ari 1 3 24 (va_up (fun b9 => nI (if b9 < i then mm_oc T t hh b9 else 0)) i (nI 112)))) _ _ := hN
                              obtain ⟨σ46, eσ46⟩ : ∃ q, q = mm_u σi ro (mm_ari 1 3 24 (va_up (fun b9 => nI (if b9 < i then mm_oc T t hh b9 else 0)) i (nI 112))) := ⟨_, rfl⟩
                              rw [← eσ46] at hN
                              have hM46 : mm_M σ46 T th rd := by rw [eσ46]; exact mm_M_off hMi noq
                              have hF46 : mm_Fr 1 σ σ46 := by rw [eσ46]; exact (hFi).tr (mm_Fr.u xqi)
                              have xro46 : σ46 ro = mm_ari 1 3 24 (fun b9 => nI (if b9 < (i + 1) then mm_oc T t hh b9 else 0)) := by rw [eσ46, mm_u_eq]; exact congrArg (mm_ari 1 3 24) (mm_row1 hoc9)
                              have xlf46 : σ46 lf = mm_ari 1 0 3 (fun b9 => nI (mm_l3 (mm_lf T t hh i) b9)) := by rw [eσ46]; exact (mm_u_ne (Ne.symm nql)).trans xli
                              refine lv_goto (pc := 238) (tgt := 264) F.1 F.2.1 dX7_outcomesOf_238 (by decide) ?_
                              refine lv_iinc (pc := 264) (v := nI (i + 1)) (lv' := [(5, .int (nI (i + 1))), (8, .int (nI 2)), (0, .ref ((rd 0 0))), (1, .int (nI t)), (2, .int (nI hh)), (3, .ref lf), (4, .ref ro), (6, .int (nI (mm_pgs T t (T.fl i)))), (7, .int (nI is))]) F.1 F.2.1 dX7_outcomesOf_264 hl (k := 6) rfl (by rw [← nI_add]; rfl) (by decide) rfl (fun ls hl => ?_)
                              refine lv_goto (pc := 267) (tgt := 9) F.1 F.2.1 dX7_outcomesOf_267 (by decide) ?_
                              have xl99 : σ46 lf = mm_ari 1 0 3 (fun b9 => nI (mm_l3 (mm_lf T t hh (i + 1)) b9)) := by rw [hl9]; exact xlf46
                              exact ih9 (i + 1) σ46 ls _ _ (by omega) (by omega) (hM46) (hF46) (xro46) (xl99) hN (lv_sub hl [2, 3, 4, 5, 6, 0] rfl)
                            ·
                              refine lv_aload_n (pc := 224) F.1 F.2.1 dX7_outcomesOf_224 rfl (lv_at hl 4 rfl) ?_
                              refine lv_iload (pc := 225) F.1 F.2.1 dX7_outcomesOf_225 (lv_at hl 0 rfl) ?_
                              refine mm_iald (pc := 227) F hN (xli) (j := 2) (rfl) (by omega) (by decide) dX7_outcomesOf_227 ?_
                              refine W.eq (g2 := F0 m 228 ls [.int (nI ((mm_lf T t hh i).2.2))]) rfl ?_
                              refine mm_if_ne (pc := 228) F (tgt := 241) (by omega) dX7_outcomesOf_228 (by decide) (fun cz228 => ?_) (fun cz228 => ?_)
                              ·
                                refine lv_aload (pc := 241) F.1 F.2.1 dX7_outcomesOf_241 (lv_at hl 5 rfl) ?_
                                refine lv_iload (pc := 243) F.1 F.2.1 dX7_outcomesOf_243 (lv_at hl 6 rfl) ?_
                                refine lv_bipush (pc := 245) (v := nI 108) F.1 F.2.1 dX7_outcomesOf_245 (by decide) ?_
                                refine mm_cast_ (pc := 247) F hN (xqi) (j := i) (rfl) (by omega) (by decide) (by decide) dX7_outcomesOf_247 (fun H locs hN => ?_)
                                have ho8 : mm_obs T t hh i = 45 := by rw [mm_obs, if_neg (fun q => q cz129), if_neg (show ¬ (¬ (nI (T.sk (T.ho i)) < nI 2) ∧ mm_ends T (T.ho i) = false) from fun q => by rw [q.2] at hen9; cases hen9), if_neg cz184, if_neg (fun q => by rw [if_pos q.2, cz203] at hsec; cases hsec)]
                                have hf8 : mm_fit (mm_lf T t hh i) (mm_pgs T t (T.fl i)) := ⟨by omega, by rw [if_pos (show 3 < mm_pgs T t (T.fl i) by omega)]; omega⟩
                                have hoc9 : 108 = mm_oc T t hh i := by rw [mm_oc, if_neg (fun q => q ho8), if_pos hf8]
                                have hl9 : mm_lf T t hh (i + 1) = mm_tk (mm_lf T t hh i) (mm_pgs T t (T.fl i)) := by rw [mm_lf, if_pos ⟨ho8, hf8⟩]
                                have hN : mm_N b D s (mm_u σi ro (mm_ari 1 3 24 (va_up (fun b9 => nI (if b9 < i then mm_oc T t hh b9 else 0)) i (nI 108)))) _ _ := hN
                                obtain ⟨σ47, eσ47⟩ : ∃ q, q = mm_u σi ro (mm_ari 1 3 24 (va_up (fun b9 => nI (if b9 < i then mm_oc T t hh b9 else 0)) i (nI 108))) := ⟨_, rfl⟩
                                rw [← eσ47] at hN
                                have hM47 : mm_M σ47 T th rd := by rw [eσ47]; exact mm_M_off hMi noq
                                have hF47 : mm_Fr 1 σ σ47 := by rw [eσ47]; exact (hFi).tr (mm_Fr.u xqi)
                                have xro47 : σ47 ro = mm_ari 1 3 24 (fun b9 => nI (if b9 < (i + 1) then mm_oc T t hh b9 else 0)) := by rw [eσ47, mm_u_eq]; exact congrArg (mm_ari 1 3 24) (mm_row1 hoc9)
                                have xlf47 : σ47 lf = mm_ari 1 0 3 (fun b9 => nI (mm_l3 (mm_lf T t hh i) b9)) := by rw [eσ47]; exact (mm_u_ne (Ne.symm nql)).trans xli
                                refine lv_aload_n (pc := 248) F.1 F.2.1 dX7_outcomesOf_248 rfl (lv_at hl 4 rfl) ?_
                                refine lv_iconst (pc := 249) (v := nI 0) F.1 F.2.1 dX7_outcomesOf_249 (by decide) ?_
                                refine lv_dup2_11 (pc := 250) F.1 F.2.1 dX7_outcomesOf_250 rfl rfl ?_
                                refine mm_iald (pc := 251) F hN (xlf47) (j := 0) (rfl) (by omega) (by decide) dX7_outcomesOf_251 ?_
                                refine W.eq (g2 := F0 m 252 ls [.int (nI ((mm_lf T t hh i).1)), .int (nI 0), .ref lf]) rfl ?_
                                refine lv_iload (pc := 252) F.1 F.2.1 dX7_outcomesOf_252 (lv_at hl 7 rfl) ?_
                                refine mm_isub (pc := 254) F (z := nI (((mm_lf T t hh i).1) - (mm_pgs T t (T.fl i)))) (pk_sub (by omega)) dX7_outcomesOf_254 ?_
                                refine mm_iast (pc := 255) F hN (xlf47) (j := 0) (rfl) (by omega) (by decide) dX7_outcomesOf_255 (fun H locs hN => ?_)
                                have hN : mm_N b D s (mm_u σ47 lf (mm_ari 1 0 3 (va_up (fun b9 => nI (mm_l3 (mm_lf T t hh i) b9)) 0 (nI (((mm_lf T t hh i).1) - (mm_pgs T t (T.fl i))))))) _ _ := hN
                                obtain ⟨σ48, eσ48⟩ : ∃ q, q = mm_u σ47 lf (mm_ari 1 0 3 (va_up (fun b9 => nI (mm_l3 (mm_lf T t hh i) b9)) 0 (nI (((mm_lf T t hh i).1) - (mm_pgs T t (T.fl i)))))) := ⟨_, rfl⟩
                                rw [← eσ48] at hN
                                have hM48 : mm_M σ48 T th rd := by rw [eσ48]; exact mm_M_off hM47 nol
                                have hF48 : mm_Fr 1 σ σ48 := by rw [eσ48]; exact (hF47).tr (mm_Fr.u xlf47)
                                have xro48 : σ48 ro = mm_ari 1 3 24 (fun b9 => nI (if b9 < (i + 1) then mm_oc T t hh b9 else 0)) := by rw [eσ48]; exact (mm_u_ne nql).trans xro47
                                have xlf48 : σ48 lf = mm_ari 1 0 3 (fun b9 => nI (mm_l3 (((mm_lf T t hh i).1) - (mm_pgs T t (T.fl i)), (mm_lf T t hh i).2.1, (mm_lf T t hh i).2.2) b9)) := by rw [eσ48, mm_u_eq]; exact congrArg (mm_ari 1 0 3) (mm_l3u (l := ((mm_lf T t hh i).1, (mm_lf T t hh i).2.1, (mm_lf T t hh i).2.2)) (l' := (((mm_lf T t hh i).1) - (mm_pgs T t (T.fl i)), (mm_lf T t hh i).2.1, (mm_lf T t hh i).2.2)) rfl rfl rfl (by decide))
                                refine lv_aload_n (pc := 256) F.1 F.2.1 dX7_outcomesOf_256 rfl (lv_at hl 4 rfl) ?_
                                refine lv_iload (pc := 257) F.1 F.2.1 dX7_outcomesOf_257 (lv_at hl 0 rfl) ?_
                                refine lv_dup2_11 (pc := 259) F.1 F.2.1 dX7_outcomesOf_259 rfl rfl ?_
                                refine mm_iald (pc := 260) F hN (xlf48) (j := 2) (rfl) (by omega) (by decide) dX7_outcomesOf_260 ?_
                                refine W.eq (g2 := F0 m 261 ls [.int (nI ((mm_lf T t hh i).2.2)), .int (nI 2), .ref lf]) rfl ?_
                                refine lv_iconst (pc := 261) (v := nI 1) F.1 F.2.1 dX7_outcomesOf_261 (by decide) ?_
                                refine mm_isub (pc := 262) F (z := nI (((mm_lf T t hh i).2.2) - 1)) (pk_sub (by omega)) dX7_outcomesOf_262 ?_
                                refine mm_iast (pc := 263) F hN (xlf48) (j := 2) (rfl) (by omega) (by decide) dX7_outcomesOf_263 (fun H locs hN => ?_)
                                have hN : mm_N b D s (mm_u σ48 lf (mm_ari 1 0 3 (va_up (fun b9 => nI (mm_l3 (((mm_lf T t hh i).1) - (mm_pgs T t (T.fl i)), (mm_lf T t hh i).2.1, (mm_lf T t hh i).2.2) b9)) 2 (nI (((mm_lf T t hh i).2.2) - 1))))) _ _ := hN
                                obtain ⟨σ49, eσ49⟩ : ∃ q, q = mm_u σ48 lf (mm_ari 1 0 3 (va_up (fun b9 => nI (mm_l3 (((mm_lf T t hh i).1) - (mm_pgs T t (T.fl i)), (mm_lf T t hh i).2.1, (mm_lf T t hh i).2.2) b9)) 2 (nI (((mm_lf T t hh i).2.2) - 1)))) := ⟨_, rfl⟩
                                rw [← eσ49] at hN
                                have hM49 : mm_M σ49 T th rd := by rw [eσ49]; exact mm_M_off hM48 nol
                                have hF49 : mm_Fr 1 σ σ49 := by rw [eσ49]; exact (hF48).tr (mm_Fr.u xlf48)
                                have xro49 : σ49 ro = mm_ari 1 3 24 (fun b9 => nI (if b9 < (i + 1) then mm_oc T t hh b9 else 0)) := by rw [eσ49]; exact (mm_u_ne nql).trans xro48
                                have xlf49 : σ49 lf = mm_ari 1 0 3 (fun b9 => nI (mm_l3 (((mm_lf T t hh i).1) - (mm_pgs T t (T.fl i)), (mm_lf T t hh i).2.1, ((mm_lf T t hh i).2.2) - 1) b9)) := by rw [eσ49, mm_u_eq]; exact congrArg (mm_ari 1 0 3) (mm_l3u (l := (((mm_lf T t hh i).1) - (mm_pgs T t (T.fl i)), (mm_lf T t hh i).2.1, (mm_lf T t hh i).2.2)) (l' := (((mm_lf T t hh i).1) - (mm_pgs T t (T.fl i)), (mm_lf T t hh i).2.1, ((mm_lf T t hh i).2.2) - 1)) rfl rfl rfl (by decide))
                                refine lv_iinc (pc := 264) (v := nI (i + 1)) (lv' := [(5, .int (nI (i + 1))), (8, .int (nI 2)), (0, .ref ((rd 0 0))), (1, .int (nI t)), (2, .int (nI hh)), (3, .ref lf), (4, .ref ro), (6, .int (nI (mm_pgs T t (T.fl i)))), (7, .int (nI is))]) F.1 F.2.1 dX7_outcomesOf_264 hl (k := 6) rfl (by rw [← nI_add]; rfl) (by decide) rfl (fun ls hl => ?_)
                                refine lv_goto (pc := 267) (tgt := 9) F.1 F.2.1 dX7_outcomesOf_267 (by decide) ?_
                                have xl99 : σ49 lf = mm_ari 1 0 3 (fun b9 => nI (mm_l3 (mm_lf T t hh (i + 1)) b9)) := by rw [hl9, mm_tk, if_pos (show 3 < mm_pgs T t (T.fl i) by omega), if_pos (show 3 < mm_pgs T t (T.fl i) by omega)]; exact xlf49
                                exact ih9 (i + 1) σ49 ls _ _ (by omega) (by omega) (hM49) (hF49) (xro49) (xl99) hN (lv_sub hl [2, 3, 4, 5, 6, 0] rfl)
                              ·
                                refine lv_aload (pc := 231) F.1 F.2.1 dX7_outcomesOf_231 (lv_at hl 5 rfl) ?_
                                refine lv_iload (pc := 233) F.1 F.2.1 dX7_outcomesOf_233 (lv_at hl 6 rfl) ?_
                                refine lv_bipush (pc := 235) (v := nI 112) F.1 F.2.1 dX7_outcomesOf_235 (by decide) ?_
                                refine mm_cast_ (pc := 237) F hN (xqi) (j := i) (rfl) (by omega) (by decide) (by decide) dX7_outcomesOf_237 (fun H locs hN => ?_)
                                have ho8 : mm_obs T t hh i = 45 := by rw [mm_obs, if_neg (fun q => q cz129), if_neg (show ¬ (¬ (nI (T.sk (T.ho i)) < nI 2) ∧ mm_ends T (T.ho i) = false) from fun q => by rw [q.2] at hen9; cases hen9), if_neg cz184, if_neg (fun q => by rw [if_pos q.2, cz203] at hsec; cases hsec)]
                                have hf8 : ¬ mm_fit (mm_lf T t hh i) (mm_pgs T t (T.fl i)) := fun q => by
                                  obtain ⟨q1, q2⟩ := q
                                  rw [if_pos (show 3 < mm_pgs T t (T.fl i) by omega)] at q2
                                  omega
                                have hoc9 : 112 = mm_oc T t hh i := by rw [mm_oc, if_neg (fun q => q ho8), if_neg hf8]
                                have hl9 : mm_lf T t hh (i + 1) = (mm_lf T t hh i) := by rw [mm_lf, if_neg (fun q => hf8 q.2)]
                                have hN : mm_N b D s (mm_u σi ro (mm_ari 1 3 24 (va_up (fun b9 => nI (if b9 < i then mm_oc T t hh b9 else 0)) i (nI 112)))) _ _ := hN
                                obtain ⟨σ50, eσ50⟩ : ∃ q, q = mm_u σi ro (mm_ari 1 3 24 (va_up (fun b9 => nI (if b9 < i then mm_oc T t hh b9 else 0)) i (nI 112))) := ⟨_, rfl⟩
                                rw [← eσ50] at hN
                                have hM50 : mm_M σ50 T th rd := by rw [eσ50]; exact mm_M_off hMi noq
                                have hF50 : mm_Fr 1 σ σ50 := by rw [eσ50]; exact (hFi).tr (mm_Fr.u xqi)
                                have xro50 : σ50 ro = mm_ari 1 3 24 (fun b9 => nI (if b9 < (i + 1) then mm_oc T t hh b9 else 0)) := by rw [eσ50, mm_u_eq]; exact congrArg (mm_ari 1 3 24) (mm_row1 hoc9)
                                have xlf50 : σ50 lf = mm_ari 1 0 3 (fun b9 => nI (mm_l3 (mm_lf T t hh i) b9)) := by rw [eσ50]; exact (mm_u_ne (Ne.symm nql)).trans xli
                                refine lv_goto (pc := 238) (tgt := 264) F.1 F.2.1 dX7_outcomesOf_238 (by decide) ?_
                                refine lv_iinc (pc := 264) (v := nI (i + 1)) (lv' := [(5, .int (nI (i + 1))), (8, .int (nI 2)), (0, .ref ((rd 0 0))), (1, .int (nI t)), (2, .int (nI hh)), (3, .ref lf), (4, .ref ro), (6, .int (nI (mm_pgs T t (T.fl i)))), (7, .int (nI is))]) F.1 F.2.1 dX7_outcomesOf_264 hl (k := 6) rfl (by rw [← nI_add]; rfl) (by decide) rfl (fun ls hl => ?_)
                                refine lv_goto (pc := 267) (tgt := 9) F.1 F.2.1 dX7_outcomesOf_267 (by decide) ?_
                                have xl99 : σ50 lf = mm_ari 1 0 3 (fun b9 => nI (mm_l3 (mm_lf T t hh (i + 1)) b9)) := by rw [hl9]; exact xlf50
                                exact ih9 (i + 1) σ50 ls _ _ (by omega) (by omega) (hM50) (hF50) (xro50) (xl99) hN (lv_sub hl [2, 3, 4, 5, 6, 0] rfl)
                          ·
                            refine lv_aload (pc := 206) F.1 F.2.1 dX7_outcomesOf_206 (lv_at hl 5 rfl) ?_
                            refine lv_iload (pc := 208) F.1 F.2.1 dX7_outcomesOf_208 (lv_at hl 6 rfl) ?_
                            refine lv_bipush (pc := 210) (v := nI 104) F.1 F.2.1 dX7_outcomesOf_210 (by decide) ?_
                            refine mm_cast_ (pc := 212) F hN (xqi) (j := i) (rfl) (by omega) (by decide) (by decide) dX7_outcomesOf_212 (fun H locs hN => ?_)
                            have ho8 : mm_obs T t hh i = 104 := by rw [mm_obs, if_neg (fun q => q cz129), if_neg (show ¬ (¬ (nI (T.sk (T.ho i)) < nI 2) ∧ mm_ends T (T.ho i) = false) from fun q => by rw [q.2] at hen9; cases hen9), if_neg cz184, if_pos ⟨cz198, by by_cases h9 : mm_sec T t i = true; exact h9; rw [if_neg h9] at hsec; exact absurd hsec cz203⟩]
                            have hoc9 : 104 = mm_oc T t hh i := by rw [mm_oc, if_pos (by rw [ho8]; decide), ho8]
                            have hl9 : mm_lf T t hh (i + 1) = (mm_lf T t hh i) := by rw [mm_lf, if_neg (fun q => by rw [ho8] at q; exact absurd q.1 (by decide))]
                            have hN : mm_N b D s (mm_u σi ro (mm_ari 1 3 24 (va_up (fun b9 => nI (if b9 < i then mm_oc T t hh b9 else 0)) i (nI 104)))) _ _ := hN
                            obtain ⟨σ51, eσ51⟩ : ∃ q, q = mm_u σi ro (mm_ari 1 3 24 (va_up (fun b9 => nI (if b9 < i then mm_oc T t hh b9 else 0)) i (nI 104))) := ⟨_, rfl⟩
                            rw [← eσ51] at hN
                            have hM51 : mm_M σ51 T th rd := by rw [eσ51]; exact mm_M_off hMi noq
                            have hF51 : mm_Fr 1 σ σ51 := by rw [eσ51]; exact (hFi).tr (mm_Fr.u xqi)
                            have xro51 : σ51 ro = mm_ari 1 3 24 (fun b9 => nI (if b9 < (i + 1) then mm_oc T t hh b9 else 0)) := by rw [eσ51, mm_u_eq]; exact congrArg (mm_ari 1 3 24) (mm_row1 hoc9)
                            have xlf51 : σ51 lf = mm_ari 1 0 3 (fun b9 => nI (mm_l3 (mm_lf T t hh i) b9)) := by rw [eσ51]; exact (mm_u_ne (Ne.symm nql)).trans xli
                            refine lv_goto (pc := 213) (tgt := 264) F.1 F.2.1 dX7_outcomesOf_213 (by decide) ?_
                            refine lv_iinc (pc := 264) (v := nI (i + 1)) (lv' := [(5, .int (nI (i + 1))), (8, .int (nI 2)), (0, .ref ((rd 0 0))), (1, .int (nI t)), (2, .int (nI hh)), (3, .ref lf), (4, .ref ro), (6, .int (nI (mm_pgs T t (T.fl i)))), (7, .int (nI is))]) F.1 F.2.1 dX7_outcomesOf_264 hl (k := 6) rfl (by rw [← nI_add]; rfl) (by decide) rfl (fun ls hl => ?_)
                            refine lv_goto (pc := 267) (tgt := 9) F.1 F.2.1 dX7_outcomesOf_267 (by decide) ?_
                            have xl99 : σ51 lf = mm_ari 1 0 3 (fun b9 => nI (mm_l3 (mm_lf T t hh (i + 1)) b9)) := by rw [hl9]; exact xlf51
                            exact ih9 (i + 1) σ51 ls _ _ (by omega) (by omega) (hM51) (hF51) (xro51) (xl99) hN (lv_sub hl [2, 3, 4, 5, 6, 0] rfl)
                      ·
                        refine lv_aload (pc := 187) F.1 F.2.1 dX7_outcomesOf_187 (lv_at hl 5 rfl) ?_
                        refine lv_iload (pc := 189) F.1 F.2.1 dX7_outcomesOf_189 (lv_at hl 6 rfl) ?_
                        refine lv_bipush (pc := 191) (v := nI 101) F.1 F.2.1 dX7_outcomesOf_191 (by decide) ?_
                        refine mm_cast_ (pc := 193) F hN (xqi) (j := i) (rfl) (by omega) (by decide) (by decide) dX7_outcomesOf_193 (fun H locs hN => ?_)
                        have ho8 : mm_obs T t hh i = 101 := by rw [mm_obs, if_neg (fun q => q cz129), if_neg (show ¬ (¬ (nI (T.sk (T.ho i)) < nI 2) ∧ mm_ends T (T.ho i) = false) from fun q => by rw [q.2] at hen9; cases hen9), if_pos cz184]
                        have hoc9 : 101 = mm_oc T t hh i := by rw [mm_oc, if_pos (by rw [ho8]; decide), ho8]
                        have hl9 : mm_lf T t hh (i + 1) = (mm_lf T t hh i) := by rw [mm_lf, if_neg (fun q => by rw [ho8] at q; exact absurd q.1 (by decide))]
                        have hN : mm_N b D s (mm_u σi ro (mm_ari 1 3 24 (va_up (fun b9 => nI (if b9 < i then mm_oc T t hh b9 else 0)) i (nI 101)))) _ _ := hN
                        obtain ⟨σ52, eσ52⟩ : ∃ q, q = mm_u σi ro (mm_ari 1 3 24 (va_up (fun b9 => nI (if b9 < i then mm_oc T t hh b9 else 0)) i (nI 101))) := ⟨_, rfl⟩
                        rw [← eσ52] at hN
                        have hM52 : mm_M σ52 T th rd := by rw [eσ52]; exact mm_M_off hMi noq
                        have hF52 : mm_Fr 1 σ σ52 := by rw [eσ52]; exact (hFi).tr (mm_Fr.u xqi)
                        have xro52 : σ52 ro = mm_ari 1 3 24 (fun b9 => nI (if b9 < (i + 1) then mm_oc T t hh b9 else 0)) := by rw [eσ52, mm_u_eq]; exact congrArg (mm_ari 1 3 24) (mm_row1 hoc9)
                        have xlf52 : σ52 lf = mm_ari 1 0 3 (fun b9 => nI (mm_l3 (mm_lf T t hh i) b9)) := by rw [eσ52]; exact (mm_u_ne (Ne.symm nql)).trans xli
                        refine lv_goto (pc := 194) (tgt := 264) F.1 F.2.1 dX7_outcomesOf_194 (by decide) ?_
                        refine lv_iinc (pc := 264) (v := nI (i + 1)) (lv' := [(5, .int (nI (i + 1))), (8, .int (nI 2)), (0, .ref ((rd 0 0))), (1, .int (nI t)), (2, .int (nI hh)), (3, .ref lf), (4, .ref ro), (6, .int (nI (mm_pgs T t (T.fl i)))), (7, .int (nI is))]) F.1 F.2.1 dX7_outcomesOf_264 hl (k := 6) rfl (by rw [← nI_add]; rfl) (by decide) rfl (fun ls hl => ?_)
                        refine lv_goto (pc := 267) (tgt := 9) F.1 F.2.1 dX7_outcomesOf_267 (by decide) ?_
                        have xl99 : σ52 lf = mm_ari 1 0 3 (fun b9 => nI (mm_l3 (mm_lf T t hh (i + 1)) b9)) := by rw [hl9]; exact xlf52
                        exact ih9 (i + 1) σ52 ls _ _ (by omega) (by omega) (hM52) (hF52) (xro52) (xl99) hN (lv_sub hl [2, 3, 4, 5, 6, 0] rfl)
                    ·
                      refine W.eq (g2 := F0 m 169 ls [.int (nI 0)]) (by rw [if_neg hen9]) ?_
                      refine mm_if_ne (pc := 169) F (tgt := 182) (by omega) dX7_outcomesOf_169 (by decide) (fun h9 => absurd h9 (by decide)) (fun cz169 => ?_)
                      refine lv_aload (pc := 172) F.1 F.2.1 dX7_outcomesOf_172 (lv_at hl 5 rfl) ?_
                      refine lv_iload (pc := 174) F.1 F.2.1 dX7_outcomesOf_174 (lv_at hl 6 rfl) ?_
                      refine lv_bipush (pc := 176) (v := nI 98) F.1 F.2.1 dX7_outcomesOf_176 (by decide) ?_
                      refine mm_cast_ (pc := 178) F hN (xqi) (j := i) (rfl) (by omega) (by decide) (by decide) dX7_outcomesOf_178 (fun H locs hN => ?_)
                      have ho8 : mm_obs T t hh i = 98 := by rw [mm_obs, if_neg (fun q => q cz129), if_pos ⟨cz155, by cases h9 : mm_ends T (T.ho i) with | true => exact absurd h9 hen9 | false => rfl⟩]
                      have hoc9 : 98 = mm_oc T t hh i := by rw [mm_oc, if_pos (by rw [ho8]; decide), ho8]
                      have hl9 : mm_lf T t hh (i + 1) = (mm_lf T t hh i) := by rw [mm_lf, if_neg (fun q => by rw [ho8] at q; exact absurd q.1 (by decide))]
                      have hN : mm_N b D s (mm_u σi ro (mm_ari 1 3 24 (va_up (fun b9 => nI (if b9 < i then mm_oc T t hh b9 else 0)) i (nI 98)))) _ _ := hN
                      obtain ⟨σ53, eσ53⟩ : ∃ q, q = mm_u σi ro (mm_ari 1 3 24 (va_up (fun b9 => nI (if b9 < i then mm_oc T t hh b9 else 0)) i (nI 98))) := ⟨_, rfl⟩
                      rw [← eσ53] at hN
                      have hM53 : mm_M σ53 T th rd := by rw [eσ53]; exact mm_M_off hMi noq
                      have hF53 : mm_Fr 1 σ σ53 := by rw [eσ53]; exact (hFi).tr (mm_Fr.u xqi)
                      have xro53 : σ53 ro = mm_ari 1 3 24 (fun b9 => nI (if b9 < (i + 1) then mm_oc T t hh b9 else 0)) := by rw [eσ53, mm_u_eq]; exact congrArg (mm_ari 1 3 24) (mm_row1 hoc9)
                      have xlf53 : σ53 lf = mm_ari 1 0 3 (fun b9 => nI (mm_l3 (mm_lf T t hh i) b9)) := by rw [eσ53]; exact (mm_u_ne (Ne.symm nql)).trans xli
                      refine lv_goto (pc := 179) (tgt := 264) F.1 F.2.1 dX7_outcomesOf_179 (by decide) ?_
                      refine lv_iinc (pc := 264) (v := nI (i + 1)) (lv' := [(5, .int (nI (i + 1))), (8, .int (nI 2)), (0, .ref ((rd 0 0))), (1, .int (nI t)), (2, .int (nI hh)), (3, .ref lf), (4, .ref ro), (6, .int (nI (mm_pgs T t (T.fl i)))), (7, .int (nI is))]) F.1 F.2.1 dX7_outcomesOf_264 hl (k := 6) rfl (by rw [← nI_add]; rfl) (by decide) rfl (fun ls hl => ?_)
                      refine lv_goto (pc := 267) (tgt := 9) F.1 F.2.1 dX7_outcomesOf_267 (by decide) ?_
                      have xl99 : σ53 lf = mm_ari 1 0 3 (fun b9 => nI (mm_l3 (mm_lf T t hh (i + 1)) b9)) := by rw [hl9]; exact xlf53
                      exact ih9 (i + 1) σ53 ls _ _ (by omega) (by omega) (hM53) (hF53) (xro53) (xl99) hN (lv_sub hl [2, 3, 4, 5, 6, 0] rfl)
                ·
                  refine lv_aload (pc := 132) F.1 F.2.1 dX7_outcomesOf_132 (lv_at hl 5 rfl) ?_
                  refine lv_iload (pc := 134) F.1 F.2.1 dX7_outcomesOf_134 (lv_at hl 6 rfl) ?_
                  refine lv_bipush (pc := 136) (v := nI 115) F.1 F.2.1 dX7_outcomesOf_136 (by decide) ?_
                  refine mm_cast_ (pc := 138) F hN (xqi) (j := i) (rfl) (by omega) (by decide) (by decide) dX7_outcomesOf_138 (fun H locs hN => ?_)
                  have ho8 : mm_obs T t hh i = 115 := by rw [mm_obs, if_pos cz129]
                  have hoc9 : 115 = mm_oc T t hh i := by rw [mm_oc, if_pos (by rw [ho8]; decide), ho8]
                  have hl9 : mm_lf T t hh (i + 1) = (mm_lf T t hh i) := by rw [mm_lf, if_neg (fun q => by rw [ho8] at q; exact absurd q.1 (by decide))]
                  have hN : mm_N b D s (mm_u σi ro (mm_ari 1 3 24 (va_up (fun b9 => nI (if b9 < i then mm_oc T t hh b9 else 0)) i (nI 115)))) _ _ := hN
                  obtain ⟨σ54, eσ54⟩ : ∃ q, q = mm_u σi ro (mm_ari 1 3 24 (va_up (fun b9 => nI (if b9 < i then mm_oc T t hh b9 else 0)) i (nI 115))) := ⟨_, rfl⟩
                  rw [← eσ54] at hN
                  have hM54 : mm_M σ54 T th rd := by rw [eσ54]; exact mm_M_off hMi noq
                  have hF54 : mm_Fr 1 σ σ54 := by rw [eσ54]; exact (hFi).tr (mm_Fr.u xqi)
                  have xro54 : σ54 ro = mm_ari 1 3 24 (fun b9 => nI (if b9 < (i + 1) then mm_oc T t hh b9 else 0)) := by rw [eσ54, mm_u_eq]; exact congrArg (mm_ari 1 3 24) (mm_row1 hoc9)
                  have xlf54 : σ54 lf = mm_ari 1 0 3 (fun b9 => nI (mm_l3 (mm_lf T t hh i) b9)) := by rw [eσ54]; exact (mm_u_ne (Ne.symm nql)).trans xli
                  refine lv_goto (pc := 139) (tgt := 264) F.1 F.2.1 dX7_outcomesOf_139 (by decide) ?_
                  refine lv_iinc (pc := 264) (v := nI (i + 1)) (lv' := [(5, .int (nI (i + 1))), (8, .int (nI 2)), (0, .ref ((rd 0 0))), (1, .int (nI t)), (2, .int (nI hh)), (3, .ref lf), (4, .ref ro), (6, .int (nI (mm_pgs T t (T.fl i)))), (7, .int (nI is))]) F.1 F.2.1 dX7_outcomesOf_264 hl (k := 6) rfl (by rw [← nI_add]; rfl) (by decide) rfl (fun ls hl => ?_)
                  refine lv_goto (pc := 267) (tgt := 9) F.1 F.2.1 dX7_outcomesOf_267 (by decide) ?_
                  have xl99 : σ54 lf = mm_ari 1 0 3 (fun b9 => nI (mm_l3 (mm_lf T t hh (i + 1)) b9)) := by rw [hl9]; exact xlf54
                  exact ih9 (i + 1) σ54 ls _ _ (by omega) (by omega) (hM54) (hF54) (xro54) (xl99) hN (lv_sub hl [2, 3, 4, 5, 6, 0] rfl)
            ·
              obtain ⟨whou, wflu, wreu⟩ := hW.hpe u (by omega)
              have wpgu : mm_pgs T t (T.fl u) ≤ 8 := mm_pgs_le hW htn
              refine lv_iload (pc := 45) F.1 F.2.1 dX7_outcomesOf_45 (lv_at hl 7 rfl) ?_
              refine mm_if_ne (pc := 47) F (tgt := 94) (by omega) dX7_outcomesOf_47 (by decide) (fun cz47 => ?_) (fun cz47 => ?_)
              ·
                refine lv_iconst (pc := 94) (v := nI 1) F.1 F.2.1 dX7_outcomesOf_94 (by decide) ?_
                refine lv_goto (pc := 95) (tgt := 99) F.1 F.2.1 dX7_outcomesOf_95 (by decide) ?_
                refine lv_istore (pc := 99) (lv' := [(7, .int (nI 1)), (0, .ref ((rd 0 0))), (1, .int (nI t)), (2, .int (nI hh)), (3, .ref lf), (4, .ref ro), (5, .int (nI i)), (6, .int (nI (mm_pgs T t (T.fl i)))), (8, .int (nI u))]) F.1 F.2.1 dX7_outcomesOf_99 hl (by decide) rfl (fun ls hl => ?_)
                refine lv_iinc (pc := 101) (v := nI (u + 1)) (lv' := [(8, .int (nI (u + 1))), (7, .int (nI 1)), (0, .ref ((rd 0 0))), (1, .int (nI t)), (2, .int (nI hh)), (3, .ref lf), (4, .ref ro), (5, .int (nI i)), (6, .int (nI (mm_pgs T t (T.fl i))))]) F.1 F.2.1 dX7_outcomesOf_101 hl (k := 8) rfl (by rw [← nI_add]; rfl) (by decide) rfl (fun ls hl => ?_)
                refine lv_goto (pc := 104) (tgt := 38) F.1 F.2.1 dX7_outcomesOf_104 (by decide) ?_
                exact ih38 (u + 1) 1 ls _ _ (by omega) (by omega) (by
                      rw [if_pos]
                      rw [(show mm_ex (fun q => decide (T.ho q = T.ho i ∧ T.re q = 45 ∧ 0 < mm_pgs T t (T.fl q))) (u + 1) = (mm_ex (fun q => decide (T.ho q = T.ho i ∧ T.re q = 45 ∧ 0 < mm_pgs T t (T.fl q))) u || decide (T.ho u = T.ho i ∧ T.re u = 45 ∧ 0 < mm_pgs T t (T.fl u))) from rfl), show mm_ex (fun q => decide (T.ho q = T.ho i ∧ T.re q = 45 ∧ 0 < mm_pgs T t (T.fl q))) u = true from by
                        by_cases h9 : mm_ex (fun q => decide (T.ho q = T.ho i ∧ T.re q = 45 ∧ 0 < mm_pgs T t (T.fl q))) u = true
                        · exact h9
                        · rw [if_neg h9] at his; exact absurd his cz47, Bool.true_or]) hN (lv_sub hl [2, 3, 4, 5, 6, 7, 8, 1, 0] rfl)
              ·
                refine lv_aload_n (pc := 50) F.1 F.2.1 dX7_outcomesOf_50 rfl (lv_at hl 0 rfl) ?_
                refine mm_get (pc := 51) F hN ((show σi (rd 0 0) = mm_obj 1 7 [.ref ((rd 1 0)), .ref ((rd 2 0)), .ref ((rd 3 0)), .int (nI T.nA), .ref ((rd 4 0)), .ref ((rd 5 0)), .ref ((rd 6 0)), .int (nI T.nP), .ref ((rd 7 0)), .ref ((rd 8 0)), .ref ((rd 9 0)), .ref ((rd 10 0)), .ref ((rd 11 0)), .int (nI T.nT), .int (nI T.pa), .ref ((rd 12 0)), .int (nI T.bo), .ref ((rd 13 0)), .ref ((rd 14 0)), .ref ((rd 15 0)), .ref ((rd 16 0)), .ref ((rd 17 0)), .ref ((rd 18 0)), .ref ((rd 19 0)), .int (nI T.nR), .int (nI th)] from mm_r0 (T := T) hMi)) (ci := 7) rfl 4 (by decide) mw_1183 rfl dX7_outcomesOf_51 ?_
                refine lv_iload (pc := 54) F.1 F.2.1 dX7_outcomesOf_54 (lv_at hl 8 rfl) ?_
                refine mm_iald (pc := 56) F hN ((show σi (rd 4 0) = mm_ari 1 0 24 (fun b9 => nI (T.ho b9)) from mm_r4 (T := T) hMi)) (j := u) (rfl) (by omega) (by decide) dX7_outcomesOf_56 ?_
                refine lv_aload_n (pc := 57) F.1 F.2.1 dX7_outcomesOf_57 rfl (lv_at hl 0 rfl) ?_
                refine mm_get (pc := 58) F hN ((show σi (rd 0 0) = mm_obj 1 7 [.ref ((rd 1 0)), .ref ((rd 2 0)), .ref ((rd 3 0)), .int (nI T.nA), .ref ((rd 4 0)), .ref ((rd 5 0)), .ref ((rd 6 0)), .int (nI T.nP), .ref ((rd 7 0)), .ref ((rd 8 0)), .ref ((rd 9 0)), .ref ((rd 10 0)), .ref ((rd 11 0)), .int (nI T.nT), .int (nI T.pa), .ref ((rd 12 0)), .int (nI T.bo), .ref ((rd 13 0)), .ref ((rd 14 0)), .ref ((rd 15 0)), .ref ((rd 16 0)), .ref ((rd 17 0)), .ref ((rd 18 0)), .ref ((rd 19 0)), .int (nI T.nR), .int (nI th)] from mm_r0 (T := T) hMi)) (ci := 7) rfl 4 (by decide) mw_1183 rfl dX7_outcomesOf_58 ?_
                refine lv_iload (pc := 61) F.1 F.2.1 dX7_outcomesOf_61 (lv_at hl 5 rfl) ?_
                refine mm_iald (pc := 63) F hN ((show σi (rd 4 0) = mm_ari 1 0 24 (fun b9 => nI (T.ho b9)) from mm_r4 (T := T) hMi)) (j := i) (rfl) (by omega) (by decide) dX7_outcomesOf_63 ?_
                refine mm_icmp_ne (pc := 64) F (x := T.ho u) (y := T.ho i) (tgt := 98) (by omega) (by omega) dX7_outcomesOf_64 (by decide) (fun cz64 => ?_) (fun cz64 => ?_)
                ·
                  refine lv_iconst (pc := 98) (v := nI 0) F.1 F.2.1 dX7_outcomesOf_98 (by decide) ?_
                  refine lv_istore (pc := 99) (lv' := [(7, .int (nI 0)), (0, .ref ((rd 0 0))), (1, .int (nI t)), (2, .int (nI hh)), (3, .ref lf), (4, .ref ro), (5, .int (nI i)), (6, .int (nI (mm_pgs T t (T.fl i)))), (8, .int (nI u))]) F.1 F.2.1 dX7_outcomesOf_99 hl (by decide) rfl (fun ls hl => ?_)
                  refine lv_iinc (pc := 101) (v := nI (u + 1)) (lv' := [(8, .int (nI (u + 1))), (7, .int (nI 0)), (0, .ref ((rd 0 0))), (1, .int (nI t)), (2, .int (nI hh)), (3, .ref lf), (4, .ref ro), (5, .int (nI i)), (6, .int (nI (mm_pgs T t (T.fl i))))]) F.1 F.2.1 dX7_outcomesOf_101 hl (k := 8) rfl (by rw [← nI_add]; rfl) (by decide) rfl (fun ls hl => ?_)
                  refine lv_goto (pc := 104) (tgt := 38) F.1 F.2.1 dX7_outcomesOf_104 (by decide) ?_
                  exact ih38 (u + 1) 0 ls _ _ (by omega) (by omega) (by
                        rw [if_neg]
                        rw [(show mm_ex (fun q => decide (T.ho q = T.ho i ∧ T.re q = 45 ∧ 0 < mm_pgs T t (T.fl q))) (u + 1) = (mm_ex (fun q => decide (T.ho q = T.ho i ∧ T.re q = 45 ∧ 0 < mm_pgs T t (T.fl q))) u || decide (T.ho u = T.ho i ∧ T.re u = 45 ∧ 0 < mm_pgs T t (T.fl u))) from rfl), decide_eq_false (fun q => cz64 q.1), Bool.or_false]
                        intro h9
                        rw [if_pos h9, cz47] at his
                        cases his) hN (lv_sub hl [2, 3, 4, 5, 6, 7, 8, 1, 0] rfl)
                ·
                  refine lv_aload_n (pc := 67) F.1 F.2.1 dX7_outcomesOf_67 rfl (lv_at hl 0 rfl) ?_
                  refine mm_get (pc := 68) F hN ((show σi (rd 0 0) = mm_obj 1 7 [.ref ((rd 1 0)), .ref ((rd 2 0)), .ref ((rd 3 0)), .int (nI T.nA), .ref ((rd 4 0)), .ref ((rd 5 0)), .ref ((rd 6 0)), .int (nI T.nP), .ref ((rd 7 0)), .ref ((rd 8 0)), .ref ((rd 9 0)), .ref ((rd 10 0)), .ref ((rd 11 0)), .int (nI T.nT), .int (nI T.pa), .ref ((rd 12 0)), .int (nI T.bo), .ref ((rd 13 0)), .ref ((rd 14 0)), .ref ((rd 15 0)), .ref ((rd 16 0)), .ref ((rd 17 0)), .ref ((rd 18 0)), .ref ((rd 19 0)), .int (nI T.nR), .int (nI th)] from mm_r0 (T := T) hMi)) (ci := 7) rfl 6 (by decide) mw_1185 rfl dX7_outcomesOf_68 ?_
                  refine lv_iload (pc := 71) F.1 F.2.1 dX7_outcomesOf_71 (lv_at hl 8 rfl) ?_
                  refine mm_cald (pc := 73) F hN ((show σi (rd 6 0) = mm_ari 1 3 24 (fun b9 => nI (T.re b9)) from mm_r6 (T := T) hMi)) (j := u) (rfl) (by omega) (by decide) dX7_outcomesOf_73 ?_
                  refine lv_bipush (pc := 74) (v := nI 45) F.1 F.2.1 dX7_outcomesOf_74 (by decide) ?_
                  refine mm_icmp_ne (pc := 76) F (x := T.re u) (y := 45) (tgt := 98) (by omega) (by omega) dX7_outcomesOf_76 (by decide) (fun cz76 => ?_) (fun cz76 => ?_)
                  ·
                    refine lv_iconst (pc := 98) (v := nI 0) F.1 F.2.1 dX7_outcomesOf_98 (by decide) ?_
                    refine lv_istore (pc := 99) (lv' := [(7, .int (nI 0)), (0, .ref ((rd 0 0))), (1, .int (nI t)), (2, .int (nI hh)), (3, .ref lf), (4, .ref ro), (5, .int (nI i)), (6, .int (nI (mm_pgs T t (T.fl i)))), (8, .int (nI u))]) F.1 F.2.1 dX7_outcomesOf_99 hl (by decide) rfl (fun ls hl => ?_)
                    refine lv_iinc (pc := 101) (v := nI (u + 1)) (lv' := [(8, .int (nI (u + 1))), (7, .int (nI 0)), (0, .ref ((rd 0 0))), (1, .int (nI t)), (2, .int (nI hh)), (3, .ref lf), (4, .ref ro), (5, .int (nI i)), (6, .int (nI (mm_pgs T t (T.fl i))))]) F.1 F.2.1 dX7_outcomesOf_101 hl (k := 8) rfl (by rw [← nI_add]; rfl) (by decide) rfl (fun ls hl => ?_)
                    refine lv_goto (pc := 104) (tgt := 38) F.1 F.2.1 dX7_outcomesOf_104 (by decide) ?_
                    exact ih38 (u + 1) 0 ls _ _ (by omega) (by omega) (by
                          rw [if_neg]
                          rw [(show mm_ex (fun q => decide (T.ho q = T.ho i ∧ T.re q = 45 ∧ 0 < mm_pgs T t (T.fl q))) (u + 1) = (mm_ex (fun q => decide (T.ho q = T.ho i ∧ T.re q = 45 ∧ 0 < mm_pgs T t (T.fl q))) u || decide (T.ho u = T.ho i ∧ T.re u = 45 ∧ 0 < mm_pgs T t (T.fl u))) from rfl), decide_eq_false (fun q => cz76 q.2.1), Bool.or_false]
                          intro h9
                          rw [if_pos h9, cz47] at his
                          cases his) hN (lv_sub hl [2, 3, 4, 5, 6, 7, 8, 1, 0] rfl)
                  ·
                    refine lv_aload_n (pc := 79) F.1 F.2.1 dX7_outcomesOf_79 rfl (lv_at hl 0 rfl) ?_
                    refine lv_iload_n (pc := 80) F.1 F.2.1 dX7_outcomesOf_80 rfl (lv_at hl 1 rfl) ?_
                    refine lv_aload_n (pc := 81) F.1 F.2.1 dX7_outcomesOf_81 rfl (lv_at hl 0 rfl) ?_
                    refine mm_get (pc := 82) F hN ((show σi (rd 0 0) = mm_obj 1 7 [.ref ((rd 1 0)), .ref ((rd 2 0)), .ref ((rd 3 0)), .int (nI T.nA), .ref ((rd 4 0)), .ref ((rd 5 0)), .ref ((rd 6 0)), .int (nI T.nP), .ref ((rd 7 0)), .ref ((rd 8 0)), .ref ((rd 9 0)), .ref ((rd 10 0)), .ref ((rd 11 0)), .int (nI T.nT), .int (nI T.pa), .ref ((rd 12 0)), .int (nI T.bo), .ref ((rd 13 0)), .ref ((rd 14 0)), .ref ((rd 15 0)), .ref ((rd 16 0)), .ref ((rd 17 0)), .ref ((rd 18 0)), .ref ((rd 19 0)), .int (nI T.nR), .int (nI th)] from mm_r0 (T := T) hMi)) (ci := 7) rfl 5 (by decide) mw_1184 rfl dX7_outcomesOf_82 ?_
                    refine lv_iload (pc := 85) F.1 F.2.1 dX7_outcomesOf_85 (lv_at hl 8 rfl) ?_
                    refine mm_iald (pc := 87) F hN ((show σi (rd 5 0) = mm_ari 1 0 24 (fun b9 => nI (T.fl b9)) from mm_r5 (T := T) hMi)) (j := u) (rfl) (by omega) (by decide) dX7_outcomesOf_87 ?_
                    refine mm_runV (pc := 88) (As := [.int (nI t), .int (nI (T.fl u))]) (rest := []) F hN (c_pages l b D hst T th rd σi hMi t (T.fl u) (by omega) (mm_tbW hW htn) (by omega)) mw_1331 mw_1333 mw_p27 mw_6 mw_1334 ⟨pmX7_pagesOf, (Nat.le_of_ble_eq_true rfl), (Nat.le_of_ble_eq_true rfl)⟩ (mm_recv F.2.2.2.2.2.1 hN ((show σi (rd 0 0) = mm_obj 1 7 [.ref ((rd 1 0)), .ref ((rd 2 0)), .ref ((rd 3 0)), .int (nI T.nA), .ref ((rd 4 0)), .ref ((rd 5 0)), .ref ((rd 6 0)), .int (nI T.nP), .ref ((rd 7 0)), .ref ((rd 8 0)), .ref ((rd 9 0)), .ref ((rd 10 0)), .ref ((rd 11 0)), .int (nI T.nT), .int (nI T.pa), .ref ((rd 12 0)), .int (nI T.bo), .ref ((rd 13 0)), .ref ((rd 14 0)), .ref ((rd 15 0)), .ref ((rd 16 0)), .ref ((rd 17 0)), .ref ((rd 18 0)), .ref ((rd 19 0)), .int (nI T.nR), .int (nI th)] from mm_r0 (T := T) hMi)) rfl) hl.1 rfl (Nat.le_of_ble_eq_true rfl) ⟨(Nat.le_of_ble_eq_true rfl), (Nat.le_of_ble_eq_true rfl)⟩ dX7_outcomesOf_88
                      (fun _ _ _ _ _ _ h9 => False.elim h9)
                      (fun v9 σ9 H locs hp9 hN => ?_)
                    obtain ⟨rfl, h9⟩ := hp9
                    rw [h9] at hN
                    refine W.eq (g2 := F0 m 91 ls [.int (nI (mm_pgs T t (T.fl u)))]) rfl ?_
                    refine W.widen (k := 1) (n := 24) (Nat.le_of_ble_eq_true rfl) (Nat.le_of_ble_eq_true rfl) ?_
                    refine mm_if_le (pc := 91) F (tgt := 98) (by omega) dX7_outcomesOf_91 (by decide) (fun cz91 => ?_) (fun cz91 => ?_)
                    ·
                      refine lv_iconst (pc := 98) (v := nI 0) F.1 F.2.1 dX7_outcomesOf_98 (by decide) ?_
                      refine lv_istore (pc := 99) (lv' := [(7, .int (nI 0)), (0, .ref ((rd 0 0))), (1, .int (nI t)), (2, .int (nI hh)), (3, .ref lf), (4, .ref ro), (5, .int (nI i)), (6, .int (nI (mm_pgs T t (T.fl i)))), (8, .int (nI u))]) F.1 F.2.1 dX7_outcomesOf_99 hl (by decide) rfl (fun ls hl => ?_)
                      refine lv_iinc (pc := 101) (v := nI (u + 1)) (lv' := [(8, .int (nI (u + 1))), (7, .int (nI 0)), (0, .ref ((rd 0 0))), (1, .int (nI t)), (2, .int (nI hh)), (3, .ref lf), (4, .ref ro), (5, .int (nI i)), (6, .int (nI (mm_pgs T t (T.fl i))))]) F.1 F.2.1 dX7_outcomesOf_101 hl (k := 8) rfl (by rw [← nI_add]; rfl) (by decide) rfl (fun ls hl => ?_)
                      refine lv_goto (pc := 104) (tgt := 38) F.1 F.2.1 dX7_outcomesOf_104 (by decide) ?_
                      exact ih38 (u + 1) 0 ls _ _ (by omega) (by omega) (by
                            rw [if_neg]
                            rw [(show mm_ex (fun q => decide (T.ho q = T.ho i ∧ T.re q = 45 ∧ 0 < mm_pgs T t (T.fl q))) (u + 1) = (mm_ex (fun q => decide (T.ho q = T.ho i ∧ T.re q = 45 ∧ 0 < mm_pgs T t (T.fl q))) u || decide (T.ho u = T.ho i ∧ T.re u = 45 ∧ 0 < mm_pgs T t (T.fl u))) from rfl), decide_eq_false (fun q => by have := q.2.2; omega), Bool.or_false]
                            intro h9
                            rw [if_pos h9, cz47] at his
                            cases his) hN (lv_sub hl [2, 3, 4, 5, 6, 7, 8, 1, 0] rfl)
                    ·
                      refine lv_iconst (pc := 94) (v := nI 1) F.1 F.2.1 dX7_outcomesOf_94 (by decide) ?_
                      refine lv_goto (pc := 95) (tgt := 99) F.1 F.2.1 dX7_outcomesOf_95 (by decide) ?_
                      refine lv_istore (pc := 99) (lv' := [(7, .int (nI 1)), (0, .ref ((rd 0 0))), (1, .int (nI t)), (2, .int (nI hh)), (3, .ref lf), (4, .ref ro), (5, .int (nI i)), (6, .int (nI (mm_pgs T t (T.fl i)))), (8, .int (nI u))]) F.1 F.2.1 dX7_outcomesOf_99 hl (by decide) rfl (fun ls hl => ?_)
                      refine lv_iinc (pc := 101) (v := nI (u + 1)) (lv' := [(8, .int (nI (u + 1))), (7, .int (nI 1)), (0, .ref ((rd 0 0))), (1, .int (nI t)), (2, .int (nI hh)), (3, .ref lf), (4, .ref ro), (5, .int (nI i)), (6, .int (nI (mm_pgs T t (T.fl i))))]) F.1 F.2.1 dX7_outcomesOf_101 hl (k := 8) rfl (by rw [← nI_add]; rfl) (by decide) rfl (fun ls hl => ?_)
                      refine lv_goto (pc := 104) (tgt := 38) F.1 F.2.1 dX7_outcomesOf_104 (by decide) ?_
                      exact ih38 (u + 1) 1 ls _ _ (by omega) (by omega) (by
                            rw [if_pos]
                            rw [(show mm_ex (fun q => decide (T.ho q = T.ho i ∧ T.re q = 45 ∧ 0 < mm_pgs T t (T.fl q))) (u + 1) = (mm_ex (fun q => decide (T.ho q = T.ho i ∧ T.re q = 45 ∧ 0 < mm_pgs T t (T.fl q))) u || decide (T.ho u = T.ho i ∧ T.re u = 45 ∧ 0 < mm_pgs T t (T.fl u))) from rfl), decide_eq_true ⟨cz64, cz76, by omega⟩, Bool.or_true]) hN (lv_sub hl [2, 3, 4, 5, 6, 7, 8, 1, 0] rfl)
        exact lp38 (i + 1) 0 0 ls _ _ (by omega) (by omega) (rfl) hN (lv_sub hl [3, 4, 5, 6, 7, 8, 2, 1, 0] rfl)
  exact lp9 (T.nP + 1) 0 σ1 ls _ _ (by omega) (by omega) (hM1) (hF1) (xro1) (xlf1) hN (lv_sub hl [2, 3, 4, 5, 1, 0] rfl)

