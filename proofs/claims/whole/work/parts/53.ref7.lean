theorem mm_endsH {T : mm_T} (hW : mm_WF T) : 0 < T.nR → T.rp (T.nR - 1) ≤ 24 ∧ ∀ p, p < T.rp (T.nR - 1) → T.oc (T.nR - 1) p < 65536 ∧ T.bk (T.nR - 1) p < 2 ∧ T.ho p < 12 := fun h => by
  obtain ⟨w1, w2, w3, w4⟩ := hW.hru (T.nR - 1) (by omega)
  have h1 := hW.hnP
  have h2 := hW.hnA
  refine ⟨by omega, fun p hp => ?_⟩
  have h3 := (hW.hpe p (by omega)).1
  exact ⟨(w4 p hp).1, (w4 p hp).2.2.2.2.1, by omega⟩
theorem mm_rw0 {f : Nat → Nat → Nat} {r : Nat} {g : Nat → Nat} : mm_rw f r 0 g = f := by
  funext a j
  exact if_neg (fun e => absurd e.2 (Nat.not_lt_zero _))
theorem mm_rw1 {f : Nat → Nat → Nat} {r u : Nat} {g : Nat → Nat} : mm_u2 (mm_rw f r u g) r u (g u) = mm_rw f r (u + 1) g := by
  funext a j
  show (if a = r ∧ j = u then g u else if a = r ∧ j < u then g j else f a j) = if a = r ∧ j < u + 1 then g j else f a j
  by_cases e : a = r ∧ j = u
  · rw [if_pos e, if_pos ⟨e.1, by omega⟩, e.2]
  · by_cases h : a = r ∧ j < u
    · rw [if_neg e, if_pos h, if_pos ⟨h.1, by omega⟩]
    · rw [if_neg e, if_neg h, if_neg (fun q => h ⟨q.1, by
        have h1 := q.2
        have : j ≠ u := fun z => e ⟨q.1, z⟩
        omega⟩)]
theorem mm_ke_at {T : mm_T} {i : Nat} : mm_ke T i i 0 = T.sk i := if_neg (fun e => absurd e.1 (Nat.lt_irrefl _))
def mm_tRn (T : mm_T) (t hh u : Nat) : mm_T := (((((mm_tq2 (mm_tq1 T) (mm_lf T t hh T.nP).1 (mm_lf T t hh T.nP).2.1 (mm_lf T t hh T.nP).2.2).w 14 (mm_rw (T 14) T.nR u (mm_oc T t hh))).w 19 (mm_rw (T 19) T.nR u (fun _ => 0))).w 15 (mm_rw (T 15) T.nR u (fun p => mm_pgs T t (T.fl p)))).w 17
  (mm_rw (T 17) T.nR u (fun p => mm_pts T t (T.fl p)))).w 16 (mm_rw (T 16) T.nR u (fun p => T.co (T.ho p)))
def mm_tP (T : mm_T) (t hh u : Nat) : mm_T := (mm_tRn T t hh T.nP).w 18 (mm_rw (T 18) T.nR u (mm_rPs T t hh))
/-- the letters of each route -/
def mm_rou (T : mm_T) (t hh u x : Nat) : Nat := mm_sm (fun p => if mm_oc T t hh p = 108 ∧ T.co (T.ho p) / 10 = x then 1 else 0) u
theorem mm_rou1 {T : mm_T} {t hh u c : Nat} (h : c = if mm_oc T t hh u = 108 then 1 else 0) : va_up (fun x => nI (mm_rou T t hh u x)) (T.co (T.ho u) / 10) (nI (mm_rou T t hh u (T.co (T.ho u) / 10) + c)) = fun x => nI (mm_rou T t hh (u + 1) x) := by
  rw [mm_upn (fun x => mm_rou T t hh u x)]
  funext x
  show nI (if x = T.co (T.ho u) / 10 then mm_rou T t hh u (T.co (T.ho u) / 10) + c else mm_rou T t hh u x) = nI (mm_rou T t hh u x + (if mm_oc T t hh u = 108 ∧ T.co (T.ho u) / 10 = x then 1 else 0))
  by_cases e : x = T.co (T.ho u) / 10
  · rw [if_pos e, h, e]
    by_cases e2 : mm_oc T t hh u = 108
    · rw [if_pos e2, if_pos ⟨e2, rfl⟩]
    · rw [if_neg e2, if_neg (fun q => e2 q.1)]
  · rw [if_neg e, if_neg (fun q => e q.2.symm)]
    rfl
theorem mm_tRn0 {σ : mm_S} {T T' : mm_T} {rd : Nat → Nat → Nat} {t hh : Nat} (h : mm_M σ T' 0 rd) (e : T' = mm_tq2 (mm_tq1 T) (mm_lf T t hh T.nP).1 (mm_lf T t hh T.nP).2.1 (mm_lf T t hh T.nP).2.2) : mm_M σ (mm_tRn T t hh 0) 0 rd := by
  rw [mm_tRn, mm_rw0, mm_rw0, mm_rw0, mm_rw0, mm_rw0]
  refine mm_M_cg h (fun k hk => ?_) (by rw [e]; rfl)
  rw [e]
  by_cases e14 : k = 14
  · subst e14; rfl
  by_cases e15 : k = 15
  · subst e15; rfl
  by_cases e16 : k = 16
  · subst e16; rfl
  by_cases e17 : k = 17
  · subst e17; rfl
  by_cases e19 : k = 19
  · subst e19; rfl
  rw [mm_T.wo e16, mm_T.wo e17, mm_T.wo e15, mm_T.wo e19, mm_T.wo e14]
theorem mm_tP0 {T : mm_T} {t hh : Nat} : mm_tP T t hh 0 = mm_tRn T t hh T.nP := by
  rw [mm_tP, mm_rw0]
  exact mm_ws (T := mm_tRn T t hh T.nP) (k := 18) rfl
set_option maxHeartbeats 4000000 in
set_option maxRecDepth 100000 in
theorem r_preview (l : Launch) (b : Nat) (D : mm_D) (hst : l.stackTraces = false) (T : mm_T) (th : Nat) (rd : Nat → Nat → Nat) (σ : mm_S) (hM : mm_M σ T th rd) (hW : mm_WF T) (t : Nat) (zt : t < 2 ^ 32) (hh : Nat) (zhh : hh < 2) (i : Nat) (zi : i < 2 ^ 32) : mm_K l b D yX7_preview (.code yX7_preview cX7_preview 4 (some .char)) ({ frames := 6, cells := 2, slots := 27, locals := 200 } : Room) [.ref ((rd 0 0)), .int (nI t), .int (nI hh), .int (nI i)] σ
    (fun v σ2 => mm_Mu rd σ σ2 T (T) (mm_q_preview T t hh i) v (some (.int (nI (mm_oc T t hh i)))) (some (.int (nI 45))))
    (fun _ _ => False) := by
  refine mm_of (cc := cX7_preview) (nL := 4) (ret := (some .char)) (by decide) rfl (Nat.le_of_ble_eq_true rfl) hst ?_
  intro p e s m args below meth c ls F ht hr hin hN hl
  have hl : lv_has ls 4 [(0, .ref ((rd 0 0))), (1, .int (nI t)), (2, .int (nI hh)), (3, .int (nI i))] := hl
  have wnA := hW.hnA
  have wnP := hW.hnP
  have wnT := hW.hnT
  have wnR := hW.hnR
  have wpa := hW.hpa
  have wbo := hW.hbo
  have wen0 := hW.hen 0
  have wen1 := hW.hen 1
  refine lv_aload_n (pc := 0) F.1 F.2.1 dX7_preview_0 rfl (lv_at hl 0 rfl) ?_
  refine lv_aload_n (pc := 1) F.1 F.2.1 dX7_preview_1 rfl (lv_at hl 0 rfl) ?_
  refine lv_iload_n (pc := 2) F.1 F.2.1 dX7_preview_2 rfl (lv_at hl 1 rfl) ?_
  refine mm_runV (pc := 3) (As := [.int (nI t)]) (rest := [.ref ((rd 0 0))]) F hN (c_isTpl l b D hst T th rd σ hM hW t (by omega)) mw_1323 mw_1325 mw_p26 mw_6 mw_1326 ⟨pmX7_isTemplate, (Nat.le_of_ble_eq_true rfl), (Nat.le_of_ble_eq_true rfl)⟩ (mm_recv F.2.2.2.2.2.1 hN (mm_r0 hM) rfl) hl.1 rfl (Nat.le_of_ble_eq_true rfl) ⟨(Nat.le_of_ble_eq_true rfl), (Nat.le_of_ble_eq_true rfl)⟩ dX7_preview_3
    (fun _ _ _ _ _ _ h9 => False.elim h9)
    (fun v9 σ9 H locs hp9 hN => ?_)
  obtain ⟨rfl, h9⟩ := hp9
  rw [h9] at hN
  refine W.eq (g2 := F0 m 6 ls [.int (nI (if t < T.nT then 1 else 0)), .ref ((rd 0 0))]) rfl ?_
  refine W.widen (k := 0) (n := 0) (Nat.le_of_ble_eq_true rfl) (Nat.le_of_ble_eq_true rfl) ?_
  by_cases htt : t < T.nT
  ·
    refine W.eq (g2 := F0 m 6 ls [.int (nI 1), .ref ((rd 0 0))]) (by rw [if_pos htt]) ?_
    obtain ⟨wt1t, wt2t, wt3t⟩ := hW.htp t htt
    refine mm_if_eq (pc := 6) F (tgt := 17) (by omega) dX7_preview_6 (by decide) (fun h9 => absurd h9 (by decide)) (fun cz6 => ?_)
    refine lv_aload_n (pc := 9) F.1 F.2.1 dX7_preview_9 rfl (lv_at hl 0 rfl) ?_
    refine lv_iload_n (pc := 10) F.1 F.2.1 dX7_preview_10 rfl (lv_at hl 3 rfl) ?_
    refine mm_runV (pc := 11) (As := [.int (nI i)]) (rest := [.ref ((rd 0 0))]) F hN (c_isPerson l b D hst T th rd σ hM hW i (by omega)) mw_1287 mw_1289 mw_p25 mw_6 mw_1290 ⟨pmX7_isPerson, (Nat.le_of_ble_eq_true rfl), (Nat.le_of_ble_eq_true rfl)⟩ (mm_recv F.2.2.2.2.2.1 hN (mm_r0 hM) rfl) hl.1 rfl (Nat.le_of_ble_eq_true rfl) ⟨(Nat.le_of_ble_eq_true rfl), (Nat.le_of_ble_eq_true rfl)⟩ dX7_preview_11
      (fun _ _ _ _ _ _ h9 => False.elim h9)
      (fun v9 σ9 H locs hp9 hN => ?_)
    obtain ⟨rfl, h9⟩ := hp9
    rw [h9] at hN
    refine W.eq (g2 := F0 m 14 ls [.int (nI (if i < T.nP then 1 else 0)), .ref ((rd 0 0))]) rfl ?_
    refine W.widen (k := 0) (n := 0) (Nat.le_of_ble_eq_true rfl) (Nat.le_of_ble_eq_true rfl) ?_
    by_cases hpi : i < T.nP
    ·
      refine W.eq (g2 := F0 m 14 ls [.int (nI 1), .ref ((rd 0 0))]) (by rw [if_pos hpi]) ?_
      obtain ⟨whoi, wfli, wrei⟩ := hW.hpe i hpi
      refine mm_if_ne (pc := 14) F (tgt := 21) (by omega) dX7_preview_14 (by decide) (fun cz14 => ?_) (fun h9 => absurd h9 (by decide))
      refine lv_iconst (pc := 21) (v := nI 0) F.1 F.2.1 dX7_preview_21 (by decide) ?_
      refine mm_put (pc := 22) F hN (mm_r0 hM) (ci := 7) rfl 25 (by decide) mw_1204 rfl (ty := .int) (by decide +kernel) (rfl) (rfl) (Nat.le_of_ble_eq_true rfl) dX7_preview_22 (fun H locs hN => ?_)
      have hN : mm_N b D s (mm_u σ ((rd 0 0)) (mm_obj 1 7 [.ref ((rd 1 0)), .ref ((rd 2 0)), .ref ((rd 3 0)), .int (nI T.nA), .ref ((rd 4 0)), .ref ((rd 5 0)), .ref ((rd 6 0)), .int (nI T.nP), .ref ((rd 7 0)), .ref ((rd 8 0)), .ref ((rd 9 0)), .ref ((rd 10 0)), .ref ((rd 11 0)), .int (nI T.nT), .int (nI T.pa), .ref ((rd 12 0)), .int (nI T.bo), .ref ((rd 13 0)), .ref ((rd 14 0)), .ref ((rd 15 0)), .ref ((rd 16 0)), .ref ((rd 17 0)), .ref ((rd 18 0)), .ref ((rd 19 0)), .int (nI T.nR), .int (nI 0)])) _ _ := hN
      obtain ⟨σ2, eσ2⟩ : ∃ q, q = mm_u σ ((rd 0 0)) (mm_obj 1 7 [.ref ((rd 1 0)), .ref ((rd 2 0)), .ref ((rd 3 0)), .int (nI T.nA), .ref ((rd 4 0)), .ref ((rd 5 0)), .ref ((rd 6 0)), .int (nI T.nP), .ref ((rd 7 0)), .ref ((rd 8 0)), .ref ((rd 9 0)), .ref ((rd 10 0)), .ref ((rd 11 0)), .int (nI T.nT), .int (nI T.pa), .ref ((rd 12 0)), .int (nI T.bo), .ref ((rd 13 0)), .ref ((rd 14 0)), .ref ((rd 15 0)), .ref ((rd 16 0)), .ref ((rd 17 0)), .ref ((rd 18 0)), .ref ((rd 19 0)), .int (nI T.nR), .int (nI 0)]) := ⟨_, rfl⟩
      rw [← eσ2] at hN
      have hM2 : mm_M σ2 T 0 rd := by rw [eσ2]; exact mm_Mo hM (fun _ _ => rfl) rfl
      have hF2 : mm_Fr 1 σ σ2 := by rw [eσ2]; exact (mm_Fr.rf).tr (mm_Fr.u (mm_r0 hM))
      refine lv_aload_n (pc := 25) F.1 F.2.1 dX7_preview_25 rfl (lv_at hl 0 rfl) ?_
      refine mm_get (pc := 26) F hN ((show σ2 (rd 0 0) = mm_obj 1 7 [.ref ((rd 1 0)), .ref ((rd 2 0)), .ref ((rd 3 0)), .int (nI T.nA), .ref ((rd 4 0)), .ref ((rd 5 0)), .ref ((rd 6 0)), .int (nI T.nP), .ref ((rd 7 0)), .ref ((rd 8 0)), .ref ((rd 9 0)), .ref ((rd 10 0)), .ref ((rd 11 0)), .int (nI T.nT), .int (nI T.pa), .ref ((rd 12 0)), .int (nI T.bo), .ref ((rd 13 0)), .ref ((rd 14 0)), .ref ((rd 15 0)), .ref ((rd 16 0)), .ref ((rd 17 0)), .ref ((rd 18 0)), .ref ((rd 19 0)), .int (nI T.nR), .int (nI 0)] from mm_r0 (T := T) hM2)) (ci := 7) rfl 25 (by decide) mw_1204 rfl dX7_preview_26 ?_
      refine mm_if_le (pc := 29) F (tgt := 37) (by omega) dX7_preview_29 (by decide) (fun cz29 => ?_) (fun h9 => absurd h9 (by decide))
      refine lv_aload_n (pc := 37) F.1 F.2.1 dX7_preview_37 rfl (lv_at hl 0 rfl) ?_
      refine lv_iload_n (pc := 38) F.1 F.2.1 dX7_preview_38 rfl (lv_at hl 1 rfl) ?_
      refine lv_iload_n (pc := 39) F.1 F.2.1 dX7_preview_39 rfl (lv_at hl 2 rfl) ?_
      refine lv_aload_n (pc := 40) F.1 F.2.1 dX7_preview_40 rfl (lv_at hl 0 rfl) ?_
      refine mm_runV (pc := 41) (As := []) (rest := [.int (nI hh), .int (nI t), .ref ((rd 0 0))]) F hN (c_stock l b D hst T 0 rd σ2 hM2 hW) mw_1359 mw_1361 mw_p29 mw_6 mw_1362 ⟨pmX7_stock, (Nat.le_of_ble_eq_true rfl), (Nat.le_of_ble_eq_true rfl)⟩ (mm_recv F.2.2.2.2.2.1 hN ((show σ2 (rd 0 0) = mm_obj 1 7 [.ref ((rd 1 0)), .ref ((rd 2 0)), .ref ((rd 3 0)), .int (nI T.nA), .ref ((rd 4 0)), .ref ((rd 5 0)), .ref ((rd 6 0)), .int (nI T.nP), .ref ((rd 7 0)), .ref ((rd 8 0)), .ref ((rd 9 0)), .ref ((rd 10 0)), .ref ((rd 11 0)), .int (nI T.nT), .int (nI T.pa), .ref ((rd 12 0)), .int (nI T.bo), .ref ((rd 13 0)), .ref ((rd 14 0)), .ref ((rd 15 0)), .ref ((rd 16 0)), .ref ((rd 17 0)), .ref ((rd 18 0)), .ref ((rd 19 0)), .int (nI T.nR), .int (nI 0)] from mm_r0 (T := T) hM2)) rfl) hl.1 rfl (Nat.le_of_ble_eq_true rfl) ⟨(Nat.le_of_ble_eq_true rfl), (Nat.le_of_ble_eq_true rfl)⟩ dX7_preview_41
        (fun _ _ _ _ _ _ h9 => False.elim h9)
        (fun v9 σS H locs hp9 hN => ?_)
      obtain ⟨lf, rfl, hlfn, xlfS, hMS, hFS⟩ := hp9
      refine W.eq (g2 := F0 m 44 ls [.ref lf, .int (nI hh), .int (nI t), .ref ((rd 0 0))]) rfl ?_
      refine W.widen (k := 1) (n := 3) (Nat.le_of_ble_eq_true rfl) (Nat.le_of_ble_eq_true rfl) ?_
      have nol := mm_M_fresh hM2 hlfn
      refine mm_runV (pc := 44) (As := [.int (nI t), .int (nI hh), .ref lf]) (rest := []) F hN (c_outs l b D hst T 0 rd σS hMS hW t hh lf htt zhh xlfS nol) mw_1363 mw_1365 mw_p30 mw_6 mw_1366 ⟨pmX7_outcomesOf, (Nat.le_of_ble_eq_true rfl), (Nat.le_of_ble_eq_true rfl)⟩ (mm_recv F.2.2.2.2.2.1 hN ((show σS (rd 0 0) = mm_obj 1 7 [.ref ((rd 1 0)), .ref ((rd 2 0)), .ref ((rd 3 0)), .int (nI T.nA), .ref ((rd 4 0)), .ref ((rd 5 0)), .ref ((rd 6 0)), .int (nI T.nP), .ref ((rd 7 0)), .ref ((rd 8 0)), .ref ((rd 9 0)), .ref ((rd 10 0)), .ref ((rd 11 0)), .int (nI T.nT), .int (nI T.pa), .ref ((rd 12 0)), .int (nI T.bo), .ref ((rd 13 0)), .ref ((rd 14 0)), .ref ((rd 15 0)), .ref ((rd 16 0)), .ref ((rd 17 0)), .ref ((rd 18 0)), .ref ((rd 19 0)), .int (nI T.nR), .int (nI 0)] from mm_r0 (T := T) hMS)) rfl) hl.1 rfl (Nat.le_of_ble_eq_true rfl) ⟨(Nat.le_of_ble_eq_true rfl), (Nat.le_of_ble_eq_true rfl)⟩ dX7_preview_44
        (fun _ _ _ _ _ _ h9 => False.elim h9)
        (fun v9 σO H locs hp9 hN => ?_)
      obtain ⟨ro, rfl, hron, xroO, xlfO, hMO, hFO⟩ := hp9
      refine W.eq (g2 := F0 m 47 ls [.ref ro]) rfl ?_
      refine W.widen (k := 2) (n := 27) (Nat.le_of_ble_eq_true rfl) (Nat.le_of_ble_eq_true rfl) ?_
      have noq := mm_M_fresh hMS hron
      have nql : ro ≠ lf := fun e => by rw [e, xlfS] at hron; cases hron
      refine lv_iload_n (pc := 47) F.1 F.2.1 dX7_preview_47 rfl (lv_at hl 3 rfl) ?_
      refine mm_cald (pc := 48) F hN (xroO) (j := i) (rfl) (by omega) (by decide) dX7_preview_48 ?_
      refine W.eq (g2 := F0 m 49 ls [.int (nI (mm_oc T t hh i))]) (congrArg (fun q => F0 m 49 ls [Value.int (nI q)]) (if_pos hpi)) ?_
      exact mm_zret (pc := 49) F (ty := .char) hr hN (mm_narC (mm_oc_lt T t hh i)) (Or.inl ⟨by show mm_q_preview T t hh i = 0; unfold mm_q_preview; (repeat' split) <;> omega, rfl, hMO, ((((hF2).tr hFS)).tr hFO)⟩) (Nat.le_of_ble_eq_true rfl) (Nat.le_of_ble_eq_true rfl) dX7_preview_49
    ·
      refine W.eq (g2 := F0 m 14 ls [.int (nI 0), .ref ((rd 0 0))]) (by rw [if_neg hpi]) ?_
      refine mm_if_ne (pc := 14) F (tgt := 21) (by omega) dX7_preview_14 (by decide) (fun h9 => absurd h9 (by decide)) (fun cz14 => ?_)
      refine lv_iconst (pc := 17) (v := nI 1) F.1 F.2.1 dX7_preview_17 (by decide) ?_
      refine lv_goto (pc := 18) (tgt := 22) F.1 F.2.1 dX7_preview_18 (by decide) ?_
      refine mm_put (pc := 22) F hN (mm_r0 hM) (ci := 7) rfl 25 (by decide) mw_1204 rfl (ty := .int) (by decide +kernel) (rfl) (rfl) (Nat.le_of_ble_eq_true rfl) dX7_preview_22 (fun H locs hN => ?_)
      have hN : mm_N b D s (mm_u σ ((rd 0 0)) (mm_obj 1 7 [.ref ((rd 1 0)), .ref ((rd 2 0)), .ref ((rd 3 0)), .int (nI T.nA), .ref ((rd 4 0)), .ref ((rd 5 0)), .ref ((rd 6 0)), .int (nI T.nP), .ref ((rd 7 0)), .ref ((rd 8 0)), .ref ((rd 9 0)), .ref ((rd 10 0)), .ref ((rd 11 0)), .int (nI T.nT), .int (nI T.pa), .ref ((rd 12 0)), .int (nI T.bo), .ref ((rd 13 0)), .ref ((rd 14 0)), .ref ((rd 15 0)), .ref ((rd 16 0)), .ref ((rd 17 0)), .ref ((rd 18 0)), .ref ((rd 19 0)), .int (nI T.nR), .int (nI 1)])) _ _ := hN
      obtain ⟨σ3, eσ3⟩ : ∃ q, q = mm_u σ ((rd 0 0)) (mm_obj 1 7 [.ref ((rd 1 0)), .ref ((rd 2 0)), .ref ((rd 3 0)), .int (nI T.nA), .ref ((rd 4 0)), .ref ((rd 5 0)), .ref ((rd 6 0)), .int (nI T.nP), .ref ((rd 7 0)), .ref ((rd 8 0)), .ref ((rd 9 0)), .ref ((rd 10 0)), .ref ((rd 11 0)), .int (nI T.nT), .int (nI T.pa), .ref ((rd 12 0)), .int (nI T.bo), .ref ((rd 13 0)), .ref ((rd 14 0)), .ref ((rd 15 0)), .ref ((rd 16 0)), .ref ((rd 17 0)), .ref ((rd 18 0)), .ref ((rd 19 0)), .int (nI T.nR), .int (nI 1)]) := ⟨_, rfl⟩
      rw [← eσ3] at hN
      have hM3 : mm_M σ3 T 1 rd := by rw [eσ3]; exact mm_Mo hM (fun _ _ => rfl) rfl
      have hF3 : mm_Fr 1 σ σ3 := by rw [eσ3]; exact (mm_Fr.rf).tr (mm_Fr.u (mm_r0 hM))
      refine lv_aload_n (pc := 25) F.1 F.2.1 dX7_preview_25 rfl (lv_at hl 0 rfl) ?_
      refine mm_get (pc := 26) F hN ((show σ3 (rd 0 0) = mm_obj 1 7 [.ref ((rd 1 0)), .ref ((rd 2 0)), .ref ((rd 3 0)), .int (nI T.nA), .ref ((rd 4 0)), .ref ((rd 5 0)), .ref ((rd 6 0)), .int (nI T.nP), .ref ((rd 7 0)), .ref ((rd 8 0)), .ref ((rd 9 0)), .ref ((rd 10 0)), .ref ((rd 11 0)), .int (nI T.nT), .int (nI T.pa), .ref ((rd 12 0)), .int (nI T.bo), .ref ((rd 13 0)), .ref ((rd 14 0)), .ref ((rd 15 0)), .ref ((rd 16 0)), .ref ((rd 17 0)), .ref ((rd 18 0)), .ref ((rd 19 0)), .int (nI T.nR), .int (nI 1)] from mm_r0 (T := T) hM3)) (ci := 7) rfl 25 (by decide) mw_1204 rfl dX7_preview_26 ?_
      refine mm_if_le (pc := 29) F (tgt := 37) (by omega) dX7_preview_29 (by decide) (fun h9 => absurd h9 (by decide)) (fun cz29 => ?_)
      refine lv_bipush (pc := 32) (v := nI 45) F.1 F.2.1 dX7_preview_32 (by decide) ?_
      refine lv_goto (pc := 34) (tgt := 49) F.1 F.2.1 dX7_preview_34 (by decide) ?_
      exact mm_zret (pc := 49) F (ty := .char) hr hN (by decide) (Or.inr ⟨by rw [show mm_q_preview T t hh i = 1 from by show mm_q_preview T t hh i = 1; unfold mm_q_preview; (repeat' split) <;> omega]; decide, rfl, by rw [show mm_q_preview T t hh i = 1 from by show mm_q_preview T t hh i = 1; unfold mm_q_preview; (repeat' split) <;> omega]; exact hM3, hF3⟩) (Nat.le_of_ble_eq_true rfl) (Nat.le_of_ble_eq_true rfl) dX7_preview_49
  ·
    refine W.eq (g2 := F0 m 6 ls [.int (nI 0), .ref ((rd 0 0))]) (by rw [if_neg htt]) ?_
    refine mm_if_eq (pc := 6) F (tgt := 17) (by omega) dX7_preview_6 (by decide) (fun cz6 => ?_) (fun h9 => absurd h9 (by decide))
    refine lv_iconst (pc := 17) (v := nI 1) F.1 F.2.1 dX7_preview_17 (by decide) ?_
    refine lv_goto (pc := 18) (tgt := 22) F.1 F.2.1 dX7_preview_18 (by decide) ?_
    refine mm_put (pc := 22) F hN (mm_r0 hM) (ci := 7) rfl 25 (by decide) mw_1204 rfl (ty := .int) (by decide +kernel) (rfl) (rfl) (Nat.le_of_ble_eq_true rfl) dX7_preview_22 (fun H locs hN => ?_)
    have hN : mm_N b D s (mm_u σ ((rd 0 0)) (mm_obj 1 7 [.ref ((rd 1 0)), .ref ((rd 2 0)), .ref ((rd 3 0)), .int (nI T.nA), .ref ((rd 4 0)), .ref ((rd 5 0)), .ref ((rd 6 0)), .int (nI T.nP), .ref ((rd 7 0)), .ref ((rd 8 0)), .ref ((rd 9 0)), .ref ((rd 10 0)), .ref ((rd 11 0)), .int (nI T.nT), .int (nI T.pa), .ref ((rd 12 0)), .int (nI T.bo), .ref ((rd 13 0)), .ref ((rd 14 0)), .ref ((rd 15 0)), .ref ((rd 16 0)), .ref ((rd 17 0)), .ref ((rd 18 0)), .ref ((rd 19 0)), .int (nI T.nR), .int (nI 1)])) _ _ := hN
    obtain ⟨σ4, eσ4⟩ : ∃ q, q = mm_u σ ((rd 0 0)) (mm_obj 1 7 [.ref ((rd 1 0)), .ref ((rd 2 0)), .ref ((rd 3 0)), .int (nI T.nA), .ref ((rd 4 0)), .ref ((rd 5 0)), .ref ((rd 6 0)), .int (nI T.nP), .ref ((rd 7 0)), .ref ((rd 8 0)), .ref ((rd 9 0)), .ref ((rd 10 0)), .ref ((rd 11 0)), .int (nI T.nT), .int (nI T.pa), .ref ((rd 12 0)), .int (nI T.bo), .ref ((rd 13 0)), .ref ((rd 14 0)), .ref ((rd 15 0)), .ref ((rd 16 0)), .ref ((rd 17 0)), .ref ((rd 18 0)), .ref ((rd 19 0)), .int (nI T.nR), .int (nI 1)]) := ⟨_, rfl⟩
    rw [← eσ4] at hN
    have hM4 : mm_M σ4 T 1 rd := by rw [eσ4]; exact mm_Mo hM (fun _ _ => rfl) rfl
    have hF4 : mm_Fr 1 σ σ4 := by rw [eσ4]; exact (mm_Fr.rf).tr (mm_Fr.u (mm_r0 hM))
    refine lv_aload_n (pc := 25) F.1 F.2.1 dX7_preview_25 rfl (lv_at hl 0 rfl) ?_
    refine mm_get (pc := 26) F hN ((show σ4 (rd 0 0) = mm_obj 1 7 [.ref ((rd 1 0)), .ref ((rd 2 0)), .ref ((rd 3 0)), .int (nI T.nA), .ref ((rd 4 0)), .ref ((rd 5 0)), .ref ((rd 6 0)), .int (nI T.nP), .ref ((rd 7 0)), .ref ((rd 8 0)), .ref ((rd 9 0)), .ref ((rd 10 0)), .ref ((rd 11 0)), .int (nI T.nT), .int (nI T.pa), .ref ((rd 12 0)), .int (nI T.bo), .ref ((rd 13 0)), .ref ((rd 14 0)), .ref ((rd 15 0)), .ref ((rd 16 0)), .ref ((rd 17 0)), .ref ((rd 18 0)), .ref ((rd 19 0)), .int (nI T.nR), .int (nI 1)] from mm_r0 (T := T) hM4)) (ci := 7) rfl 25 (by decide) mw_1204 rfl dX7_preview_26 ?_
    refine mm_if_le (pc := 29) F (tgt := 37) (by omega) dX7_preview_29 (by decide) (fun h9 => absurd h9 (by decide)) (fun cz29 => ?_)
    refine lv_bipush (pc := 32) (v := nI 45) F.1 F.2.1 dX7_preview_32 (by decide) ?_
    refine lv_goto (pc := 34) (tgt := 49) F.1 F.2.1 dX7_preview_34 (by decide) ?_
    exact mm_zret (pc := 49) F (ty := .char) hr hN (by decide) (Or.inr ⟨by rw [show mm_q_preview T t hh i = 1 from by show mm_q_preview T t hh i = 1; unfold mm_q_preview; (repeat' split) <;> omega]; decide, rfl, by rw [show mm_q_preview T t hh i = 1 from by show mm_q_preview T t hh i = 1; unfold mm_q_preview; (repeat' split) <;> omega]; exact hM4, hF4⟩) (Nat.le_of_ble_eq_true rfl) (Nat.le_of_ble_eq_true rfl) dX7_preview_49

set_option maxHeartbeats 4000000 in
set_option maxRecDepth 100000 in
theorem r_previewAlone (l : Launch) (b : Nat) (D : mm_D) (hst : l.stackTraces = false) (T : mm_T) (th : Nat) (rd : Nat → Nat → Nat) (σ : mm_S) (hM : mm_M σ T th rd) (hW : mm_WF T) (t : Nat) (zt : t < 2 ^ 32) (hh : Nat) (zhh : hh < 2) (i : Nat) (zi : i < 2 ^ 32) : mm_K l b D yX7_previewAlone (.code yX7_previewAlone cX7_previewAlone 4 (some .char)) ({ frames := 8, cells := 2, slots := 27, locals := 260 } : Room) [.ref ((rd 0 0)), .int (nI t), .int (nI hh), .int (nI i)] σ
    (fun v σ2 => mm_Mu rd σ σ2 T (T) (mm_q_previewAlone T t hh i) v (some (.int (nI (mm_oc T t hh i)))) (some (.int (nI 45))))
    (fun _ _ => False) := by
  refine mm_of (cc := cX7_previewAlone) (nL := 4) (ret := (some .char)) (by decide) rfl (Nat.le_of_ble_eq_true rfl) hst ?_
  intro p e s m args below meth c ls F ht hr hin hN hl
  have hl : lv_has ls 4 [(0, .ref ((rd 0 0))), (1, .int (nI t)), (2, .int (nI hh)), (3, .int (nI i))] := hl
  refine lv_aload_n (pc := 0) F.1 F.2.1 dX7_previewAlone_0 rfl (lv_at hl 0 rfl) ?_
  refine lv_iload_n (pc := 1) F.1 F.2.1 dX7_previewAlone_1 rfl (lv_at hl 1 rfl) ?_
  refine lv_iload_n (pc := 2) F.1 F.2.1 dX7_previewAlone_2 rfl (lv_at hl 2 rfl) ?_
  refine lv_iload_n (pc := 3) F.1 F.2.1 dX7_previewAlone_3 rfl (lv_at hl 3 rfl) ?_
  refine mm_runV (pc := 4) (As := [.int (nI t), .int (nI hh), .int (nI i)]) (rest := []) F hN (r_preview l b D hst T th rd σ hM hW t zt hh zhh i zi) mw_1382 mw_1375 mw_1376 mw_6 mw_1377 ⟨pmX7_preview, (Nat.le_of_ble_eq_true rfl), (Nat.le_of_ble_eq_true rfl)⟩ (mm_recv F.2.2.2.2.2.1 hN (mm_r0 hM) rfl) hl.1 rfl (Nat.le_of_ble_eq_true rfl) ⟨(Nat.le_of_ble_eq_true rfl), (Nat.le_of_ble_eq_true rfl)⟩ dX7_previewAlone_4
    (fun _ _ _ _ _ _ h9 => False.elim h9)
    (fun v9 σ9 H locs hp9 hN => ?_)
  rcases hp9 with ⟨q9, rfl, hM9, hF9⟩ | ⟨q9, rfl, hM9, hF9⟩
  ·
    refine W.eq (g2 := F0 m 7 ls [.int (nI (mm_oc T t hh i))]) rfl ?_
    exact mm_zret (pc := 7) F (ty := .char) hr hN (mm_narC (mm_oc_lt T t hh i)) (Or.inl ⟨q9, rfl, hM9, hF9⟩) (Nat.le_of_ble_eq_true rfl) (Nat.le_of_ble_eq_true rfl) dX7_previewAlone_7
  ·
    refine W.eq (g2 := F0 m 7 ls [.int (nI 45)]) rfl ?_
    exact mm_zret (pc := 7) F (ty := .char) hr hN (by decide) (Or.inr ⟨q9, rfl, hM9, hF9⟩) (Nat.le_of_ble_eq_true rfl) (Nat.le_of_ble_eq_true rfl) dX7_previewAlone_7

set_option maxHeartbeats 4000000 in
set_option maxRecDepth 100000 in
theorem r_run (l : Launch) (b : Nat) (D : mm_D) (hst : l.stackTraces = false) (T : mm_T) (th : Nat) (rd : Nat → Nat → Nat) (σ : mm_S) (hM : mm_M σ T th rd) (hW : mm_WF T) (t : Nat) (zt : t < 2 ^ 32) (hh : Nat) (zhh : hh < 2) : mm_K l b D yX7_run (.code yX7_run cX7_run 8 (some .int)) ({ frames := 6, cells := 3, slots := 37, locals := 200 } : Room) [.ref ((rd 0 0)), .int (nI t), .int (nI hh)] σ
    (fun v σ2 => mm_Mt rd σ σ2 T (mm_t_run T t hh) (mm_q_run T t hh) v (some (.int (nI (T.nR)))))
    (fun _ _ => False) := by
  refine mm_of (cc := cX7_run) (nL := 8) (ret := (some .int)) (by decide) rfl (Nat.le_of_ble_eq_true rfl) hst ?_
  intro p e s m args below meth c ls F ht hr hin hN hl
  have hl : lv_has ls 8 [(0, .ref ((rd 0 0))), (1, .int (nI t)), (2, .int (nI hh))] := hl
  have wnA := hW.hnA
  have wnP := hW.hnP
  have wnT := hW.hnT
  have wnR := hW.hnR
  have wpa := hW.hpa
  have wbo := hW.hbo
  have wen0 := hW.hen 0
  have wen1 := hW.hen 1
  refine lv_aload_n (pc := 0) F.1 F.2.1 dX7_run_0 rfl (lv_at hl 0 rfl) ?_
  refine lv_aload_n (pc := 1) F.1 F.2.1 dX7_run_1 rfl (lv_at hl 0 rfl) ?_
  refine lv_iload_n (pc := 2) F.1 F.2.1 dX7_run_2 rfl (lv_at hl 1 rfl) ?_
  refine mm_runV (pc := 3) (As := [.int (nI t)]) (rest := [.ref ((rd 0 0))]) F hN (c_isTpl l b D hst T th rd σ hM hW t (by omega)) mw_1323 mw_1325 mw_p26 mw_6 mw_1326 ⟨pmX7_isTemplate, (Nat.le_of_ble_eq_true rfl), (Nat.le_of_ble_eq_true rfl)⟩ (mm_recv F.2.2.2.2.2.1 hN (mm_r0 hM) rfl) hl.1 rfl (Nat.le_of_ble_eq_true rfl) ⟨(Nat.le_of_ble_eq_true rfl), (Nat.le_of_ble_eq_true rfl)⟩ dX7_run_3
    (fun _ _ _ _ _ _ h9 => False.elim h9)
    (fun v9 σ9 H locs hp9 hN => ?_)
  obtain ⟨rfl, h9⟩ := hp9
  rw [h9] at hN
  refine W.eq (g2 := F0 m 6 ls [.int (nI (if t < T.nT then 1 else 0)), .ref ((rd 0 0))]) rfl ?_
  refine W.widen (k := 0) (n := 0) (Nat.le_of_ble_eq_true rfl) (Nat.le_of_ble_eq_true rfl) ?_
  by_cases htt : t < T.nT
  ·
    refine W.eq (g2 := F0 m 6 ls [.int (nI 1), .ref ((rd 0 0))]) (by rw [if_pos htt]) ?_
    obtain ⟨wt1t, wt2t, wt3t⟩ := hW.htp t htt
    refine mm_if_ne (pc := 6) F (tgt := 13) (by omega) dX7_run_6 (by decide) (fun cz6 => ?_) (fun h9 => absurd h9 (by decide))
    refine lv_aload_n (pc := 13) F.1 F.2.1 dX7_run_13 rfl (lv_at hl 0 rfl) ?_
    refine mm_get (pc := 14) F hN (mm_r0 hM) (ci := 7) rfl 24 (by decide) mw_1203 rfl dX7_run_14 ?_
    refine lv_bipush (pc := 17) (v := nI 10) F.1 F.2.1 dX7_run_17 (by decide) ?_
    refine mm_icmp_ne (pc := 19) F (x := T.nR) (y := 10) (tgt := 26) (by omega) (by omega) dX7_run_19 (by decide) (fun cz19 => ?_) (fun cz19 => ?_)
    ·
      refine lv_iconst (pc := 26) (v := nI 0) F.1 F.2.1 dX7_run_26 (by decide) ?_
      refine mm_put (pc := 27) F hN (mm_r0 hM) (ci := 7) rfl 25 (by decide) mw_1204 rfl (ty := .int) (by decide +kernel) (rfl) (rfl) (Nat.le_of_ble_eq_true rfl) dX7_run_27 (fun H locs hN => ?_)
      have hN : mm_N b D s (mm_u σ ((rd 0 0)) (mm_obj 1 7 [.ref ((rd 1 0)), .ref ((rd 2 0)), .ref ((rd 3 0)), .int (nI T.nA), .ref ((rd 4 0)), .ref ((rd 5 0)), .ref ((rd 6 0)), .int (nI T.nP), .ref ((rd 7 0)), .ref ((rd 8 0)), .ref ((rd 9 0)), .ref ((rd 10 0)), .ref ((rd 11 0)), .int (nI T.nT), .int (nI T.pa), .ref ((rd 12 0)), .int (nI T.bo), .ref ((rd 13 0)), .ref ((rd 14 0)), .ref ((rd 15 0)), .ref ((rd 16 0)), .ref ((rd 17 0)), .ref ((rd 18 0)), .ref ((rd 19 0)), .int (nI T.nR), .int (nI 0)])) _ _ := hN
      obtain ⟨σ2, eσ2⟩ : ∃ q, q = mm_u σ ((rd 0 0)) (mm_obj 1 7 [.ref ((rd 1 0)), .ref ((rd 2 0)), .ref ((rd 3 0)), .int (nI T.nA), .ref ((rd 4 0)), .ref ((rd 5 0)), .ref ((rd 6 0)), .int (nI T.nP), .ref ((rd 7 0)), .ref ((rd 8 0)), .ref ((rd 9 0)), .ref ((rd 10 0)), .ref ((rd 11 0)), .int (nI T.nT), .int (nI T.pa), .ref ((rd 12 0)), .int (nI T.bo), .ref ((rd 13 0)), .ref ((rd 14 0)), .ref ((rd 15 0)), .ref ((rd 16 0)), .ref ((rd 17 0)), .ref ((rd 18 0)), .ref ((rd 19 0)), .int (nI T.nR), .int (nI 0)]) := ⟨_, rfl⟩
      rw [← eσ2] at hN
      have hM2 : mm_M σ2 T 0 rd := by rw [eσ2]; exact mm_Mo hM (fun _ _ => rfl) rfl
      have hF2 : mm_Fr 1 σ σ2 := by rw [eσ2]; exact (mm_Fr.rf).tr (mm_Fr.u (mm_r0 hM))
      refine lv_aload_n (pc := 30) F.1 F.2.1 dX7_run_30 rfl (lv_at hl 0 rfl) ?_
      refine mm_get (pc := 31) F hN ((show σ2 (rd 0 0) = mm_obj 1 7 [.ref ((rd 1 0)), .ref ((rd 2 0)), .ref ((rd 3 0)), .int (nI T.nA), .ref ((rd 4 0)), .ref ((rd 5 0)), .ref ((rd 6 0)), .int (nI T.nP), .ref ((rd 7 0)), .ref ((rd 8 0)), .ref ((rd 9 0)), .ref ((rd 10 0)), .ref ((rd 11 0)), .int (nI T.nT), .int (nI T.pa), .ref ((rd 12 0)), .int (nI T.bo), .ref ((rd 13 0)), .ref ((rd 14 0)), .ref ((rd 15 0)), .ref ((rd 16 0)), .ref ((rd 17 0)), .ref ((rd 18 0)), .ref ((rd 19 0)), .int (nI T.nR), .int (nI 0)] from mm_r0 (T := T) hM2)) (ci := 7) rfl 25 (by decide) mw_1204 rfl dX7_run_31 ?_
      refine mm_if_le (pc := 34) F (tgt := 39) (by omega) dX7_run_34 (by decide) (fun cz34 => ?_) (fun h9 => absurd h9 (by decide))
      refine lv_aload_n (pc := 39) F.1 F.2.1 dX7_run_39 rfl (lv_at hl 0 rfl) ?_
      refine mm_runV (pc := 40) (As := []) (rest := []) F hN (c_stock l b D hst T 0 rd σ2 hM2 hW) mw_1359 mw_1361 mw_p29 mw_6 mw_1362 ⟨pmX7_stock, (Nat.le_of_ble_eq_true rfl), (Nat.le_of_ble_eq_true rfl)⟩ (mm_recv F.2.2.2.2.2.1 hN ((show σ2 (rd 0 0) = mm_obj 1 7 [.ref ((rd 1 0)), .ref ((rd 2 0)), .ref ((rd 3 0)), .int (nI T.nA), .ref ((rd 4 0)), .ref ((rd 5 0)), .ref ((rd 6 0)), .int (nI T.nP), .ref ((rd 7 0)), .ref ((rd 8 0)), .ref ((rd 9 0)), .ref ((rd 10 0)), .ref ((rd 11 0)), .int (nI T.nT), .int (nI T.pa), .ref ((rd 12 0)), .int (nI T.bo), .ref ((rd 13 0)), .ref ((rd 14 0)), .ref ((rd 15 0)), .ref ((rd 16 0)), .ref ((rd 17 0)), .ref ((rd 18 0)), .ref ((rd 19 0)), .int (nI T.nR), .int (nI 0)] from mm_r0 (T := T) hM2)) rfl) hl.1 rfl (Nat.le_of_ble_eq_true rfl) ⟨(Nat.le_of_ble_eq_true rfl), (Nat.le_of_ble_eq_true rfl)⟩ dX7_run_40
        (fun _ _ _ _ _ _ h9 => False.elim h9)
        (fun v9 σS H locs hp9 hN => ?_)
      obtain ⟨lf, rfl, hlfn, xlfS, hMS, hFS⟩ := hp9
      refine W.eq (g2 := F0 m 43 ls [.ref lf]) rfl ?_
      refine W.widen (k := 1) (n := 3) (Nat.le_of_ble_eq_true rfl) (Nat.le_of_ble_eq_true rfl) ?_
      have nol := mm_M_fresh hM2 hlfn
      refine lv_astore_n (pc := 43) (lv' := [(3, .ref lf), (0, .ref ((rd 0 0))), (1, .int (nI t)), (2, .int (nI hh))]) F.1 F.2.1 dX7_run_43 rfl hl (by decide) rfl (fun ls hl => ?_)
      refine lv_aload_n (pc := 44) F.1 F.2.1 dX7_run_44 rfl (lv_at hl 1 rfl) ?_
      refine lv_iload_n (pc := 45) F.1 F.2.1 dX7_run_45 rfl (lv_at hl 2 rfl) ?_
      refine lv_iload_n (pc := 46) F.1 F.2.1 dX7_run_46 rfl (lv_at hl 3 rfl) ?_
      refine lv_aload_n (pc := 47) F.1 F.2.1 dX7_run_47 rfl (lv_at hl 0 rfl) ?_
      refine mm_runV (pc := 48) (As := [.int (nI t), .int (nI hh), .ref lf]) (rest := []) F hN (c_outs l b D hst T 0 rd σS hMS hW t hh lf htt zhh xlfS nol) mw_1363 mw_1365 mw_p30 mw_6 mw_1366 ⟨pmX7_outcomesOf, (Nat.le_of_ble_eq_true rfl), (Nat.le_of_ble_eq_true rfl)⟩ (mm_recv F.2.2.2.2.2.1 hN ((show σS (rd 0 0) = mm_obj 1 7 [.ref ((rd 1 0)), .ref ((rd 2 0)), .ref ((rd 3 0)), .int (nI T.nA), .ref ((rd 4 0)), .ref ((rd 5 0)), .ref ((rd 6 0)), .int (nI T.nP), .ref ((rd 7 0)), .ref ((rd 8 0)), .ref ((rd 9 0)), .ref ((rd 10 0)), .ref ((rd 11 0)), .int (nI T.nT), .int (nI T.pa), .ref ((rd 12 0)), .int (nI T.bo), .ref ((rd 13 0)), .ref ((rd 14 0)), .ref ((rd 15 0)), .ref ((rd 16 0)), .ref ((rd 17 0)), .ref ((rd 18 0)), .ref ((rd 19 0)), .int (nI T.nR), .int (nI 0)] from mm_r0 (T := T) hMS)) rfl) hl.1 rfl (Nat.le_of_ble_eq_true rfl) ⟨(Nat.le_of_ble_eq_true rfl), (Nat.le_of_ble_eq_true rfl)⟩ dX7_run_48
        (fun _ _ _ _ _ _ h9 => False.elim h9)
        (fun v9 σO H locs hp9 hN => ?_)
      obtain ⟨ro, rfl, hron, xroO, xlfO, hMO, hFO⟩ := hp9
      refine W.eq (g2 := F0 m 51 ls [.ref ro]) rfl ?_
      refine W.widen (k := 2) (n := 27) (Nat.le_of_ble_eq_true rfl) (Nat.le_of_ble_eq_true rfl) ?_
      have noq := mm_M_fresh hMS hron
      have nql : ro ≠ lf := fun e => by rw [e, xlfS] at hron; cases hron
      refine lv_astore (pc := 51) (lv' := [(4, .ref ro), (3, .ref lf), (0, .ref ((rd 0 0))), (1, .int (nI t)), (2, .int (nI hh))]) F.1 F.2.1 dX7_run_51 hl (by decide) rfl (fun ls hl => ?_)
      refine lv_iconst (pc := 53) (v := nI 0) F.1 F.2.1 dX7_run_53 (by decide) ?_
      refine lv_istore (pc := 54) (lv' := [(5, .int (nI 0)), (4, .ref ro), (3, .ref lf), (0, .ref ((rd 0 0))), (1, .int (nI t)), (2, .int (nI hh))]) F.1 F.2.1 dX7_run_54 hl (by decide) rfl (fun ls hl => ?_)
      have lp56 : ∀ (k56 j : Nat) (σj : mm_S) (ls : Array Slot) (H : Heap) (locs : List Loc), T.nA < j + k56 → j ≤ T.nA → (mm_M σj (T.w 2 (mm_ke T j)) 0 rd) → (mm_Fr 1 σ σj) → (σj ro = mm_ari 1 3 24 (fun b9 => nI (if b9 < T.nP then mm_oc T t hh b9 else 0))) → (σj lf = mm_ari 1 0 3 (fun b9 => nI (mm_l3 (mm_lf T t hh T.nP) b9))) → mm_N b D s σj H locs → lv_has ls 8 [(0, .ref ((rd 0 0))), (1, .int (nI t)), (2, .int (nI hh)), (3, .ref lf), (4, .ref ro), (5, .int (nI j))] →
          W p l e ({ frames := 6, cells := 3, slots := 37, locals := 200 } : Room) s m args below meth c H locs (2) (27) (mm_Q b D (fun v σ2 => mm_Mt rd σ σ2 T (mm_t_run T t hh) (mm_q_run T t hh) v (some (.int (nI (T.nR))))) (fun _ _ => False) below args s ({ frames := 6, cells := 3, slots := 37, locals := 200 } : Room)) (F0 m 56 ls []) := by
        intro k56
        induction k56 with
        | zero => intro j σj ls H locs hk56 hi56 hMj hFj x_ro x_lf hN hl; omega
        | succ k56 ih56 =>
          intro j σj ls H locs hk56 hi56 hMj hFj x_ro x_lf hN hl
          refine lv_iload (pc := 56) F.1 F.2.1 dX7_run_56 (lv_at hl 5 rfl) ?_
          refine lv_aload_n (pc := 58) F.1 F.2.1 dX7_run_58 rfl (lv_at hl 0 rfl) ?_
          refine mm_get (pc := 59) F hN ((show σj (rd 0 0) = mm_obj 1 7 [.ref ((rd 1 0)), .ref ((rd 2 0)), .ref ((rd 3 0)), .int (nI T.nA), .ref ((rd 4 0)), .ref ((rd 5 0)), .ref ((rd 6 0)), .int (nI T.nP), .ref ((rd 7 0)), .ref ((rd 8 0)), .ref ((rd 9 0)), .ref ((rd 10 0)), .ref ((rd 11 0)), .int (nI T.nT), .int (nI T.pa), .ref ((rd 12 0)), .int (nI T.bo), .ref ((rd 13 0)), .ref ((rd 14 0)), .ref ((rd 15 0)), .ref ((rd 16 0)), .ref ((rd 17 0)), .ref ((rd 18 0)), .ref ((rd 19 0)), .int (nI T.nR), .int (nI 0)] from mm_r0 (T := (T.w 2 (mm_ke T j))) hMj)) (ci := 7) rfl 3 (by decide) mw_1182 rfl dX7_run_59 ?_
          refine mm_icmp_ge (pc := 62) F (x := j) (y := T.nA) (tgt := 98) (by omega) (by omega) dX7_run_62 (by decide) (fun cz62 => ?_) (fun cz62 => ?_)
          ·
            have hjn : j = T.nA := by omega
            rw [hjn] at hMj
            have hlfw := mm_lf_le hW t hh T.nP
            refine lv_aload_n (pc := 98) F.1 F.2.1 dX7_run_98 rfl (lv_at hl 0 rfl) ?_
            refine lv_aload_n (pc := 99) F.1 F.2.1 dX7_run_99 rfl (lv_at hl 3 rfl) ?_
            refine lv_iconst (pc := 100) (v := nI 0) F.1 F.2.1 dX7_run_100 (by decide) ?_
            refine mm_iald (pc := 101) F hN (x_lf) (j := 0) (rfl) (by omega) (by decide) dX7_run_101 ?_
            refine W.eq (g2 := F0 m 102 ls [.int (nI ((mm_lf T t hh T.nP).1)), .ref ((rd 0 0))]) rfl ?_
            refine mm_put (pc := 102) F hN ((show σj (rd 0 0) = mm_obj 1 7 [.ref ((rd 1 0)), .ref ((rd 2 0)), .ref ((rd 3 0)), .int (nI T.nA), .ref ((rd 4 0)), .ref ((rd 5 0)), .ref ((rd 6 0)), .int (nI T.nP), .ref ((rd 7 0)), .ref ((rd 8 0)), .ref ((rd 9 0)), .ref ((rd 10 0)), .ref ((rd 11 0)), .int (nI T.nT), .int (nI T.pa), .ref ((rd 12 0)), .int (nI T.bo), .ref ((rd 13 0)), .ref ((rd 14 0)), .ref ((rd 15 0)), .ref ((rd 16 0)), .ref ((rd 17 0)), .ref ((rd 18 0)), .ref ((rd 19 0)), .int (nI T.nR), .int (nI 0)] from mm_r0 (T := (T.w 2 (mm_ke T T.nA))) hMj)) (ci := 7) rfl 14 (by decide) mw_1193 rfl (ty := .int) (by decide +kernel) (rfl) (rfl) (Nat.le_of_ble_eq_true rfl) dX7_run_102 (fun H locs hN => ?_)
            have hN : mm_N b D s (mm_u σj ((rd 0 0)) (mm_obj 1 7 [.ref ((rd 1 0)), .ref ((rd 2 0)), .ref ((rd 3 0)), .int (nI T.nA), .ref ((rd 4 0)), .ref ((rd 5 0)), .ref ((rd 6 0)), .int (nI T.nP), .ref ((rd 7 0)), .ref ((rd 8 0)), .ref ((rd 9 0)), .ref ((rd 10 0)), .ref ((rd 11 0)), .int (nI T.nT), .int (nI ((mm_lf T t hh T.nP).1)), .ref ((rd 12 0)), .int (nI T.bo), .ref ((rd 13 0)), .ref ((rd 14 0)), .ref ((rd 15 0)), .ref ((rd 16 0)), .ref ((rd 17 0)), .ref ((rd 18 0)), .ref ((rd 19 0)), .int (nI T.nR), .int (nI 0)])) _ _ := hN
            obtain ⟨σ3, eσ3⟩ : ∃ q, q = mm_u σj ((rd 0 0)) (mm_obj 1 7 [.ref ((rd 1 0)), .ref ((rd 2 0)), .ref ((rd 3 0)), .int (nI T.nA), .ref ((rd 4 0)), .ref ((rd 5 0)), .ref ((rd 6 0)), .int (nI T.nP), .ref ((rd 7 0)), .ref ((rd 8 0)), .ref ((rd 9 0)), .ref ((rd 10 0)), .ref ((rd 11 0)), .int (nI T.nT), .int (nI ((mm_lf T t hh T.nP).1)), .ref ((rd 12 0)), .int (nI T.bo), .ref ((rd 13 0)), .ref ((rd 14 0)), .ref ((rd 15 0)), .ref ((rd 16 0)), .ref ((rd 17 0)), .ref ((rd 18 0)), .ref ((rd 19 0)), .int (nI T.nR), .int (nI 0)]) := ⟨_, rfl⟩
            rw [← eσ3] at hN
            have hM3 : mm_M σ3 ((T.w 2 (mm_ke T T.nA)).w 0 (mm_u2 ((T.w 2 (mm_ke T T.nA)) 0) 4 0 ((mm_lf T t hh T.nP).1))) 0 rd := by rw [eσ3]; exact mm_Mo hMj (fun k hk => mm_T.wo hk) rfl
            have hF3 : mm_Fr 1 σ σ3 := by rw [eσ3]; exact (hFj).tr (mm_Fr.u (mm_r0 hMj))
            have xro3 : σ3 ro = mm_ari 1 3 24 (fun b9 => nI (if b9 < T.nP then mm_oc T t hh b9 else 0)) := by rw [eσ3]; exact (mm_u_ne (Ne.symm (noq _ _ mm_l0))).trans x_ro
            have xlf3 : σ3 lf = mm_ari 1 0 3 (fun b9 => nI (mm_l3 (mm_lf T t hh T.nP) b9)) := by rw [eσ3]; exact (mm_u_ne (Ne.symm (nol _ _ mm_l0))).trans x_lf
            refine lv_aload_n (pc := 105) F.1 F.2.1 dX7_run_105 rfl (lv_at hl 0 rfl) ?_
            refine mm_get (pc := 106) F hN ((show σ3 (rd 0 0) = mm_obj 1 7 [.ref ((rd 1 0)), .ref ((rd 2 0)), .ref ((rd 3 0)), .int (nI T.nA), .ref ((rd 4 0)), .ref ((rd 5 0)), .ref ((rd 6 0)), .int (nI T.nP), .ref ((rd 7 0)), .ref ((rd 8 0)), .ref ((rd 9 0)), .ref ((rd 10 0)), .ref ((rd 11 0)), .int (nI T.nT), .int (nI ((mm_lf T t hh T.nP).1)), .ref ((rd 12 0)), .int (nI T.bo), .ref ((rd 13 0)), .ref ((rd 14 0)), .ref ((rd 15 0)), .ref ((rd 16 0)), .ref ((rd 17 0)), .ref ((rd 18 0)), .ref ((rd 19 0)), .int (nI T.nR), .int (nI 0)] from mm_r0 (T := ((T.w 2 (mm_ke T T.nA)).w 0 (mm_u2 ((T.w 2 (mm_ke T T.nA)) 0) 4 0 ((mm_lf T t hh T.nP).1)))) hM3)) (ci := 7) rfl 15 (by decide) mw_1194 rfl dX7_run_106 ?_
            refine lv_iconst (pc := 109) (v := nI 0) F.1 F.2.1 dX7_run_109 (by decide) ?_
            refine lv_aload_n (pc := 110) F.1 F.2.1 dX7_run_110 rfl (lv_at hl 3 rfl) ?_
            refine lv_iconst (pc := 111) (v := nI 1) F.1 F.2.1 dX7_run_111 (by decide) ?_
            refine mm_iald (pc := 112) F hN (xlf3) (j := 1) (rfl) (by omega) (by decide) dX7_run_112 ?_
            refine W.eq (g2 := F0 m 113 ls [.int (nI ((mm_lf T t hh T.nP).2.1)), .int (nI 0), .ref ((rd 12 0))]) rfl ?_
            refine mm_iast (pc := 113) F hN ((show σ3 (rd 12 0) = mm_ari 1 0 2 (fun b9 => nI (T.en b9)) from mm_r12 (T := ((T.w 2 (mm_ke T T.nA)).w 0 (mm_u2 ((T.w 2 (mm_ke T T.nA)) 0) 4 0 ((mm_lf T t hh T.nP).1)))) hM3)) (j := 0) (rfl) (by omega) (by decide) dX7_run_113 (fun H locs hN => ?_)
            have hN : mm_N b D s (mm_u σ3 (rd 12 0) (mm_ari 1 0 2 (va_up (fun b9 => nI (T.en b9)) 0 (nI ((mm_lf T t hh T.nP).2.1))))) _ _ := hN
            obtain ⟨σ4, eσ4⟩ : ∃ q, q = mm_u σ3 (rd 12 0) (mm_ari 1 0 2 (va_up (fun b9 => nI (T.en b9)) 0 (nI ((mm_lf T t hh T.nP).2.1)))) := ⟨_, rfl⟩
            rw [← eσ4] at hN
            have hM4 : mm_M σ4 (((T.w 2 (mm_ke T T.nA)).w 0 (mm_u2 ((T.w 2 (mm_ke T T.nA)) 0) 4 0 ((mm_lf T t hh T.nP).1))).w 12 (mm_u2 (((T.w 2 (mm_ke T T.nA)).w 0 (mm_u2 ((T.w 2 (mm_ke T T.nA)) 0) 4 0 ((mm_lf T t hh T.nP).1))) 12) 0 0 ((mm_lf T t hh T.nP).2.1))) 0 rd := by rw [eσ4]; exact mm_Mw1 hM3 (k := 12) rfl mm_va1
            have hF4 : mm_Fr 1 σ σ4 := by rw [eσ4]; exact (hF3).tr (mm_Fr.u (mm_r12 hM3))
            have xro4 : σ4 ro = mm_ari 1 3 24 (fun b9 => nI (if b9 < T.nP then mm_oc T t hh b9 else 0)) := by rw [eσ4]; exact (mm_u_ne (Ne.symm (noq _ _ (mm_l1 (k := 12) rfl)))).trans xro3
            have xlf4 : σ4 lf = mm_ari 1 0 3 (fun b9 => nI (mm_l3 (mm_lf T t hh T.nP) b9)) := by rw [eσ4]; exact (mm_u_ne (Ne.symm (nol _ _ (mm_l1 (k := 12) rfl)))).trans xlf3
            refine lv_aload_n (pc := 114) F.1 F.2.1 dX7_run_114 rfl (lv_at hl 0 rfl) ?_
            refine mm_get (pc := 115) F hN ((show σ4 (rd 0 0) = mm_obj 1 7 [.ref ((rd 1 0)), .ref ((rd 2 0)), .ref ((rd 3 0)), .int (nI T.nA), .ref ((rd 4 0)), .ref ((rd 5 0)), .ref ((rd 6 0)), .int (nI T.nP), .ref ((rd 7 0)), .ref ((rd 8 0)), .ref ((rd 9 0)), .ref ((rd 10 0)), .ref ((rd 11 0)), .int (nI T.nT), .int (nI ((mm_lf T t hh T.nP).1)), .ref ((rd 12 0)), .int (nI T.bo), .ref ((rd 13 0)), .ref ((rd 14 0)), .ref ((rd 15 0)), .ref ((rd 16 0)), .ref ((rd 17 0)), .ref ((rd 18 0)), .ref ((rd 19 0)), .int (nI T.nR), .int (nI 0)] from mm_r0 (T := (((T.w 2 (mm_ke T T.nA)).w 0 (mm_u2 ((T.w 2 (mm_ke T T.nA)) 0) 4 0 ((mm_lf T t hh T.nP).1))).w 12 (mm_u2 (((T.w 2 (mm_ke T T.nA)).w 0 (mm_u2 ((T.w 2 (mm_ke T T.nA)) 0) 4 0 ((mm_lf T t hh T.nP).1))) 12) 0 0 ((mm_lf T t hh T.nP).2.1)))) hM4)) (ci := 7) rfl 15 (by decide) mw_1194 rfl dX7_run_115 ?_
            refine lv_iconst (pc := 118) (v := nI 1) F.1 F.2.1 dX7_run_118 (by decide) ?_
            refine lv_aload_n (pc := 119) F.1 F.2.1 dX7_run_119 rfl (lv_at hl 3 rfl) ?_
            refine lv_iconst (pc := 120) (v := nI 2) F.1 F.2.1 dX7_run_120 (by decide) ?_
            refine mm_iald (pc := 121) F hN (xlf4) (j := 2) (rfl) (by omega) (by decide) dX7_run_121 ?_
            refine W.eq (g2 := F0 m 122 ls [.int (nI ((mm_lf T t hh T.nP).2.2)), .int (nI 1), .ref ((rd 12 0))]) rfl ?_
            refine mm_iast (pc := 122) F hN ((show σ4 (rd 12 0) = mm_ari 1 0 2 (fun b9 => nI ((mm_u2 (((T.w 2 (mm_ke T T.nA)).w 0 (mm_u2 ((T.w 2 (mm_ke T T.nA)) 0) 4 0 ((mm_lf T t hh T.nP).1))) 12) 0 0 ((mm_lf T t hh T.nP).2.1)) b9 0)) from mm_r12 (T := (((T.w 2 (mm_ke T T.nA)).w 0 (mm_u2 ((T.w 2 (mm_ke T T.nA)) 0) 4 0 ((mm_lf T t hh T.nP).1))).w 12 (mm_u2 (((T.w 2 (mm_ke T T.nA)).w 0 (mm_u2 ((T.w 2 (mm_ke T T.nA)) 0) 4 0 ((mm_lf T t hh T.nP).1))) 12) 0 0 ((mm_lf T t hh T.nP).2.1)))) hM4)) (j := 1) (rfl) (by omega) (by decide) dX7_run_122 (fun H locs hN => ?_)
            have hN : mm_N b D s (mm_u σ4 (rd 12 0) (mm_ari 1 0 2 (va_up (fun b9 => nI ((mm_u2 (((T.w 2 (mm_ke T T.nA)).w 0 (mm_u2 ((T.w 2 (mm_ke T T.nA)) 0) 4 0 ((mm_lf T t hh T.nP).1))) 12) 0 0 ((mm_lf T t hh T.nP).2.1)) b9 0)) 1 (nI ((mm_lf T t hh T.nP).2.2))))) _ _ := hN
            obtain ⟨σ5, eσ5⟩ : ∃ q, q = mm_u σ4 (rd 12 0) (mm_ari 1 0 2 (va_up (fun b9 => nI ((mm_u2 (((T.w 2 (mm_ke T T.nA)).w 0 (mm_u2 ((T.w 2 (mm_ke T T.nA)) 0) 4 0 ((mm_lf T t hh T.nP).1))) 12) 0 0 ((mm_lf T t hh T.nP).2.1)) b9 0)) 1 (nI ((mm_lf T t hh T.nP).2.2)))) := ⟨_, rfl⟩
            rw [← eσ5] at hN
            have hM5 : mm_M σ5 ((((T.w 2 (mm_ke T T.nA)).w 0 (mm_u2 ((T.w 2 (mm_ke T T.nA)) 0) 4 0 ((mm_lf T t hh T.nP).1))).w 12 (mm_u2 (((T.w 2 (mm_ke T T.nA)).w 0 (mm_u2 ((T.w 2 (mm_ke T T.nA)) 0) 4 0 ((mm_lf T t hh T.nP).1))) 12) 0 0 ((mm_lf T t hh T.nP).2.1))).w 12 (mm_u2 ((((T.w 2 (mm_ke T T.nA)).w 0 (mm_u2 ((T.w 2 (mm_ke T T.nA)) 0) 4 0 ((mm_lf T t hh T.nP).1))).w 12 (mm_u2 (((T.w 2 (mm_ke T T.nA)).w 0 (mm_u2 ((T.w 2 (mm_ke T T.nA)) 0) 4 0 ((mm_lf T t hh T.nP).1))) 12) 0 0 ((mm_lf T t hh T.nP).2.1))) 12) 1 0 ((mm_lf T t hh T.nP).2.2))) 0 rd := by rw [eσ5]; exact mm_Mw1 hM4 (k := 12) rfl mm_va1
            have hF5 : mm_Fr 1 σ σ5 := by rw [eσ5]; exact (hF4).tr (mm_Fr.u (mm_r12 hM4))
            have xro5 : σ5 ro = mm_ari 1 3 24 (fun b9 => nI (if b9 < T.nP then mm_oc T t hh b9 else 0)) := by rw [eσ5]; exact (mm_u_ne (Ne.symm (noq _ _ (mm_l1 (k := 12) rfl)))).trans xro4
            have xlf5 : σ5 lf = mm_ari 1 0 3 (fun b9 => nI (mm_l3 (mm_lf T t hh T.nP) b9)) := by rw [eσ5]; exact (mm_u_ne (Ne.symm (nol _ _ (mm_l1 (k := 12) rfl)))).trans xlf4
            have hMR := mm_tRn0 (T := T) (t := t) (hh := hh) hM5 mm_ww
            refine lv_bipush (pc := 123) (v := nI 10) F.1 F.2.1 dX7_run_123 (by decide) ?_
            refine mm_newa (pc := 125) F hN 1 0 (10) (x := (10, .inl (fun _ => 0))) (atype := .int) rfl (by omega) mw_594 rfl (by intro C h; cases h) (by decide) (rfl) ((Nat.le_of_ble_eq_true rfl)) ((Nat.le_of_ble_eq_true rfl)) dX7_run_125 (fun q5 H hq5 hN => ?_)
            have hN : mm_N b D s (mm_u σ5 q5 (mm_arr 1 0 (10, .inl (fun _ => 0)))) _ _ := hN
            obtain ⟨rt, ert⟩ : ∃ x, x = q5 := ⟨_, rfl⟩
            rw [← ert]
            rw [← ert] at hN hq5
            have nor := mm_M_fresh hMR hq5
            have nqr : ro ≠ rt := fun e => by have h9 := xro5; rw [e, hq5] at h9; cases h9
            obtain ⟨σr, eσr⟩ : ∃ q, q = mm_u σ5 rt (mm_arr 1 0 (10, .inl (fun _ => 0))) := ⟨_, rfl⟩
            rw [← eσr] at hN
            have hMr : mm_M σr (mm_tRn T t hh 0) 0 rd := by rw [eσr]; exact mm_M_off hMR nor
            have hFr : mm_Fr 1 σ σr := by rw [eσr]; exact (hF5).tr (mm_Fr.new hq5)
            have xrtr : σr rt = mm_ari 1 0 10 (fun b9 => nI (mm_rou T t hh 0 b9)) := by rw [eσr, mm_u_eq]; rfl
            have xror : σr ro = mm_ari 1 3 24 (fun b9 => nI (if b9 < T.nP then mm_oc T t hh b9 else 0)) := by rw [eσr]; exact (mm_u_ne nqr).trans xro5
            refine lv_astore (pc := 127) (lv' := [(5, .ref rt), (0, .ref ((rd 0 0))), (1, .int (nI t)), (2, .int (nI hh)), (3, .ref lf), (4, .ref ro)]) F.1 F.2.1 dX7_run_127 hl (by decide) rfl (fun ls hl => ?_)
            refine lv_iconst (pc := 129) (v := nI 0) F.1 F.2.1 dX7_run_129 (by decide) ?_
            refine lv_istore (pc := 130) (lv' := [(6, .int (nI 0)), (5, .ref rt), (0, .ref ((rd 0 0))), (1, .int (nI t)), (2, .int (nI hh)), (3, .ref lf), (4, .ref ro)]) F.1 F.2.1 dX7_run_130 hl (by decide) rfl (fun ls hl => ?_)
            have lp132 : ∀ (k132 u : Nat) (σu : mm_S) (ls : Array Slot) (H : Heap) (locs : List Loc), T.nP < u + k132 → u ≤ T.nP → (mm_M σu (mm_tRn T t hh u) 0 rd) → (mm_Fr 1 σ σu) → (σu ro = mm_ari 1 3 24 (fun b9 => nI (if b9 < T.nP then mm_oc T t hh b9 else 0))) → (σu rt = mm_ari 1 0 10 (fun b9 => nI (mm_rou T t hh u b9))) → mm_N b D s σu H locs → lv_has ls 8 [(0, .ref ((rd 0 0))), (1, .int (nI t)), (4, .ref ro), (5, .ref rt), (6, .int (nI u))] →
                W p l e ({ frames := 6, cells := 3, slots := 37, locals := 200 } : Room) s m args below meth c H locs (3) (37) (mm_Q b D (fun v σ2 => mm_Mt rd σ σ2 T (mm_t_run T t hh) (mm_q_run T t hh) v (some (.int (nI (T.nR))))) (fun _ _ => False) below args s ({ frames := 6, cells := 3, slots := 37, locals := 200 } : Room)) (F0 m 132 ls []) := by
              intro k132
              induction k132 with
              | zero => intro u σu ls H locs hk132 hi132 hMu hFu xrou xrtu hN hl; omega
              | succ k132 ih132 =>
                intro u σu ls H locs hk132 hi132 hMu hFu xrou xrtu hN hl
                refine lv_iload (pc := 132) F.1 F.2.1 dX7_run_132 (lv_at hl 4 rfl) ?_
                refine lv_aload_n (pc := 134) F.1 F.2.1 dX7_run_134 rfl (lv_at hl 0 rfl) ?_
                refine mm_get (pc := 135) F hN ((show σu (rd 0 0) = mm_obj 1 7 [.ref ((rd 1 0)), .ref ((rd 2 0)), .ref ((rd 3 0)), .int (nI T.nA), .ref ((rd 4 0)), .ref ((rd 5 0)), .ref ((rd 6 0)), .int (nI T.nP), .ref ((rd 7 0)), .ref ((rd 8 0)), .ref ((rd 9 0)), .ref ((rd 10 0)), .ref ((rd 11 0)), .int (nI T.nT), .int (nI ((mm_lf T t hh T.nP).1)), .ref ((rd 12 0)), .int (nI T.bo), .ref ((rd 13 0)), .ref ((rd 14 0)), .ref ((rd 15 0)), .ref ((rd 16 0)), .ref ((rd 17 0)), .ref ((rd 18 0)), .ref ((rd 19 0)), .int (nI T.nR), .int (nI 0)] from mm_r0 (T := (mm_tRn T t hh u)) hMu)) (ci := 7) rfl 7 (by decide) mw_1186 rfl dX7_run_135 ?_
                refine mm_icmp_ge (pc := 138) F (x := u) (y := T.nP) (tgt := 285) (by omega) (by omega) dX7_run_138 (by decide) (fun cz138 => ?_) (fun cz138 => ?_)
                ·
                  have hun : u = T.nP := by omega
                  rw [hun] at hMu xrtu
                  rw [← mm_tP0] at hMu
                  refine lv_iconst (pc := 285) (v := nI 0) F.1 F.2.1 dX7_run_285 (by decide) ?_
                  refine lv_istore (pc := 286) (lv' := [(6, .int (nI 0)), (0, .ref ((rd 0 0))), (1, .int (nI t)), (4, .ref ro), (5, .ref rt)]) F.1 F.2.1 dX7_run_286 hl (by decide) rfl (fun ls hl => ?_)
                  have lp288 : ∀ (k288 y : Nat) (σy : mm_S) (ls : Array Slot) (H : Heap) (locs : List Loc), T.nP < y + k288 → y ≤ T.nP → (mm_M σy (mm_tP T t hh y) 0 rd) → (mm_Fr 1 σ σy) → (σy rt = mm_ari 1 0 10 (fun b9 => nI (mm_rou T t hh T.nP b9))) → mm_N b D s σy H locs → lv_has ls 8 [(0, .ref ((rd 0 0))), (1, .int (nI t)), (5, .ref rt), (6, .int (nI y))] →
                      W p l e ({ frames := 6, cells := 3, slots := 37, locals := 200 } : Room) s m args below meth c H locs (3) (37) (mm_Q b D (fun v σ2 => mm_Mt rd σ σ2 T (mm_t_run T t hh) (mm_q_run T t hh) v (some (.int (nI (T.nR))))) (fun _ _ => False) below args s ({ frames := 6, cells := 3, slots := 37, locals := 200 } : Room)) (F0 m 288 ls []) := by
                    intro k288
                    induction k288 with
                    | zero => intro y σy ls H locs hk288 hi288 hMy hFy xrty hN hl; omega
                    | succ k288 ih288 =>
                      intro y σy ls H locs hk288 hi288 hMy hFy xrty hN hl
                      refine lv_iload (pc := 288) F.1 F.2.1 dX7_run_288 (lv_at hl 3 rfl) ?_
                      refine lv_aload_n (pc := 290) F.1 F.2.1 dX7_run_290 rfl (lv_at hl 0 rfl) ?_
                      refine mm_get (pc := 291) F hN ((show σy (rd 0 0) = mm_obj 1 7 [.ref ((rd 1 0)), .ref ((rd 2 0)), .ref ((rd 3 0)), .int (nI T.nA), .ref ((rd 4 0)), .ref ((rd 5 0)), .ref ((rd 6 0)), .int (nI T.nP), .ref ((rd 7 0)), .ref ((rd 8 0)), .ref ((rd 9 0)), .ref ((rd 10 0)), .ref ((rd 11 0)), .int (nI T.nT), .int (nI ((mm_lf T t hh T.nP).1)), .ref ((rd 12 0)), .int (nI T.bo), .ref ((rd 13 0)), .ref ((rd 14 0)), .ref ((rd 15 0)), .ref ((rd 16 0)), .ref ((rd 17 0)), .ref ((rd 18 0)), .ref ((rd 19 0)), .int (nI T.nR), .int (nI 0)] from mm_r0 (T := (mm_tP T t hh y)) hMy)) (ci := 7) rfl 7 (by decide) mw_1186 rfl dX7_run_291 ?_
                      refine mm_icmp_ge (pc := 294) F (x := y) (y := T.nP) (tgt := 369) (by omega) (by omega) dX7_run_294 (by decide) (fun cz294 => ?_) (fun cz294 => ?_)
                      ·
                        have hyn : y = T.nP := by omega
                        rw [hyn] at hMy
                        refine lv_aload_n (pc := 369) F.1 F.2.1 dX7_run_369 rfl (lv_at hl 0 rfl) ?_
                        refine mm_get (pc := 370) F hN ((show σy (rd 0 0) = mm_obj 1 7 [.ref ((rd 1 0)), .ref ((rd 2 0)), .ref ((rd 3 0)), .int (nI T.nA), .ref ((rd 4 0)), .ref ((rd 5 0)), .ref ((rd 6 0)), .int (nI T.nP), .ref ((rd 7 0)), .ref ((rd 8 0)), .ref ((rd 9 0)), .ref ((rd 10 0)), .ref ((rd 11 0)), .int (nI T.nT), .int (nI ((mm_lf T t hh T.nP).1)), .ref ((rd 12 0)), .int (nI T.bo), .ref ((rd 13 0)), .ref ((rd 14 0)), .ref ((rd 15 0)), .ref ((rd 16 0)), .ref ((rd 17 0)), .ref ((rd 18 0)), .ref ((rd 19 0)), .int (nI T.nR), .int (nI 0)] from mm_r0 (T := (mm_tP T t hh T.nP)) hMy)) (ci := 7) rfl 17 (by decide) mw_1196 rfl dX7_run_370 ?_
                        refine lv_aload_n (pc := 373) F.1 F.2.1 dX7_run_373 rfl (lv_at hl 0 rfl) ?_
                        refine mm_get (pc := 374) F hN ((show σy (rd 0 0) = mm_obj 1 7 [.ref ((rd 1 0)), .ref ((rd 2 0)), .ref ((rd 3 0)), .int (nI T.nA), .ref ((rd 4 0)), .ref ((rd 5 0)), .ref ((rd 6 0)), .int (nI T.nP), .ref ((rd 7 0)), .ref ((rd 8 0)), .ref ((rd 9 0)), .ref ((rd 10 0)), .ref ((rd 11 0)), .int (nI T.nT), .int (nI ((mm_lf T t hh T.nP).1)), .ref ((rd 12 0)), .int (nI T.bo), .ref ((rd 13 0)), .ref ((rd 14 0)), .ref ((rd 15 0)), .ref ((rd 16 0)), .ref ((rd 17 0)), .ref ((rd 18 0)), .ref ((rd 19 0)), .int (nI T.nR), .int (nI 0)] from mm_r0 (T := (mm_tP T t hh T.nP)) hMy)) (ci := 7) rfl 24 (by decide) mw_1203 rfl dX7_run_374 ?_
                        refine lv_aload_n (pc := 377) F.1 F.2.1 dX7_run_377 rfl (lv_at hl 0 rfl) ?_
                        refine mm_get (pc := 378) F hN ((show σy (rd 0 0) = mm_obj 1 7 [.ref ((rd 1 0)), .ref ((rd 2 0)), .ref ((rd 3 0)), .int (nI T.nA), .ref ((rd 4 0)), .ref ((rd 5 0)), .ref ((rd 6 0)), .int (nI T.nP), .ref ((rd 7 0)), .ref ((rd 8 0)), .ref ((rd 9 0)), .ref ((rd 10 0)), .ref ((rd 11 0)), .int (nI T.nT), .int (nI ((mm_lf T t hh T.nP).1)), .ref ((rd 12 0)), .int (nI T.bo), .ref ((rd 13 0)), .ref ((rd 14 0)), .ref ((rd 15 0)), .ref ((rd 16 0)), .ref ((rd 17 0)), .ref ((rd 18 0)), .ref ((rd 19 0)), .int (nI T.nR), .int (nI 0)] from mm_r0 (T := (mm_tP T t hh T.nP)) hMy)) (ci := 7) rfl 7 (by decide) mw_1186 rfl dX7_run_378 ?_
                        refine mm_iast (pc := 381) F hN ((show σy (rd 13 0) = mm_ari 1 0 10 (fun b9 => nI (T.rp b9)) from mm_r13 (T := (mm_tP T t hh T.nP)) hMy)) (j := T.nR) (rfl) (by omega) (by decide) dX7_run_381 (fun H locs hN => ?_)
                        have hN : mm_N b D s (mm_u σy (rd 13 0) (mm_ari 1 0 10 (va_up (fun b9 => nI (T.rp b9)) T.nR (nI T.nP)))) _ _ := hN
                        obtain ⟨σ7, eσ7⟩ : ∃ q, q = mm_u σy (rd 13 0) (mm_ari 1 0 10 (va_up (fun b9 => nI (T.rp b9)) T.nR (nI T.nP))) := ⟨_, rfl⟩
                        rw [← eσ7] at hN
                        have hM7 : mm_M σ7 ((mm_tP T t hh T.nP).w 13 (mm_u2 ((mm_tP T t hh T.nP) 13) T.nR 0 T.nP)) 0 rd := by rw [eσ7]; exact mm_Mw1 hMy (k := 13) rfl mm_va1
                        have hF7 : mm_Fr 1 σ σ7 := by rw [eσ7]; exact (hFy).tr (mm_Fr.u (mm_r13 hMy))
                        refine lv_aload_n (pc := 382) F.1 F.2.1 dX7_run_382 rfl (lv_at hl 0 rfl) ?_
                        refine mm_get (pc := 383) F hN ((show σ7 (rd 0 0) = mm_obj 1 7 [.ref ((rd 1 0)), .ref ((rd 2 0)), .ref ((rd 3 0)), .int (nI T.nA), .ref ((rd 4 0)), .ref ((rd 5 0)), .ref ((rd 6 0)), .int (nI T.nP), .ref ((rd 7 0)), .ref ((rd 8 0)), .ref ((rd 9 0)), .ref ((rd 10 0)), .ref ((rd 11 0)), .int (nI T.nT), .int (nI ((mm_lf T t hh T.nP).1)), .ref ((rd 12 0)), .int (nI T.bo), .ref ((rd 13 0)), .ref ((rd 14 0)), .ref ((rd 15 0)), .ref ((rd 16 0)), .ref ((rd 17 0)), .ref ((rd 18 0)), .ref ((rd 19 0)), .int (nI T.nR), .int (nI 0)] from mm_r0 (T := ((mm_tP T t hh T.nP).w 13 (mm_u2 ((mm_tP T t hh T.nP) 13) T.nR 0 T.nP))) hM7)) (ci := 7) rfl 12 (by decide) mw_1191 rfl dX7_run_383 ?_
                        refine lv_iload_n (pc := 386) F.1 F.2.1 dX7_run_386 rfl (lv_at hl 1 rfl) ?_
                        refine lv_iconst (pc := 387) (v := nI 1) F.1 F.2.1 dX7_run_387 (by decide) ?_
                        refine mm_zast (pc := 388) F hN ((show σ7 (rd 11 0) = mm_ari 1 4 4 (fun b9 => nI (T.us b9)) from mm_r11 (T := ((mm_tP T t hh T.nP).w 13 (mm_u2 ((mm_tP T t hh T.nP) 13) T.nR 0 T.nP))) hM7)) (j := t) (rfl) (by omega) (by decide) (by decide) dX7_run_388 (fun H locs hN => ?_)
                        have hN : mm_N b D s (mm_u σ7 (rd 11 0) (mm_ari 1 4 4 (va_up (fun b9 => nI (T.us b9)) t (nI 1)))) _ _ := hN
                        obtain ⟨σ8, eσ8⟩ : ∃ q, q = mm_u σ7 (rd 11 0) (mm_ari 1 4 4 (va_up (fun b9 => nI (T.us b9)) t (nI 1))) := ⟨_, rfl⟩
                        rw [← eσ8] at hN
                        have hM8 : mm_M σ8 (((mm_tP T t hh T.nP).w 13 (mm_u2 ((mm_tP T t hh T.nP) 13) T.nR 0 T.nP)).w 11 (mm_u2 (((mm_tP T t hh T.nP).w 13 (mm_u2 ((mm_tP T t hh T.nP) 13) T.nR 0 T.nP)) 11) t 0 1)) 0 rd := by rw [eσ8]; exact mm_Mw1 hM7 (k := 11) rfl mm_va1
                        have hF8 : mm_Fr 1 σ σ8 := by rw [eσ8]; exact (hF7).tr (mm_Fr.u (mm_r11 hM7))
                        refine lv_aload_n (pc := 389) F.1 F.2.1 dX7_run_389 rfl (lv_at hl 0 rfl) ?_
                        refine lv_dup (pc := 390) F.1 F.2.1 dX7_run_390 rfl ?_
                        refine mm_get (pc := 391) F hN ((show σ8 (rd 0 0) = mm_obj 1 7 [.ref ((rd 1 0)), .ref ((rd 2 0)), .ref ((rd 3 0)), .int (nI T.nA), .ref ((rd 4 0)), .ref ((rd 5 0)), .ref ((rd 6 0)), .int (nI T.nP), .ref ((rd 7 0)), .ref ((rd 8 0)), .ref ((rd 9 0)), .ref ((rd 10 0)), .ref ((rd 11 0)), .int (nI T.nT), .int (nI ((mm_lf T t hh T.nP).1)), .ref ((rd 12 0)), .int (nI T.bo), .ref ((rd 13 0)), .ref ((rd 14 0)), .ref ((rd 15 0)), .ref ((rd 16 0)), .ref ((rd 17 0)), .ref ((rd 18 0)), .ref ((rd 19 0)), .int (nI T.nR), .int (nI 0)] from mm_r0 (T := (((mm_tP T t hh T.nP).w 13 (mm_u2 ((mm_tP T t hh T.nP) 13) T.nR 0 T.nP)).w 11 (mm_u2 (((mm_tP T t hh T.nP).w 13 (mm_u2 ((mm_tP T t hh T.nP) 13) T.nR 0 T.nP)) 11) t 0 1))) hM8)) (ci := 7) rfl 24 (by decide) mw_1203 rfl dX7_run_391 ?_
                        refine lv_iconst (pc := 394) (v := nI 1) F.1 F.2.1 dX7_run_394 (by decide) ?_
                        refine mm_iadd (pc := 395) F (z := nI (T.nR + 1)) (nI_add _ _) dX7_run_395 ?_
                        refine mm_put (pc := 396) F hN ((show σ8 (rd 0 0) = mm_obj 1 7 [.ref ((rd 1 0)), .ref ((rd 2 0)), .ref ((rd 3 0)), .int (nI T.nA), .ref ((rd 4 0)), .ref ((rd 5 0)), .ref ((rd 6 0)), .int (nI T.nP), .ref ((rd 7 0)), .ref ((rd 8 0)), .ref ((rd 9 0)), .ref ((rd 10 0)), .ref ((rd 11 0)), .int (nI T.nT), .int (nI ((mm_lf T t hh T.nP).1)), .ref ((rd 12 0)), .int (nI T.bo), .ref ((rd 13 0)), .ref ((rd 14 0)), .ref ((rd 15 0)), .ref ((rd 16 0)), .ref ((rd 17 0)), .ref ((rd 18 0)), .ref ((rd 19 0)), .int (nI T.nR), .int (nI 0)] from mm_r0 (T := (((mm_tP T t hh T.nP).w 13 (mm_u2 ((mm_tP T t hh T.nP) 13) T.nR 0 T.nP)).w 11 (mm_u2 (((mm_tP T t hh T.nP).w 13 (mm_u2 ((mm_tP T t hh T.nP) 13) T.nR 0 T.nP)) 11) t 0 1))) hM8)) (ci := 7) rfl 24 (by decide) mw_1203 rfl (ty := .int) (by decide +kernel) (rfl) (rfl) (Nat.le_of_ble_eq_true rfl) dX7_run_396 (fun H locs hN => ?_)
                        have hN : mm_N b D s (mm_u σ8 ((rd 0 0)) (mm_obj 1 7 [.ref ((rd 1 0)), .ref ((rd 2 0)), .ref ((rd 3 0)), .int (nI T.nA), .ref ((rd 4 0)), .ref ((rd 5 0)), .ref ((rd 6 0)), .int (nI T.nP), .ref ((rd 7 0)), .ref ((rd 8 0)), .ref ((rd 9 0)), .ref ((rd 10 0)), .ref ((rd 11 0)), .int (nI T.nT), .int (nI ((mm_lf T t hh T.nP).1)), .ref ((rd 12 0)), .int (nI T.bo), .ref ((rd 13 0)), .ref ((rd 14 0)), .ref ((rd 15 0)), .ref ((rd 16 0)), .ref ((rd 17 0)), .ref ((rd 18 0)), .ref ((rd 19 0)), .int (nI (T.nR + 1)), .int (nI 0)])) _ _ := hN
                        obtain ⟨σ9, eσ9⟩ : ∃ q, q = mm_u σ8 ((rd 0 0)) (mm_obj 1 7 [.ref ((rd 1 0)), .ref ((rd 2 0)), .ref ((rd 3 0)), .int (nI T.nA), .ref ((rd 4 0)), .ref ((rd 5 0)), .ref ((rd 6 0)), .int (nI T.nP), .ref ((rd 7 0)), .ref ((rd 8 0)), .ref ((rd 9 0)), .ref ((rd 10 0)), .ref ((rd 11 0)), .int (nI T.nT), .int (nI ((mm_lf T t hh T.nP).1)), .ref ((rd 12 0)), .int (nI T.bo), .ref ((rd 13 0)), .ref ((rd 14 0)), .ref ((rd 15 0)), .ref ((rd 16 0)), .ref ((rd 17 0)), .ref ((rd 18 0)), .ref ((rd 19 0)), .int (nI (T.nR + 1)), .int (nI 0)]) := ⟨_, rfl⟩
                        rw [← eσ9] at hN
                        have hM9 : mm_M σ9 ((((mm_tP T t hh T.nP).w 13 (mm_u2 ((mm_tP T t hh T.nP) 13) T.nR 0 T.nP)).w 11 (mm_u2 (((mm_tP T t hh T.nP).w 13 (mm_u2 ((mm_tP T t hh T.nP) 13) T.nR 0 T.nP)) 11) t 0 1)).w 0 (mm_u2 ((((mm_tP T t hh T.nP).w 13 (mm_u2 ((mm_tP T t hh T.nP) 13) T.nR 0 T.nP)).w 11 (mm_u2 (((mm_tP T t hh T.nP).w 13 (mm_u2 ((mm_tP T t hh T.nP) 13) T.nR 0 T.nP)) 11) t 0 1)) 0) 3 0 (T.nR + 1))) 0 rd := by rw [eσ9]; exact mm_Mo hM8 (fun k hk => mm_T.wo hk) rfl
                        have hF9 : mm_Fr 1 σ σ9 := by rw [eσ9]; exact (hF8).tr (mm_Fr.u (mm_r0 hM8))
                        refine lv_aload_n (pc := 399) F.1 F.2.1 dX7_run_399 rfl (lv_at hl 0 rfl) ?_
                        refine mm_get (pc := 400) F hN ((show σ9 (rd 0 0) = mm_obj 1 7 [.ref ((rd 1 0)), .ref ((rd 2 0)), .ref ((rd 3 0)), .int (nI T.nA), .ref ((rd 4 0)), .ref ((rd 5 0)), .ref ((rd 6 0)), .int (nI T.nP), .ref ((rd 7 0)), .ref ((rd 8 0)), .ref ((rd 9 0)), .ref ((rd 10 0)), .ref ((rd 11 0)), .int (nI T.nT), .int (nI ((mm_lf T t hh T.nP).1)), .ref ((rd 12 0)), .int (nI T.bo), .ref ((rd 13 0)), .ref ((rd 14 0)), .ref ((rd 15 0)), .ref ((rd 16 0)), .ref ((rd 17 0)), .ref ((rd 18 0)), .ref ((rd 19 0)), .int (nI (T.nR + 1)), .int (nI 0)] from mm_r0 (T := ((((mm_tP T t hh T.nP).w 13 (mm_u2 ((mm_tP T t hh T.nP) 13) T.nR 0 T.nP)).w 11 (mm_u2 (((mm_tP T t hh T.nP).w 13 (mm_u2 ((mm_tP T t hh T.nP) 13) T.nR 0 T.nP)) 11) t 0 1)).w 0 (mm_u2 ((((mm_tP T t hh T.nP).w 13 (mm_u2 ((mm_tP T t hh T.nP) 13) T.nR 0 T.nP)).w 11 (mm_u2 (((mm_tP T t hh T.nP).w 13 (mm_u2 ((mm_tP T t hh T.nP) 13) T.nR 0 T.nP)) 11) t 0 1)) 0) 3 0 (T.nR + 1)))) hM9)) (ci := 7) rfl 24 (by decide) mw_1203 rfl dX7_run_400 ?_
                        refine lv_iconst (pc := 403) (v := nI 1) F.1 F.2.1 dX7_run_403 (by decide) ?_
                        refine mm_isub (pc := 404) F (z := nI ((T.nR + 1) - 1)) (pk_sub (by omega)) dX7_run_404 ?_
                        have hM99 : mm_M σ9 (mm_t_run T t hh) 0 rd := mm_M_cg hM9 (fun k hk => by
                          by_cases e0 : k = 0
                          · subst e0; exact absurd rfl hk
                          by_cases e20 : k = 20
                          · subst e20; exact absurd rfl hk
                          by_cases e2 : k = 2
                          · subst e2; rfl
                          by_cases e12 : k = 12
                          · subst e12; rfl
                          by_cases e14 : k = 14
                          · subst e14; rfl
                          by_cases e19 : k = 19
                          · subst e19; rfl
                          by_cases e15 : k = 15
                          · subst e15; rfl
                          by_cases e17 : k = 17
                          · subst e17; rfl
                          by_cases e16 : k = 16
                          · subst e16; rfl
                          by_cases e18 : k = 18
                          · subst e18; rfl
                          by_cases e13 : k = 13
                          · subst e13; rfl
                          by_cases e11 : k = 11
                          · subst e11; rfl
                          simp only [mm_t_run, mm_tqA, mm_tP, mm_tRn, mm_tq1, mm_tq2, mm_T.w, if_neg e0, if_neg e20, if_neg e2, if_neg e12, if_neg e14, if_neg e19, if_neg e15, if_neg e17, if_neg e16, if_neg e18, if_neg e13, if_neg e11]) rfl
                        exact mm_iret (pc := 405) F hr hN (Or.inl ⟨by show mm_q_run T t hh = 0; unfold mm_q_run; (repeat' split) <;> omega, by rw [Nat.add_sub_cancel], hM99, hF9⟩) (Nat.le_of_ble_eq_true rfl) (Nat.le_of_ble_eq_true rfl) dX7_run_405
                      ·
                        have hy2 : y < T.nP := by omega
                        obtain ⟨who, wfl, wre⟩ := hW.hpe y hy2
                        have wco := (hW.had _ who).1
                        have wpg : mm_pgs T t (T.fl y) ≤ 8 := mm_pgs_le hW htt
                        have hce := mm_cent_le (mm_pgs T t (T.fl y))
                        have hro9 : mm_rou T t hh T.nP (T.co (T.ho y) / 10) ≤ T.nP := mm_sm1 _
                        refine lv_aload_n (pc := 297) F.1 F.2.1 dX7_run_297 rfl (lv_at hl 0 rfl) ?_
                        refine mm_get (pc := 298) F hN ((show σy (rd 0 0) = mm_obj 1 7 [.ref ((rd 1 0)), .ref ((rd 2 0)), .ref ((rd 3 0)), .int (nI T.nA), .ref ((rd 4 0)), .ref ((rd 5 0)), .ref ((rd 6 0)), .int (nI T.nP), .ref ((rd 7 0)), .ref ((rd 8 0)), .ref ((rd 9 0)), .ref ((rd 10 0)), .ref ((rd 11 0)), .int (nI T.nT), .int (nI ((mm_lf T t hh T.nP).1)), .ref ((rd 12 0)), .int (nI T.bo), .ref ((rd 13 0)), .ref ((rd 14 0)), .ref ((rd 15 0)), .ref ((rd 16 0)), .ref ((rd 17 0)), .ref ((rd 18 0)), .ref ((rd 19 0)), .int (nI T.nR), .int (nI 0)] from mm_r0 (T := (mm_tP T t hh y)) hMy)) (ci := 7) rfl 19 (by decide) mw_1198 rfl dX7_run_298 ?_
                        refine lv_aload_n (pc := 301) F.1 F.2.1 dX7_run_301 rfl (lv_at hl 0 rfl) ?_
                        refine mm_get (pc := 302) F hN ((show σy (rd 0 0) = mm_obj 1 7 [.ref ((rd 1 0)), .ref ((rd 2 0)), .ref ((rd 3 0)), .int (nI T.nA), .ref ((rd 4 0)), .ref ((rd 5 0)), .ref ((rd 6 0)), .int (nI T.nP), .ref ((rd 7 0)), .ref ((rd 8 0)), .ref ((rd 9 0)), .ref ((rd 10 0)), .ref ((rd 11 0)), .int (nI T.nT), .int (nI ((mm_lf T t hh T.nP).1)), .ref ((rd 12 0)), .int (nI T.bo), .ref ((rd 13 0)), .ref ((rd 14 0)), .ref ((rd 15 0)), .ref ((rd 16 0)), .ref ((rd 17 0)), .ref ((rd 18 0)), .ref ((rd 19 0)), .int (nI T.nR), .int (nI 0)] from mm_r0 (T := (mm_tP T t hh y)) hMy)) (ci := 7) rfl 24 (by decide) mw_1203 rfl dX7_run_302 ?_
                        refine mm_aald (pc := 305) F hN ((show σy (rd 15 0) = mm_arq 1 5 10 (fun i => if i < 10 then some (rd 15 (i + 1)) else none) from mm_rq15 (T := (mm_tP T t hh y)) hMy)) rfl rfl (j := T.nR) (rfl) (by omega) (by decide) (if_pos (by omega)) dX7_run_305 ?_
                        refine lv_iload (pc := 306) F.1 F.2.1 dX7_run_306 (lv_at hl 3 rfl) ?_
                        refine mm_iald (pc := 308) F hN ((show σy (rd 15 (T.nR + 1)) = mm_ari 1 0 24 (fun b9 => nI ((mm_tP T t hh y) 15 T.nR b9)) from mm_rr15 (T := (mm_tP T t hh y)) hMy (i := T.nR) (by omega))) (j := y) (rfl) (by omega) (by decide) dX7_run_308 ?_
                        refine W.eq (g2 := F0 m 309 ls [.int (nI (mm_pgs T t (T.fl y)))]) (congrArg (fun q => F0 m 309 ls [Value.int (nI q)]) (mm_rw_at (g := fun p => mm_pgs T t (T.fl p)) hy2)) ?_
                        refine mm_runS (pc := 309) (As := [.int (nI (mm_pgs T t (T.fl y)))]) (rest := []) F hN (c_postage l b D hst (mm_pgs T t (T.fl y)) (by omega) σy) mw_1371 mw_1372 mw_6 mw_1373 ⟨pmX7_postageOf, (Nat.le_of_ble_eq_true rfl), (Nat.le_of_ble_eq_true rfl)⟩ hl.1 rfl (Nat.le_of_ble_eq_true rfl) ⟨(Nat.le_of_ble_eq_true rfl), (Nat.le_of_ble_eq_true rfl)⟩ dX7_run_309
                          (fun _ _ _ _ _ _ h9 => False.elim h9)
                          (fun v9 σ9 H locs hp9 hN => ?_)
                        obtain ⟨rfl, h9⟩ := hp9
                        rw [h9] at hN
                        refine W.eq (g2 := F0 m 312 ls [.int (nI (mm_cent (mm_pgs T t (T.fl y))))]) rfl ?_
                        refine W.widen (k := 3) (n := 37) (Nat.le_of_ble_eq_true rfl) (Nat.le_of_ble_eq_true rfl) ?_
                        refine lv_istore (pc := 312) (lv' := [(7, .int (nI (mm_cent (mm_pgs T t (T.fl y))))), (0, .ref ((rd 0 0))), (1, .int (nI t)), (5, .ref rt), (6, .int (nI y))]) F.1 F.2.1 dX7_run_312 hl (by decide) rfl (fun ls hl => ?_)
                        refine lv_aload_n (pc := 314) F.1 F.2.1 dX7_run_314 rfl (lv_at hl 1 rfl) ?_
                        refine mm_get (pc := 315) F hN ((show σy (rd 0 0) = mm_obj 1 7 [.ref ((rd 1 0)), .ref ((rd 2 0)), .ref ((rd 3 0)), .int (nI T.nA), .ref ((rd 4 0)), .ref ((rd 5 0)), .ref ((rd 6 0)), .int (nI T.nP), .ref ((rd 7 0)), .ref ((rd 8 0)), .ref ((rd 9 0)), .ref ((rd 10 0)), .ref ((rd 11 0)), .int (nI T.nT), .int (nI ((mm_lf T t hh T.nP).1)), .ref ((rd 12 0)), .int (nI T.bo), .ref ((rd 13 0)), .ref ((rd 14 0)), .ref ((rd 15 0)), .ref ((rd 16 0)), .ref ((rd 17 0)), .ref ((rd 18 0)), .ref ((rd 19 0)), .int (nI T.nR), .int (nI 0)] from mm_r0 (T := (mm_tP T t hh y)) hMy)) (ci := 7) rfl 22 (by decide) mw_1201 rfl dX7_run_315 ?_
                        refine lv_aload_n (pc := 318) F.1 F.2.1 dX7_run_318 rfl (lv_at hl 1 rfl) ?_
                        refine mm_get (pc := 319) F hN ((show σy (rd 0 0) = mm_obj 1 7 [.ref ((rd 1 0)), .ref ((rd 2 0)), .ref ((rd 3 0)), .int (nI T.nA), .ref ((rd 4 0)), .ref ((rd 5 0)), .ref ((rd 6 0)), .int (nI T.nP), .ref ((rd 7 0)), .ref ((rd 8 0)), .ref ((rd 9 0)), .ref ((rd 10 0)), .ref ((rd 11 0)), .int (nI T.nT), .int (nI ((mm_lf T t hh T.nP).1)), .ref ((rd 12 0)), .int (nI T.bo), .ref ((rd 13 0)), .ref ((rd 14 0)), .ref ((rd 15 0)), .ref ((rd 16 0)), .ref ((rd 17 0)), .ref ((rd 18 0)), .ref ((rd 19 0)), .int (nI T.nR), .int (nI 0)] from mm_r0 (T := (mm_tP T t hh y)) hMy)) (ci := 7) rfl 24 (by decide) mw_1203 rfl dX7_run_319 ?_
                        refine mm_aald (pc := 322) F hN ((show σy (rd 18 0) = mm_arq 1 5 10 (fun i => if i < 10 then some (rd 18 (i + 1)) else none) from mm_rq18 (T := (mm_tP T t hh y)) hMy)) rfl rfl (j := T.nR) (rfl) (by omega) (by decide) (if_pos (by omega)) dX7_run_322 ?_
                        refine lv_iload (pc := 323) F.1 F.2.1 dX7_run_323 (lv_at hl 4 rfl) ?_
                        refine lv_aload (pc := 325) F.1 F.2.1 dX7_run_325 (lv_at hl 3 rfl) ?_
                        refine lv_aload_n (pc := 327) F.1 F.2.1 dX7_run_327 rfl (lv_at hl 1 rfl) ?_
                        refine mm_get (pc := 328) F hN ((show σy (rd 0 0) = mm_obj 1 7 [.ref ((rd 1 0)), .ref ((rd 2 0)), .ref ((rd 3 0)), .int (nI T.nA), .ref ((rd 4 0)), .ref ((rd 5 0)), .ref ((rd 6 0)), .int (nI T.nP), .ref ((rd 7 0)), .ref ((rd 8 0)), .ref ((rd 9 0)), .ref ((rd 10 0)), .ref ((rd 11 0)), .int (nI T.nT), .int (nI ((mm_lf T t hh T.nP).1)), .ref ((rd 12 0)), .int (nI T.bo), .ref ((rd 13 0)), .ref ((rd 14 0)), .ref ((rd 15 0)), .ref ((rd 16 0)), .ref ((rd 17 0)), .ref ((rd 18 0)), .ref ((rd 19 0)), .int (nI T.nR), .int (nI 0)] from mm_r0 (T := (mm_tP T t hh y)) hMy)) (ci := 7) rfl 0 (by decide) mw_1179 rfl dX7_run_328 ?_
                        refine lv_aload_n (pc := 331) F.1 F.2.1 dX7_run_331 rfl (lv_at hl 1 rfl) ?_
                        refine mm_get (pc := 332) F hN ((show σy (rd 0 0) = mm_obj 1 7 [.ref ((rd 1 0)), .ref ((rd 2 0)), .ref ((rd 3 0)), .int (nI T.nA), .ref ((rd 4 0)), .ref ((rd 5 0)), .ref ((rd 6 0)), .int (nI T.nP), .ref ((rd 7 0)), .ref ((rd 8 0)), .ref ((rd 9 0)), .ref ((rd 10 0)), .ref ((rd 11 0)), .int (nI T.nT), .int (nI ((mm_lf T t hh T.nP).1)), .ref ((rd 12 0)), .int (nI T.bo), .ref ((rd 13 0)), .ref ((rd 14 0)), .ref ((rd 15 0)), .ref ((rd 16 0)), .ref ((rd 17 0)), .ref ((rd 18 0)), .ref ((rd 19 0)), .int (nI T.nR), .int (nI 0)] from mm_r0 (T := (mm_tP T t hh y)) hMy)) (ci := 7) rfl 4 (by decide) mw_1183 rfl dX7_run_332 ?_
                        refine lv_iload (pc := 335) F.1 F.2.1 dX7_run_335 (lv_at hl 4 rfl) ?_
                        refine mm_iald (pc := 337) F hN ((show σy (rd 4 0) = mm_ari 1 0 24 (fun b9 => nI (T.ho b9)) from mm_r4 (T := (mm_tP T t hh y)) hMy)) (j := y) (rfl) (by omega) (by decide) dX7_run_337 ?_
                        refine mm_iald (pc := 338) F hN ((show σy (rd 1 0) = mm_ari 1 0 12 (fun b9 => nI (T.co b9)) from mm_r1 (T := (mm_tP T t hh y)) hMy)) (j := T.ho y) (rfl) (by omega) (by decide) dX7_run_338 ?_
                        refine lv_bipush (pc := 339) (v := nI 10) F.1 F.2.1 dX7_run_339 (by decide) ?_
                        refine mm_idiv (pc := 341) F (z := nI ((T.co (T.ho y)) / 10)) (pk_div (by omega) (by omega) (by omega)) (by decide) dX7_run_341 ?_
                        refine mm_iald (pc := 342) F hN (xrty) (j := (T.co (T.ho y)) / 10) (rfl) (by omega) (by decide) dX7_run_342 ?_
                        refine lv_aload_n (pc := 343) F.1 F.2.1 dX7_run_343 rfl (lv_at hl 1 rfl) ?_
                        refine mm_get (pc := 344) F hN ((show σy (rd 0 0) = mm_obj 1 7 [.ref ((rd 1 0)), .ref ((rd 2 0)), .ref ((rd 3 0)), .int (nI T.nA), .ref ((rd 4 0)), .ref ((rd 5 0)), .ref ((rd 6 0)), .int (nI T.nP), .ref ((rd 7 0)), .ref ((rd 8 0)), .ref ((rd 9 0)), .ref ((rd 10 0)), .ref ((rd 11 0)), .int (nI T.nT), .int (nI ((mm_lf T t hh T.nP).1)), .ref ((rd 12 0)), .int (nI T.bo), .ref ((rd 13 0)), .ref ((rd 14 0)), .ref ((rd 15 0)), .ref ((rd 16 0)), .ref ((rd 17 0)), .ref ((rd 18 0)), .ref ((rd 19 0)), .int (nI T.nR), .int (nI 0)] from mm_r0 (T := (mm_tP T t hh y)) hMy)) (ci := 7) rfl 16 (by decide) mw_1195 rfl dX7_run_344 ?_
                        refine mm_icmp_lt (pc := 347) F (x := mm_rou T t hh T.nP ((T.co (T.ho y)) / 10)) (y := T.bo) (tgt := 360) (by omega) (by omega) dX7_run_347 (by decide) (fun cz347 => ?_) (fun cz347 => ?_)
                        ·
                          refine lv_iload (pc := 360) F.1 F.2.1 dX7_run_360 (lv_at hl 0 rfl) ?_
                          refine W.eq (g2 := F0 m 362 ls [.int (nI (mm_rPs T t hh y)), .int (nI y), .ref ((rd 18 (T.nR + 1)))]) (congrArg (fun q => F0 m 362 ls [Value.int (nI q), .int (nI y), .ref ((rd 18 (T.nR + 1)))]) (show _ = mm_cf (mm_rou T t hh T.nP (T.co (T.ho y) / 10)) T.bo (mm_pgs T t (T.fl y)) from (if_neg (by omega)).symm)) ?_
                          refine mm_iast (pc := 362) F hN ((show σy (rd 18 (T.nR + 1)) = mm_ari 1 0 24 (fun b9 => nI ((mm_tP T t hh y) 18 T.nR b9)) from mm_rr18 (T := (mm_tP T t hh y)) hMy (i := T.nR) (by omega))) (j := y) (rfl) (by omega) (by decide) dX7_run_362 (fun H locs hN => ?_)
                          have hN : mm_N b D s (mm_u σy (rd 18 (T.nR + 1)) (mm_ari 1 0 24 (va_up (fun b9 => nI ((mm_tP T t hh y) 18 T.nR b9)) y (nI (mm_rPs T t hh y))))) _ _ := hN
                          obtain ⟨σ10, eσ10⟩ : ∃ q, q = mm_u σy (rd 18 (T.nR + 1)) (mm_ari 1 0 24 (va_up (fun b9 => nI ((mm_tP T t hh y) 18 T.nR b9)) y (nI (mm_rPs T t hh y)))) := ⟨_, rfl⟩
                          rw [← eσ10] at hN
                          have hM10 : mm_M σ10 ((mm_tP T t hh y).w 18 (mm_u2 ((mm_tP T t hh y) 18) T.nR y (mm_rPs T t hh y))) 0 rd := by rw [eσ10]; exact mm_Mw2 hMy (k := 18) (i := T.nR) rfl (show T.nR < 10 by omega) (fun a ha => mm_u2_row ha) mm_va2
                          have hF10 : mm_Fr 1 σ σ10 := by rw [eσ10]; exact (hFy).tr (mm_Fr.u (mm_rr18 hMy (i := T.nR) (by omega)))
                          have xrt10 : σ10 rt = mm_ari 1 0 10 (fun b9 => nI (mm_rou T t hh T.nP b9)) := by rw [eσ10]; exact (mm_u_ne (Ne.symm (nor _ _ (mm_l2i (k := 18) (i := T.nR) rfl (show T.nR < 10 by omega))))).trans xrty
                          refine lv_iinc (pc := 363) (v := nI (y + 1)) (lv' := [(6, .int (nI (y + 1))), (7, .int (nI (mm_cent (mm_pgs T t (T.fl y))))), (0, .ref ((rd 0 0))), (1, .int (nI t)), (5, .ref rt)]) F.1 F.2.1 dX7_run_363 hl (k := 4) rfl (by rw [← nI_add]; rfl) (by decide) rfl (fun ls hl => ?_)
                          refine lv_goto (pc := 366) (tgt := 288) F.1 F.2.1 dX7_run_366 (by decide) ?_
                          have hM99 : mm_M σ10 (mm_tP T t hh (y + 1)) 0 rd := by
                            refine mm_M_cg hM10 (fun k hk => ?_) rfl
                            by_cases e18 : k = 18
                            · subst e18
                              exact (mm_rw1 (f := T 18) (r := T.nR) (u := y) (g := mm_rPs T t hh)).symm
                            simp only [mm_tP, mm_T.w, if_neg e18]
                          exact ih288 (y + 1) σ10 ls _ _ (by omega) (by omega) (hM99) (hF10) (xrt10) hN (lv_sub hl [2, 3, 4, 0] rfl)
                        ·
                          refine lv_iload (pc := 350) F.1 F.2.1 dX7_run_350 (lv_at hl 0 rfl) ?_
                          refine lv_iload (pc := 352) F.1 F.2.1 dX7_run_352 (lv_at hl 0 rfl) ?_
                          refine lv_iconst (pc := 354) (v := nI 5) F.1 F.2.1 dX7_run_354 (by decide) ?_
                          refine mm_idiv (pc := 355) F (z := nI ((mm_cent (mm_pgs T t (T.fl y))) / 5)) (pk_div (by omega) (by omega) (by omega)) (by decide) dX7_run_355 ?_
                          refine mm_isub (pc := 356) F (z := nI ((mm_cent (mm_pgs T t (T.fl y))) - ((mm_cent (mm_pgs T t (T.fl y))) / 5))) (pk_sub (by omega)) dX7_run_356 ?_
                          refine lv_goto (pc := 357) (tgt := 362) F.1 F.2.1 dX7_run_357 (by decide) ?_
                          refine W.eq (g2 := F0 m 362 ls [.int (nI (mm_rPs T t hh y)), .int (nI y), .ref ((rd 18 (T.nR + 1)))]) (congrArg (fun q => F0 m 362 ls [Value.int (nI q), .int (nI y), .ref ((rd 18 (T.nR + 1)))]) (show _ = mm_cf (mm_rou T t hh T.nP (T.co (T.ho y) / 10)) T.bo (mm_pgs T t (T.fl y)) from (if_pos (by omega)).symm)) ?_
                          refine mm_iast (pc := 362) F hN ((show σy (rd 18 (T.nR + 1)) = mm_ari 1 0 24 (fun b9 => nI ((mm_tP T t hh y) 18 T.nR b9)) from mm_rr18 (T := (mm_tP T t hh y)) hMy (i := T.nR) (by omega))) (j := y) (rfl) (by omega) (by decide) dX7_run_362 (fun H locs hN => ?_)
                          have hN : mm_N b D s (mm_u σy (rd 18 (T.nR + 1)) (mm_ari 1 0 24 (va_up (fun b9 => nI ((mm_tP T t hh y) 18 T.nR b9)) y (nI (mm_rPs T t hh y))))) _ _ := hN
                          obtain ⟨σ11, eσ11⟩ : ∃ q, q = mm_u σy (rd 18 (T.nR + 1)) (mm_ari 1 0 24 (va_up (fun b9 => nI ((mm_tP T t hh y) 18 T.nR b9)) y (nI (mm_rPs T t hh y)))) := ⟨_, rfl⟩
                          rw [← eσ11] at hN
                          have hM11 : mm_M σ11 ((mm_tP T t hh y).w 18 (mm_u2 ((mm_tP T t hh y) 18) T.nR y (mm_rPs T t hh y))) 0 rd := by rw [eσ11]; exact mm_Mw2 hMy (k := 18) (i := T.nR) rfl (show T.nR < 10 by omega) (fun a ha => mm_u2_row ha) mm_va2
                          have hF11 : mm_Fr 1 σ σ11 := by rw [eσ11]; exact (hFy).tr (mm_Fr.u (mm_rr18 hMy (i := T.nR) (by omega)))
                          have xrt11 : σ11 rt = mm_ari 1 0 10 (fun b9 => nI (mm_rou T t hh T.nP b9)) := by rw [eσ11]; exact (mm_u_ne (Ne.symm (nor _ _ (mm_l2i (k := 18) (i := T.nR) rfl (show T.nR < 10 by omega))))).trans xrty
                          refine lv_iinc (pc := 363) (v := nI (y + 1)) (lv' := [(6, .int (nI (y + 1))), (7, .int (nI (mm_cent (mm_pgs T t (T.fl y))))), (0, .ref ((rd 0 0))), (1, .int (nI t)), (5, .ref rt)]) F.1 F.2.1 dX7_run_363 hl (k := 4) rfl (by rw [← nI_add]; rfl) (by decide) rfl (fun ls hl => ?_)
                          refine lv_goto (pc := 366) (tgt := 288) F.1 F.2.1 dX7_run_366 (by decide) ?_
                          have hM99 : mm_M σ11 (mm_tP T t hh (y + 1)) 0 rd := by
                            refine mm_M_cg hM11 (fun k hk => ?_) rfl
                            by_cases e18 : k = 18
                            · subst e18
                              exact (mm_rw1 (f := T 18) (r := T.nR) (u := y) (g := mm_rPs T t hh)).symm
                            simp only [mm_tP, mm_T.w, if_neg e18]
                          exact ih288 (y + 1) σ11 ls _ _ (by omega) (by omega) (hM99) (hF11) (xrt11) hN (lv_sub hl [2, 3, 4, 0] rfl)
                  exact lp288 (T.nP + 1) 0 σu ls _ _ (by omega) (by omega) (hMu) (hFu) (xrtu) hN (lv_sub hl [1, 2, 4, 0] rfl)
                ·
                  have hu2 : u < T.nP := by omega
                  obtain ⟨who, wfl, wre⟩ := hW.hpe u hu2
                  have wco := (hW.had _ who).1
                  have wpg : mm_pgs T t (T.fl u) ≤ 8 := mm_pgs_le hW htt
                  have hocl := mm_oc_lt T t hh u
                  refine lv_aload_n (pc := 141) F.1 F.2.1 dX7_run_141 rfl (lv_at hl 0 rfl) ?_
                  refine mm_get (pc := 142) F hN ((show σu (rd 0 0) = mm_obj 1 7 [.ref ((rd 1 0)), .ref ((rd 2 0)), .ref ((rd 3 0)), .int (nI T.nA), .ref ((rd 4 0)), .ref ((rd 5 0)), .ref ((rd 6 0)), .int (nI T.nP), .ref ((rd 7 0)), .ref ((rd 8 0)), .ref ((rd 9 0)), .ref ((rd 10 0)), .ref ((rd 11 0)), .int (nI T.nT), .int (nI ((mm_lf T t hh T.nP).1)), .ref ((rd 12 0)), .int (nI T.bo), .ref ((rd 13 0)), .ref ((rd 14 0)), .ref ((rd 15 0)), .ref ((rd 16 0)), .ref ((rd 17 0)), .ref ((rd 18 0)), .ref ((rd 19 0)), .int (nI T.nR), .int (nI 0)] from mm_r0 (T := (mm_tRn T t hh u)) hMu)) (ci := 7) rfl 18 (by decide) mw_1197 rfl dX7_run_142 ?_
                  refine lv_aload_n (pc := 145) F.1 F.2.1 dX7_run_145 rfl (lv_at hl 0 rfl) ?_
                  refine mm_get (pc := 146) F hN ((show σu (rd 0 0) = mm_obj 1 7 [.ref ((rd 1 0)), .ref ((rd 2 0)), .ref ((rd 3 0)), .int (nI T.nA), .ref ((rd 4 0)), .ref ((rd 5 0)), .ref ((rd 6 0)), .int (nI T.nP), .ref ((rd 7 0)), .ref ((rd 8 0)), .ref ((rd 9 0)), .ref ((rd 10 0)), .ref ((rd 11 0)), .int (nI T.nT), .int (nI ((mm_lf T t hh T.nP).1)), .ref ((rd 12 0)), .int (nI T.bo), .ref ((rd 13 0)), .ref ((rd 14 0)), .ref ((rd 15 0)), .ref ((rd 16 0)), .ref ((rd 17 0)), .ref ((rd 18 0)), .ref ((rd 19 0)), .int (nI T.nR), .int (nI 0)] from mm_r0 (T := (mm_tRn T t hh u)) hMu)) (ci := 7) rfl 24 (by decide) mw_1203 rfl dX7_run_146 ?_
                  refine mm_aald (pc := 149) F hN ((show σu (rd 14 0) = mm_arq 1 6 10 (fun i => if i < 10 then some (rd 14 (i + 1)) else none) from mm_rq14 (T := (mm_tRn T t hh u)) hMu)) rfl rfl (j := T.nR) (rfl) (by omega) (by decide) (if_pos (by omega)) dX7_run_149 ?_
                  refine lv_iload (pc := 150) F.1 F.2.1 dX7_run_150 (lv_at hl 4 rfl) ?_
                  refine lv_aload (pc := 152) F.1 F.2.1 dX7_run_152 (lv_at hl 2 rfl) ?_
                  refine lv_iload (pc := 154) F.1 F.2.1 dX7_run_154 (lv_at hl 4 rfl) ?_
                  refine mm_cald (pc := 156) F hN (xrou) (j := u) (rfl) (by omega) (by decide) dX7_run_156 ?_
                  refine W.eq (g2 := F0 m 157 ls [.int (nI (mm_oc T t hh u)), .int (nI u), .ref ((rd 14 (T.nR + 1)))]) (congrArg (fun q => F0 m 157 ls [Value.int (nI q), .int (nI u), .ref ((rd 14 (T.nR + 1)))]) (if_pos hu2)) ?_
                  refine mm_cast_ (pc := 157) F hN ((show σu (rd 14 (T.nR + 1)) = mm_ari 1 3 24 (fun b9 => nI ((mm_tRn T t hh u) 14 T.nR b9)) from mm_rr14 (T := (mm_tRn T t hh u)) hMu (i := T.nR) (by omega))) (j := u) (rfl) (by omega) (by decide) (mm_narC hocl) dX7_run_157 (fun H locs hN => ?_)
                  have hN : mm_N b D s (mm_u σu (rd 14 (T.nR + 1)) (mm_ari 1 3 24 (va_up (fun b9 => nI ((mm_tRn T t hh u) 14 T.nR b9)) u (nI (mm_oc T t hh u))))) _ _ := hN
                  obtain ⟨σ12, eσ12⟩ : ∃ q, q = mm_u σu (rd 14 (T.nR + 1)) (mm_ari 1 3 24 (va_up (fun b9 => nI ((mm_tRn T t hh u) 14 T.nR b9)) u (nI (mm_oc T t hh u)))) := ⟨_, rfl⟩
                  rw [← eσ12] at hN
                  have hM12 : mm_M σ12 ((mm_tRn T t hh u).w 14 (mm_u2 ((mm_tRn T t hh u) 14) T.nR u (mm_oc T t hh u))) 0 rd := by rw [eσ12]; exact mm_Mw2 hMu (k := 14) (i := T.nR) rfl (show T.nR < 10 by omega) (fun a ha => mm_u2_row ha) mm_va2
                  have hF12 : mm_Fr 1 σ σ12 := by rw [eσ12]; exact (hFu).tr (mm_Fr.u (mm_rr14 hMu (i := T.nR) (by omega)))
                  have xro12 : σ12 ro = mm_ari 1 3 24 (fun b9 => nI (if b9 < T.nP then mm_oc T t hh b9 else 0)) := by rw [eσ12]; exact (mm_u_ne (Ne.symm (noq _ _ (mm_l2i (k := 14) (i := T.nR) rfl (show T.nR < 10 by omega))))).trans xrou
                  have xrt12 : σ12 rt = mm_ari 1 0 10 (fun b9 => nI (mm_rou T t hh u b9)) := by rw [eσ12]; exact (mm_u_ne (Ne.symm (nor _ _ (mm_l2i (k := 14) (i := T.nR) rfl (show T.nR < 10 by omega))))).trans xrtu
                  refine lv_aload_n (pc := 158) F.1 F.2.1 dX7_run_158 rfl (lv_at hl 0 rfl) ?_
                  refine mm_get (pc := 159) F hN ((show σ12 (rd 0 0) = mm_obj 1 7 [.ref ((rd 1 0)), .ref ((rd 2 0)), .ref ((rd 3 0)), .int (nI T.nA), .ref ((rd 4 0)), .ref ((rd 5 0)), .ref ((rd 6 0)), .int (nI T.nP), .ref ((rd 7 0)), .ref ((rd 8 0)), .ref ((rd 9 0)), .ref ((rd 10 0)), .ref ((rd 11 0)), .int (nI T.nT), .int (nI ((mm_lf T t hh T.nP).1)), .ref ((rd 12 0)), .int (nI T.bo), .ref ((rd 13 0)), .ref ((rd 14 0)), .ref ((rd 15 0)), .ref ((rd 16 0)), .ref ((rd 17 0)), .ref ((rd 18 0)), .ref ((rd 19 0)), .int (nI T.nR), .int (nI 0)] from mm_r0 (T := ((mm_tRn T t hh u).w 14 (mm_u2 ((mm_tRn T t hh u) 14) T.nR u (mm_oc T t hh u)))) hM12)) (ci := 7) rfl 23 (by decide) mw_1202 rfl dX7_run_159 ?_
                  refine lv_aload_n (pc := 162) F.1 F.2.1 dX7_run_162 rfl (lv_at hl 0 rfl) ?_
                  refine mm_get (pc := 163) F hN ((show σ12 (rd 0 0) = mm_obj 1 7 [.ref ((rd 1 0)), .ref ((rd 2 0)), .ref ((rd 3 0)), .int (nI T.nA), .ref ((rd 4 0)), .ref ((rd 5 0)), .ref ((rd 6 0)), .int (nI T.nP), .ref ((rd 7 0)), .ref ((rd 8 0)), .ref ((rd 9 0)), .ref ((rd 10 0)), .ref ((rd 11 0)), .int (nI T.nT), .int (nI ((mm_lf T t hh T.nP).1)), .ref ((rd 12 0)), .int (nI T.bo), .ref ((rd 13 0)), .ref ((rd 14 0)), .ref ((rd 15 0)), .ref ((rd 16 0)), .ref ((rd 17 0)), .ref ((rd 18 0)), .ref ((rd 19 0)), .int (nI T.nR), .int (nI 0)] from mm_r0 (T := ((mm_tRn T t hh u).w 14 (mm_u2 ((mm_tRn T t hh u) 14) T.nR u (mm_oc T t hh u)))) hM12)) (ci := 7) rfl 24 (by decide) mw_1203 rfl dX7_run_163 ?_
                  refine mm_aald (pc := 166) F hN ((show σ12 (rd 19 0) = mm_arq 1 7 10 (fun i => if i < 10 then some (rd 19 (i + 1)) else none) from mm_rq19 (T := ((mm_tRn T t hh u).w 14 (mm_u2 ((mm_tRn T t hh u) 14) T.nR u (mm_oc T t hh u)))) hM12)) rfl rfl (j := T.nR) (rfl) (by omega) (by decide) (if_pos (by omega)) dX7_run_166 ?_
                  refine lv_iload (pc := 167) F.1 F.2.1 dX7_run_167 (lv_at hl 4 rfl) ?_
                  refine lv_iconst (pc := 169) (v := nI 0) F.1 F.2.1 dX7_run_169 (by decide) ?_
                  refine mm_zast (pc := 170) F hN ((show σ12 (rd 19 (T.nR + 1)) = mm_ari 1 4 24 (fun b9 => nI ((mm_tRn T t hh u) 19 T.nR b9)) from mm_rr19 (T := ((mm_tRn T t hh u).w 14 (mm_u2 ((mm_tRn T t hh u) 14) T.nR u (mm_oc T t hh u)))) hM12 (i := T.nR) (by omega))) (j := u) (rfl) (by omega) (by decide) (by decide) dX7_run_170 (fun H locs hN => ?_)
                  have hN : mm_N b D s (mm_u σ12 (rd 19 (T.nR + 1)) (mm_ari 1 4 24 (va_up (fun b9 => nI ((mm_tRn T t hh u) 19 T.nR b9)) u (nI 0)))) _ _ := hN
                  obtain ⟨σ13, eσ13⟩ : ∃ q, q = mm_u σ12 (rd 19 (T.nR + 1)) (mm_ari 1 4 24 (va_up (fun b9 => nI ((mm_tRn T t hh u) 19 T.nR b9)) u (nI 0))) := ⟨_, rfl⟩
                  rw [← eσ13] at hN
                  have hM13 : mm_M σ13 (((mm_tRn T t hh u).w 14 (mm_u2 ((mm_tRn T t hh u) 14) T.nR u (mm_oc T t hh u))).w 19 (mm_u2 (((mm_tRn T t hh u).w 14 (mm_u2 ((mm_tRn T t hh u) 14) T.nR u (mm_oc T t hh u))) 19) T.nR u 0)) 0 rd := by rw [eσ13]; exact mm_Mw2 hM12 (k := 19) (i := T.nR) rfl (show T.nR < 10 by omega) (fun a ha => mm_u2_row ha) mm_va2
                  have hF13 : mm_Fr 1 σ σ13 := by rw [eσ13]; exact (hF12).tr (mm_Fr.u (mm_rr19 hM12 (i := T.nR) (by omega)))
                  have xro13 : σ13 ro = mm_ari 1 3 24 (fun b9 => nI (if b9 < T.nP then mm_oc T t hh b9 else 0)) := by rw [eσ13]; exact (mm_u_ne (Ne.symm (noq _ _ (mm_l2i (k := 19) (i := T.nR) rfl (show T.nR < 10 by omega))))).trans xro12
                  have xrt13 : σ13 rt = mm_ari 1 0 10 (fun b9 => nI (mm_rou T t hh u b9)) := by rw [eσ13]; exact (mm_u_ne (Ne.symm (nor _ _ (mm_l2i (k := 19) (i := T.nR) rfl (show T.nR < 10 by omega))))).trans xrt12
                  refine lv_aload_n (pc := 171) F.1 F.2.1 dX7_run_171 rfl (lv_at hl 0 rfl) ?_
                  refine mm_get (pc := 172) F hN ((show σ13 (rd 0 0) = mm_obj 1 7 [.ref ((rd 1 0)), .ref ((rd 2 0)), .ref ((rd 3 0)), .int (nI T.nA), .ref ((rd 4 0)), .ref ((rd 5 0)), .ref ((rd 6 0)), .int (nI T.nP), .ref ((rd 7 0)), .ref ((rd 8 0)), .ref ((rd 9 0)), .ref ((rd 10 0)), .ref ((rd 11 0)), .int (nI T.nT), .int (nI ((mm_lf T t hh T.nP).1)), .ref ((rd 12 0)), .int (nI T.bo), .ref ((rd 13 0)), .ref ((rd 14 0)), .ref ((rd 15 0)), .ref ((rd 16 0)), .ref ((rd 17 0)), .ref ((rd 18 0)), .ref ((rd 19 0)), .int (nI T.nR), .int (nI 0)] from mm_r0 (T := (((mm_tRn T t hh u).w 14 (mm_u2 ((mm_tRn T t hh u) 14) T.nR u (mm_oc T t hh u))).w 19 (mm_u2 (((mm_tRn T t hh u).w 14 (mm_u2 ((mm_tRn T t hh u) 14) T.nR u (mm_oc T t hh u))) 19) T.nR u 0))) hM13)) (ci := 7) rfl 19 (by decide) mw_1198 rfl dX7_run_172 ?_
                  refine lv_aload_n (pc := 175) F.1 F.2.1 dX7_run_175 rfl (lv_at hl 0 rfl) ?_
                  refine mm_get (pc := 176) F hN ((show σ13 (rd 0 0) = mm_obj 1 7 [.ref ((rd 1 0)), .ref ((rd 2 0)), .ref ((rd 3 0)), .int (nI T.nA), .ref ((rd 4 0)), .ref ((rd 5 0)), .ref ((rd 6 0)), .int (nI T.nP), .ref ((rd 7 0)), .ref ((rd 8 0)), .ref ((rd 9 0)), .ref ((rd 10 0)), .ref ((rd 11 0)), .int (nI T.nT), .int (nI ((mm_lf T t hh T.nP).1)), .ref ((rd 12 0)), .int (nI T.bo), .ref ((rd 13 0)), .ref ((rd 14 0)), .ref ((rd 15 0)), .ref ((rd 16 0)), .ref ((rd 17 0)), .ref ((rd 18 0)), .ref ((rd 19 0)), .int (nI T.nR), .int (nI 0)] from mm_r0 (T := (((mm_tRn T t hh u).w 14 (mm_u2 ((mm_tRn T t hh u) 14) T.nR u (mm_oc T t hh u))).w 19 (mm_u2 (((mm_tRn T t hh u).w 14 (mm_u2 ((mm_tRn T t hh u) 14) T.nR u (mm_oc T t hh u))) 19) T.nR u 0))) hM13)) (ci := 7) rfl 24 (by decide) mw_1203 rfl dX7_run_176 ?_
                  refine mm_aald (pc := 179) F hN ((show σ13 (rd 15 0) = mm_arq 1 5 10 (fun i => if i < 10 then some (rd 15 (i + 1)) else none) from mm_rq15 (T := (((mm_tRn T t hh u).w 14 (mm_u2 ((mm_tRn T t hh u) 14) T.nR u (mm_oc T t hh u))).w 19 (mm_u2 (((mm_tRn T t hh u).w 14 (mm_u2 ((mm_tRn T t hh u) 14) T.nR u (mm_oc T t hh u))) 19) T.nR u 0))) hM13)) rfl rfl (j := T.nR) (rfl) (by omega) (by decide) (if_pos (by omega)) dX7_run_179 ?_
                  refine lv_iload (pc := 180) F.1 F.2.1 dX7_run_180 (lv_at hl 4 rfl) ?_
                  refine lv_aload_n (pc := 182) F.1 F.2.1 dX7_run_182 rfl (lv_at hl 0 rfl) ?_
                  refine lv_iload_n (pc := 183) F.1 F.2.1 dX7_run_183 rfl (lv_at hl 1 rfl) ?_
                  refine lv_aload_n (pc := 184) F.1 F.2.1 dX7_run_184 rfl (lv_at hl 0 rfl) ?_
                  refine mm_get (pc := 185) F hN ((show σ13 (rd 0 0) = mm_obj 1 7 [.ref ((rd 1 0)), .ref ((rd 2 0)), .ref ((rd 3 0)), .int (nI T.nA), .ref ((rd 4 0)), .ref ((rd 5 0)), .ref ((rd 6 0)), .int (nI T.nP), .ref ((rd 7 0)), .ref ((rd 8 0)), .ref ((rd 9 0)), .ref ((rd 10 0)), .ref ((rd 11 0)), .int (nI T.nT), .int (nI ((mm_lf T t hh T.nP).1)), .ref ((rd 12 0)), .int (nI T.bo), .ref ((rd 13 0)), .ref ((rd 14 0)), .ref ((rd 15 0)), .ref ((rd 16 0)), .ref ((rd 17 0)), .ref ((rd 18 0)), .ref ((rd 19 0)), .int (nI T.nR), .int (nI 0)] from mm_r0 (T := (((mm_tRn T t hh u).w 14 (mm_u2 ((mm_tRn T t hh u) 14) T.nR u (mm_oc T t hh u))).w 19 (mm_u2 (((mm_tRn T t hh u).w 14 (mm_u2 ((mm_tRn T t hh u) 14) T.nR u (mm_oc T t hh u))) 19) T.nR u 0))) hM13)) (ci := 7) rfl 5 (by decide) mw_1184 rfl dX7_run_185 ?_
                  refine lv_iload (pc := 188) F.1 F.2.1 dX7_run_188 (lv_at hl 4 rfl) ?_
                  refine mm_iald (pc := 190) F hN ((show σ13 (rd 5 0) = mm_ari 1 0 24 (fun b9 => nI (T.fl b9)) from mm_r5 (T := (((mm_tRn T t hh u).w 14 (mm_u2 ((mm_tRn T t hh u) 14) T.nR u (mm_oc T t hh u))).w 19 (mm_u2 (((mm_tRn T t hh u).w 14 (mm_u2 ((mm_tRn T t hh u) 14) T.nR u (mm_oc T t hh u))) 19) T.nR u 0))) hM13)) (j := u) (rfl) (by omega) (by decide) dX7_run_190 ?_
                  refine mm_runV (pc := 191) (As := [.int (nI t), .int (nI (T.fl u))]) (rest := [.int (nI u), .ref ((rd 15 (T.nR + 1)))]) F hN (c_pages l b D hst (((mm_tRn T t hh u).w 14 (mm_u2 ((mm_tRn T t hh u) 14) T.nR u (mm_oc T t hh u))).w 19 (mm_u2 (((mm_tRn T t hh u).w 14 (mm_u2 ((mm_tRn T t hh u) 14) T.nR u (mm_oc T t hh u))) 19) T.nR u 0)) 0 rd σ13 hM13 t (T.fl u) (by omega) (mm_tbW hW htt) wfl) mw_1331 mw_1333 mw_p27 mw_6 mw_1334 ⟨pmX7_pagesOf, (Nat.le_of_ble_eq_true rfl), (Nat.le_of_ble_eq_true rfl)⟩ (mm_recv F.2.2.2.2.2.1 hN ((show σ13 (rd 0 0) = mm_obj 1 7 [.ref ((rd 1 0)), .ref ((rd 2 0)), .ref ((rd 3 0)), .int (nI T.nA), .ref ((rd 4 0)), .ref ((rd 5 0)), .ref ((rd 6 0)), .int (nI T.nP), .ref ((rd 7 0)), .ref ((rd 8 0)), .ref ((rd 9 0)), .ref ((rd 10 0)), .ref ((rd 11 0)), .int (nI T.nT), .int (nI ((mm_lf T t hh T.nP).1)), .ref ((rd 12 0)), .int (nI T.bo), .ref ((rd 13 0)), .ref ((rd 14 0)), .ref ((rd 15 0)), .ref ((rd 16 0)), .ref ((rd 17 0)), .ref ((rd 18 0)), .ref ((rd 19 0)), .int (nI T.nR), .int (nI 0)] from mm_r0 (T := (((mm_tRn T t hh u).w 14 (mm_u2 ((mm_tRn T t hh u) 14) T.nR u (mm_oc T t hh u))).w 19 (mm_u2 (((mm_tRn T t hh u).w 14 (mm_u2 ((mm_tRn T t hh u) 14) T.nR u (mm_oc T t hh u))) 19) T.nR u 0))) hM13)) rfl) hl.1 rfl (Nat.le_of_ble_eq_true rfl) ⟨(Nat.le_of_ble_eq_true rfl), (Nat.le_of_ble_eq_true rfl)⟩ dX7_run_191
                    (fun _ _ _ _ _ _ h9 => False.elim h9)
                    (fun v9 σ9 H locs hp9 hN => ?_)
                  obtain ⟨rfl, h9⟩ := hp9
                  rw [h9] at hN
                  refine W.eq (g2 := F0 m 194 ls [.int (nI (mm_pgs T t (T.fl u))), .int (nI u), .ref ((rd 15 (T.nR + 1)))]) rfl ?_
                  refine W.widen (k := 3) (n := 37) (Nat.le_of_ble_eq_true rfl) (Nat.le_of_ble_eq_true rfl) ?_
                  refine mm_iast (pc := 194) F hN ((show σ13 (rd 15 (T.nR + 1)) = mm_ari 1 0 24 (fun b9 => nI ((mm_tRn T t hh u) 15 T.nR b9)) from mm_rr15 (T := (((mm_tRn T t hh u).w 14 (mm_u2 ((mm_tRn T t hh u) 14) T.nR u (mm_oc T t hh u))).w 19 (mm_u2 (((mm_tRn T t hh u).w 14 (mm_u2 ((mm_tRn T t hh u) 14) T.nR u (mm_oc T t hh u))) 19) T.nR u 0))) hM13 (i := T.nR) (by omega))) (j := u) (rfl) (by omega) (by decide) dX7_run_194 (fun H locs hN => ?_)
                  have hN : mm_N b D s (mm_u σ13 (rd 15 (T.nR + 1)) (mm_ari 1 0 24 (va_up (fun b9 => nI ((mm_tRn T t hh u) 15 T.nR b9)) u (nI (mm_pgs T t (T.fl u)))))) _ _ := hN
                  obtain ⟨σ14, eσ14⟩ : ∃ q, q = mm_u σ13 (rd 15 (T.nR + 1)) (mm_ari 1 0 24 (va_up (fun b9 => nI ((mm_tRn T t hh u) 15 T.nR b9)) u (nI (mm_pgs T t (T.fl u))))) := ⟨_, rfl⟩
                  rw [← eσ14] at hN
                  have hM14 : mm_M σ14 ((((mm_tRn T t hh u).w 14 (mm_u2 ((mm_tRn T t hh u) 14) T.nR u (mm_oc T t hh u))).w 19 (mm_u2 (((mm_tRn T t hh u).w 14 (mm_u2 ((mm_tRn T t hh u) 14) T.nR u (mm_oc T t hh u))) 19) T.nR u 0)).w 15 (mm_u2 ((((mm_tRn T t hh u).w 14 (mm_u2 ((mm_tRn T t hh u) 14) T.nR u (mm_oc T t hh u))).w 19 (mm_u2 (((mm_tRn T t hh u).w 14 (mm_u2 ((mm_tRn T t hh u) 14) T.nR u (mm_oc T t hh u))) 19) T.nR u 0)) 15) T.nR u (mm_pgs T t (T.fl u)))) 0 rd := by rw [eσ14]; exact mm_Mw2 hM13 (k := 15) (i := T.nR) rfl (show T.nR < 10 by omega) (fun a ha => mm_u2_row ha) mm_va2
                  have hF14 : mm_Fr 1 σ σ14 := by rw [eσ14]; exact (hF13).tr (mm_Fr.u (mm_rr15 hM13 (i := T.nR) (by omega)))
                  have xro14 : σ14 ro = mm_ari 1 3 24 (fun b9 => nI (if b9 < T.nP then mm_oc T t hh b9 else 0)) := by rw [eσ14]; exact (mm_u_ne (Ne.symm (noq _ _ (mm_l2i (k := 15) (i := T.nR) rfl (show T.nR < 10 by omega))))).trans xro13
                  have xrt14 : σ14 rt = mm_ari 1 0 10 (fun b9 => nI (mm_rou T t hh u b9)) := by rw [eσ14]; exact (mm_u_ne (Ne.symm (nor _ _ (mm_l2i (k := 15) (i := T.nR) rfl (show T.nR < 10 by omega))))).trans xrt13
                  refine lv_aload_n (pc := 195) F.1 F.2.1 dX7_run_195 rfl (lv_at hl 0 rfl) ?_
                  refine mm_get (pc := 196) F hN ((show σ14 (rd 0 0) = mm_obj 1 7 [.ref ((rd 1 0)), .ref ((rd 2 0)), .ref ((rd 3 0)), .int (nI T.nA), .ref ((rd 4 0)), .ref ((rd 5 0)), .ref ((rd 6 0)), .int (nI T.nP), .ref ((rd 7 0)), .ref ((rd 8 0)), .ref ((rd 9 0)), .ref ((rd 10 0)), .ref ((rd 11 0)), .int (nI T.nT), .int (nI ((mm_lf T t hh T.nP).1)), .ref ((rd 12 0)), .int (nI T.bo), .ref ((rd 13 0)), .ref ((rd 14 0)), .ref ((rd 15 0)), .ref ((rd 16 0)), .ref ((rd 17 0)), .ref ((rd 18 0)), .ref ((rd 19 0)), .int (nI T.nR), .int (nI 0)] from mm_r0 (T := ((((mm_tRn T t hh u).w 14 (mm_u2 ((mm_tRn T t hh u) 14) T.nR u (mm_oc T t hh u))).w 19 (mm_u2 (((mm_tRn T t hh u).w 14 (mm_u2 ((mm_tRn T t hh u) 14) T.nR u (mm_oc T t hh u))) 19) T.nR u 0)).w 15 (mm_u2 ((((mm_tRn T t hh u).w 14 (mm_u2 ((mm_tRn T t hh u) 14) T.nR u (mm_oc T t hh u))).w 19 (mm_u2 (((mm_tRn T t hh u).w 14 (mm_u2 ((mm_tRn T t hh u) 14) T.nR u (mm_oc T t hh u))) 19) T.nR u 0)) 15) T.nR u (mm_pgs T t (T.fl u))))) hM14)) (ci := 7) rfl 21 (by decide) mw_1200 rfl dX7_run_196 ?_
                  refine lv_aload_n (pc := 199) F.1 F.2.1 dX7_run_199 rfl (lv_at hl 0 rfl) ?_
                  refine mm_get (pc := 200) F hN ((show σ14 (rd 0 0) = mm_obj 1 7 [.ref ((rd 1 0)), .ref ((rd 2 0)), .ref ((rd 3 0)), .int (nI T.nA), .ref ((rd 4 0)), .ref ((rd 5 0)), .ref ((rd 6 0)), .int (nI T.nP), .ref ((rd 7 0)), .ref ((rd 8 0)), .ref ((rd 9 0)), .ref ((rd 10 0)), .ref ((rd 11 0)), .int (nI T.nT), .int (nI ((mm_lf T t hh T.nP).1)), .ref ((rd 12 0)), .int (nI T.bo), .ref ((rd 13 0)), .ref ((rd 14 0)), .ref ((rd 15 0)), .ref ((rd 16 0)), .ref ((rd 17 0)), .ref ((rd 18 0)), .ref ((rd 19 0)), .int (nI T.nR), .int (nI 0)] from mm_r0 (T := ((((mm_tRn T t hh u).w 14 (mm_u2 ((mm_tRn T t hh u) 14) T.nR u (mm_oc T t hh u))).w 19 (mm_u2 (((mm_tRn T t hh u).w 14 (mm_u2 ((mm_tRn T t hh u) 14) T.nR u (mm_oc T t hh u))) 19) T.nR u 0)).w 15 (mm_u2 ((((mm_tRn T t hh u).w 14 (mm_u2 ((mm_tRn T t hh u) 14) T.nR u (mm_oc T t hh u))).w 19 (mm_u2 (((mm_tRn T t hh u).w 14 (mm_u2 ((mm_tRn T t hh u) 14) T.nR u (mm_oc T t hh u))) 19) T.nR u 0)) 15) T.nR u (mm_pgs T t (T.fl u))))) hM14)) (ci := 7) rfl 24 (by decide) mw_1203 rfl dX7_run_200 ?_
                  refine mm_aald (pc := 203) F hN ((show σ14 (rd 17 0) = mm_arq 1 5 10 (fun i => if i < 10 then some (rd 17 (i + 1)) else none) from mm_rq17 (T := ((((mm_tRn T t hh u).w 14 (mm_u2 ((mm_tRn T t hh u) 14) T.nR u (mm_oc T t hh u))).w 19 (mm_u2 (((mm_tRn T t hh u).w 14 (mm_u2 ((mm_tRn T t hh u) 14) T.nR u (mm_oc T t hh u))) 19) T.nR u 0)).w 15 (mm_u2 ((((mm_tRn T t hh u).w 14 (mm_u2 ((mm_tRn T t hh u) 14) T.nR u (mm_oc T t hh u))).w 19 (mm_u2 (((mm_tRn T t hh u).w 14 (mm_u2 ((mm_tRn T t hh u) 14) T.nR u (mm_oc T t hh u))) 19) T.nR u 0)) 15) T.nR u (mm_pgs T t (T.fl u))))) hM14)) rfl rfl (j := T.nR) (rfl) (by omega) (by decide) (if_pos (by omega)) dX7_run_203 ?_
                  refine lv_iload (pc := 204) F.1 F.2.1 dX7_run_204 (lv_at hl 4 rfl) ?_
                  refine lv_aload_n (pc := 206) F.1 F.2.1 dX7_run_206 rfl (lv_at hl 0 rfl) ?_
                  refine lv_iload_n (pc := 207) F.1 F.2.1 dX7_run_207 rfl (lv_at hl 1 rfl) ?_
                  refine lv_aload_n (pc := 208) F.1 F.2.1 dX7_run_208 rfl (lv_at hl 0 rfl) ?_
                  refine mm_get (pc := 209) F hN ((show σ14 (rd 0 0) = mm_obj 1 7 [.ref ((rd 1 0)), .ref ((rd 2 0)), .ref ((rd 3 0)), .int (nI T.nA), .ref ((rd 4 0)), .ref ((rd 5 0)), .ref ((rd 6 0)), .int (nI T.nP), .ref ((rd 7 0)), .ref ((rd 8 0)), .ref ((rd 9 0)), .ref ((rd 10 0)), .ref ((rd 11 0)), .int (nI T.nT), .int (nI ((mm_lf T t hh T.nP).1)), .ref ((rd 12 0)), .int (nI T.bo), .ref ((rd 13 0)), .ref ((rd 14 0)), .ref ((rd 15 0)), .ref ((rd 16 0)), .ref ((rd 17 0)), .ref ((rd 18 0)), .ref ((rd 19 0)), .int (nI T.nR), .int (nI 0)] from mm_r0 (T := ((((mm_tRn T t hh u).w 14 (mm_u2 ((mm_tRn T t hh u) 14) T.nR u (mm_oc T t hh u))).w 19 (mm_u2 (((mm_tRn T t hh u).w 14 (mm_u2 ((mm_tRn T t hh u) 14) T.nR u (mm_oc T t hh u))) 19) T.nR u 0)).w 15 (mm_u2 ((((mm_tRn T t hh u).w 14 (mm_u2 ((mm_tRn T t hh u) 14) T.nR u (mm_oc T t hh u))).w 19 (mm_u2 (((mm_tRn T t hh u).w 14 (mm_u2 ((mm_tRn T t hh u) 14) T.nR u (mm_oc T t hh u))) 19) T.nR u 0)) 15) T.nR u (mm_pgs T t (T.fl u))))) hM14)) (ci := 7) rfl 5 (by decide) mw_1184 rfl dX7_run_209 ?_
                  refine lv_iload (pc := 212) F.1 F.2.1 dX7_run_212 (lv_at hl 4 rfl) ?_
                  refine mm_iald (pc := 214) F hN ((show σ14 (rd 5 0) = mm_ari 1 0 24 (fun b9 => nI (T.fl b9)) from mm_r5 (T := ((((mm_tRn T t hh u).w 14 (mm_u2 ((mm_tRn T t hh u) 14) T.nR u (mm_oc T t hh u))).w 19 (mm_u2 (((mm_tRn T t hh u).w 14 (mm_u2 ((mm_tRn T t hh u) 14) T.nR u (mm_oc T t hh u))) 19) T.nR u 0)).w 15 (mm_u2 ((((mm_tRn T t hh u).w 14 (mm_u2 ((mm_tRn T t hh u) 14) T.nR u (mm_oc T t hh u))).w 19 (mm_u2 (((mm_tRn T t hh u).w 14 (mm_u2 ((mm_tRn T t hh u) 14) T.nR u (mm_oc T t hh u))) 19) T.nR u 0)) 15) T.nR u (mm_pgs T t (T.fl u))))) hM14)) (j := u) (rfl) (by omega) (by decide) dX7_run_214 ?_
                  refine mm_runV (pc := 215) (As := [.int (nI t), .int (nI (T.fl u))]) (rest := [.int (nI u), .ref ((rd 17 (T.nR + 1)))]) F hN (c_parts l b D hst ((((mm_tRn T t hh u).w 14 (mm_u2 ((mm_tRn T t hh u) 14) T.nR u (mm_oc T t hh u))).w 19 (mm_u2 (((mm_tRn T t hh u).w 14 (mm_u2 ((mm_tRn T t hh u) 14) T.nR u (mm_oc T t hh u))) 19) T.nR u 0)).w 15 (mm_u2 ((((mm_tRn T t hh u).w 14 (mm_u2 ((mm_tRn T t hh u) 14) T.nR u (mm_oc T t hh u))).w 19 (mm_u2 (((mm_tRn T t hh u).w 14 (mm_u2 ((mm_tRn T t hh u) 14) T.nR u (mm_oc T t hh u))) 19) T.nR u 0)) 15) T.nR u (mm_pgs T t (T.fl u)))) 0 rd σ14 hM14 t (T.fl u) (by omega) (mm_tbW hW htt) wfl) mw_1335 mw_1337 mw_p28 mw_6 mw_1338 ⟨pmX7_partsFor, (Nat.le_of_ble_eq_true rfl), (Nat.le_of_ble_eq_true rfl)⟩ (mm_recv F.2.2.2.2.2.1 hN ((show σ14 (rd 0 0) = mm_obj 1 7 [.ref ((rd 1 0)), .ref ((rd 2 0)), .ref ((rd 3 0)), .int (nI T.nA), .ref ((rd 4 0)), .ref ((rd 5 0)), .ref ((rd 6 0)), .int (nI T.nP), .ref ((rd 7 0)), .ref ((rd 8 0)), .ref ((rd 9 0)), .ref ((rd 10 0)), .ref ((rd 11 0)), .int (nI T.nT), .int (nI ((mm_lf T t hh T.nP).1)), .ref ((rd 12 0)), .int (nI T.bo), .ref ((rd 13 0)), .ref ((rd 14 0)), .ref ((rd 15 0)), .ref ((rd 16 0)), .ref ((rd 17 0)), .ref ((rd 18 0)), .ref ((rd 19 0)), .int (nI T.nR), .int (nI 0)] from mm_r0 (T := ((((mm_tRn T t hh u).w 14 (mm_u2 ((mm_tRn T t hh u) 14) T.nR u (mm_oc T t hh u))).w 19 (mm_u2 (((mm_tRn T t hh u).w 14 (mm_u2 ((mm_tRn T t hh u) 14) T.nR u (mm_oc T t hh u))) 19) T.nR u 0)).w 15 (mm_u2 ((((mm_tRn T t hh u).w 14 (mm_u2 ((mm_tRn T t hh u) 14) T.nR u (mm_oc T t hh u))).w 19 (mm_u2 (((mm_tRn T t hh u).w 14 (mm_u2 ((mm_tRn T t hh u) 14) T.nR u (mm_oc T t hh u))) 19) T.nR u 0)) 15) T.nR u (mm_pgs T t (T.fl u))))) hM14)) rfl) hl.1 rfl (Nat.le_of_ble_eq_true rfl) ⟨(Nat.le_of_ble_eq_true rfl), (Nat.le_of_ble_eq_true rfl)⟩ dX7_run_215
                    (fun _ _ _ _ _ _ h9 => False.elim h9)
                    (fun v9 σ9 H locs hp9 hN => ?_)
                  obtain ⟨rfl, h9⟩ := hp9
                  rw [h9] at hN
                  refine W.eq (g2 := F0 m 218 ls [.int (nI (mm_pts T t (T.fl u))), .int (nI u), .ref ((rd 17 (T.nR + 1)))]) rfl ?_
                  refine W.widen (k := 3) (n := 37) (Nat.le_of_ble_eq_true rfl) (Nat.le_of_ble_eq_true rfl) ?_
                  refine mm_iast (pc := 218) F hN ((show σ14 (rd 17 (T.nR + 1)) = mm_ari 1 0 24 (fun b9 => nI ((mm_tRn T t hh u) 17 T.nR b9)) from mm_rr17 (T := ((((mm_tRn T t hh u).w 14 (mm_u2 ((mm_tRn T t hh u) 14) T.nR u (mm_oc T t hh u))).w 19 (mm_u2 (((mm_tRn T t hh u).w 14 (mm_u2 ((mm_tRn T t hh u) 14) T.nR u (mm_oc T t hh u))) 19) T.nR u 0)).w 15 (mm_u2 ((((mm_tRn T t hh u).w 14 (mm_u2 ((mm_tRn T t hh u) 14) T.nR u (mm_oc T t hh u))).w 19 (mm_u2 (((mm_tRn T t hh u).w 14 (mm_u2 ((mm_tRn T t hh u) 14) T.nR u (mm_oc T t hh u))) 19) T.nR u 0)) 15) T.nR u (mm_pgs T t (T.fl u))))) hM14 (i := T.nR) (by omega))) (j := u) (rfl) (by omega) (by decide) dX7_run_218 (fun H locs hN => ?_)
                  have hN : mm_N b D s (mm_u σ14 (rd 17 (T.nR + 1)) (mm_ari 1 0 24 (va_up (fun b9 => nI ((mm_tRn T t hh u) 17 T.nR b9)) u (nI (mm_pts T t (T.fl u)))))) _ _ := hN
                  obtain ⟨σ15, eσ15⟩ : ∃ q, q = mm_u σ14 (rd 17 (T.nR + 1)) (mm_ari 1 0 24 (va_up (fun b9 => nI ((mm_tRn T t hh u) 17 T.nR b9)) u (nI (mm_pts T t (T.fl u))))) := ⟨_, rfl⟩
                  rw [← eσ15] at hN
                  have hM15 : mm_M σ15 (((((mm_tRn T t hh u).w 14 (mm_u2 ((mm_tRn T t hh u) 14) T.nR u (mm_oc T t hh u))).w 19 (mm_u2 (((mm_tRn T t hh u).w 14 (mm_u2 ((mm_tRn T t hh u) 14) T.nR u (mm_oc T t hh u))) 19) T.nR u 0)).w 15 (mm_u2 ((((mm_tRn T t hh u).w 14 (mm_u2 ((mm_tRn T t hh u) 14) T.nR u (mm_oc T t hh u))).w 19 (mm_u2 (((mm_tRn T t hh u).w 14 (mm_u2 ((mm_tRn T t hh u) 14) T.nR u (mm_oc T t hh u))) 19) T.nR u 0)) 15) T.nR u (mm_pgs T t (T.fl u)))).w 17 (mm_u2 (((((mm_tRn T t hh u).w 14 (mm_u2 ((mm_tRn T t hh u) 14) T.nR u (mm_oc T t hh u))).w 19 (mm_u2 (((mm_tRn T t hh u).w 14 (mm_u2 ((mm_tRn T t hh u) 14) T.nR u (mm_oc T t hh u))) 19) T.nR u 0)).w 15 (mm_u2 ((((mm_tRn T t hh u).w 14 (mm_u2 ((mm_tRn T t hh u) 14) T.nR u (mm_oc T t hh u))).w 19 (mm_u2 (((mm_tRn T t hh u).w 14 (mm_u2 ((mm_tRn T t hh u) 14) T.nR u (mm_oc T t hh u))) 19) T.nR u 0)) 15) T.nR u (mm_pgs T t (T.fl u)))) 17) T.nR u (mm_pts T t (T.fl u)))) 0 rd := by rw [eσ15]; exact mm_Mw2 hM14 (k := 17) (i := T.nR) rfl (show T.nR < 10 by omega) (fun a ha => mm_u2_row ha) mm_va2
                  have hF15 : mm_Fr 1 σ σ15 := by rw [eσ15]; exact (hF14).tr (mm_Fr.u (mm_rr17 hM14 (i := T.nR) (by omega)))
                  have xro15 : σ15 ro = mm_ari 1 3 24 (fun b9 => nI (if b9 < T.nP then mm_oc T t hh b9 else 0)) := by rw [eσ15]; exact (mm_u_ne (Ne.symm (noq _ _ (mm_l2i (k := 17) (i := T.nR) rfl (show T.nR < 10 by omega))))).trans xro14
                  have xrt15 : σ15 rt = mm_ari 1 0 10 (fun b9 => nI (mm_rou T t hh u b9)) := by rw [eσ15]; exact (mm_u_ne (Ne.symm (nor _ _ (mm_l2i (k := 17) (i := T.nR) rfl (show T.nR < 10 by omega))))).trans xrt14
                  refine lv_aload_n (pc := 219) F.1 F.2.1 dX7_run_219 rfl (lv_at hl 0 rfl) ?_
                  refine mm_get (pc := 220) F hN ((show σ15 (rd 0 0) = mm_obj 1 7 [.ref ((rd 1 0)), .ref ((rd 2 0)), .ref ((rd 3 0)), .int (nI T.nA), .ref ((rd 4 0)), .ref ((rd 5 0)), .ref ((rd 6 0)), .int (nI T.nP), .ref ((rd 7 0)), .ref ((rd 8 0)), .ref ((rd 9 0)), .ref ((rd 10 0)), .ref ((rd 11 0)), .int (nI T.nT), .int (nI ((mm_lf T t hh T.nP).1)), .ref ((rd 12 0)), .int (nI T.bo), .ref ((rd 13 0)), .ref ((rd 14 0)), .ref ((rd 15 0)), .ref ((rd 16 0)), .ref ((rd 17 0)), .ref ((rd 18 0)), .ref ((rd 19 0)), .int (nI T.nR), .int (nI 0)] from mm_r0 (T := (((((mm_tRn T t hh u).w 14 (mm_u2 ((mm_tRn T t hh u) 14) T.nR u (mm_oc T t hh u))).w 19 (mm_u2 (((mm_tRn T t hh u).w 14 (mm_u2 ((mm_tRn T t hh u) 14) T.nR u (mm_oc T t hh u))) 19) T.nR u 0)).w 15 (mm_u2 ((((mm_tRn T t hh u).w 14 (mm_u2 ((mm_tRn T t hh u) 14) T.nR u (mm_oc T t hh u))).w 19 (mm_u2 (((mm_tRn T t hh u).w 14 (mm_u2 ((mm_tRn T t hh u) 14) T.nR u (mm_oc T t hh u))) 19) T.nR u 0)) 15) T.nR u (mm_pgs T t (T.fl u)))).w 17 (mm_u2 (((((mm_tRn T t hh u).w 14 (mm_u2 ((mm_tRn T t hh u) 14) T.nR u (mm_oc T t hh u))).w 19 (mm_u2 (((mm_tRn T t hh u).w 14 (mm_u2 ((mm_tRn T t hh u) 14) T.nR u (mm_oc T t hh u))) 19) T.nR u 0)).w 15 (mm_u2 ((((mm_tRn T t hh u).w 14 (mm_u2 ((mm_tRn T t hh u) 14) T.nR u (mm_oc T t hh u))).w 19 (mm_u2 (((mm_tRn T t hh u).w 14 (mm_u2 ((mm_tRn T t hh u) 14) T.nR u (mm_oc T t hh u))) 19) T.nR u 0)) 15) T.nR u (mm_pgs T t (T.fl u)))) 17) T.nR u (mm_pts T t (T.fl u))))) hM15)) (ci := 7) rfl 20 (by decide) mw_1199 rfl dX7_run_220 ?_
                  refine lv_aload_n (pc := 223) F.1 F.2.1 dX7_run_223 rfl (lv_at hl 0 rfl) ?_
                  refine mm_get (pc := 224) F hN ((show σ15 (rd 0 0) = mm_obj 1 7 [.ref ((rd 1 0)), .ref ((rd 2 0)), .ref ((rd 3 0)), .int (nI T.nA), .ref ((rd 4 0)), .ref ((rd 5 0)), .ref ((rd 6 0)), .int (nI T.nP), .ref ((rd 7 0)), .ref ((rd 8 0)), .ref ((rd 9 0)), .ref ((rd 10 0)), .ref ((rd 11 0)), .int (nI T.nT), .int (nI ((mm_lf T t hh T.nP).1)), .ref ((rd 12 0)), .int (nI T.bo), .ref ((rd 13 0)), .ref ((rd 14 0)), .ref ((rd 15 0)), .ref ((rd 16 0)), .ref ((rd 17 0)), .ref ((rd 18 0)), .ref ((rd 19 0)), .int (nI T.nR), .int (nI 0)] from mm_r0 (T := (((((mm_tRn T t hh u).w 14 (mm_u2 ((mm_tRn T t hh u) 14) T.nR u (mm_oc T t hh u))).w 19 (mm_u2 (((mm_tRn T t hh u).w 14 (mm_u2 ((mm_tRn T t hh u) 14) T.nR u (mm_oc T t hh u))) 19) T.nR u 0)).w 15 (mm_u2 ((((mm_tRn T t hh u).w 14 (mm_u2 ((mm_tRn T t hh u) 14) T.nR u (mm_oc T t hh u))).w 19 (mm_u2 (((mm_tRn T t hh u).w 14 (mm_u2 ((mm_tRn T t hh u) 14) T.nR u (mm_oc T t hh u))) 19) T.nR u 0)) 15) T.nR u (mm_pgs T t (T.fl u)))).w 17 (mm_u2 (((((mm_tRn T t hh u).w 14 (mm_u2 ((mm_tRn T t hh u) 14) T.nR u (mm_oc T t hh u))).w 19 (mm_u2 (((mm_tRn T t hh u).w 14 (mm_u2 ((mm_tRn T t hh u) 14) T.nR u (mm_oc T t hh u))) 19) T.nR u 0)).w 15 (mm_u2 ((((mm_tRn T t hh u).w 14 (mm_u2 ((mm_tRn T t hh u) 14) T.nR u (mm_oc T t hh u))).w 19 (mm_u2 (((mm_tRn T t hh u).w 14 (mm_u2 ((mm_tRn T t hh u) 14) T.nR u (mm_oc T t hh u))) 19) T.nR u 0)) 15) T.nR u (mm_pgs T t (T.fl u)))) 17) T.nR u (mm_pts T t (T.fl u))))) hM15)) (ci := 7) rfl 24 (by decide) mw_1203 rfl dX7_run_224 ?_
                  refine mm_aald (pc := 227) F hN ((show σ15 (rd 16 0) = mm_arq 1 5 10 (fun i => if i < 10 then some (rd 16 (i + 1)) else none) from mm_rq16 (T := (((((mm_tRn T t hh u).w 14 (mm_u2 ((mm_tRn T t hh u) 14) T.nR u (mm_oc T t hh u))).w 19 (mm_u2 (((mm_tRn T t hh u).w 14 (mm_u2 ((mm_tRn T t hh u) 14) T.nR u (mm_oc T t hh u))) 19) T.nR u 0)).w 15 (mm_u2 ((((mm_tRn T t hh u).w 14 (mm_u2 ((mm_tRn T t hh u) 14) T.nR u (mm_oc T t hh u))).w 19 (mm_u2 (((mm_tRn T t hh u).w 14 (mm_u2 ((mm_tRn T t hh u) 14) T.nR u (mm_oc T t hh u))) 19) T.nR u 0)) 15) T.nR u (mm_pgs T t (T.fl u)))).w 17 (mm_u2 (((((mm_tRn T t hh u).w 14 (mm_u2 ((mm_tRn T t hh u) 14) T.nR u (mm_oc T t hh u))).w 19 (mm_u2 (((mm_tRn T t hh u).w 14 (mm_u2 ((mm_tRn T t hh u) 14) T.nR u (mm_oc T t hh u))) 19) T.nR u 0)).w 15 (mm_u2 ((((mm_tRn T t hh u).w 14 (mm_u2 ((mm_tRn T t hh u) 14) T.nR u (mm_oc T t hh u))).w 19 (mm_u2 (((mm_tRn T t hh u).w 14 (mm_u2 ((mm_tRn T t hh u) 14) T.nR u (mm_oc T t hh u))) 19) T.nR u 0)) 15) T.nR u (mm_pgs T t (T.fl u)))) 17) T.nR u (mm_pts T t (T.fl u))))) hM15)) rfl rfl (j := T.nR) (rfl) (by omega) (by decide) (if_pos (by omega)) dX7_run_227 ?_
                  refine lv_iload (pc := 228) F.1 F.2.1 dX7_run_228 (lv_at hl 4 rfl) ?_
                  refine lv_aload_n (pc := 230) F.1 F.2.1 dX7_run_230 rfl (lv_at hl 0 rfl) ?_
                  refine mm_get (pc := 231) F hN ((show σ15 (rd 0 0) = mm_obj 1 7 [.ref ((rd 1 0)), .ref ((rd 2 0)), .ref ((rd 3 0)), .int (nI T.nA), .ref ((rd 4 0)), .ref ((rd 5 0)), .ref ((rd 6 0)), .int (nI T.nP), .ref ((rd 7 0)), .ref ((rd 8 0)), .ref ((rd 9 0)), .ref ((rd 10 0)), .ref ((rd 11 0)), .int (nI T.nT), .int (nI ((mm_lf T t hh T.nP).1)), .ref ((rd 12 0)), .int (nI T.bo), .ref ((rd 13 0)), .ref ((rd 14 0)), .ref ((rd 15 0)), .ref ((rd 16 0)), .ref ((rd 17 0)), .ref ((rd 18 0)), .ref ((rd 19 0)), .int (nI T.nR), .int (nI 0)] from mm_r0 (T := (((((mm_tRn T t hh u).w 14 (mm_u2 ((mm_tRn T t hh u) 14) T.nR u (mm_oc T t hh u))).w 19 (mm_u2 (((mm_tRn T t hh u).w 14 (mm_u2 ((mm_tRn T t hh u) 14) T.nR u (mm_oc T t hh u))) 19) T.nR u 0)).w 15 (mm_u2 ((((mm_tRn T t hh u).w 14 (mm_u2 ((mm_tRn T t hh u) 14) T.nR u (mm_oc T t hh u))).w 19 (mm_u2 (((mm_tRn T t hh u).w 14 (mm_u2 ((mm_tRn T t hh u) 14) T.nR u (mm_oc T t hh u))) 19) T.nR u 0)) 15) T.nR u (mm_pgs T t (T.fl u)))).w 17 (mm_u2 (((((mm_tRn T t hh u).w 14 (mm_u2 ((mm_tRn T t hh u) 14) T.nR u (mm_oc T t hh u))).w 19 (mm_u2 (((mm_tRn T t hh u).w 14 (mm_u2 ((mm_tRn T t hh u) 14) T.nR u (mm_oc T t hh u))) 19) T.nR u 0)).w 15 (mm_u2 ((((mm_tRn T t hh u).w 14 (mm_u2 ((mm_tRn T t hh u) 14) T.nR u (mm_oc T t hh u))).w 19 (mm_u2 (((mm_tRn T t hh u).w 14 (mm_u2 ((mm_tRn T t hh u) 14) T.nR u (mm_oc T t hh u))) 19) T.nR u 0)) 15) T.nR u (mm_pgs T t (T.fl u)))) 17) T.nR u (mm_pts T t (T.fl u))))) hM15)) (ci := 7) rfl 0 (by decide) mw_1179 rfl dX7_run_231 ?_
                  refine lv_aload_n (pc := 234) F.1 F.2.1 dX7_run_234 rfl (lv_at hl 0 rfl) ?_
                  refine mm_get (pc := 235) F hN ((show σ15 (rd 0 0) = mm_obj 1 7 [.ref ((rd 1 0)), .ref ((rd 2 0)), .ref ((rd 3 0)), .int (nI T.nA), .ref ((rd 4 0)), .ref ((rd 5 0)), .ref ((rd 6 0)), .int (nI T.nP), .ref ((rd 7 0)), .ref ((rd 8 0)), .ref ((rd 9 0)), .ref ((rd 10 0)), .ref ((rd 11 0)), .int (nI T.nT), .int (nI ((mm_lf T t hh T.nP).1)), .ref ((rd 12 0)), .int (nI T.bo), .ref ((rd 13 0)), .ref ((rd 14 0)), .ref ((rd 15 0)), .ref ((rd 16 0)), .ref ((rd 17 0)), .ref ((rd 18 0)), .ref ((rd 19 0)), .int (nI T.nR), .int (nI 0)] from mm_r0 (T := (((((mm_tRn T t hh u).w 14 (mm_u2 ((mm_tRn T t hh u) 14) T.nR u (mm_oc T t hh u))).w 19 (mm_u2 (((mm_tRn T t hh u).w 14 (mm_u2 ((mm_tRn T t hh u) 14) T.nR u (mm_oc T t hh u))) 19) T.nR u 0)).w 15 (mm_u2 ((((mm_tRn T t hh u).w 14 (mm_u2 ((mm_tRn T t hh u) 14) T.nR u (mm_oc T t hh u))).w 19 (mm_u2 (((mm_tRn T t hh u).w 14 (mm_u2 ((mm_tRn T t hh u) 14) T.nR u (mm_oc T t hh u))) 19) T.nR u 0)) 15) T.nR u (mm_pgs T t (T.fl u)))).w 17 (mm_u2 (((((mm_tRn T t hh u).w 14 (mm_u2 ((mm_tRn T t hh u) 14) T.nR u (mm_oc T t hh u))).w 19 (mm_u2 (((mm_tRn T t hh u).w 14 (mm_u2 ((mm_tRn T t hh u) 14) T.nR u (mm_oc T t hh u))) 19) T.nR u 0)).w 15 (mm_u2 ((((mm_tRn T t hh u).w 14 (mm_u2 ((mm_tRn T t hh u) 14) T.nR u (mm_oc T t hh u))).w 19 (mm_u2 (((mm_tRn T t hh u).w 14 (mm_u2 ((mm_tRn T t hh u) 14) T.nR u (mm_oc T t hh u))) 19) T.nR u 0)) 15) T.nR u (mm_pgs T t (T.fl u)))) 17) T.nR u (mm_pts T t (T.fl u))))) hM15)) (ci := 7) rfl 4 (by decide) mw_1183 rfl dX7_run_235 ?_
                  refine lv_iload (pc := 238) F.1 F.2.1 dX7_run_238 (lv_at hl 4 rfl) ?_
                  refine mm_iald (pc := 240) F hN ((show σ15 (rd 4 0) = mm_ari 1 0 24 (fun b9 => nI (T.ho b9)) from mm_r4 (T := (((((mm_tRn T t hh u).w 14 (mm_u2 ((mm_tRn T t hh u) 14) T.nR u (mm_oc T t hh u))).w 19 (mm_u2 (((mm_tRn T t hh u).w 14 (mm_u2 ((mm_tRn T t hh u) 14) T.nR u (mm_oc T t hh u))) 19) T.nR u 0)).w 15 (mm_u2 ((((mm_tRn T t hh u).w 14 (mm_u2 ((mm_tRn T t hh u) 14) T.nR u (mm_oc T t hh u))).w 19 (mm_u2 (((mm_tRn T t hh u).w 14 (mm_u2 ((mm_tRn T t hh u) 14) T.nR u (mm_oc T t hh u))) 19) T.nR u 0)) 15) T.nR u (mm_pgs T t (T.fl u)))).w 17 (mm_u2 (((((mm_tRn T t hh u).w 14 (mm_u2 ((mm_tRn T t hh u) 14) T.nR u (mm_oc T t hh u))).w 19 (mm_u2 (((mm_tRn T t hh u).w 14 (mm_u2 ((mm_tRn T t hh u) 14) T.nR u (mm_oc T t hh u))) 19) T.nR u 0)).w 15 (mm_u2 ((((mm_tRn T t hh u).w 14 (mm_u2 ((mm_tRn T t hh u) 14) T.nR u (mm_oc T t hh u))).w 19 (mm_u2 (((mm_tRn T t hh u).w 14 (mm_u2 ((mm_tRn T t hh u) 14) T.nR u (mm_oc T t hh u))) 19) T.nR u 0)) 15) T.nR u (mm_pgs T t (T.fl u)))) 17) T.nR u (mm_pts T t (T.fl u))))) hM15)) (j := u) (rfl) (by omega) (by decide) dX7_run_240 ?_
                  refine mm_iald (pc := 241) F hN ((show σ15 (rd 1 0) = mm_ari 1 0 12 (fun b9 => nI (T.co b9)) from mm_r1 (T := (((((mm_tRn T t hh u).w 14 (mm_u2 ((mm_tRn T t hh u) 14) T.nR u (mm_oc T t hh u))).w 19 (mm_u2 (((mm_tRn T t hh u).w 14 (mm_u2 ((mm_tRn T t hh u) 14) T.nR u (mm_oc T t hh u))) 19) T.nR u 0)).w 15 (mm_u2 ((((mm_tRn T t hh u).w 14 (mm_u2 ((mm_tRn T t hh u) 14) T.nR u (mm_oc T t hh u))).w 19 (mm_u2 (((mm_tRn T t hh u).w 14 (mm_u2 ((mm_tRn T t hh u) 14) T.nR u (mm_oc T t hh u))) 19) T.nR u 0)) 15) T.nR u (mm_pgs T t (T.fl u)))).w 17 (mm_u2 (((((mm_tRn T t hh u).w 14 (mm_u2 ((mm_tRn T t hh u) 14) T.nR u (mm_oc T t hh u))).w 19 (mm_u2 (((mm_tRn T t hh u).w 14 (mm_u2 ((mm_tRn T t hh u) 14) T.nR u (mm_oc T t hh u))) 19) T.nR u 0)).w 15 (mm_u2 ((((mm_tRn T t hh u).w 14 (mm_u2 ((mm_tRn T t hh u) 14) T.nR u (mm_oc T t hh u))).w 19 (mm_u2 (((mm_tRn T t hh u).w 14 (mm_u2 ((mm_tRn T t hh u) 14) T.nR u (mm_oc T t hh u))) 19) T.nR u 0)) 15) T.nR u (mm_pgs T t (T.fl u)))) 17) T.nR u (mm_pts T t (T.fl u))))) hM15)) (j := T.ho u) (rfl) (by omega) (by decide) dX7_run_241 ?_
                  refine mm_iast (pc := 242) F hN ((show σ15 (rd 16 (T.nR + 1)) = mm_ari 1 0 24 (fun b9 => nI ((mm_tRn T t hh u) 16 T.nR b9)) from mm_rr16 (T := (((((mm_tRn T t hh u).w 14 (mm_u2 ((mm_tRn T t hh u) 14) T.nR u (mm_oc T t hh u))).w 19 (mm_u2 (((mm_tRn T t hh u).w 14 (mm_u2 ((mm_tRn T t hh u) 14) T.nR u (mm_oc T t hh u))) 19) T.nR u 0)).w 15 (mm_u2 ((((mm_tRn T t hh u).w 14 (mm_u2 ((mm_tRn T t hh u) 14) T.nR u (mm_oc T t hh u))).w 19 (mm_u2 (((mm_tRn T t hh u).w 14 (mm_u2 ((mm_tRn T t hh u) 14) T.nR u (mm_oc T t hh u))) 19) T.nR u 0)) 15) T.nR u (mm_pgs T t (T.fl u)))).w 17 (mm_u2 (((((mm_tRn T t hh u).w 14 (mm_u2 ((mm_tRn T t hh u) 14) T.nR u (mm_oc T t hh u))).w 19 (mm_u2 (((mm_tRn T t hh u).w 14 (mm_u2 ((mm_tRn T t hh u) 14) T.nR u (mm_oc T t hh u))) 19) T.nR u 0)).w 15 (mm_u2 ((((mm_tRn T t hh u).w 14 (mm_u2 ((mm_tRn T t hh u) 14) T.nR u (mm_oc T t hh u))).w 19 (mm_u2 (((mm_tRn T t hh u).w 14 (mm_u2 ((mm_tRn T t hh u) 14) T.nR u (mm_oc T t hh u))) 19) T.nR u 0)) 15) T.nR u (mm_pgs T t (T.fl u)))) 17) T.nR u (mm_pts T t (T.fl u))))) hM15 (i := T.nR) (by omega))) (j := u) (rfl) (by omega) (by decide) dX7_run_242 (fun H locs hN => ?_)
                  have hN : mm_N b D s (mm_u σ15 (rd 16 (T.nR + 1)) (mm_ari 1 0 24 (va_up (fun b9 => nI ((mm_tRn T t hh u) 16 T.nR b9)) u (nI (T.co (T.ho u)))))) _ _ := hN
                  obtain ⟨σ16, eσ16⟩ : ∃ q, q = mm_u σ15 (rd 16 (T.nR + 1)) (mm_ari 1 0 24 (va_up (fun b9 => nI ((mm_tRn T t hh u) 16 T.nR b9)) u (nI (T.co (T.ho u))))) := ⟨_, rfl⟩
                  rw [← eσ16] at hN
                  have hM16 : mm_M σ16 ((((((mm_tRn T t hh u).w 14 (mm_u2 ((mm_tRn T t hh u) 14) T.nR u (mm_oc T t hh u))).w 19 (mm_u2 (((mm_tRn T t hh u).w 14 (mm_u2 ((mm_tRn T t hh u) 14) T.nR u (mm_oc T t hh u))) 19) T.nR u 0)).w 15 (mm_u2 ((((mm_tRn T t hh u).w 14 (mm_u2 ((mm_tRn T t hh u) 14) T.nR u (mm_oc T t hh u))).w 19 (mm_u2 (((mm_tRn T t hh u).w 14 (mm_u2 ((mm_tRn T t hh u) 14) T.nR u (mm_oc T t hh u))) 19) T.nR u 0)) 15) T.nR u (mm_pgs T t (T.fl u)))).w 17 (mm_u2 (((((mm_tRn T t hh u).w 14 (mm_u2 ((mm_tRn T t hh u) 14) T.nR u (mm_oc T t hh u))).w 19 (mm_u2 (((mm_tRn T t hh u).w 14 (mm_u2 ((mm_tRn T t hh u) 14) T.nR u (mm_oc T t hh u))) 19) T.nR u 0)).w 15 (mm_u2 ((((mm_tRn T t hh u).w 14 (mm_u2 ((mm_tRn T t hh u) 14) T.nR u (mm_oc T t hh u))).w 19 (mm_u2 (((mm_tRn T t hh u).w 14 (mm_u2 ((mm_tRn T t hh u) 14) T.nR u (mm_oc T t hh u))) 19) T.nR u 0)) 15) T.nR u (mm_pgs T t (T.fl u)))) 17) T.nR u (mm_pts T t (T.fl u)))).w 16 (mm_u2 ((((((mm_tRn T t hh u).w 14 (mm_u2 ((mm_tRn T t hh u) 14) T.nR u (mm_oc T t hh u))).w 19 (mm_u2 (((mm_tRn T t hh u).w 14 (mm_u2 ((mm_tRn T t hh u) 14) T.nR u (mm_oc T t hh u))) 19) T.nR u 0)).w 15 (mm_u2 ((((mm_tRn T t hh u).w 14 (mm_u2 ((mm_tRn T t hh u) 14) T.nR u (mm_oc T t hh u))).w 19 (mm_u2 (((mm_tRn T t hh u).w 14 (mm_u2 ((mm_tRn T t hh u) 14) T.nR u (mm_oc T t hh u))) 19) T.nR u 0)) 15) T.nR u (mm_pgs T t (T.fl u)))).w 17 (mm_u2 (((((mm_tRn T t hh u).w 14 (mm_u2 ((mm_tRn T t hh u) 14) T.nR u (mm_oc T t hh u))).w 19 (mm_u2 (((mm_tRn T t hh u).w 14 (mm_u2 ((mm_tRn T t hh u) 14) T.nR u (mm_oc T t hh u))) 19) T.nR u 0)).w 15 (mm_u2 ((((mm_tRn T t hh u).w 14 (mm_u2 ((mm_tRn T t hh u) 14) T.nR u (mm_oc T t hh u))).w 19 (mm_u2 (((mm_tRn T t hh u).w 14 (mm_u2 ((mm_tRn T t hh u) 14) T.nR u (mm_oc T t hh u))) 19) T.nR u 0)) 15) T.nR u (mm_pgs T t (T.fl u)))) 17) T.nR u (mm_pts T t (T.fl u)))) 16) T.nR u (T.co (T.ho u)))) 0 rd := by rw [eσ16]; exact mm_Mw2 hM15 (k := 16) (i := T.nR) rfl (show T.nR < 10 by omega) (fun a ha => mm_u2_row ha) mm_va2
                  have hF16 : mm_Fr 1 σ σ16 := by rw [eσ16]; exact (hF15).tr (mm_Fr.u (mm_rr16 hM15 (i := T.nR) (by omega)))
                  have xro16 : σ16 ro = mm_ari 1 3 24 (fun b9 => nI (if b9 < T.nP then mm_oc T t hh b9 else 0)) := by rw [eσ16]; exact (mm_u_ne (Ne.symm (noq _ _ (mm_l2i (k := 16) (i := T.nR) rfl (show T.nR < 10 by omega))))).trans xro15
                  have xrt16 : σ16 rt = mm_ari 1 0 10 (fun b9 => nI (mm_rou T t hh u b9)) := by rw [eσ16]; exact (mm_u_ne (Ne.symm (nor _ _ (mm_l2i (k := 16) (i := T.nR) rfl (show T.nR < 10 by omega))))).trans xrt15
                  refine lv_aload (pc := 243) F.1 F.2.1 dX7_run_243 (lv_at hl 3 rfl) ?_
                  refine lv_aload_n (pc := 245) F.1 F.2.1 dX7_run_245 rfl (lv_at hl 0 rfl) ?_
                  refine mm_get (pc := 246) F hN ((show σ16 (rd 0 0) = mm_obj 1 7 [.ref ((rd 1 0)), .ref ((rd 2 0)), .ref ((rd 3 0)), .int (nI T.nA), .ref ((rd 4 0)), .ref ((rd 5 0)), .ref ((rd 6 0)), .int (nI T.nP), .ref ((rd 7 0)), .ref ((rd 8 0)), .ref ((rd 9 0)), .ref ((rd 10 0)), .ref ((rd 11 0)), .int (nI T.nT), .int (nI ((mm_lf T t hh T.nP).1)), .ref ((rd 12 0)), .int (nI T.bo), .ref ((rd 13 0)), .ref ((rd 14 0)), .ref ((rd 15 0)), .ref ((rd 16 0)), .ref ((rd 17 0)), .ref ((rd 18 0)), .ref ((rd 19 0)), .int (nI T.nR), .int (nI 0)] from mm_r0 (T := ((((((mm_tRn T t hh u).w 14 (mm_u2 ((mm_tRn T t hh u) 14) T.nR u (mm_oc T t hh u))).w 19 (mm_u2 (((mm_tRn T t hh u).w 14 (mm_u2 ((mm_tRn T t hh u) 14) T.nR u (mm_oc T t hh u))) 19) T.nR u 0)).w 15 (mm_u2 ((((mm_tRn T t hh u).w 14 (mm_u2 ((mm_tRn T t hh u) 14) T.nR u (mm_oc T t hh u))).w 19 (mm_u2 (((mm_tRn T t hh u).w 14 (mm_u2 ((mm_tRn T t hh u) 14) T.nR u (mm_oc T t hh u))) 19) T.nR u 0)) 15) T.nR u (mm_pgs T t (T.fl u)))).w 17 (mm_u2 (((((mm_tRn T t hh u).w 14 (mm_u2 ((mm_tRn T t hh u) 14) T.nR u (mm_oc T t hh u))).w 19 (mm_u2 (((mm_tRn T t hh u).w 14 (mm_u2 ((mm_tRn T t hh u) 14) T.nR u (mm_oc T t hh u))) 19) T.nR u 0)).w 15 (mm_u2 ((((mm_tRn T t hh u).w 14 (mm_u2 ((mm_tRn T t hh u) 14) T.nR u (mm_oc T t hh u))).w 19 (mm_u2 (((mm_tRn T t hh u).w 14 (mm_u2 ((mm_tRn T t hh u) 14) T.nR u (mm_oc T t hh u))) 19) T.nR u 0)) 15) T.nR u (mm_pgs T t (T.fl u)))) 17) T.nR u (mm_pts T t (T.fl u)))).w 16 (mm_u2 ((((((mm_tRn T t hh u).w 14 (mm_u2 ((mm_tRn T t hh u) 14) T.nR u (mm_oc T t hh u))).w 19 (mm_u2 (((mm_tRn T t hh u).w 14 (mm_u2 ((mm_tRn T t hh u) 14) T.nR u (mm_oc T t hh u))) 19) T.nR u 0)).w 15 (mm_u2 ((((mm_tRn T t hh u).w 14 (mm_u2 ((mm_tRn T t hh u) 14) T.nR u (mm_oc T t hh u))).w 19 (mm_u2 (((mm_tRn T t hh u).w 14 (mm_u2 ((mm_tRn T t hh u) 14) T.nR u (mm_oc T t hh u))) 19) T.nR u 0)) 15) T.nR u (mm_pgs T t (T.fl u)))).w 17 (mm_u2 (((((mm_tRn T t hh u).w 14 (mm_u2 ((mm_tRn T t hh u) 14) T.nR u (mm_oc T t hh u))).w 19 (mm_u2 (((mm_tRn T t hh u).w 14 (mm_u2 ((mm_tRn T t hh u) 14) T.nR u (mm_oc T t hh u))) 19) T.nR u 0)).w 15 (mm_u2 ((((mm_tRn T t hh u).w 14 (mm_u2 ((mm_tRn T t hh u) 14) T.nR u (mm_oc T t hh u))).w 19 (mm_u2 (((mm_tRn T t hh u).w 14 (mm_u2 ((mm_tRn T t hh u) 14) T.nR u (mm_oc T t hh u))) 19) T.nR u 0)) 15) T.nR u (mm_pgs T t (T.fl u)))) 17) T.nR u (mm_pts T t (T.fl u)))) 16) T.nR u (T.co (T.ho u))))) hM16)) (ci := 7) rfl 0 (by decide) mw_1179 rfl dX7_run_246 ?_
                  refine lv_aload_n (pc := 249) F.1 F.2.1 dX7_run_249 rfl (lv_at hl 0 rfl) ?_
                  refine mm_get (pc := 250) F hN ((show σ16 (rd 0 0) = mm_obj 1 7 [.ref ((rd 1 0)), .ref ((rd 2 0)), .ref ((rd 3 0)), .int (nI T.nA), .ref ((rd 4 0)), .ref ((rd 5 0)), .ref ((rd 6 0)), .int (nI T.nP), .ref ((rd 7 0)), .ref ((rd 8 0)), .ref ((rd 9 0)), .ref ((rd 10 0)), .ref ((rd 11 0)), .int (nI T.nT), .int (nI ((mm_lf T t hh T.nP).1)), .ref ((rd 12 0)), .int (nI T.bo), .ref ((rd 13 0)), .ref ((rd 14 0)), .ref ((rd 15 0)), .ref ((rd 16 0)), .ref ((rd 17 0)), .ref ((rd 18 0)), .ref ((rd 19 0)), .int (nI T.nR), .int (nI 0)] from mm_r0 (T := ((((((mm_tRn T t hh u).w 14 (mm_u2 ((mm_tRn T t hh u) 14) T.nR u (mm_oc T t hh u))).w 19 (mm_u2 (((mm_tRn T t hh u).w 14 (mm_u2 ((mm_tRn T t hh u) 14) T.nR u (mm_oc T t hh u))) 19) T.nR u 0)).w 15 (mm_u2 ((((mm_tRn T t hh u).w 14 (mm_u2 ((mm_tRn T t hh u) 14) T.nR u (mm_oc T t hh u))).w 19 (mm_u2 (((mm_tRn T t hh u).w 14 (mm_u2 ((mm_tRn T t hh u) 14) T.nR u (mm_oc T t hh u))) 19) T.nR u 0)) 15) T.nR u (mm_pgs T t (T.fl u)))).w 17 (mm_u2 (((((mm_tRn T t hh u).w 14 (mm_u2 ((mm_tRn T t hh u) 14) T.nR u (mm_oc T t hh u))).w 19 (mm_u2 (((mm_tRn T t hh u).w 14 (mm_u2 ((mm_tRn T t hh u) 14) T.nR u (mm_oc T t hh u))) 19) T.nR u 0)).w 15 (mm_u2 ((((mm_tRn T t hh u).w 14 (mm_u2 ((mm_tRn T t hh u) 14) T.nR u (mm_oc T t hh u))).w 19 (mm_u2 (((mm_tRn T t hh u).w 14 (mm_u2 ((mm_tRn T t hh u) 14) T.nR u (mm_oc T t hh u))) 19) T.nR u 0)) 15) T.nR u (mm_pgs T t (T.fl u)))) 17) T.nR u (mm_pts T t (T.fl u)))).w 16 (mm_u2 ((((((mm_tRn T t hh u).w 14 (mm_u2 ((mm_tRn T t hh u) 14) T.nR u (mm_oc T t hh u))).w 19 (mm_u2 (((mm_tRn T t hh u).w 14 (mm_u2 ((mm_tRn T t hh u) 14) T.nR u (mm_oc T t hh u))) 19) T.nR u 0)).w 15 (mm_u2 ((((mm_tRn T t hh u).w 14 (mm_u2 ((mm_tRn T t hh u) 14) T.nR u (mm_oc T t hh u))).w 19 (mm_u2 (((mm_tRn T t hh u).w 14 (mm_u2 ((mm_tRn T t hh u) 14) T.nR u (mm_oc T t hh u))) 19) T.nR u 0)) 15) T.nR u (mm_pgs T t (T.fl u)))).w 17 (mm_u2 (((((mm_tRn T t hh u).w 14 (mm_u2 ((mm_tRn T t hh u) 14) T.nR u (mm_oc T t hh u))).w 19 (mm_u2 (((mm_tRn T t hh u).w 14 (mm_u2 ((mm_tRn T t hh u) 14) T.nR u (mm_oc T t hh u))) 19) T.nR u 0)).w 15 (mm_u2 ((((mm_tRn T t hh u).w 14 (mm_u2 ((mm_tRn T t hh u) 14) T.nR u (mm_oc T t hh u))).w 19 (mm_u2 (((mm_tRn T t hh u).w 14 (mm_u2 ((mm_tRn T t hh u) 14) T.nR u (mm_oc T t hh u))) 19) T.nR u 0)) 15) T.nR u (mm_pgs T t (T.fl u)))) 17) T.nR u (mm_pts T t (T.fl u)))) 16) T.nR u (T.co (T.ho u))))) hM16)) (ci := 7) rfl 4 (by decide) mw_1183 rfl dX7_run_250 ?_
                  refine lv_iload (pc := 253) F.1 F.2.1 dX7_run_253 (lv_at hl 4 rfl) ?_
                  refine mm_iald (pc := 255) F hN ((show σ16 (rd 4 0) = mm_ari 1 0 24 (fun b9 => nI (T.ho b9)) from mm_r4 (T := ((((((mm_tRn T t hh u).w 14 (mm_u2 ((mm_tRn T t hh u) 14) T.nR u (mm_oc T t hh u))).w 19 (mm_u2 (((mm_tRn T t hh u).w 14 (mm_u2 ((mm_tRn T t hh u) 14) T.nR u (mm_oc T t hh u))) 19) T.nR u 0)).w 15 (mm_u2 ((((mm_tRn T t hh u).w 14 (mm_u2 ((mm_tRn T t hh u) 14) T.nR u (mm_oc T t hh u))).w 19 (mm_u2 (((mm_tRn T t hh u).w 14 (mm_u2 ((mm_tRn T t hh u) 14) T.nR u (mm_oc T t hh u))) 19) T.nR u 0)) 15) T.nR u (mm_pgs T t (T.fl u)))).w 17 (mm_u2 (((((mm_tRn T t hh u).w 14 (mm_u2 ((mm_tRn T t hh u) 14) T.nR u (mm_oc T t hh u))).w 19 (mm_u2 (((mm_tRn T t hh u).w 14 (mm_u2 ((mm_tRn T t hh u) 14) T.nR u (mm_oc T t hh u))) 19) T.nR u 0)).w 15 (mm_u2 ((((mm_tRn T t hh u).w 14 (mm_u2 ((mm_tRn T t hh u) 14) T.nR u (mm_oc T t hh u))).w 19 (mm_u2 (((mm_tRn T t hh u).w 14 (mm_u2 ((mm_tRn T t hh u) 14) T.nR u (mm_oc T t hh u))) 19) T.nR u 0)) 15) T.nR u (mm_pgs T t (T.fl u)))) 17) T.nR u (mm_pts T t (T.fl u)))).w 16 (mm_u2 ((((((mm_tRn T t hh u).w 14 (mm_u2 ((mm_tRn T t hh u) 14) T.nR u (mm_oc T t hh u))).w 19 (mm_u2 (((mm_tRn T t hh u).w 14 (mm_u2 ((mm_tRn T t hh u) 14) T.nR u (mm_oc T t hh u))) 19) T.nR u 0)).w 15 (mm_u2 ((((mm_tRn T t hh u).w 14 (mm_u2 ((mm_tRn T t hh u) 14) T.nR u (mm_oc T t hh u))).w 19 (mm_u2 (((mm_tRn T t hh u).w 14 (mm_u2 ((mm_tRn T t hh u) 14) T.nR u (mm_oc T t hh u))) 19) T.nR u 0)) 15) T.nR u (mm_pgs T t (T.fl u)))).w 17 (mm_u2 (((((mm_tRn T t hh u).w 14 (mm_u2 ((mm_tRn T t hh u) 14) T.nR u (mm_oc T t hh u))).w 19 (mm_u2 (((mm_tRn T t hh u).w 14 (mm_u2 ((mm_tRn T t hh u) 14) T.nR u (mm_oc T t hh u))) 19) T.nR u 0)).w 15 (mm_u2 ((((mm_tRn T t hh u).w 14 (mm_u2 ((mm_tRn T t hh u) 14) T.nR u (mm_oc T t hh u))).w 19 (mm_u2 (((mm_tRn T t hh u).w 14 (mm_u2 ((mm_tRn T t hh u) 14) T.nR u (mm_oc T t hh u))) 19) T.nR u 0)) 15) T.nR u (mm_pgs T t (T.fl u)))) 17) T.nR u (mm_pts T t (T.fl u)))) 16) T.nR u (T.co (T.ho u))))) hM16)) (j := u) (rfl) (by omega) (by decide) dX7_run_255 ?_
                  refine mm_iald (pc := 256) F hN ((show σ16 (rd 1 0) = mm_ari 1 0 12 (fun b9 => nI (T.co b9)) from mm_r1 (T := ((((((mm_tRn T t hh u).w 14 (mm_u2 ((mm_tRn T t hh u) 14) T.nR u (mm_oc T t hh u))).w 19 (mm_u2 (((mm_tRn T t hh u).w 14 (mm_u2 ((mm_tRn T t hh u) 14) T.nR u (mm_oc T t hh u))) 19) T.nR u 0)).w 15 (mm_u2 ((((mm_tRn T t hh u).w 14 (mm_u2 ((mm_tRn T t hh u) 14) T.nR u (mm_oc T t hh u))).w 19 (mm_u2 (((mm_tRn T t hh u).w 14 (mm_u2 ((mm_tRn T t hh u) 14) T.nR u (mm_oc T t hh u))) 19) T.nR u 0)) 15) T.nR u (mm_pgs T t (T.fl u)))).w 17 (mm_u2 (((((mm_tRn T t hh u).w 14 (mm_u2 ((mm_tRn T t hh u) 14) T.nR u (mm_oc T t hh u))).w 19 (mm_u2 (((mm_tRn T t hh u).w 14 (mm_u2 ((mm_tRn T t hh u) 14) T.nR u (mm_oc T t hh u))) 19) T.nR u 0)).w 15 (mm_u2 ((((mm_tRn T t hh u).w 14 (mm_u2 ((mm_tRn T t hh u) 14) T.nR u (mm_oc T t hh u))).w 19 (mm_u2 (((mm_tRn T t hh u).w 14 (mm_u2 ((mm_tRn T t hh u) 14) T.nR u (mm_oc T t hh u))) 19) T.nR u 0)) 15) T.nR u (mm_pgs T t (T.fl u)))) 17) T.nR u (mm_pts T t (T.fl u)))).w 16 (mm_u2 ((((((mm_tRn T t hh u).w 14 (mm_u2 ((mm_tRn T t hh u) 14) T.nR u (mm_oc T t hh u))).w 19 (mm_u2 (((mm_tRn T t hh u).w 14 (mm_u2 ((mm_tRn T t hh u) 14) T.nR u (mm_oc T t hh u))) 19) T.nR u 0)).w 15 (mm_u2 ((((mm_tRn T t hh u).w 14 (mm_u2 ((mm_tRn T t hh u) 14) T.nR u (mm_oc T t hh u))).w 19 (mm_u2 (((mm_tRn T t hh u).w 14 (mm_u2 ((mm_tRn T t hh u) 14) T.nR u (mm_oc T t hh u))) 19) T.nR u 0)) 15) T.nR u (mm_pgs T t (T.fl u)))).w 17 (mm_u2 (((((mm_tRn T t hh u).w 14 (mm_u2 ((mm_tRn T t hh u) 14) T.nR u (mm_oc T t hh u))).w 19 (mm_u2 (((mm_tRn T t hh u).w 14 (mm_u2 ((mm_tRn T t hh u) 14) T.nR u (mm_oc T t hh u))) 19) T.nR u 0)).w 15 (mm_u2 ((((mm_tRn T t hh u).w 14 (mm_u2 ((mm_tRn T t hh u) 14) T.nR u (mm_oc T t hh u))).w 19 (mm_u2 (((mm_tRn T t hh u).w 14 (mm_u2 ((mm_tRn T t hh u) 14) T.nR u (mm_oc T t hh u))) 19) T.nR u 0)) 15) T.nR u (mm_pgs T t (T.fl u)))) 17) T.nR u (mm_pts T t (T.fl u)))) 16) T.nR u (T.co (T.ho u))))) hM16)) (j := T.ho u) (rfl) (by omega) (by decide) dX7_run_256 ?_
                  refine lv_bipush (pc := 257) (v := nI 10) F.1 F.2.1 dX7_run_257 (by decide) ?_
                  refine mm_idiv (pc := 259) F (z := nI ((T.co (T.ho u)) / 10)) (pk_div (by omega) (by omega) (by omega)) (by decide) dX7_run_259 ?_
                  refine lv_dup2_11 (pc := 260) F.1 F.2.1 dX7_run_260 rfl rfl ?_
                  refine mm_iald (pc := 261) F hN (xrt16) (j := (T.co (T.ho u)) / 10) (rfl) (by omega) (by decide) dX7_run_261 ?_
                  refine lv_aload (pc := 262) F.1 F.2.1 dX7_run_262 (lv_at hl 2 rfl) ?_
                  refine lv_iload (pc := 264) F.1 F.2.1 dX7_run_264 (lv_at hl 4 rfl) ?_
                  refine mm_cald (pc := 266) F hN (xro16) (j := u) (rfl) (by omega) (by decide) dX7_run_266 ?_
                  refine W.eq (g2 := F0 m 267 ls [.int (nI (mm_oc T t hh u)), .int (nI (mm_rou T t hh u ((T.co (T.ho u)) / 10))), .int (nI ((T.co (T.ho u)) / 10)), .ref rt]) (congrArg (fun q => F0 m 267 ls [Value.int (nI q), .int (nI (mm_rou T t hh u ((T.co (T.ho u)) / 10))), .int (nI ((T.co (T.ho u)) / 10)), .ref rt]) (if_pos hu2)) ?_
                  refine lv_bipush (pc := 267) (v := nI 108) F.1 F.2.1 dX7_run_267 (by decide) ?_
                  refine mm_icmp_ne (pc := 269) F (x := mm_oc T t hh u) (y := 108) (tgt := 276) (by omega) (by omega) dX7_run_269 (by decide) (fun cz269 => ?_) (fun cz269 => ?_)
                  ·
                    refine lv_iconst (pc := 276) (v := nI 0) F.1 F.2.1 dX7_run_276 (by decide) ?_
                    refine mm_iadd (pc := 277) F (z := nI ((mm_rou T t hh u ((T.co (T.ho u)) / 10)) + 0)) (nI_add _ _) dX7_run_277 ?_
                    refine mm_iast (pc := 278) F hN (xrt16) (j := (T.co (T.ho u)) / 10) (rfl) (by omega) (by decide) dX7_run_278 (fun H locs hN => ?_)
                    have hN : mm_N b D s (mm_u σ16 rt (mm_ari 1 0 10 (va_up (fun b9 => nI (mm_rou T t hh u b9)) ((T.co (T.ho u)) / 10) (nI ((mm_rou T t hh u ((T.co (T.ho u)) / 10)) + 0))))) _ _ := hN
                    obtain ⟨σ17, eσ17⟩ : ∃ q, q = mm_u σ16 rt (mm_ari 1 0 10 (va_up (fun b9 => nI (mm_rou T t hh u b9)) ((T.co (T.ho u)) / 10) (nI ((mm_rou T t hh u ((T.co (T.ho u)) / 10)) + 0)))) := ⟨_, rfl⟩
                    rw [← eσ17] at hN
                    have hM17 : mm_M σ17 ((((((mm_tRn T t hh u).w 14 (mm_u2 ((mm_tRn T t hh u) 14) T.nR u (mm_oc T t hh u))).w 19 (mm_u2 (((mm_tRn T t hh u).w 14 (mm_u2 ((mm_tRn T t hh u) 14) T.nR u (mm_oc T t hh u))) 19) T.nR u 0)).w 15 (mm_u2 ((((mm_tRn T t hh u).w 14 (mm_u2 ((mm_tRn T t hh u) 14) T.nR u (mm_oc T t hh u))).w 19 (mm_u2 (((mm_tRn T t hh u).w 14 (mm_u2 ((mm_tRn T t hh u) 14) T.nR u (mm_oc T t hh u))) 19) T.nR u 0)) 15) T.nR u (mm_pgs T t (T.fl u)))).w 17 (mm_u2 (((((mm_tRn T t hh u).w 14 (mm_u2 ((mm_tRn T t hh u) 14) T.nR u (mm_oc T t hh u))).w 19 (mm_u2 (((mm_tRn T t hh u).w 14 (mm_u2 ((mm_tRn T t hh u) 14) T.nR u (mm_oc T t hh u))) 19) T.nR u 0)).w 15 (mm_u2 ((((mm_tRn T t hh u).w 14 (mm_u2 ((mm_tRn T t hh u) 14) T.nR u (mm_oc T t hh u))).w 19 (mm_u2 (((mm_tRn T t hh u).w 14 (mm_u2 ((mm_tRn T t hh u) 14) T.nR u (mm_oc T t hh u))) 19) T.nR u 0)) 15) T.nR u (mm_pgs T t (T.fl u)))) 17) T.nR u (mm_pts T t (T.fl u)))).w 16 (mm_u2 ((((((mm_tRn T t hh u).w 14 (mm_u2 ((mm_tRn T t hh u) 14) T.nR u (mm_oc T t hh u))).w 19 (mm_u2 (((mm_tRn T t hh u).w 14 (mm_u2 ((mm_tRn T t hh u) 14) T.nR u (mm_oc T t hh u))) 19) T.nR u 0)).w 15 (mm_u2 ((((mm_tRn T t hh u).w 14 (mm_u2 ((mm_tRn T t hh u) 14) T.nR u (mm_oc T t hh u))).w 19 (mm_u2 (((mm_tRn T t hh u).w 14 (mm_u2 ((mm_tRn T t hh u) 14) T.nR u (mm_oc T t hh u))) 19) T.nR u 0)) 15) T.nR u (mm_pgs T t (T.fl u)))).w 17 (mm_u2 (((((mm_tRn T t hh u).w 14 (mm_u2 ((mm_tRn T t hh u) 14) T.nR u (mm_oc T t hh u))).w 19 (mm_u2 (((mm_tRn T t hh u).w 14 (mm_u2 ((mm_tRn T t hh u) 14) T.nR u (mm_oc T t hh u))) 19) T.nR u 0)).w 15 (mm_u2 ((((mm_tRn T t hh u).w 14 (mm_u2 ((mm_tRn T t hh u) 14) T.nR u (mm_oc T t hh u))).w 19 (mm_u2 (((mm_tRn T t hh u).w 14 (mm_u2 ((mm_tRn T t hh u) 14) T.nR u (mm_oc T t hh u))) 19) T.nR u 0)) 15) T.nR u (mm_pgs T t (T.fl u)))) 17) T.nR u (mm_pts T t (T.fl u)))) 16) T.nR u (T.co (T.ho u)))) 0 rd := by rw [eσ17]; exact mm_M_off hM16 nor
                    have hF17 : mm_Fr 1 σ σ17 := by rw [eσ17]; exact (hF16).tr (mm_Fr.u xrt16)
                    have xro17 : σ17 ro = mm_ari 1 3 24 (fun b9 => nI (if b9 < T.nP then mm_oc T t hh b9 else 0)) := by rw [eσ17]; exact (mm_u_ne nqr).trans xro16
                    have xrt17 : σ17 rt = mm_ari 1 0 10 (fun b9 => nI (mm_rou T t hh (u + 1) b9)) := by rw [eσ17, mm_u_eq]; exact congrArg (mm_ari 1 0 10) (mm_rou1 ((if_neg cz269).symm))
                    refine lv_iinc (pc := 279) (v := nI (u + 1)) (lv' := [(6, .int (nI (u + 1))), (0, .ref ((rd 0 0))), (1, .int (nI t)), (4, .ref ro), (5, .ref rt)]) F.1 F.2.1 dX7_run_279 hl (k := 4) rfl (by rw [← nI_add]; rfl) (by decide) rfl (fun ls hl => ?_)
                    refine lv_goto (pc := 282) (tgt := 132) F.1 F.2.1 dX7_run_282 (by decide) ?_
                    have hM99 : mm_M σ17 (mm_tRn T t hh (u + 1)) 0 rd := by
                      refine mm_M_cg hM17 (fun k hk => ?_) rfl
                      by_cases e14 : k = 14
                      · subst e14
                        exact (mm_rw1 (f := T 14) (r := T.nR) (u := u) (g := mm_oc T t hh)).symm
                      by_cases e19 : k = 19
                      · subst e19
                        exact (mm_rw1 (f := T 19) (r := T.nR) (u := u) (g := fun _ => 0)).symm
                      by_cases e15 : k = 15
                      · subst e15
                        exact (mm_rw1 (f := T 15) (r := T.nR) (u := u) (g := fun p => mm_pgs T t (T.fl p))).symm
                      by_cases e17 : k = 17
                      · subst e17
                        exact (mm_rw1 (f := T 17) (r := T.nR) (u := u) (g := fun p => mm_pts T t (T.fl p))).symm
                      by_cases e16 : k = 16
                      · subst e16
                        exact (mm_rw1 (f := T 16) (r := T.nR) (u := u) (g := fun p => T.co (T.ho p))).symm
                      simp only [mm_tRn, mm_T.w, if_neg e14, if_neg e19, if_neg e15, if_neg e17, if_neg e16]
                    exact ih132 (u + 1) σ17 ls _ _ (by omega) (by omega) (hM99) (hF17) (xro17) (xrt17) hN (lv_sub hl [1, 2, 3, 4, 0] rfl)
                  ·
                    refine lv_iconst (pc := 272) (v := nI 1) F.1 F.2.1 dX7_run_272 (by decide) ?_
                    refine lv_goto (pc := 273) (tgt := 277) F.1 F.2.1 dX7_run_273 (by decide) ?_
                    refine mm_iadd (pc := 277) F (z := nI ((mm_rou T t hh u ((T.co (T.ho u)) / 10)) + 1)) (nI_add _ _) dX7_run_277 ?_
                    refine mm_iast (pc := 278) F hN (xrt16) (j := (T.co (T.ho u)) / 10) (rfl) (by omega) (by decide) dX7_run_278 (fun H locs hN => ?_)
                    have hN : mm_N b D s (mm_u σ16 rt (mm_ari 1 0 10 (va_up (fun b9 => nI (mm_rou T t hh u b9)) ((T.co (T.ho u)) / 10) (nI ((mm_rou T t hh u ((T.co (T.ho u)) / 10)) + 1))))) _ _ := hN
                    obtain ⟨σ18, eσ18⟩ : ∃ q, q = mm_u σ16 rt (mm_ari 1 0 10 (va_up (fun b9 => nI (mm_rou T t hh u b9)) ((T.co (T.ho u)) / 10) (nI ((mm_rou T t hh u ((T.co (T.ho u)) / 10)) + 1)))) := ⟨_, rfl⟩
                    rw [← eσ18] at hN
                    have hM18 : mm_M σ18 ((((((mm_tRn T t hh u).w 14 (mm_u2 ((mm_tRn T t hh u) 14) T.nR u (mm_oc T t hh u))).w 19 (mm_u2 (((mm_tRn T t hh u).w 14 (mm_u2 ((mm_tRn T t hh u) 14) T.nR u (mm_oc T t hh u))) 19) T.nR u 0)).w 15 (mm_u2 ((((mm_tRn T t hh u).w 14 (mm_u2 ((mm_tRn T t hh u) 14) T.nR u (mm_oc T t hh u))).w 19 (mm_u2 (((mm_tRn T t hh u).w 14 (mm_u2 ((mm_tRn T t hh u) 14) T.nR u (mm_oc T t hh u))) 19) T.nR u 0)) 15) T.nR u (mm_pgs T t (T.fl u)))).w 17 (mm_u2 (((((mm_tRn T t hh u).w 14 (mm_u2 ((mm_tRn T t hh u) 14) T.nR u (mm_oc T t hh u))).w 19 (mm_u2 (((mm_tRn T t hh u).w 14 (mm_u2 ((mm_tRn T t hh u) 14) T.nR u (mm_oc T t hh u))) 19) T.nR u 0)).w 15 (mm_u2 ((((mm_tRn T t hh u).w 14 (mm_u2 ((mm_tRn T t hh u) 14) T.nR u (mm_oc T t hh u))).w 19 (mm_u2 (((mm_tRn T t hh u).w 14 (mm_u2 ((mm_tRn T t hh u) 14) T.nR u (mm_oc T t hh u))) 19) T.nR u 0)) 15) T.nR u (mm_pgs T t (T.fl u)))) 17) T.nR u (mm_pts T t (T.fl u)))).w 16 (mm_u2 ((((((mm_tRn T t hh u).w 14 (mm_u2 ((mm_tRn T t hh u) 14) T.nR u (mm_oc T t hh u))).w 19 (mm_u2 (((mm_tRn T t hh u).w 14 (mm_u2 ((mm_tRn T t hh u) 14) T.nR u (mm_oc T t hh u))) 19) T.nR u 0)).w 15 (mm_u2 ((((mm_tRn T t hh u).w 14 (mm_u2 ((mm_tRn T t hh u) 14) T.nR u (mm_oc T t hh u))).w 19 (mm_u2 (((mm_tRn T t hh u).w 14 (mm_u2 ((mm_tRn T t hh u) 14) T.nR u (mm_oc T t hh u))) 19) T.nR u 0)) 15) T.nR u (mm_pgs T t (T.fl u)))).w 17 (mm_u2 (((((mm_tRn T t hh u).w 14 (mm_u2 ((mm_tRn T t hh u) 14) T.nR u (mm_oc T t hh u))).w 19 (mm_u2 (((mm_tRn T t hh u).w 14 (mm_u2 ((mm_tRn T t hh u) 14) T.nR u (mm_oc T t hh u))) 19) T.nR u 0)).w 15 (mm_u2 ((((mm_tRn T t hh u).w 14 (mm_u2 ((mm_tRn T t hh u) 14) T.nR u (mm_oc T t hh u))).w 19 (mm_u2 (((mm_tRn T t hh u).w 14 (mm_u2 ((mm_tRn T t hh u) 14) T.nR u (mm_oc T t hh u))) 19) T.nR u 0)) 15) T.nR u (mm_pgs T t (T.fl u)))) 17) T.nR u (mm_pts T t (T.fl u)))) 16) T.nR u (T.co (T.ho u)))) 0 rd := by rw [eσ18]; exact mm_M_off hM16 nor
                    have hF18 : mm_Fr 1 σ σ18 := by rw [eσ18]; exact (hF16).tr (mm_Fr.u xrt16)
                    have xro18 : σ18 ro = mm_ari 1 3 24 (fun b9 => nI (if b9 < T.nP then mm_oc T t hh b9 else 0)) := by rw [eσ18]; exact (mm_u_ne nqr).trans xro16
                    have xrt18 : σ18 rt = mm_ari 1 0 10 (fun b9 => nI (mm_rou T t hh (u + 1) b9)) := by rw [eσ18, mm_u_eq]; exact congrArg (mm_ari 1 0 10) (mm_rou1 ((if_pos cz269).symm))
                    refine lv_iinc (pc := 279) (v := nI (u + 1)) (lv' := [(6, .int (nI (u + 1))), (0, .ref ((rd 0 0))), (1, .int (nI t)), (4, .ref ro), (5, .ref rt)]) F.1 F.2.1 dX7_run_279 hl (k := 4) rfl (by rw [← nI_add]; rfl) (by decide) rfl (fun ls hl => ?_)
                    refine lv_goto (pc := 282) (tgt := 132) F.1 F.2.1 dX7_run_282 (by decide) ?_
                    have hM99 : mm_M σ18 (mm_tRn T t hh (u + 1)) 0 rd := by
                      refine mm_M_cg hM18 (fun k hk => ?_) rfl
                      by_cases e14 : k = 14
                      · subst e14
                        exact (mm_rw1 (f := T 14) (r := T.nR) (u := u) (g := mm_oc T t hh)).symm
                      by_cases e19 : k = 19
                      · subst e19
                        exact (mm_rw1 (f := T 19) (r := T.nR) (u := u) (g := fun _ => 0)).symm
                      by_cases e15 : k = 15
                      · subst e15
                        exact (mm_rw1 (f := T 15) (r := T.nR) (u := u) (g := fun p => mm_pgs T t (T.fl p))).symm
                      by_cases e17 : k = 17
                      · subst e17
                        exact (mm_rw1 (f := T 17) (r := T.nR) (u := u) (g := fun p => mm_pts T t (T.fl p))).symm
                      by_cases e16 : k = 16
                      · subst e16
                        exact (mm_rw1 (f := T 16) (r := T.nR) (u := u) (g := fun p => T.co (T.ho p))).symm
                      simp only [mm_tRn, mm_T.w, if_neg e14, if_neg e19, if_neg e15, if_neg e17, if_neg e16]
                    exact ih132 (u + 1) σ18 ls _ _ (by omega) (by omega) (hM99) (hF18) (xro18) (xrt18) hN (lv_sub hl [1, 2, 3, 4, 0] rfl)
            exact lp132 (T.nP + 1) 0 σr ls _ _ (by omega) (by omega) (hMr) (hFr) (xror) (xrtr) hN (lv_sub hl [2, 3, 6, 1, 0] rfl)
          ·
            refine lv_aload_n (pc := 65) F.1 F.2.1 dX7_run_65 rfl (lv_at hl 0 rfl) ?_
            refine mm_get (pc := 66) F hN ((show σj (rd 0 0) = mm_obj 1 7 [.ref ((rd 1 0)), .ref ((rd 2 0)), .ref ((rd 3 0)), .int (nI T.nA), .ref ((rd 4 0)), .ref ((rd 5 0)), .ref ((rd 6 0)), .int (nI T.nP), .ref ((rd 7 0)), .ref ((rd 8 0)), .ref ((rd 9 0)), .ref ((rd 10 0)), .ref ((rd 11 0)), .int (nI T.nT), .int (nI T.pa), .ref ((rd 12 0)), .int (nI T.bo), .ref ((rd 13 0)), .ref ((rd 14 0)), .ref ((rd 15 0)), .ref ((rd 16 0)), .ref ((rd 17 0)), .ref ((rd 18 0)), .ref ((rd 19 0)), .int (nI T.nR), .int (nI 0)] from mm_r0 (T := (T.w 2 (mm_ke T j))) hMj)) (ci := 7) rfl 1 (by decide) mw_1180 rfl dX7_run_66 ?_
            refine lv_iload (pc := 69) F.1 F.2.1 dX7_run_69 (lv_at hl 5 rfl) ?_
            refine lv_aload_n (pc := 71) F.1 F.2.1 dX7_run_71 rfl (lv_at hl 0 rfl) ?_
            refine lv_iload (pc := 72) F.1 F.2.1 dX7_run_72 (lv_at hl 5 rfl) ?_
            refine mm_runV (pc := 74) (As := [.int (nI j)]) (rest := [.int (nI j), .ref ((rd 2 0))]) F hN (c_ends l b D hst (T.w 2 (mm_ke T j)) 0 rd σj hMj j (by omega) wnR (mm_endsH (T := T) hW)) mw_1367 mw_1369 mw_p31 mw_6 mw_1370 ⟨pmX7_ends, (Nat.le_of_ble_eq_true rfl), (Nat.le_of_ble_eq_true rfl)⟩ (mm_recv F.2.2.2.2.2.1 hN ((show σj (rd 0 0) = mm_obj 1 7 [.ref ((rd 1 0)), .ref ((rd 2 0)), .ref ((rd 3 0)), .int (nI T.nA), .ref ((rd 4 0)), .ref ((rd 5 0)), .ref ((rd 6 0)), .int (nI T.nP), .ref ((rd 7 0)), .ref ((rd 8 0)), .ref ((rd 9 0)), .ref ((rd 10 0)), .ref ((rd 11 0)), .int (nI T.nT), .int (nI T.pa), .ref ((rd 12 0)), .int (nI T.bo), .ref ((rd 13 0)), .ref ((rd 14 0)), .ref ((rd 15 0)), .ref ((rd 16 0)), .ref ((rd 17 0)), .ref ((rd 18 0)), .ref ((rd 19 0)), .int (nI T.nR), .int (nI 0)] from mm_r0 (T := (T.w 2 (mm_ke T j))) hMj)) rfl) hl.1 rfl (Nat.le_of_ble_eq_true rfl) ⟨(Nat.le_of_ble_eq_true rfl), (Nat.le_of_ble_eq_true rfl)⟩ dX7_run_74
              (fun _ _ _ _ _ _ h9 => False.elim h9)
              (fun v9 σ9 H locs hp9 hN => ?_)
            obtain ⟨rfl, h9⟩ := hp9
            rw [h9] at hN
            refine W.eq (g2 := F0 m 77 ls [.int (nI (if mm_ends T j = true then 1 else 0)), .int (nI j), .ref ((rd 2 0))]) rfl ?_
            refine W.widen (k := 2) (n := 27) (Nat.le_of_ble_eq_true rfl) (Nat.le_of_ble_eq_true rfl) ?_
            by_cases hen9 : mm_ends T j = true
            ·
              refine W.eq (g2 := F0 m 77 ls [.int (nI 1), .int (nI j), .ref ((rd 2 0))]) (by rw [if_pos hen9]) ?_
              refine mm_if_eq (pc := 77) F (tgt := 84) (by omega) dX7_run_77 (by decide) (fun h9 => absurd h9 (by decide)) (fun cz77 => ?_)
              refine lv_iconst (pc := 80) (v := nI 0) F.1 F.2.1 dX7_run_80 (by decide) ?_
              refine lv_goto (pc := 81) (tgt := 91) F.1 F.2.1 dX7_run_81 (by decide) ?_
              refine mm_iast (pc := 91) F hN ((show σj (rd 2 0) = mm_ari 1 0 12 (fun b9 => nI (mm_ke T j b9 0)) from mm_r2 (T := (T.w 2 (mm_ke T j))) hMj)) (j := j) (rfl) (by omega) (by decide) dX7_run_91 (fun H locs hN => ?_)
              have hN : mm_N b D s (mm_u σj (rd 2 0) (mm_ari 1 0 12 (va_up (fun b9 => nI (mm_ke T j b9 0)) j (nI 0)))) _ _ := hN
              obtain ⟨σ19, eσ19⟩ : ∃ q, q = mm_u σj (rd 2 0) (mm_ari 1 0 12 (va_up (fun b9 => nI (mm_ke T j b9 0)) j (nI 0))) := ⟨_, rfl⟩
              rw [← eσ19] at hN
              have hM19 : mm_M σ19 ((T.w 2 (mm_ke T j)).w 2 (mm_u2 ((T.w 2 (mm_ke T j)) 2) j 0 0)) 0 rd := by rw [eσ19]; exact mm_Mw1 hMj (k := 2) rfl mm_va1
              have hF19 : mm_Fr 1 σ σ19 := by rw [eσ19]; exact (hFj).tr (mm_Fr.u (mm_r2 hMj))
              have xro19 : σ19 ro = mm_ari 1 3 24 (fun b9 => nI (if b9 < T.nP then mm_oc T t hh b9 else 0)) := by rw [eσ19]; exact (mm_u_ne (Ne.symm (noq _ _ (mm_l1 (k := 2) rfl)))).trans x_ro
              have xlf19 : σ19 lf = mm_ari 1 0 3 (fun b9 => nI (mm_l3 (mm_lf T t hh T.nP) b9)) := by rw [eσ19]; exact (mm_u_ne (Ne.symm (nol _ _ (mm_l1 (k := 2) rfl)))).trans x_lf
              refine lv_iinc (pc := 92) (v := nI (j + 1)) (lv' := [(5, .int (nI (j + 1))), (0, .ref ((rd 0 0))), (1, .int (nI t)), (2, .int (nI hh)), (3, .ref lf), (4, .ref ro)]) F.1 F.2.1 dX7_run_92 hl (k := 5) rfl (by rw [← nI_add]; rfl) (by decide) rfl (fun ls hl => ?_)
              refine lv_goto (pc := 95) (tgt := 56) F.1 F.2.1 dX7_run_95 (by decide) ?_
              have hT9 : ((T.w 2 (mm_ke T j)).w 2 (mm_u2 ((T.w 2 (mm_ke T j)) 2) j 0 0)) = (T.w 2 (mm_ke T (j + 1))) := by rw [mm_ww]; exact congrArg (T.w 2) (mm_ke1 ((if_pos hen9).symm))
              exact ih56 (j + 1) σ19 ls _ _ (by omega) (by omega) (by rw [← hT9]; exact hM19) (hF19) (xro19) (xlf19) hN (lv_sub hl [1, 2, 3, 4, 5, 0] rfl)
            ·
              refine W.eq (g2 := F0 m 77 ls [.int (nI 0), .int (nI j), .ref ((rd 2 0))]) (by rw [if_neg hen9]) ?_
              refine mm_if_eq (pc := 77) F (tgt := 84) (by omega) dX7_run_77 (by decide) (fun cz77 => ?_) (fun h9 => absurd h9 (by decide))
              refine lv_aload_n (pc := 84) F.1 F.2.1 dX7_run_84 rfl (lv_at hl 0 rfl) ?_
              refine mm_get (pc := 85) F hN ((show σj (rd 0 0) = mm_obj 1 7 [.ref ((rd 1 0)), .ref ((rd 2 0)), .ref ((rd 3 0)), .int (nI T.nA), .ref ((rd 4 0)), .ref ((rd 5 0)), .ref ((rd 6 0)), .int (nI T.nP), .ref ((rd 7 0)), .ref ((rd 8 0)), .ref ((rd 9 0)), .ref ((rd 10 0)), .ref ((rd 11 0)), .int (nI T.nT), .int (nI T.pa), .ref ((rd 12 0)), .int (nI T.bo), .ref ((rd 13 0)), .ref ((rd 14 0)), .ref ((rd 15 0)), .ref ((rd 16 0)), .ref ((rd 17 0)), .ref ((rd 18 0)), .ref ((rd 19 0)), .int (nI T.nR), .int (nI 0)] from mm_r0 (T := (T.w 2 (mm_ke T j))) hMj)) (ci := 7) rfl 1 (by decide) mw_1180 rfl dX7_run_85 ?_
              refine lv_iload (pc := 88) F.1 F.2.1 dX7_run_88 (lv_at hl 5 rfl) ?_
              refine mm_iald (pc := 90) F hN ((show σj (rd 2 0) = mm_ari 1 0 12 (fun b9 => nI (mm_ke T j b9 0)) from mm_r2 (T := (T.w 2 (mm_ke T j))) hMj)) (j := j) (rfl) (by omega) (by decide) dX7_run_90 ?_
              refine mm_iast (pc := 91) F hN ((show σj (rd 2 0) = mm_ari 1 0 12 (fun b9 => nI (mm_ke T j b9 0)) from mm_r2 (T := (T.w 2 (mm_ke T j))) hMj)) (j := j) (rfl) (by omega) (by decide) dX7_run_91 (fun H locs hN => ?_)
              have hN : mm_N b D s (mm_u σj (rd 2 0) (mm_ari 1 0 12 (va_up (fun b9 => nI (mm_ke T j b9 0)) j (nI (mm_ke T j j 0))))) _ _ := hN
              obtain ⟨σ20, eσ20⟩ : ∃ q, q = mm_u σj (rd 2 0) (mm_ari 1 0 12 (va_up (fun b9 => nI (mm_ke T j b9 0)) j (nI (mm_ke T j j 0)))) := ⟨_, rfl⟩
              rw [← eσ20] at hN
              have hM20 : mm_M σ20 ((T.w 2 (mm_ke T j)).w 2 (mm_u2 ((T.w 2 (mm_ke T j)) 2) j 0 (mm_ke T j j 0))) 0 rd := by rw [eσ20]; exact mm_Mw1 hMj (k := 2) rfl mm_va1
              have hF20 : mm_Fr 1 σ σ20 := by rw [eσ20]; exact (hFj).tr (mm_Fr.u (mm_r2 hMj))
              have xro20 : σ20 ro = mm_ari 1 3 24 (fun b9 => nI (if b9 < T.nP then mm_oc T t hh b9 else 0)) := by rw [eσ20]; exact (mm_u_ne (Ne.symm (noq _ _ (mm_l1 (k := 2) rfl)))).trans x_ro
              have xlf20 : σ20 lf = mm_ari 1 0 3 (fun b9 => nI (mm_l3 (mm_lf T t hh T.nP) b9)) := by rw [eσ20]; exact (mm_u_ne (Ne.symm (nol _ _ (mm_l1 (k := 2) rfl)))).trans x_lf
              refine lv_iinc (pc := 92) (v := nI (j + 1)) (lv' := [(5, .int (nI (j + 1))), (0, .ref ((rd 0 0))), (1, .int (nI t)), (2, .int (nI hh)), (3, .ref lf), (4, .ref ro)]) F.1 F.2.1 dX7_run_92 hl (k := 5) rfl (by rw [← nI_add]; rfl) (by decide) rfl (fun ls hl => ?_)
              refine lv_goto (pc := 95) (tgt := 56) F.1 F.2.1 dX7_run_95 (by decide) ?_
              have hT9 : ((T.w 2 (mm_ke T j)).w 2 (mm_u2 ((T.w 2 (mm_ke T j)) 2) j 0 (mm_ke T j j 0))) = (T.w 2 (mm_ke T (j + 1))) := by rw [mm_ww]; exact congrArg (T.w 2) (mm_ke1 (mm_ke_at.trans (if_neg hen9).symm))
              exact ih56 (j + 1) σ20 ls _ _ (by omega) (by omega) (by rw [← hT9]; exact hM20) (hF20) (xro20) (xlf20) hN (lv_sub hl [1, 2, 3, 4, 5, 0] rfl)
      exact lp56 (T.nA + 1) 0 σO ls _ _ (by omega) (by omega) (by rw [mm_ke0]; exact hMO) (((((hF2).tr hFS)).tr hFO)) (xroO) (xlfO) hN (lv_sub hl [3, 4, 5, 2, 1, 0] rfl)
    ·
      refine lv_iconst (pc := 22) (v := nI 2) F.1 F.2.1 dX7_run_22 (by decide) ?_
      refine lv_goto (pc := 23) (tgt := 27) F.1 F.2.1 dX7_run_23 (by decide) ?_
      refine mm_put (pc := 27) F hN (mm_r0 hM) (ci := 7) rfl 25 (by decide) mw_1204 rfl (ty := .int) (by decide +kernel) (rfl) (rfl) (Nat.le_of_ble_eq_true rfl) dX7_run_27 (fun H locs hN => ?_)
      have hN : mm_N b D s (mm_u σ ((rd 0 0)) (mm_obj 1 7 [.ref ((rd 1 0)), .ref ((rd 2 0)), .ref ((rd 3 0)), .int (nI T.nA), .ref ((rd 4 0)), .ref ((rd 5 0)), .ref ((rd 6 0)), .int (nI T.nP), .ref ((rd 7 0)), .ref ((rd 8 0)), .ref ((rd 9 0)), .ref ((rd 10 0)), .ref ((rd 11 0)), .int (nI T.nT), .int (nI T.pa), .ref ((rd 12 0)), .int (nI T.bo), .ref ((rd 13 0)), .ref ((rd 14 0)), .ref ((rd 15 0)), .ref ((rd 16 0)), .ref ((rd 17 0)), .ref ((rd 18 0)), .ref ((rd 19 0)), .int (nI T.nR), .int (nI 2)])) _ _ := hN
      obtain ⟨σ21, eσ21⟩ : ∃ q, q = mm_u σ ((rd 0 0)) (mm_obj 1 7 [.ref ((rd 1 0)), .ref ((rd 2 0)), .ref ((rd 3 0)), .int (nI T.nA), .ref ((rd 4 0)), .ref ((rd 5 0)), .ref ((rd 6 0)), .int (nI T.nP), .ref ((rd 7 0)), .ref ((rd 8 0)), .ref ((rd 9 0)), .ref ((rd 10 0)), .ref ((rd 11 0)), .int (nI T.nT), .int (nI T.pa), .ref ((rd 12 0)), .int (nI T.bo), .ref ((rd 13 0)), .ref ((rd 14 0)), .ref ((rd 15 0)), .ref ((rd 16 0)), .ref ((rd 17 0)), .ref ((rd 18 0)), .ref ((rd 19 0)), .int (nI T.nR), .int (nI 2)]) := ⟨_, rfl⟩
      rw [← eσ21] at hN
      have hM21 : mm_M σ21 T 2 rd := by rw [eσ21]; exact mm_Mo hM (fun _ _ => rfl) rfl
      have hF21 : mm_Fr 1 σ σ21 := by rw [eσ21]; exact (mm_Fr.rf).tr (mm_Fr.u (mm_r0 hM))
      refine lv_aload_n (pc := 30) F.1 F.2.1 dX7_run_30 rfl (lv_at hl 0 rfl) ?_
      refine mm_get (pc := 31) F hN ((show σ21 (rd 0 0) = mm_obj 1 7 [.ref ((rd 1 0)), .ref ((rd 2 0)), .ref ((rd 3 0)), .int (nI T.nA), .ref ((rd 4 0)), .ref ((rd 5 0)), .ref ((rd 6 0)), .int (nI T.nP), .ref ((rd 7 0)), .ref ((rd 8 0)), .ref ((rd 9 0)), .ref ((rd 10 0)), .ref ((rd 11 0)), .int (nI T.nT), .int (nI T.pa), .ref ((rd 12 0)), .int (nI T.bo), .ref ((rd 13 0)), .ref ((rd 14 0)), .ref ((rd 15 0)), .ref ((rd 16 0)), .ref ((rd 17 0)), .ref ((rd 18 0)), .ref ((rd 19 0)), .int (nI T.nR), .int (nI 2)] from mm_r0 (T := T) hM21)) (ci := 7) rfl 25 (by decide) mw_1204 rfl dX7_run_31 ?_
      refine mm_if_le (pc := 34) F (tgt := 39) (by omega) dX7_run_34 (by decide) (fun h9 => absurd h9 (by decide)) (fun cz34 => ?_)
      refine lv_iconst (pc := 37) (v := nI 0) F.1 F.2.1 dX7_run_37 (by decide) ?_
      exact mm_iret (pc := 38) F hr hN (Or.inr ⟨by rw [show mm_q_run T t hh = 2 from by show mm_q_run T t hh = 2; unfold mm_q_run; (repeat' split) <;> omega]; decide, ⟨_, rfl⟩, by rw [show mm_q_run T t hh = 2 from by show mm_q_run T t hh = 2; unfold mm_q_run; (repeat' split) <;> omega]; exact hM21, hF21⟩) (Nat.le_of_ble_eq_true rfl) (Nat.le_of_ble_eq_true rfl) dX7_run_38
  ·
    refine W.eq (g2 := F0 m 6 ls [.int (nI 0), .ref ((rd 0 0))]) (by rw [if_neg htt]) ?_
    refine mm_if_ne (pc := 6) F (tgt := 13) (by omega) dX7_run_6 (by decide) (fun h9 => absurd h9 (by decide)) (fun cz6 => ?_)
    refine lv_iconst (pc := 9) (v := nI 1) F.1 F.2.1 dX7_run_9 (by decide) ?_
    refine lv_goto (pc := 10) (tgt := 27) F.1 F.2.1 dX7_run_10 (by decide) ?_
    refine mm_put (pc := 27) F hN (mm_r0 hM) (ci := 7) rfl 25 (by decide) mw_1204 rfl (ty := .int) (by decide +kernel) (rfl) (rfl) (Nat.le_of_ble_eq_true rfl) dX7_run_27 (fun H locs hN => ?_)
    have hN : mm_N b D s (mm_u σ ((rd 0 0)) (mm_obj 1 7 [.ref ((rd 1 0)), .ref ((rd 2 0)), .ref ((rd 3 0)), .int (nI T.nA), .ref ((rd 4 0)), .ref ((rd 5 0)), .ref ((rd 6 0)), .int (nI T.nP), .ref ((rd 7 0)), .ref ((rd 8 0)), .ref ((rd 9 0)), .ref ((rd 10 0)), .ref ((rd 11 0)), .int (nI T.nT), .int (nI T.pa), .ref ((rd 12 0)), .int (nI T.bo), .ref ((rd 13 0)), .ref ((rd 14 0)), .ref ((rd 15 0)), .ref ((rd 16 0)), .ref ((rd 17 0)), .ref ((rd 18 0)), .ref ((rd 19 0)), .int (nI T.nR), .int (nI 1)])) _ _ := hN
    obtain ⟨σ22, eσ22⟩ : ∃ q, q = mm_u σ ((rd 0 0)) (mm_obj 1 7 [.ref ((rd 1 0)), .ref ((rd 2 0)), .ref ((rd 3 0)), .int (nI T.nA), .ref ((rd 4 0)), .ref ((rd 5 0)), .ref ((rd 6 0)), .int (nI T.nP), .ref ((rd 7 0)), .ref ((rd 8 0)), .ref ((rd 9 0)), .ref ((rd 10 0)), .ref ((rd 11 0)), .int (nI T.nT), .int (nI T.pa), .ref ((rd 12 0)), .int (nI T.bo), .ref ((rd 13 0)), .ref ((rd 14 0)), .ref ((rd 15 0)), .ref ((rd 16 0)), .ref ((rd 17 0)), .ref ((rd 18 0)), .ref ((rd 19 0)), .int (nI T.nR), .int (nI 1)]) := ⟨_, rfl⟩
    rw [← eσ22] at hN
    have hM22 : mm_M σ22 T 1 rd := by rw [eσ22]; exact mm_Mo hM (fun _ _ => rfl) rfl
    have hF22 : mm_Fr 1 σ σ22 := by rw [eσ22]; exact (mm_Fr.rf).tr (mm_Fr.u (mm_r0 hM))
    refine lv_aload_n (pc := 30) F.1 F.2.1 dX7_run_30 rfl (lv_at hl 0 rfl) ?_
    refine mm_get (pc := 31) F hN ((show σ22 (rd 0 0) = mm_obj 1 7 [.ref ((rd 1 0)), .ref ((rd 2 0)), .ref ((rd 3 0)), .int (nI T.nA), .ref ((rd 4 0)), .ref ((rd 5 0)), .ref ((rd 6 0)), .int (nI T.nP), .ref ((rd 7 0)), .ref ((rd 8 0)), .ref ((rd 9 0)), .ref ((rd 10 0)), .ref ((rd 11 0)), .int (nI T.nT), .int (nI T.pa), .ref ((rd 12 0)), .int (nI T.bo), .ref ((rd 13 0)), .ref ((rd 14 0)), .ref ((rd 15 0)), .ref ((rd 16 0)), .ref ((rd 17 0)), .ref ((rd 18 0)), .ref ((rd 19 0)), .int (nI T.nR), .int (nI 1)] from mm_r0 (T := T) hM22)) (ci := 7) rfl 25 (by decide) mw_1204 rfl dX7_run_31 ?_
    refine mm_if_le (pc := 34) F (tgt := 39) (by omega) dX7_run_34 (by decide) (fun h9 => absurd h9 (by decide)) (fun cz34 => ?_)
    refine lv_iconst (pc := 37) (v := nI 0) F.1 F.2.1 dX7_run_37 (by decide) ?_
    exact mm_iret (pc := 38) F hr hN (Or.inr ⟨by rw [show mm_q_run T t hh = 1 from by show mm_q_run T t hh = 1; unfold mm_q_run; (repeat' split) <;> omega]; decide, ⟨_, rfl⟩, by rw [show mm_q_run T t hh = 1 from by show mm_q_run T t hh = 1; unfold mm_q_run; (repeat' split) <;> omega]; exact hM22, hF22⟩) (Nat.le_of_ble_eq_true rfl) (Nat.le_of_ble_eq_true rfl) dX7_run_38

