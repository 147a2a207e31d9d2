set_option maxHeartbeats 4000000 in
set_option maxRecDepth 100000 in
theorem r_addPerson (l : Launch) (b : Nat) (D : mm_D) (hst : l.stackTraces = false) (T : mm_T) (th : Nat) (rd : Nat → Nat → Nat) (σ : mm_S) (hM : mm_M σ T th rd) (hW : mm_WF T) (a : Nat) (za : a < 2 ^ 32) (f : Nat) (zf : f < 2 ^ 32) : mm_K l b D yX7_addPerson (.code yX7_addPerson cX7_addPerson 3 (some .int)) ({ frames := 6, cells := 0, slots := 0, locals := 160 } : Room) [.ref ((rd 0 0)), .int (nI a), .int (nI f)] σ
    (fun v σ2 => mm_Mt rd σ σ2 T (mm_t_addPerson T a f) (mm_q_addPerson T a f) v (some (.int (nI (T.nP)))))
    (fun _ _ => False) := by
  refine mm_of (cc := cX7_addPerson) (nL := 3) (ret := (some .int)) (by decide) rfl (Nat.le_of_ble_eq_true rfl) hst ?_
  intro p e s m args below meth c ls F ht hr hin hN hl
  have hl : lv_has ls 3 [(0, .ref ((rd 0 0))), (1, .int (nI a)), (2, .int (nI f))] := hl
  have wnA := hW.hnA
  have wnP := hW.hnP
  have wnT := hW.hnT
  have wnR := hW.hnR
  have wpa := hW.hpa
  have wbo := hW.hbo
  have wen0 := hW.hen 0
  have wen1 := hW.hen 1
  refine lv_aload_n (pc := 0) F.1 F.2.1 dX7_addPerson_0 rfl (lv_at hl 0 rfl) ?_
  refine lv_aload_n (pc := 1) F.1 F.2.1 dX7_addPerson_1 rfl (lv_at hl 0 rfl) ?_
  refine lv_iload_n (pc := 2) F.1 F.2.1 dX7_addPerson_2 rfl (lv_at hl 1 rfl) ?_
  refine mm_runV (pc := 3) (As := [.int (nI a)]) (rest := [.ref ((rd 0 0))]) F hN (c_isAddr l b D hst T th rd σ hM hW a (by omega)) mw_1275 mw_1277 mw_p24 mw_6 mw_1278 ⟨pmX7_isAddress, (Nat.le_of_ble_eq_true rfl), (Nat.le_of_ble_eq_true rfl)⟩ (mm_recv F.2.2.2.2.2.1 hN (mm_r0 hM) rfl) hl.1 rfl (Nat.le_of_ble_eq_true rfl) ⟨(Nat.le_of_ble_eq_true rfl), (Nat.le_of_ble_eq_true rfl)⟩ dX7_addPerson_3
    (fun _ _ _ _ _ _ h9 => False.elim h9)
    (fun v9 σ9 H locs hp9 hN => ?_)
  obtain ⟨rfl, h9⟩ := hp9
  rw [h9] at hN
  refine W.eq (g2 := F0 m 6 ls [.int (nI (if a < T.nA ∧ T.go a = 0 then 1 else 0)), .ref ((rd 0 0))]) rfl ?_
  refine W.widen (k := 0) (n := 0) (Nat.le_of_ble_eq_true rfl) (Nat.le_of_ble_eq_true rfl) ?_
  by_cases haa : a < T.nA ∧ T.go a = 0
  ·
    refine W.eq (g2 := F0 m 6 ls [.int (nI 1), .ref ((rd 0 0))]) (by rw [if_pos haa]) ?_
    refine mm_if_ne (pc := 6) F (tgt := 13) (by omega) dX7_addPerson_6 (by decide) (fun cz6 => ?_) (fun h9 => absurd h9 (by decide))
    refine lv_iload_n (pc := 13) F.1 F.2.1 dX7_addPerson_13 rfl (lv_at hl 2 rfl) ?_
    refine lv_iconst (pc := 14) (v := nI 0) F.1 F.2.1 dX7_addPerson_14 (by decide) ?_
    refine lv_bipush (pc := 15) (v := nI 7) F.1 F.2.1 dX7_addPerson_15 (by decide) ?_
    refine mm_runS (pc := 17) (As := [.int (nI f), .int (nI 0), .int (nI 7)]) (rest := [.ref ((rd 0 0))]) F hN (c_in l b D hst (nI f) (nI 0) (nI 7) σ) mw_1268 mw_1269 mw_6 mw_1270 ⟨pmX7_in, (Nat.le_of_ble_eq_true rfl), (Nat.le_of_ble_eq_true rfl)⟩ hl.1 rfl (Nat.le_of_ble_eq_true rfl) ⟨(Nat.le_of_ble_eq_true rfl), (Nat.le_of_ble_eq_true rfl)⟩ dX7_addPerson_17
      (fun _ _ _ _ _ _ h9 => False.elim h9)
      (fun v9 σ9 H locs hp9 hN => ?_)
    obtain ⟨rfl, h9⟩ := hp9
    rw [h9] at hN
    refine W.eq (g2 := F0 m 20 ls [.int (nI (if nI 0 ≤ nI f ∧ nI f ≤ nI 7 then 1 else 0)), .ref ((rd 0 0))]) rfl ?_
    refine W.widen (k := 0) (n := 0) (Nat.le_of_ble_eq_true rfl) (Nat.le_of_ble_eq_true rfl) ?_
    by_cases hi17 : 0 ≤ f ∧ f ≤ 7
    ·
      refine W.eq (g2 := F0 m 20 ls [.int (nI 1), .ref ((rd 0 0))]) (by rw [if_pos ((mm_inC (a := f) (lo := 0) (hi := 7) (by omega) (by decide) (by decide)).mpr hi17)]) ?_
      refine mm_if_ne (pc := 20) F (tgt := 27) (by omega) dX7_addPerson_20 (by decide) (fun cz20 => ?_) (fun h9 => absurd h9 (by decide))
      refine lv_aload_n (pc := 27) F.1 F.2.1 dX7_addPerson_27 rfl (lv_at hl 0 rfl) ?_
      refine mm_get (pc := 28) F hN (mm_r0 hM) (ci := 7) rfl 7 (by decide) mw_1186 rfl dX7_addPerson_28 ?_
      refine lv_bipush (pc := 31) (v := nI 24) F.1 F.2.1 dX7_addPerson_31 (by decide) ?_
      refine mm_icmp_ne (pc := 33) F (x := T.nP) (y := 24) (tgt := 40) (by omega) (by omega) dX7_addPerson_33 (by decide) (fun cz33 => ?_) (fun cz33 => ?_)
      ·
        refine lv_iconst (pc := 40) (v := nI 0) F.1 F.2.1 dX7_addPerson_40 (by decide) ?_
        refine mm_put (pc := 41) F hN (mm_r0 hM) (ci := 7) rfl 25 (by decide) mw_1204 rfl (ty := .int) (by decide +kernel) (rfl) (rfl) (Nat.le_of_ble_eq_true rfl) dX7_addPerson_41 (fun H locs hN => ?_)
        have hN : mm_N b D s (mm_u σ ((rd 0 0)) (mm_obj 1 7 [.ref ((rd 1 0)), .ref ((rd 2 0)), .ref ((rd 3 0)), .int (nI T.nA), .ref ((rd 4 0)), .ref ((rd 5 0)), .ref ((rd 6 0)), .int (nI T.nP), .ref ((rd 7 0)), .ref ((rd 8 0)), .ref ((rd 9 0)), .ref ((rd 10 0)), .ref ((rd 11 0)), .int (nI T.nT), .int (nI T.pa), .ref ((rd 12 0)), .int (nI T.bo), .ref ((rd 13 0)), .ref ((rd 14 0)), .ref ((rd 15 0)), .ref ((rd 16 0)), .ref ((rd 17 0)), .ref ((rd 18 0)), .ref ((rd 19 0)), .int (nI T.nR), .int (nI 0)])) _ _ := hN
        obtain ⟨σ2, eσ2⟩ : ∃ q, q = mm_u σ ((rd 0 0)) (mm_obj 1 7 [.ref ((rd 1 0)), .ref ((rd 2 0)), .ref ((rd 3 0)), .int (nI T.nA), .ref ((rd 4 0)), .ref ((rd 5 0)), .ref ((rd 6 0)), .int (nI T.nP), .ref ((rd 7 0)), .ref ((rd 8 0)), .ref ((rd 9 0)), .ref ((rd 10 0)), .ref ((rd 11 0)), .int (nI T.nT), .int (nI T.pa), .ref ((rd 12 0)), .int (nI T.bo), .ref ((rd 13 0)), .ref ((rd 14 0)), .ref ((rd 15 0)), .ref ((rd 16 0)), .ref ((rd 17 0)), .ref ((rd 18 0)), .ref ((rd 19 0)), .int (nI T.nR), .int (nI 0)]) := ⟨_, rfl⟩
        rw [← eσ2] at hN
        have hM2 : mm_M σ2 T 0 rd := by rw [eσ2]; exact mm_Mo hM (fun _ _ => rfl) rfl
        have hF2 : mm_Fr 1 σ σ2 := by rw [eσ2]; exact (mm_Fr.rf).tr (mm_Fr.u (mm_r0 hM))
        refine lv_aload_n (pc := 44) F.1 F.2.1 dX7_addPerson_44 rfl (lv_at hl 0 rfl) ?_
        refine mm_get (pc := 45) F hN ((show σ2 (rd 0 0) = mm_obj 1 7 [.ref ((rd 1 0)), .ref ((rd 2 0)), .ref ((rd 3 0)), .int (nI T.nA), .ref ((rd 4 0)), .ref ((rd 5 0)), .ref ((rd 6 0)), .int (nI T.nP), .ref ((rd 7 0)), .ref ((rd 8 0)), .ref ((rd 9 0)), .ref ((rd 10 0)), .ref ((rd 11 0)), .int (nI T.nT), .int (nI T.pa), .ref ((rd 12 0)), .int (nI T.bo), .ref ((rd 13 0)), .ref ((rd 14 0)), .ref ((rd 15 0)), .ref ((rd 16 0)), .ref ((rd 17 0)), .ref ((rd 18 0)), .ref ((rd 19 0)), .int (nI T.nR), .int (nI 0)] from mm_r0 (T := T) hM2)) (ci := 7) rfl 25 (by decide) mw_1204 rfl dX7_addPerson_45 ?_
        refine mm_if_le (pc := 48) F (tgt := 53) (by omega) dX7_addPerson_48 (by decide) (fun cz48 => ?_) (fun h9 => absurd h9 (by decide))
        refine lv_aload_n (pc := 53) F.1 F.2.1 dX7_addPerson_53 rfl (lv_at hl 0 rfl) ?_
        refine mm_get (pc := 54) F hN ((show σ2 (rd 0 0) = mm_obj 1 7 [.ref ((rd 1 0)), .ref ((rd 2 0)), .ref ((rd 3 0)), .int (nI T.nA), .ref ((rd 4 0)), .ref ((rd 5 0)), .ref ((rd 6 0)), .int (nI T.nP), .ref ((rd 7 0)), .ref ((rd 8 0)), .ref ((rd 9 0)), .ref ((rd 10 0)), .ref ((rd 11 0)), .int (nI T.nT), .int (nI T.pa), .ref ((rd 12 0)), .int (nI T.bo), .ref ((rd 13 0)), .ref ((rd 14 0)), .ref ((rd 15 0)), .ref ((rd 16 0)), .ref ((rd 17 0)), .ref ((rd 18 0)), .ref ((rd 19 0)), .int (nI T.nR), .int (nI 0)] from mm_r0 (T := T) hM2)) (ci := 7) rfl 4 (by decide) mw_1183 rfl dX7_addPerson_54 ?_
        refine lv_aload_n (pc := 57) F.1 F.2.1 dX7_addPerson_57 rfl (lv_at hl 0 rfl) ?_
        refine mm_get (pc := 58) F hN ((show σ2 (rd 0 0) = mm_obj 1 7 [.ref ((rd 1 0)), .ref ((rd 2 0)), .ref ((rd 3 0)), .int (nI T.nA), .ref ((rd 4 0)), .ref ((rd 5 0)), .ref ((rd 6 0)), .int (nI T.nP), .ref ((rd 7 0)), .ref ((rd 8 0)), .ref ((rd 9 0)), .ref ((rd 10 0)), .ref ((rd 11 0)), .int (nI T.nT), .int (nI T.pa), .ref ((rd 12 0)), .int (nI T.bo), .ref ((rd 13 0)), .ref ((rd 14 0)), .ref ((rd 15 0)), .ref ((rd 16 0)), .ref ((rd 17 0)), .ref ((rd 18 0)), .ref ((rd 19 0)), .int (nI T.nR), .int (nI 0)] from mm_r0 (T := T) hM2)) (ci := 7) rfl 7 (by decide) mw_1186 rfl dX7_addPerson_58 ?_
        refine lv_iload_n (pc := 61) F.1 F.2.1 dX7_addPerson_61 rfl (lv_at hl 1 rfl) ?_
        refine mm_iast (pc := 62) F hN ((show σ2 (rd 4 0) = mm_ari 1 0 24 (fun i => nI (T.ho i)) from mm_r4 (T := T) hM2)) (j := T.nP) (rfl) (by omega) (by decide) dX7_addPerson_62 (fun H locs hN => ?_)
        have hN : mm_N b D s (mm_u σ2 (rd 4 0) (mm_ari 1 0 24 (va_up (fun i => nI (T.ho i)) T.nP (nI a)))) _ _ := hN
        obtain ⟨σ3, eσ3⟩ : ∃ q, q = mm_u σ2 (rd 4 0) (mm_ari 1 0 24 (va_up (fun i => nI (T.ho i)) T.nP (nI a))) := ⟨_, rfl⟩
        rw [← eσ3] at hN
        have hM3 : mm_M σ3 (T.w 4 (mm_u2 (T 4) T.nP 0 a)) 0 rd := by rw [eσ3]; exact mm_Mw1 hM2 (k := 4) rfl mm_va1
        have hF3 : mm_Fr 1 σ σ3 := by rw [eσ3]; exact (hF2).tr (mm_Fr.u (mm_r4 hM2))
        refine lv_aload_n (pc := 63) F.1 F.2.1 dX7_addPerson_63 rfl (lv_at hl 0 rfl) ?_
        refine mm_get (pc := 64) F hN ((show σ3 (rd 0 0) = mm_obj 1 7 [.ref ((rd 1 0)), .ref ((rd 2 0)), .ref ((rd 3 0)), .int (nI T.nA), .ref ((rd 4 0)), .ref ((rd 5 0)), .ref ((rd 6 0)), .int (nI T.nP), .ref ((rd 7 0)), .ref ((rd 8 0)), .ref ((rd 9 0)), .ref ((rd 10 0)), .ref ((rd 11 0)), .int (nI T.nT), .int (nI T.pa), .ref ((rd 12 0)), .int (nI T.bo), .ref ((rd 13 0)), .ref ((rd 14 0)), .ref ((rd 15 0)), .ref ((rd 16 0)), .ref ((rd 17 0)), .ref ((rd 18 0)), .ref ((rd 19 0)), .int (nI T.nR), .int (nI 0)] from mm_r0 (T := (T.w 4 (mm_u2 (T 4) T.nP 0 a))) hM3)) (ci := 7) rfl 5 (by decide) mw_1184 rfl dX7_addPerson_64 ?_
        refine lv_aload_n (pc := 67) F.1 F.2.1 dX7_addPerson_67 rfl (lv_at hl 0 rfl) ?_
        refine mm_get (pc := 68) F hN ((show σ3 (rd 0 0) = mm_obj 1 7 [.ref ((rd 1 0)), .ref ((rd 2 0)), .ref ((rd 3 0)), .int (nI T.nA), .ref ((rd 4 0)), .ref ((rd 5 0)), .ref ((rd 6 0)), .int (nI T.nP), .ref ((rd 7 0)), .ref ((rd 8 0)), .ref ((rd 9 0)), .ref ((rd 10 0)), .ref ((rd 11 0)), .int (nI T.nT), .int (nI T.pa), .ref ((rd 12 0)), .int (nI T.bo), .ref ((rd 13 0)), .ref ((rd 14 0)), .ref ((rd 15 0)), .ref ((rd 16 0)), .ref ((rd 17 0)), .ref ((rd 18 0)), .ref ((rd 19 0)), .int (nI T.nR), .int (nI 0)] from mm_r0 (T := (T.w 4 (mm_u2 (T 4) T.nP 0 a))) hM3)) (ci := 7) rfl 7 (by decide) mw_1186 rfl dX7_addPerson_68 ?_
        refine lv_iload_n (pc := 71) F.1 F.2.1 dX7_addPerson_71 rfl (lv_at hl 2 rfl) ?_
        refine mm_iast (pc := 72) F hN ((show σ3 (rd 5 0) = mm_ari 1 0 24 (fun i => nI (T.fl i)) from mm_r5 (T := (T.w 4 (mm_u2 (T 4) T.nP 0 a))) hM3)) (j := T.nP) (rfl) (by omega) (by decide) dX7_addPerson_72 (fun H locs hN => ?_)
        have hN : mm_N b D s (mm_u σ3 (rd 5 0) (mm_ari 1 0 24 (va_up (fun i => nI (T.fl i)) T.nP (nI f)))) _ _ := hN
        obtain ⟨σ4, eσ4⟩ : ∃ q, q = mm_u σ3 (rd 5 0) (mm_ari 1 0 24 (va_up (fun i => nI (T.fl i)) T.nP (nI f))) := ⟨_, rfl⟩
        rw [← eσ4] at hN
        have hM4 : mm_M σ4 ((T.w 4 (mm_u2 (T 4) T.nP 0 a)).w 5 (mm_u2 ((T.w 4 (mm_u2 (T 4) T.nP 0 a)) 5) T.nP 0 f)) 0 rd := by rw [eσ4]; exact mm_Mw1 hM3 (k := 5) rfl mm_va1
        have hF4 : mm_Fr 1 σ σ4 := by rw [eσ4]; exact (hF3).tr (mm_Fr.u (mm_r5 hM3))
        refine lv_aload_n (pc := 73) F.1 F.2.1 dX7_addPerson_73 rfl (lv_at hl 0 rfl) ?_
        refine mm_get (pc := 74) F hN ((show σ4 (rd 0 0) = mm_obj 1 7 [.ref ((rd 1 0)), .ref ((rd 2 0)), .ref ((rd 3 0)), .int (nI T.nA), .ref ((rd 4 0)), .ref ((rd 5 0)), .ref ((rd 6 0)), .int (nI T.nP), .ref ((rd 7 0)), .ref ((rd 8 0)), .ref ((rd 9 0)), .ref ((rd 10 0)), .ref ((rd 11 0)), .int (nI T.nT), .int (nI T.pa), .ref ((rd 12 0)), .int (nI T.bo), .ref ((rd 13 0)), .ref ((rd 14 0)), .ref ((rd 15 0)), .ref ((rd 16 0)), .ref ((rd 17 0)), .ref ((rd 18 0)), .ref ((rd 19 0)), .int (nI T.nR), .int (nI 0)] from mm_r0 (T := ((T.w 4 (mm_u2 (T 4) T.nP 0 a)).w 5 (mm_u2 ((T.w 4 (mm_u2 (T 4) T.nP 0 a)) 5) T.nP 0 f))) hM4)) (ci := 7) rfl 6 (by decide) mw_1185 rfl dX7_addPerson_74 ?_
        refine lv_aload_n (pc := 77) F.1 F.2.1 dX7_addPerson_77 rfl (lv_at hl 0 rfl) ?_
        refine mm_get (pc := 78) F hN ((show σ4 (rd 0 0) = mm_obj 1 7 [.ref ((rd 1 0)), .ref ((rd 2 0)), .ref ((rd 3 0)), .int (nI T.nA), .ref ((rd 4 0)), .ref ((rd 5 0)), .ref ((rd 6 0)), .int (nI T.nP), .ref ((rd 7 0)), .ref ((rd 8 0)), .ref ((rd 9 0)), .ref ((rd 10 0)), .ref ((rd 11 0)), .int (nI T.nT), .int (nI T.pa), .ref ((rd 12 0)), .int (nI T.bo), .ref ((rd 13 0)), .ref ((rd 14 0)), .ref ((rd 15 0)), .ref ((rd 16 0)), .ref ((rd 17 0)), .ref ((rd 18 0)), .ref ((rd 19 0)), .int (nI T.nR), .int (nI 0)] from mm_r0 (T := ((T.w 4 (mm_u2 (T 4) T.nP 0 a)).w 5 (mm_u2 ((T.w 4 (mm_u2 (T 4) T.nP 0 a)) 5) T.nP 0 f))) hM4)) (ci := 7) rfl 7 (by decide) mw_1186 rfl dX7_addPerson_78 ?_
        refine lv_bipush (pc := 81) (v := nI 45) F.1 F.2.1 dX7_addPerson_81 (by decide) ?_
        refine mm_cast_ (pc := 83) F hN ((show σ4 (rd 6 0) = mm_ari 1 3 24 (fun i => nI (T.re i)) from mm_r6 (T := ((T.w 4 (mm_u2 (T 4) T.nP 0 a)).w 5 (mm_u2 ((T.w 4 (mm_u2 (T 4) T.nP 0 a)) 5) T.nP 0 f))) hM4)) (j := T.nP) (rfl) (by omega) (by decide) (by decide) dX7_addPerson_83 (fun H locs hN => ?_)
        have hN : mm_N b D s (mm_u σ4 (rd 6 0) (mm_ari 1 3 24 (va_up (fun i => nI (T.re i)) T.nP (nI 45)))) _ _ := hN
        obtain ⟨σ5, eσ5⟩ : ∃ q, q = mm_u σ4 (rd 6 0) (mm_ari 1 3 24 (va_up (fun i => nI (T.re i)) T.nP (nI 45))) := ⟨_, rfl⟩
        rw [← eσ5] at hN
        have hM5 : mm_M σ5 (((T.w 4 (mm_u2 (T 4) T.nP 0 a)).w 5 (mm_u2 ((T.w 4 (mm_u2 (T 4) T.nP 0 a)) 5) T.nP 0 f)).w 6 (mm_u2 (((T.w 4 (mm_u2 (T 4) T.nP 0 a)).w 5 (mm_u2 ((T.w 4 (mm_u2 (T 4) T.nP 0 a)) 5) T.nP 0 f)) 6) T.nP 0 45)) 0 rd := by rw [eσ5]; exact mm_Mw1 hM4 (k := 6) rfl mm_va1
        have hF5 : mm_Fr 1 σ σ5 := by rw [eσ5]; exact (hF4).tr (mm_Fr.u (mm_r6 hM4))
        refine lv_aload_n (pc := 84) F.1 F.2.1 dX7_addPerson_84 rfl (lv_at hl 0 rfl) ?_
        refine lv_dup (pc := 85) F.1 F.2.1 dX7_addPerson_85 rfl ?_
        refine mm_get (pc := 86) F hN ((show σ5 (rd 0 0) = mm_obj 1 7 [.ref ((rd 1 0)), .ref ((rd 2 0)), .ref ((rd 3 0)), .int (nI T.nA), .ref ((rd 4 0)), .ref ((rd 5 0)), .ref ((rd 6 0)), .int (nI T.nP), .ref ((rd 7 0)), .ref ((rd 8 0)), .ref ((rd 9 0)), .ref ((rd 10 0)), .ref ((rd 11 0)), .int (nI T.nT), .int (nI T.pa), .ref ((rd 12 0)), .int (nI T.bo), .ref ((rd 13 0)), .ref ((rd 14 0)), .ref ((rd 15 0)), .ref ((rd 16 0)), .ref ((rd 17 0)), .ref ((rd 18 0)), .ref ((rd 19 0)), .int (nI T.nR), .int (nI 0)] from mm_r0 (T := (((T.w 4 (mm_u2 (T 4) T.nP 0 a)).w 5 (mm_u2 ((T.w 4 (mm_u2 (T 4) T.nP 0 a)) 5) T.nP 0 f)).w 6 (mm_u2 (((T.w 4 (mm_u2 (T 4) T.nP 0 a)).w 5 (mm_u2 ((T.w 4 (mm_u2 (T 4) T.nP 0 a)) 5) T.nP 0 f)) 6) T.nP 0 45))) hM5)) (ci := 7) rfl 7 (by decide) mw_1186 rfl dX7_addPerson_86 ?_
        refine lv_iconst (pc := 89) (v := nI 1) F.1 F.2.1 dX7_addPerson_89 (by decide) ?_
        refine mm_iadd (pc := 90) F (z := nI (T.nP + 1)) (nI_add _ _) dX7_addPerson_90 ?_
        refine mm_put (pc := 91) F hN ((show σ5 (rd 0 0) = mm_obj 1 7 [.ref ((rd 1 0)), .ref ((rd 2 0)), .ref ((rd 3 0)), .int (nI T.nA), .ref ((rd 4 0)), .ref ((rd 5 0)), .ref ((rd 6 0)), .int (nI T.nP), .ref ((rd 7 0)), .ref ((rd 8 0)), .ref ((rd 9 0)), .ref ((rd 10 0)), .ref ((rd 11 0)), .int (nI T.nT), .int (nI T.pa), .ref ((rd 12 0)), .int (nI T.bo), .ref ((rd 13 0)), .ref ((rd 14 0)), .ref ((rd 15 0)), .ref ((rd 16 0)), .ref ((rd 17 0)), .ref ((rd 18 0)), .ref ((rd 19 0)), .int (nI T.nR), .int (nI 0)] from mm_r0 (T := (((T.w 4 (mm_u2 (T 4) T.nP 0 a)).w 5 (mm_u2 ((T.w 4 (mm_u2 (T 4) T.nP 0 a)) 5) T.nP 0 f)).w 6 (mm_u2 (((T.w 4 (mm_u2 (T 4) T.nP 0 a)).w 5 (mm_u2 ((T.w 4 (mm_u2 (T 4) T.nP 0 a)) 5) T.nP 0 f)) 6) T.nP 0 45))) hM5)) (ci := 7) rfl 7 (by decide) mw_1186 rfl (ty := .int) (by decide +kernel) (rfl) (rfl) (Nat.le_of_ble_eq_true rfl) dX7_addPerson_91 (fun H locs hN => ?_)
        have hN : mm_N b D s (mm_u σ5 ((rd 0 0)) (mm_obj 1 7 [.ref ((rd 1 0)), .ref ((rd 2 0)), .ref ((rd 3 0)), .int (nI T.nA), .ref ((rd 4 0)), .ref ((rd 5 0)), .ref ((rd 6 0)), .int (nI (T.nP + 1)), .ref ((rd 7 0)), .ref ((rd 8 0)), .ref ((rd 9 0)), .ref ((rd 10 0)), .ref ((rd 11 0)), .int (nI T.nT), .int (nI T.pa), .ref ((rd 12 0)), .int (nI T.bo), .ref ((rd 13 0)), .ref ((rd 14 0)), .ref ((rd 15 0)), .ref ((rd 16 0)), .ref ((rd 17 0)), .ref ((rd 18 0)), .ref ((rd 19 0)), .int (nI T.nR), .int (nI 0)])) _ _ := hN
        obtain ⟨σ6, eσ6⟩ : ∃ q, q = mm_u σ5 ((rd 0 0)) (mm_obj 1 7 [.ref ((rd 1 0)), .ref ((rd 2 0)), .ref ((rd 3 0)), .int (nI T.nA), .ref ((rd 4 0)), .ref ((rd 5 0)), .ref ((rd 6 0)), .int (nI (T.nP + 1)), .ref ((rd 7 0)), .ref ((rd 8 0)), .ref ((rd 9 0)), .ref ((rd 10 0)), .ref ((rd 11 0)), .int (nI T.nT), .int (nI T.pa), .ref ((rd 12 0)), .int (nI T.bo), .ref ((rd 13 0)), .ref ((rd 14 0)), .ref ((rd 15 0)), .ref ((rd 16 0)), .ref ((rd 17 0)), .ref ((rd 18 0)), .ref ((rd 19 0)), .int (nI T.nR), .int (nI 0)]) := ⟨_, rfl⟩
        rw [← eσ6] at hN
        have hM6 : mm_M σ6 ((((T.w 4 (mm_u2 (T 4) T.nP 0 a)).w 5 (mm_u2 ((T.w 4 (mm_u2 (T 4) T.nP 0 a)) 5) T.nP 0 f)).w 6 (mm_u2 (((T.w 4 (mm_u2 (T 4) T.nP 0 a)).w 5 (mm_u2 ((T.w 4 (mm_u2 (T 4) T.nP 0 a)) 5) T.nP 0 f)) 6) T.nP 0 45)).w 0 (mm_u2 ((((T.w 4 (mm_u2 (T 4) T.nP 0 a)).w 5 (mm_u2 ((T.w 4 (mm_u2 (T 4) T.nP 0 a)) 5) T.nP 0 f)).w 6 (mm_u2 (((T.w 4 (mm_u2 (T 4) T.nP 0 a)).w 5 (mm_u2 ((T.w 4 (mm_u2 (T 4) T.nP 0 a)) 5) T.nP 0 f)) 6) T.nP 0 45)) 0) 1 0 (T.nP + 1))) 0 rd := by rw [eσ6]; exact mm_Mo hM5 (fun k hk => mm_T.wo hk) rfl
        have hF6 : mm_Fr 1 σ σ6 := by rw [eσ6]; exact (hF5).tr (mm_Fr.u (mm_r0 hM5))
        refine lv_aload_n (pc := 94) F.1 F.2.1 dX7_addPerson_94 rfl (lv_at hl 0 rfl) ?_
        refine mm_get (pc := 95) F hN ((show σ6 (rd 0 0) = mm_obj 1 7 [.ref ((rd 1 0)), .ref ((rd 2 0)), .ref ((rd 3 0)), .int (nI T.nA), .ref ((rd 4 0)), .ref ((rd 5 0)), .ref ((rd 6 0)), .int (nI (T.nP + 1)), .ref ((rd 7 0)), .ref ((rd 8 0)), .ref ((rd 9 0)), .ref ((rd 10 0)), .ref ((rd 11 0)), .int (nI T.nT), .int (nI T.pa), .ref ((rd 12 0)), .int (nI T.bo), .ref ((rd 13 0)), .ref ((rd 14 0)), .ref ((rd 15 0)), .ref ((rd 16 0)), .ref ((rd 17 0)), .ref ((rd 18 0)), .ref ((rd 19 0)), .int (nI T.nR), .int (nI 0)] from mm_r0 (T := ((((T.w 4 (mm_u2 (T 4) T.nP 0 a)).w 5 (mm_u2 ((T.w 4 (mm_u2 (T 4) T.nP 0 a)) 5) T.nP 0 f)).w 6 (mm_u2 (((T.w 4 (mm_u2 (T 4) T.nP 0 a)).w 5 (mm_u2 ((T.w 4 (mm_u2 (T 4) T.nP 0 a)) 5) T.nP 0 f)) 6) T.nP 0 45)).w 0 (mm_u2 ((((T.w 4 (mm_u2 (T 4) T.nP 0 a)).w 5 (mm_u2 ((T.w 4 (mm_u2 (T 4) T.nP 0 a)) 5) T.nP 0 f)).w 6 (mm_u2 (((T.w 4 (mm_u2 (T 4) T.nP 0 a)).w 5 (mm_u2 ((T.w 4 (mm_u2 (T 4) T.nP 0 a)) 5) T.nP 0 f)) 6) T.nP 0 45)) 0) 1 0 (T.nP + 1)))) hM6)) (ci := 7) rfl 7 (by decide) mw_1186 rfl dX7_addPerson_95 ?_
        refine lv_iconst (pc := 98) (v := nI 1) F.1 F.2.1 dX7_addPerson_98 (by decide) ?_
        refine mm_isub (pc := 99) F (z := nI ((T.nP + 1) - 1)) (pk_sub (by omega)) dX7_addPerson_99 ?_
        exact mm_iret (pc := 100) F hr hN (Or.inl ⟨by show mm_q_addPerson T a f = 0; unfold mm_q_addPerson; (repeat' split) <;> omega, by rw [Nat.add_sub_cancel], mm_M_cg hM6 (fun k hk => by
          by_cases e0 : k = 0
          · subst e0; rfl
          by_cases e4 : k = 4
          · subst e4; rfl
          by_cases e5 : k = 5
          · subst e5; rfl
          by_cases e6 : k = 6
          · subst e6; rfl
          simp only [mm_t_addPerson, mm_T.w, if_neg e0, if_neg e4, if_neg e5, if_neg e6]) rfl, hF6⟩) (Nat.le_of_ble_eq_true rfl) (Nat.le_of_ble_eq_true rfl) dX7_addPerson_100
      ·
        refine lv_iconst (pc := 36) (v := nI 3) F.1 F.2.1 dX7_addPerson_36 (by decide) ?_
        refine lv_goto (pc := 37) (tgt := 41) F.1 F.2.1 dX7_addPerson_37 (by decide) ?_
        refine mm_put (pc := 41) F hN (mm_r0 hM) (ci := 7) rfl 25 (by decide) mw_1204 rfl (ty := .int) (by decide +kernel) (rfl) (rfl) (Nat.le_of_ble_eq_true rfl) dX7_addPerson_41 (fun H locs hN => ?_)
        have hN : mm_N b D s (mm_u σ ((rd 0 0)) (mm_obj 1 7 [.ref ((rd 1 0)), .ref ((rd 2 0)), .ref ((rd 3 0)), .int (nI T.nA), .ref ((rd 4 0)), .ref ((rd 5 0)), .ref ((rd 6 0)), .int (nI T.nP), .ref ((rd 7 0)), .ref ((rd 8 0)), .ref ((rd 9 0)), .ref ((rd 10 0)), .ref ((rd 11 0)), .int (nI T.nT), .int (nI T.pa), .ref ((rd 12 0)), .int (nI T.bo), .ref ((rd 13 0)), .ref ((rd 14 0)), .ref ((rd 15 0)), .ref ((rd 16 0)), .ref ((rd 17 0)), .ref ((rd 18 0)), .ref ((rd 19 0)), .int (nI T.nR), .int (nI 3)])) _ _ := hN
        obtain ⟨σ7, eσ7⟩ : ∃ q, q = mm_u σ ((rd 0 0)) (mm_obj 1 7 [.ref ((rd 1 0)), .ref ((rd 2 0)), .ref ((rd 3 0)), .int (nI T.nA), .ref ((rd 4 0)), .ref ((rd 5 0)), .ref ((rd 6 0)), .int (nI T.nP), .ref ((rd 7 0)), .ref ((rd 8 0)), .ref ((rd 9 0)), .ref ((rd 10 0)), .ref ((rd 11 0)), .int (nI T.nT), .int (nI T.pa), .ref ((rd 12 0)), .int (nI T.bo), .ref ((rd 13 0)), .ref ((rd 14 0)), .ref ((rd 15 0)), .ref ((rd 16 0)), .ref ((rd 17 0)), .ref ((rd 18 0)), .ref ((rd 19 0)), .int (nI T.nR), .int (nI 3)]) := ⟨_, rfl⟩
        rw [← eσ7] at hN
        have hM7 : mm_M σ7 T 3 rd := by rw [eσ7]; exact mm_Mo hM (fun _ _ => rfl) rfl
        have hF7 : mm_Fr 1 σ σ7 := by rw [eσ7]; exact (mm_Fr.rf).tr (mm_Fr.u (mm_r0 hM))
        refine lv_aload_n (pc := 44) F.1 F.2.1 dX7_addPerson_44 rfl (lv_at hl 0 rfl) ?_
        refine mm_get (pc := 45) F hN ((show σ7 (rd 0 0) = mm_obj 1 7 [.ref ((rd 1 0)), .ref ((rd 2 0)), .ref ((rd 3 0)), .int (nI T.nA), .ref ((rd 4 0)), .ref ((rd 5 0)), .ref ((rd 6 0)), .int (nI T.nP), .ref ((rd 7 0)), .ref ((rd 8 0)), .ref ((rd 9 0)), .ref ((rd 10 0)), .ref ((rd 11 0)), .int (nI T.nT), .int (nI T.pa), .ref ((rd 12 0)), .int (nI T.bo), .ref ((rd 13 0)), .ref ((rd 14 0)), .ref ((rd 15 0)), .ref ((rd 16 0)), .ref ((rd 17 0)), .ref ((rd 18 0)), .ref ((rd 19 0)), .int (nI T.nR), .int (nI 3)] from mm_r0 (T := T) hM7)) (ci := 7) rfl 25 (by decide) mw_1204 rfl dX7_addPerson_45 ?_
        refine mm_if_le (pc := 48) F (tgt := 53) (by omega) dX7_addPerson_48 (by decide) (fun h9 => absurd h9 (by decide)) (fun cz48 => ?_)
        refine lv_iconst (pc := 51) (v := nI 0) F.1 F.2.1 dX7_addPerson_51 (by decide) ?_
        exact mm_iret (pc := 52) F hr hN (Or.inr ⟨by rw [show mm_q_addPerson T a f = 3 from by show mm_q_addPerson T a f = 3; unfold mm_q_addPerson; (repeat' split) <;> omega]; decide, ⟨_, rfl⟩, by rw [show mm_q_addPerson T a f = 3 from by show mm_q_addPerson T a f = 3; unfold mm_q_addPerson; (repeat' split) <;> omega]; exact hM7, hF7⟩) (Nat.le_of_ble_eq_true rfl) (Nat.le_of_ble_eq_true rfl) dX7_addPerson_52
    ·
      refine W.eq (g2 := F0 m 20 ls [.int (nI 0), .ref ((rd 0 0))]) (by rw [if_neg (fun q => hi17 ((mm_inC (a := f) (lo := 0) (hi := 7) (by omega) (by decide) (by decide)).mp q))]) ?_
      refine mm_if_ne (pc := 20) F (tgt := 27) (by omega) dX7_addPerson_20 (by decide) (fun h9 => absurd h9 (by decide)) (fun cz20 => ?_)
      refine lv_iconst (pc := 23) (v := nI 2) F.1 F.2.1 dX7_addPerson_23 (by decide) ?_
      refine lv_goto (pc := 24) (tgt := 41) F.1 F.2.1 dX7_addPerson_24 (by decide) ?_
      refine mm_put (pc := 41) F hN (mm_r0 hM) (ci := 7) rfl 25 (by decide) mw_1204 rfl (ty := .int) (by decide +kernel) (rfl) (rfl) (Nat.le_of_ble_eq_true rfl) dX7_addPerson_41 (fun H locs hN => ?_)
      have hN : mm_N b D s (mm_u σ ((rd 0 0)) (mm_obj 1 7 [.ref ((rd 1 0)), .ref ((rd 2 0)), .ref ((rd 3 0)), .int (nI T.nA), .ref ((rd 4 0)), .ref ((rd 5 0)), .ref ((rd 6 0)), .int (nI T.nP), .ref ((rd 7 0)), .ref ((rd 8 0)), .ref ((rd 9 0)), .ref ((rd 10 0)), .ref ((rd 11 0)), .int (nI T.nT), .int (nI T.pa), .ref ((rd 12 0)), .int (nI T.bo), .ref ((rd 13 0)), .ref ((rd 14 0)), .ref ((rd 15 0)), .ref ((rd 16 0)), .ref ((rd 17 0)), .ref ((rd 18 0)), .ref ((rd 19 0)), .int (nI T.nR), .int (nI 2)])) _ _ := hN
      obtain ⟨σ8, eσ8⟩ : ∃ q, q = mm_u σ ((rd 0 0)) (mm_obj 1 7 [.ref ((rd 1 0)), .ref ((rd 2 0)), .ref ((rd 3 0)), .int (nI T.nA), .ref ((rd 4 0)), .ref ((rd 5 0)), .ref ((rd 6 0)), .int (nI T.nP), .ref ((rd 7 0)), .ref ((rd 8 0)), .ref ((rd 9 0)), .ref ((rd 10 0)), .ref ((rd 11 0)), .int (nI T.nT), .int (nI T.pa), .ref ((rd 12 0)), .int (nI T.bo), .ref ((rd 13 0)), .ref ((rd 14 0)), .ref ((rd 15 0)), .ref ((rd 16 0)), .ref ((rd 17 0)), .ref ((rd 18 0)), .ref ((rd 19 0)), .int (nI T.nR), .int (nI 2)]) := ⟨_, rfl⟩
      rw [← eσ8] at hN
      have hM8 : mm_M σ8 T 2 rd := by rw [eσ8]; exact mm_Mo hM (fun _ _ => rfl) rfl
      have hF8 : mm_Fr 1 σ σ8 := by rw [eσ8]; exact (mm_Fr.rf).tr (mm_Fr.u (mm_r0 hM))
      refine lv_aload_n (pc := 44) F.1 F.2.1 dX7_addPerson_44 rfl (lv_at hl 0 rfl) ?_
      refine mm_get (pc := 45) F hN ((show σ8 (rd 0 0) = mm_obj 1 7 [.ref ((rd 1 0)), .ref ((rd 2 0)), .ref ((rd 3 0)), .int (nI T.nA), .ref ((rd 4 0)), .ref ((rd 5 0)), .ref ((rd 6 0)), .int (nI T.nP), .ref ((rd 7 0)), .ref ((rd 8 0)), .ref ((rd 9 0)), .ref ((rd 10 0)), .ref ((rd 11 0)), .int (nI T.nT), .int (nI T.pa), .ref ((rd 12 0)), .int (nI T.bo), .ref ((rd 13 0)), .ref ((rd 14 0)), .ref ((rd 15 0)), .ref ((rd 16 0)), .ref ((rd 17 0)), .ref ((rd 18 0)), .ref ((rd 19 0)), .int (nI T.nR), .int (nI 2)] from mm_r0 (T := T) hM8)) (ci := 7) rfl 25 (by decide) mw_1204 rfl dX7_addPerson_45 ?_
      refine mm_if_le (pc := 48) F (tgt := 53) (by omega) dX7_addPerson_48 (by decide) (fun h9 => absurd h9 (by decide)) (fun cz48 => ?_)
      refine lv_iconst (pc := 51) (v := nI 0) F.1 F.2.1 dX7_addPerson_51 (by decide) ?_
      exact mm_iret (pc := 52) F hr hN (Or.inr ⟨by rw [show mm_q_addPerson T a f = 2 from by show mm_q_addPerson T a f = 2; unfold mm_q_addPerson; (repeat' split) <;> omega]; decide, ⟨_, rfl⟩, by rw [show mm_q_addPerson T a f = 2 from by show mm_q_addPerson T a f = 2; unfold mm_q_addPerson; (repeat' split) <;> omega]; exact hM8, hF8⟩) (Nat.le_of_ble_eq_true rfl) (Nat.le_of_ble_eq_true rfl) dX7_addPerson_52
  ·
    refine W.eq (g2 := F0 m 6 ls [.int (nI 0), .ref ((rd 0 0))]) (by rw [if_neg haa]) ?_
    refine mm_if_ne (pc := 6) F (tgt := 13) (by omega) dX7_addPerson_6 (by decide) (fun h9 => absurd h9 (by decide)) (fun cz6 => ?_)
    refine lv_iconst (pc := 9) (v := nI 1) F.1 F.2.1 dX7_addPerson_9 (by decide) ?_
    refine lv_goto (pc := 10) (tgt := 41) F.1 F.2.1 dX7_addPerson_10 (by decide) ?_
    refine mm_put (pc := 41) F hN (mm_r0 hM) (ci := 7) rfl 25 (by decide) mw_1204 rfl (ty := .int) (by decide +kernel) (rfl) (rfl) (Nat.le_of_ble_eq_true rfl) dX7_addPerson_41 (fun H locs hN => ?_)
    have hN : mm_N b D s (mm_u σ ((rd 0 0)) (mm_obj 1 7 [.ref ((rd 1 0)), .ref ((rd 2 0)), .ref ((rd 3 0)), .int (nI T.nA), .ref ((rd 4 0)), .ref ((rd 5 0)), .ref ((rd 6 0)), .int (nI T.nP), .ref ((rd 7 0)), .ref ((rd 8 0)), .ref ((rd 9 0)), .ref ((rd 10 0)), .ref ((rd 11 0)), .int (nI T.nT), .int (nI T.pa), .ref ((rd 12 0)), .int (nI T.bo), .ref ((rd 13 0)), .ref ((rd 14 0)), .ref ((rd 15 0)), .ref ((rd 16 0)), .ref ((rd 17 0)), .ref ((rd 18 0)), .ref ((rd 19 0)), .int (nI T.nR), .int (nI 1)])) _ _ := hN
    obtain ⟨σ9, eσ9⟩ : ∃ q, q = mm_u σ ((rd 0 0)) (mm_obj 1 7 [.ref ((rd 1 0)), .ref ((rd 2 0)), .ref ((rd 3 0)), .int (nI T.nA), .ref ((rd 4 0)), .ref ((rd 5 0)), .ref ((rd 6 0)), .int (nI T.nP), .ref ((rd 7 0)), .ref ((rd 8 0)), .ref ((rd 9 0)), .ref ((rd 10 0)), .ref ((rd 11 0)), .int (nI T.nT), .int (nI T.pa), .ref ((rd 12 0)), .int (nI T.bo), .ref ((rd 13 0)), .ref ((rd 14 0)), .ref ((rd 15 0)), .ref ((rd 16 0)), .ref ((rd 17 0)), .ref ((rd 18 0)), .ref ((rd 19 0)), .int (nI T.nR), .int (nI 1)]) := ⟨_, rfl⟩
    rw [← eσ9] at hN
    have hM9 : mm_M σ9 T 1 rd := by rw [eσ9]; exact mm_Mo hM (fun _ _ => rfl) rfl
    have hF9 : mm_Fr 1 σ σ9 := by rw [eσ9]; exact (mm_Fr.rf).tr (mm_Fr.u (mm_r0 hM))
    refine lv_aload_n (pc := 44) F.1 F.2.1 dX7_addPerson_44 rfl (lv_at hl 0 rfl) ?_
    refine mm_get (pc := 45) F hN ((show σ9 (rd 0 0) = mm_obj 1 7 [.ref ((rd 1 0)), .ref ((rd 2 0)), .ref ((rd 3 0)), .int (nI T.nA), .ref ((rd 4 0)), .ref ((rd 5 0)), .ref ((rd 6 0)), .int (nI T.nP), .ref ((rd 7 0)), .ref ((rd 8 0)), .ref ((rd 9 0)), .ref ((rd 10 0)), .ref ((rd 11 0)), .int (nI T.nT), .int (nI T.pa), .ref ((rd 12 0)), .int (nI T.bo), .ref ((rd 13 0)), .ref ((rd 14 0)), .ref ((rd 15 0)), .ref ((rd 16 0)), .ref ((rd 17 0)), .ref ((rd 18 0)), .ref ((rd 19 0)), .int (nI T.nR), .int (nI 1)] from mm_r0 (T := T) hM9)) (ci := 7) rfl 25 (by decide) mw_1204 rfl dX7_addPerson_45 ?_
    refine mm_if_le (pc := 48) F (tgt := 53) (by omega) dX7_addPerson_48 (by decide) (fun h9 => absurd h9 (by decide)) (fun cz48 => ?_)
    refine lv_iconst (pc := 51) (v := nI 0) F.1 F.2.1 dX7_addPerson_51 (by decide) ?_
    exact mm_iret (pc := 52) F hr hN (Or.inr ⟨by rw [show mm_q_addPerson T a f = 1 from by show mm_q_addPerson T a f = 1; unfold mm_q_addPerson; (repeat' split) <;> omega]; decide, ⟨_, rfl⟩, by rw [show mm_q_addPerson T a f = 1 from by show mm_q_addPerson T a f = 1; unfold mm_q_addPerson; (repeat' split) <;> omega]; exact hM9, hF9⟩) (Nat.le_of_ble_eq_true rfl) (Nat.le_of_ble_eq_true rfl) dX7_addPerson_52

set_option maxHeartbeats 4000000 in
set_option maxRecDepth 100000 in
theorem r_setFlags (l : Launch) (b : Nat) (D : mm_D) (hst : l.stackTraces = false) (T : mm_T) (th : Nat) (rd : Nat → Nat → Nat) (σ : mm_S) (hM : mm_M σ T th rd) (hW : mm_WF T) (i : Nat) (zi : i < 2 ^ 32) (f : Nat) (zf : f < 2 ^ 32) : mm_K l b D yX7_setFlags (.code yX7_setFlags cX7_setFlags 4 (some .int)) ({ frames := 6, cells := 0, slots := 0, locals := 160 } : Room) [.ref ((rd 0 0)), .int (nI i), .int (nI f)] σ
    (fun v σ2 => mm_Mt rd σ σ2 T (T.w 5 (mm_u2 (T 5) i 0 f)) (mm_q_setFlags T i f) v (some (.int (nI (T.fl i)))))
    (fun _ _ => False) := by
  refine mm_of (cc := cX7_setFlags) (nL := 4) (ret := (some .int)) (by decide) rfl (Nat.le_of_ble_eq_true rfl) hst ?_
  intro p e s m args below meth c ls F ht hr hin hN hl
  have hl : lv_has ls 4 [(0, .ref ((rd 0 0))), (1, .int (nI i)), (2, .int (nI f))] := hl
  have wnA := hW.hnA
  have wnP := hW.hnP
  have wnT := hW.hnT
  have wnR := hW.hnR
  have wpa := hW.hpa
  have wbo := hW.hbo
  have wen0 := hW.hen 0
  have wen1 := hW.hen 1
  refine lv_aload_n (pc := 0) F.1 F.2.1 dX7_setFlags_0 rfl (lv_at hl 0 rfl) ?_
  refine lv_aload_n (pc := 1) F.1 F.2.1 dX7_setFlags_1 rfl (lv_at hl 0 rfl) ?_
  refine lv_iload_n (pc := 2) F.1 F.2.1 dX7_setFlags_2 rfl (lv_at hl 1 rfl) ?_
  refine mm_runV (pc := 3) (As := [.int (nI i)]) (rest := [.ref ((rd 0 0))]) F hN (c_isPerson l b D hst T th rd σ hM hW i (by omega)) mw_1287 mw_1289 mw_p25 mw_6 mw_1290 ⟨pmX7_isPerson, (Nat.le_of_ble_eq_true rfl), (Nat.le_of_ble_eq_true rfl)⟩ (mm_recv F.2.2.2.2.2.1 hN (mm_r0 hM) rfl) hl.1 rfl (Nat.le_of_ble_eq_true rfl) ⟨(Nat.le_of_ble_eq_true rfl), (Nat.le_of_ble_eq_true rfl)⟩ dX7_setFlags_3
    (fun _ _ _ _ _ _ h9 => False.elim h9)
    (fun v9 σ9 H locs hp9 hN => ?_)
  obtain ⟨rfl, h9⟩ := hp9
  rw [h9] at hN
  refine W.eq (g2 := F0 m 6 ls [.int (nI (if i < T.nP then 1 else 0)), .ref ((rd 0 0))]) rfl ?_
  refine W.widen (k := 0) (n := 0) (Nat.le_of_ble_eq_true rfl) (Nat.le_of_ble_eq_true rfl) ?_
  by_cases hpi : i < T.nP
  ·
    refine W.eq (g2 := F0 m 6 ls [.int (nI 1), .ref ((rd 0 0))]) (by rw [if_pos hpi]) ?_
    obtain ⟨whoi, wfli, wrei⟩ := hW.hpe i hpi
    refine mm_if_ne (pc := 6) F (tgt := 13) (by omega) dX7_setFlags_6 (by decide) (fun cz6 => ?_) (fun h9 => absurd h9 (by decide))
    refine lv_iload_n (pc := 13) F.1 F.2.1 dX7_setFlags_13 rfl (lv_at hl 2 rfl) ?_
    refine lv_iconst (pc := 14) (v := nI 0) F.1 F.2.1 dX7_setFlags_14 (by decide) ?_
    refine lv_bipush (pc := 15) (v := nI 7) F.1 F.2.1 dX7_setFlags_15 (by decide) ?_
    refine mm_runS (pc := 17) (As := [.int (nI f), .int (nI 0), .int (nI 7)]) (rest := [.ref ((rd 0 0))]) F hN (c_in l b D hst (nI f) (nI 0) (nI 7) σ) mw_1268 mw_1269 mw_6 mw_1270 ⟨pmX7_in, (Nat.le_of_ble_eq_true rfl), (Nat.le_of_ble_eq_true rfl)⟩ hl.1 rfl (Nat.le_of_ble_eq_true rfl) ⟨(Nat.le_of_ble_eq_true rfl), (Nat.le_of_ble_eq_true rfl)⟩ dX7_setFlags_17
      (fun _ _ _ _ _ _ h9 => False.elim h9)
      (fun v9 σ9 H locs hp9 hN => ?_)
    obtain ⟨rfl, h9⟩ := hp9
    rw [h9] at hN
    refine W.eq (g2 := F0 m 20 ls [.int (nI (if nI 0 ≤ nI f ∧ nI f ≤ nI 7 then 1 else 0)), .ref ((rd 0 0))]) rfl ?_
    refine W.widen (k := 0) (n := 0) (Nat.le_of_ble_eq_true rfl) (Nat.le_of_ble_eq_true rfl) ?_
    by_cases hi17 : 0 ≤ f ∧ f ≤ 7
    ·
      refine W.eq (g2 := F0 m 20 ls [.int (nI 1), .ref ((rd 0 0))]) (by rw [if_pos ((mm_inC (a := f) (lo := 0) (hi := 7) (by omega) (by decide) (by decide)).mpr hi17)]) ?_
      refine mm_if_ne (pc := 20) F (tgt := 27) (by omega) dX7_setFlags_20 (by decide) (fun cz20 => ?_) (fun h9 => absurd h9 (by decide))
      refine lv_iconst (pc := 27) (v := nI 0) F.1 F.2.1 dX7_setFlags_27 (by decide) ?_
      refine mm_put (pc := 28) F hN (mm_r0 hM) (ci := 7) rfl 25 (by decide) mw_1204 rfl (ty := .int) (by decide +kernel) (rfl) (rfl) (Nat.le_of_ble_eq_true rfl) dX7_setFlags_28 (fun H locs hN => ?_)
      have hN : mm_N b D s (mm_u σ ((rd 0 0)) (mm_obj 1 7 [.ref ((rd 1 0)), .ref ((rd 2 0)), .ref ((rd 3 0)), .int (nI T.nA), .ref ((rd 4 0)), .ref ((rd 5 0)), .ref ((rd 6 0)), .int (nI T.nP), .ref ((rd 7 0)), .ref ((rd 8 0)), .ref ((rd 9 0)), .ref ((rd 10 0)), .ref ((rd 11 0)), .int (nI T.nT), .int (nI T.pa), .ref ((rd 12 0)), .int (nI T.bo), .ref ((rd 13 0)), .ref ((rd 14 0)), .ref ((rd 15 0)), .ref ((rd 16 0)), .ref ((rd 17 0)), .ref ((rd 18 0)), .ref ((rd 19 0)), .int (nI T.nR), .int (nI 0)])) _ _ := hN
      obtain ⟨σ2, eσ2⟩ : ∃ q, q = mm_u σ ((rd 0 0)) (mm_obj 1 7 [.ref ((rd 1 0)), .ref ((rd 2 0)), .ref ((rd 3 0)), .int (nI T.nA), .ref ((rd 4 0)), .ref ((rd 5 0)), .ref ((rd 6 0)), .int (nI T.nP), .ref ((rd 7 0)), .ref ((rd 8 0)), .ref ((rd 9 0)), .ref ((rd 10 0)), .ref ((rd 11 0)), .int (nI T.nT), .int (nI T.pa), .ref ((rd 12 0)), .int (nI T.bo), .ref ((rd 13 0)), .ref ((rd 14 0)), .ref ((rd 15 0)), .ref ((rd 16 0)), .ref ((rd 17 0)), .ref ((rd 18 0)), .ref ((rd 19 0)), .int (nI T.nR), .int (nI 0)]) := ⟨_, rfl⟩
      rw [← eσ2] at hN
      have hM2 : mm_M σ2 T 0 rd := by rw [eσ2]; exact mm_Mo hM (fun _ _ => rfl) rfl
      have hF2 : mm_Fr 1 σ σ2 := by rw [eσ2]; exact (mm_Fr.rf).tr (mm_Fr.u (mm_r0 hM))
      refine lv_aload_n (pc := 31) F.1 F.2.1 dX7_setFlags_31 rfl (lv_at hl 0 rfl) ?_
      refine mm_get (pc := 32) F hN ((show σ2 (rd 0 0) = mm_obj 1 7 [.ref ((rd 1 0)), .ref ((rd 2 0)), .ref ((rd 3 0)), .int (nI T.nA), .ref ((rd 4 0)), .ref ((rd 5 0)), .ref ((rd 6 0)), .int (nI T.nP), .ref ((rd 7 0)), .ref ((rd 8 0)), .ref ((rd 9 0)), .ref ((rd 10 0)), .ref ((rd 11 0)), .int (nI T.nT), .int (nI T.pa), .ref ((rd 12 0)), .int (nI T.bo), .ref ((rd 13 0)), .ref ((rd 14 0)), .ref ((rd 15 0)), .ref ((rd 16 0)), .ref ((rd 17 0)), .ref ((rd 18 0)), .ref ((rd 19 0)), .int (nI T.nR), .int (nI 0)] from mm_r0 (T := T) hM2)) (ci := 7) rfl 25 (by decide) mw_1204 rfl dX7_setFlags_32 ?_
      refine mm_if_le (pc := 35) F (tgt := 40) (by omega) dX7_setFlags_35 (by decide) (fun cz35 => ?_) (fun h9 => absurd h9 (by decide))
      refine lv_aload_n (pc := 40) F.1 F.2.1 dX7_setFlags_40 rfl (lv_at hl 0 rfl) ?_
      refine mm_get (pc := 41) F hN ((show σ2 (rd 0 0) = mm_obj 1 7 [.ref ((rd 1 0)), .ref ((rd 2 0)), .ref ((rd 3 0)), .int (nI T.nA), .ref ((rd 4 0)), .ref ((rd 5 0)), .ref ((rd 6 0)), .int (nI T.nP), .ref ((rd 7 0)), .ref ((rd 8 0)), .ref ((rd 9 0)), .ref ((rd 10 0)), .ref ((rd 11 0)), .int (nI T.nT), .int (nI T.pa), .ref ((rd 12 0)), .int (nI T.bo), .ref ((rd 13 0)), .ref ((rd 14 0)), .ref ((rd 15 0)), .ref ((rd 16 0)), .ref ((rd 17 0)), .ref ((rd 18 0)), .ref ((rd 19 0)), .int (nI T.nR), .int (nI 0)] from mm_r0 (T := T) hM2)) (ci := 7) rfl 5 (by decide) mw_1184 rfl dX7_setFlags_41 ?_
      refine lv_iload_n (pc := 44) F.1 F.2.1 dX7_setFlags_44 rfl (lv_at hl 1 rfl) ?_
      refine mm_iald (pc := 45) F hN ((show σ2 (rd 5 0) = mm_ari 1 0 24 (fun i => nI (T.fl i)) from mm_r5 (T := T) hM2)) (j := i) (rfl) (by omega) (by decide) dX7_setFlags_45 ?_
      refine lv_istore_n (pc := 46) (lv' := [(3, .int (nI (T.fl i))), (0, .ref ((rd 0 0))), (1, .int (nI i)), (2, .int (nI f))]) F.1 F.2.1 dX7_setFlags_46 rfl hl (by decide) rfl (fun ls hl => ?_)
      refine lv_aload_n (pc := 47) F.1 F.2.1 dX7_setFlags_47 rfl (lv_at hl 1 rfl) ?_
      refine mm_get (pc := 48) F hN ((show σ2 (rd 0 0) = mm_obj 1 7 [.ref ((rd 1 0)), .ref ((rd 2 0)), .ref ((rd 3 0)), .int (nI T.nA), .ref ((rd 4 0)), .ref ((rd 5 0)), .ref ((rd 6 0)), .int (nI T.nP), .ref ((rd 7 0)), .ref ((rd 8 0)), .ref ((rd 9 0)), .ref ((rd 10 0)), .ref ((rd 11 0)), .int (nI T.nT), .int (nI T.pa), .ref ((rd 12 0)), .int (nI T.bo), .ref ((rd 13 0)), .ref ((rd 14 0)), .ref ((rd 15 0)), .ref ((rd 16 0)), .ref ((rd 17 0)), .ref ((rd 18 0)), .ref ((rd 19 0)), .int (nI T.nR), .int (nI 0)] from mm_r0 (T := T) hM2)) (ci := 7) rfl 5 (by decide) mw_1184 rfl dX7_setFlags_48 ?_
      refine lv_iload_n (pc := 51) F.1 F.2.1 dX7_setFlags_51 rfl (lv_at hl 2 rfl) ?_
      refine lv_iload_n (pc := 52) F.1 F.2.1 dX7_setFlags_52 rfl (lv_at hl 3 rfl) ?_
      refine mm_iast (pc := 53) F hN ((show σ2 (rd 5 0) = mm_ari 1 0 24 (fun i => nI (T.fl i)) from mm_r5 (T := T) hM2)) (j := i) (rfl) (by omega) (by decide) dX7_setFlags_53 (fun H locs hN => ?_)
      have hN : mm_N b D s (mm_u σ2 (rd 5 0) (mm_ari 1 0 24 (va_up (fun i => nI (T.fl i)) i (nI f)))) _ _ := hN
      obtain ⟨σ3, eσ3⟩ : ∃ q, q = mm_u σ2 (rd 5 0) (mm_ari 1 0 24 (va_up (fun i => nI (T.fl i)) i (nI f))) := ⟨_, rfl⟩
      rw [← eσ3] at hN
      have hM3 : mm_M σ3 (T.w 5 (mm_u2 (T 5) i 0 f)) 0 rd := by rw [eσ3]; exact mm_Mw1 hM2 (k := 5) rfl mm_va1
      have hF3 : mm_Fr 1 σ σ3 := by rw [eσ3]; exact (hF2).tr (mm_Fr.u (mm_r5 hM2))
      refine lv_iload_n (pc := 54) F.1 F.2.1 dX7_setFlags_54 rfl (lv_at hl 0 rfl) ?_
      exact mm_iret (pc := 55) F hr hN (Or.inl ⟨by show mm_q_setFlags T i f = 0; unfold mm_q_setFlags; (repeat' split) <;> omega, rfl, hM3, hF3⟩) (Nat.le_of_ble_eq_true rfl) (Nat.le_of_ble_eq_true rfl) dX7_setFlags_55
    ·
      refine W.eq (g2 := F0 m 20 ls [.int (nI 0), .ref ((rd 0 0))]) (by rw [if_neg (fun q => hi17 ((mm_inC (a := f) (lo := 0) (hi := 7) (by omega) (by decide) (by decide)).mp q))]) ?_
      refine mm_if_ne (pc := 20) F (tgt := 27) (by omega) dX7_setFlags_20 (by decide) (fun h9 => absurd h9 (by decide)) (fun cz20 => ?_)
      refine lv_iconst (pc := 23) (v := nI 2) F.1 F.2.1 dX7_setFlags_23 (by decide) ?_
      refine lv_goto (pc := 24) (tgt := 28) F.1 F.2.1 dX7_setFlags_24 (by decide) ?_
      refine mm_put (pc := 28) F hN (mm_r0 hM) (ci := 7) rfl 25 (by decide) mw_1204 rfl (ty := .int) (by decide +kernel) (rfl) (rfl) (Nat.le_of_ble_eq_true rfl) dX7_setFlags_28 (fun H locs hN => ?_)
      have hN : mm_N b D s (mm_u σ ((rd 0 0)) (mm_obj 1 7 [.ref ((rd 1 0)), .ref ((rd 2 0)), .ref ((rd 3 0)), .int (nI T.nA), .ref ((rd 4 0)), .ref ((rd 5 0)), .ref ((rd 6 0)), .int (nI T.nP), .ref ((rd 7 0)), .ref ((rd 8 0)), .ref ((rd 9 0)), .ref ((rd 10 0)), .ref ((rd 11 0)), .int (nI T.nT), .int (nI T.pa), .ref ((rd 12 0)), .int (nI T.bo), .ref ((rd 13 0)), .ref ((rd 14 0)), .ref ((rd 15 0)), .ref ((rd 16 0)), .ref ((rd 17 0)), .ref ((rd 18 0)), .ref ((rd 19 0)), .int (nI T.nR), .int (nI 2)])) _ _ := hN
      obtain ⟨σ4, eσ4⟩ : ∃ q, q = mm_u σ ((rd 0 0)) (mm_obj 1 7 [.ref ((rd 1 0)), .ref ((rd 2 0)), .ref ((rd 3 0)), .int (nI T.nA), .ref ((rd 4 0)), .ref ((rd 5 0)), .ref ((rd 6 0)), .int (nI T.nP), .ref ((rd 7 0)), .ref ((rd 8 0)), .ref ((rd 9 0)), .ref ((rd 10 0)), .ref ((rd 11 0)), .int (nI T.nT), .int (nI T.pa), .ref ((rd 12 0)), .int (nI T.bo), .ref ((rd 13 0)), .ref ((rd 14 0)), .ref ((rd 15 0)), .ref ((rd 16 0)), .ref ((rd 17 0)), .ref ((rd 18 0)), .ref ((rd 19 0)), .int (nI T.nR), .int (nI 2)]) := ⟨_, rfl⟩
      rw [← eσ4] at hN
      have hM4 : mm_M σ4 T 2 rd := by rw [eσ4]; exact mm_Mo hM (fun _ _ => rfl) rfl
      have hF4 : mm_Fr 1 σ σ4 := by rw [eσ4]; exact (mm_Fr.rf).tr (mm_Fr.u (mm_r0 hM))
      refine lv_aload_n (pc := 31) F.1 F.2.1 dX7_setFlags_31 rfl (lv_at hl 0 rfl) ?_
      refine mm_get (pc := 32) F hN ((show σ4 (rd 0 0) = mm_obj 1 7 [.ref ((rd 1 0)), .ref ((rd 2 0)), .ref ((rd 3 0)), .int (nI T.nA), .ref ((rd 4 0)), .ref ((rd 5 0)), .ref ((rd 6 0)), .int (nI T.nP), .ref ((rd 7 0)), .ref ((rd 8 0)), .ref ((rd 9 0)), .ref ((rd 10 0)), .ref ((rd 11 0)), .int (nI T.nT), .int (nI T.pa), .ref ((rd 12 0)), .int (nI T.bo), .ref ((rd 13 0)), .ref ((rd 14 0)), .ref ((rd 15 0)), .ref ((rd 16 0)), .ref ((rd 17 0)), .ref ((rd 18 0)), .ref ((rd 19 0)), .int (nI T.nR), .int (nI 2)] from mm_r0 (T := T) hM4)) (ci := 7) rfl 25 (by decide) mw_1204 rfl dX7_setFlags_32 ?_
      refine mm_if_le (pc := 35) F (tgt := 40) (by omega) dX7_setFlags_35 (by decide) (fun h9 => absurd h9 (by decide)) (fun cz35 => ?_)
      refine lv_iconst (pc := 38) (v := nI 0) F.1 F.2.1 dX7_setFlags_38 (by decide) ?_
      exact mm_iret (pc := 39) F hr hN (Or.inr ⟨by rw [show mm_q_setFlags T i f = 2 from by show mm_q_setFlags T i f = 2; unfold mm_q_setFlags; (repeat' split) <;> omega]; decide, ⟨_, rfl⟩, by rw [show mm_q_setFlags T i f = 2 from by show mm_q_setFlags T i f = 2; unfold mm_q_setFlags; (repeat' split) <;> omega]; exact hM4, hF4⟩) (Nat.le_of_ble_eq_true rfl) (Nat.le_of_ble_eq_true rfl) dX7_setFlags_39
  ·
    refine W.eq (g2 := F0 m 6 ls [.int (nI 0), .ref ((rd 0 0))]) (by rw [if_neg hpi]) ?_
    refine mm_if_ne (pc := 6) F (tgt := 13) (by omega) dX7_setFlags_6 (by decide) (fun h9 => absurd h9 (by decide)) (fun cz6 => ?_)
    refine lv_iconst (pc := 9) (v := nI 1) F.1 F.2.1 dX7_setFlags_9 (by decide) ?_
    refine lv_goto (pc := 10) (tgt := 28) F.1 F.2.1 dX7_setFlags_10 (by decide) ?_
    refine mm_put (pc := 28) F hN (mm_r0 hM) (ci := 7) rfl 25 (by decide) mw_1204 rfl (ty := .int) (by decide +kernel) (rfl) (rfl) (Nat.le_of_ble_eq_true rfl) dX7_setFlags_28 (fun H locs hN => ?_)
    have hN : mm_N b D s (mm_u σ ((rd 0 0)) (mm_obj 1 7 [.ref ((rd 1 0)), .ref ((rd 2 0)), .ref ((rd 3 0)), .int (nI T.nA), .ref ((rd 4 0)), .ref ((rd 5 0)), .ref ((rd 6 0)), .int (nI T.nP), .ref ((rd 7 0)), .ref ((rd 8 0)), .ref ((rd 9 0)), .ref ((rd 10 0)), .ref ((rd 11 0)), .int (nI T.nT), .int (nI T.pa), .ref ((rd 12 0)), .int (nI T.bo), .ref ((rd 13 0)), .ref ((rd 14 0)), .ref ((rd 15 0)), .ref ((rd 16 0)), .ref ((rd 17 0)), .ref ((rd 18 0)), .ref ((rd 19 0)), .int (nI T.nR), .int (nI 1)])) _ _ := hN
    obtain ⟨σ5, eσ5⟩ : ∃ q, q = mm_u σ ((rd 0 0)) (mm_obj 1 7 [.ref ((rd 1 0)), .ref ((rd 2 0)), .ref ((rd 3 0)), .int (nI T.nA), .ref ((rd 4 0)), .ref ((rd 5 0)), .ref ((rd 6 0)), .int (nI T.nP), .ref ((rd 7 0)), .ref ((rd 8 0)), .ref ((rd 9 0)), .ref ((rd 10 0)), .ref ((rd 11 0)), .int (nI T.nT), .int (nI T.pa), .ref ((rd 12 0)), .int (nI T.bo), .ref ((rd 13 0)), .ref ((rd 14 0)), .ref ((rd 15 0)), .ref ((rd 16 0)), .ref ((rd 17 0)), .ref ((rd 18 0)), .ref ((rd 19 0)), .int (nI T.nR), .int (nI 1)]) := ⟨_, rfl⟩
    rw [← eσ5] at hN
    have hM5 : mm_M σ5 T 1 rd := by rw [eσ5]; exact mm_Mo hM (fun _ _ => rfl) rfl
    have hF5 : mm_Fr 1 σ σ5 := by rw [eσ5]; exact (mm_Fr.rf).tr (mm_Fr.u (mm_r0 hM))
    refine lv_aload_n (pc := 31) F.1 F.2.1 dX7_setFlags_31 rfl (lv_at hl 0 rfl) ?_
    refine mm_get (pc := 32) F hN ((show σ5 (rd 0 0) = mm_obj 1 7 [.ref ((rd 1 0)), .ref ((rd 2 0)), .ref ((rd 3 0)), .int (nI T.nA), .ref ((rd 4 0)), .ref ((rd 5 0)), .ref ((rd 6 0)), .int (nI T.nP), .ref ((rd 7 0)), .ref ((rd 8 0)), .ref ((rd 9 0)), .ref ((rd 10 0)), .ref ((rd 11 0)), .int (nI T.nT), .int (nI T.pa), .ref ((rd 12 0)), .int (nI T.bo), .ref ((rd 13 0)), .ref ((rd 14 0)), .ref ((rd 15 0)), .ref ((rd 16 0)), .ref ((rd 17 0)), .ref ((rd 18 0)), .ref ((rd 19 0)), .int (nI T.nR), .int (nI 1)] from mm_r0 (T := T) hM5)) (ci := 7) rfl 25 (by decide) mw_1204 rfl dX7_setFlags_32 ?_
    refine mm_if_le (pc := 35) F (tgt := 40) (by omega) dX7_setFlags_35 (by decide) (fun h9 => absurd h9 (by decide)) (fun cz35 => ?_)
    refine lv_iconst (pc := 38) (v := nI 0) F.1 F.2.1 dX7_setFlags_38 (by decide) ?_
    exact mm_iret (pc := 39) F hr hN (Or.inr ⟨by rw [show mm_q_setFlags T i f = 1 from by show mm_q_setFlags T i f = 1; unfold mm_q_setFlags; (repeat' split) <;> omega]; decide, ⟨_, rfl⟩, by rw [show mm_q_setFlags T i f = 1 from by show mm_q_setFlags T i f = 1; unfold mm_q_setFlags; (repeat' split) <;> omega]; exact hM5, hF5⟩) (Nat.le_of_ble_eq_true rfl) (Nat.le_of_ble_eq_true rfl) dX7_setFlags_39

set_option maxHeartbeats 4000000 in
set_option maxRecDepth 100000 in
theorem r_move (l : Launch) (b : Nat) (D : mm_D) (hst : l.stackTraces = false) (T : mm_T) (th : Nat) (rd : Nat → Nat → Nat) (σ : mm_S) (hM : mm_M σ T th rd) (hW : mm_WF T) (i : Nat) (zi : i < 2 ^ 32) (a : Nat) (za : a < 2 ^ 32) : mm_K l b D yX7_move (.code yX7_move cX7_move 4 (some .int)) ({ frames := 6, cells := 0, slots := 0, locals := 160 } : Room) [.ref ((rd 0 0)), .int (nI i), .int (nI a)] σ
    (fun v σ2 => mm_Mt rd σ σ2 T ((T.w 4 (mm_u2 (T 4) i 0 a)).w 6 (mm_u2 (T 6) i 0 (if T.re i = 109 then 45 else T.re i))) (mm_q_move T i a) v (some (.int (nI (T.ho i)))))
    (fun _ _ => False) := by
  refine mm_of (cc := cX7_move) (nL := 4) (ret := (some .int)) (by decide) rfl (Nat.le_of_ble_eq_true rfl) hst ?_
  intro p e s m args below meth c ls F ht hr hin hN hl
  have hl : lv_has ls 4 [(0, .ref ((rd 0 0))), (1, .int (nI i)), (2, .int (nI a))] := hl
  have wnA := hW.hnA
  have wnP := hW.hnP
  have wnT := hW.hnT
  have wnR := hW.hnR
  have wpa := hW.hpa
  have wbo := hW.hbo
  have wen0 := hW.hen 0
  have wen1 := hW.hen 1
  refine lv_aload_n (pc := 0) F.1 F.2.1 dX7_move_0 rfl (lv_at hl 0 rfl) ?_
  refine lv_aload_n (pc := 1) F.1 F.2.1 dX7_move_1 rfl (lv_at hl 0 rfl) ?_
  refine lv_iload_n (pc := 2) F.1 F.2.1 dX7_move_2 rfl (lv_at hl 1 rfl) ?_
  refine mm_runV (pc := 3) (As := [.int (nI i)]) (rest := [.ref ((rd 0 0))]) F hN (c_isPerson l b D hst T th rd σ hM hW i (by omega)) mw_1287 mw_1289 mw_p25 mw_6 mw_1290 ⟨pmX7_isPerson, (Nat.le_of_ble_eq_true rfl), (Nat.le_of_ble_eq_true rfl)⟩ (mm_recv F.2.2.2.2.2.1 hN (mm_r0 hM) rfl) hl.1 rfl (Nat.le_of_ble_eq_true rfl) ⟨(Nat.le_of_ble_eq_true rfl), (Nat.le_of_ble_eq_true rfl)⟩ dX7_move_3
    (fun _ _ _ _ _ _ h9 => False.elim h9)
    (fun v9 σ9 H locs hp9 hN => ?_)
  obtain ⟨rfl, h9⟩ := hp9
  rw [h9] at hN
  refine W.eq (g2 := F0 m 6 ls [.int (nI (if i < T.nP then 1 else 0)), .ref ((rd 0 0))]) rfl ?_
  refine W.widen (k := 0) (n := 0) (Nat.le_of_ble_eq_true rfl) (Nat.le_of_ble_eq_true rfl) ?_
  by_cases hpi : i < T.nP
  ·
    refine W.eq (g2 := F0 m 6 ls [.int (nI 1), .ref ((rd 0 0))]) (by rw [if_pos hpi]) ?_
    obtain ⟨whoi, wfli, wrei⟩ := hW.hpe i hpi
    refine mm_if_eq (pc := 6) F (tgt := 17) (by omega) dX7_move_6 (by decide) (fun h9 => absurd h9 (by decide)) (fun cz6 => ?_)
    refine lv_aload_n (pc := 9) F.1 F.2.1 dX7_move_9 rfl (lv_at hl 0 rfl) ?_
    refine lv_iload_n (pc := 10) F.1 F.2.1 dX7_move_10 rfl (lv_at hl 2 rfl) ?_
    refine mm_runV (pc := 11) (As := [.int (nI a)]) (rest := [.ref ((rd 0 0))]) F hN (c_isAddr l b D hst T th rd σ hM hW a (by omega)) mw_1275 mw_1277 mw_p24 mw_6 mw_1278 ⟨pmX7_isAddress, (Nat.le_of_ble_eq_true rfl), (Nat.le_of_ble_eq_true rfl)⟩ (mm_recv F.2.2.2.2.2.1 hN (mm_r0 hM) rfl) hl.1 rfl (Nat.le_of_ble_eq_true rfl) ⟨(Nat.le_of_ble_eq_true rfl), (Nat.le_of_ble_eq_true rfl)⟩ dX7_move_11
      (fun _ _ _ _ _ _ h9 => False.elim h9)
      (fun v9 σ9 H locs hp9 hN => ?_)
    obtain ⟨rfl, h9⟩ := hp9
    rw [h9] at hN
    refine W.eq (g2 := F0 m 14 ls [.int (nI (if a < T.nA ∧ T.go a = 0 then 1 else 0)), .ref ((rd 0 0))]) rfl ?_
    refine W.widen (k := 0) (n := 0) (Nat.le_of_ble_eq_true rfl) (Nat.le_of_ble_eq_true rfl) ?_
    by_cases haa : a < T.nA ∧ T.go a = 0
    ·
      refine W.eq (g2 := F0 m 14 ls [.int (nI 1), .ref ((rd 0 0))]) (by rw [if_pos haa]) ?_
      refine mm_if_ne (pc := 14) F (tgt := 21) (by omega) dX7_move_14 (by decide) (fun cz14 => ?_) (fun h9 => absurd h9 (by decide))
      refine lv_iconst (pc := 21) (v := nI 0) F.1 F.2.1 dX7_move_21 (by decide) ?_
      refine mm_put (pc := 22) F hN (mm_r0 hM) (ci := 7) rfl 25 (by decide) mw_1204 rfl (ty := .int) (by decide +kernel) (rfl) (rfl) (Nat.le_of_ble_eq_true rfl) dX7_move_22 (fun H locs hN => ?_)
      have hN : mm_N b D s (mm_u σ ((rd 0 0)) (mm_obj 1 7 [.ref ((rd 1 0)), .ref ((rd 2 0)), .ref ((rd 3 0)), .int (nI T.nA), .ref ((rd 4 0)), .ref ((rd 5 0)), .ref ((rd 6 0)), .int (nI T.nP), .ref ((rd 7 0)), .ref ((rd 8 0)), .ref ((rd 9 0)), .ref ((rd 10 0)), .ref ((rd 11 0)), .int (nI T.nT), .int (nI T.pa), .ref ((rd 12 0)), .int (nI T.bo), .ref ((rd 13 0)), .ref ((rd 14 0)), .ref ((rd 15 0)), .ref ((rd 16 0)), .ref ((rd 17 0)), .ref ((rd 18 0)), .ref ((rd 19 0)), .int (nI T.nR), .int (nI 0)])) _ _ := hN
      obtain ⟨σ2, eσ2⟩ : ∃ q, q = mm_u σ ((rd 0 0)) (mm_obj 1 7 [.ref ((rd 1 0)), .ref ((rd 2 0)), .ref ((rd 3 0)), .int (nI T.nA), .ref ((rd 4 0)), .ref ((rd 5 0)), .ref ((rd 6 0)), .int (nI T.nP), .ref ((rd 7 0)), .ref ((rd 8 0)), .ref ((rd 9 0)), .ref ((rd 10 0)), .ref ((rd 11 0)), .int (nI T.nT), .int (nI T.pa), .ref ((rd 12 0)), .int (nI T.bo), .ref ((rd 13 0)), .ref ((rd 14 0)), .ref ((rd 15 0)), .ref ((rd 16 0)), .ref ((rd 17 0)), .ref ((rd 18 0)), .ref ((rd 19 0)), .int (nI T.nR), .int (nI 0)]) := ⟨_, rfl⟩
      rw [← eσ2] at hN
      have hM2 : mm_M σ2 T 0 rd := by rw [eσ2]; exact mm_Mo hM (fun _ _ => rfl) rfl
      have hF2 : mm_Fr 1 σ σ2 := by rw [eσ2]; exact (mm_Fr.rf).tr (mm_Fr.u (mm_r0 hM))
      refine lv_aload_n (pc := 25) F.1 F.2.1 dX7_move_25 rfl (lv_at hl 0 rfl) ?_
      refine mm_get (pc := 26) F hN ((show σ2 (rd 0 0) = mm_obj 1 7 [.ref ((rd 1 0)), .ref ((rd 2 0)), .ref ((rd 3 0)), .int (nI T.nA), .ref ((rd 4 0)), .ref ((rd 5 0)), .ref ((rd 6 0)), .int (nI T.nP), .ref ((rd 7 0)), .ref ((rd 8 0)), .ref ((rd 9 0)), .ref ((rd 10 0)), .ref ((rd 11 0)), .int (nI T.nT), .int (nI T.pa), .ref ((rd 12 0)), .int (nI T.bo), .ref ((rd 13 0)), .ref ((rd 14 0)), .ref ((rd 15 0)), .ref ((rd 16 0)), .ref ((rd 17 0)), .ref ((rd 18 0)), .ref ((rd 19 0)), .int (nI T.nR), .int (nI 0)] from mm_r0 (T := T) hM2)) (ci := 7) rfl 25 (by decide) mw_1204 rfl dX7_move_26 ?_
      refine mm_if_le (pc := 29) F (tgt := 34) (by omega) dX7_move_29 (by decide) (fun cz29 => ?_) (fun h9 => absurd h9 (by decide))
      refine lv_aload_n (pc := 34) F.1 F.2.1 dX7_move_34 rfl (lv_at hl 0 rfl) ?_
      refine mm_get (pc := 35) F hN ((show σ2 (rd 0 0) = mm_obj 1 7 [.ref ((rd 1 0)), .ref ((rd 2 0)), .ref ((rd 3 0)), .int (nI T.nA), .ref ((rd 4 0)), .ref ((rd 5 0)), .ref ((rd 6 0)), .int (nI T.nP), .ref ((rd 7 0)), .ref ((rd 8 0)), .ref ((rd 9 0)), .ref ((rd 10 0)), .ref ((rd 11 0)), .int (nI T.nT), .int (nI T.pa), .ref ((rd 12 0)), .int (nI T.bo), .ref ((rd 13 0)), .ref ((rd 14 0)), .ref ((rd 15 0)), .ref ((rd 16 0)), .ref ((rd 17 0)), .ref ((rd 18 0)), .ref ((rd 19 0)), .int (nI T.nR), .int (nI 0)] from mm_r0 (T := T) hM2)) (ci := 7) rfl 4 (by decide) mw_1183 rfl dX7_move_35 ?_
      refine lv_iload_n (pc := 38) F.1 F.2.1 dX7_move_38 rfl (lv_at hl 1 rfl) ?_
      refine mm_iald (pc := 39) F hN ((show σ2 (rd 4 0) = mm_ari 1 0 24 (fun i => nI (T.ho i)) from mm_r4 (T := T) hM2)) (j := i) (rfl) (by omega) (by decide) dX7_move_39 ?_
      refine lv_istore_n (pc := 40) (lv' := [(3, .int (nI (T.ho i))), (0, .ref ((rd 0 0))), (1, .int (nI i)), (2, .int (nI a))]) F.1 F.2.1 dX7_move_40 rfl hl (by decide) rfl (fun ls hl => ?_)
      refine lv_aload_n (pc := 41) F.1 F.2.1 dX7_move_41 rfl (lv_at hl 1 rfl) ?_
      refine mm_get (pc := 42) F hN ((show σ2 (rd 0 0) = mm_obj 1 7 [.ref ((rd 1 0)), .ref ((rd 2 0)), .ref ((rd 3 0)), .int (nI T.nA), .ref ((rd 4 0)), .ref ((rd 5 0)), .ref ((rd 6 0)), .int (nI T.nP), .ref ((rd 7 0)), .ref ((rd 8 0)), .ref ((rd 9 0)), .ref ((rd 10 0)), .ref ((rd 11 0)), .int (nI T.nT), .int (nI T.pa), .ref ((rd 12 0)), .int (nI T.bo), .ref ((rd 13 0)), .ref ((rd 14 0)), .ref ((rd 15 0)), .ref ((rd 16 0)), .ref ((rd 17 0)), .ref ((rd 18 0)), .ref ((rd 19 0)), .int (nI T.nR), .int (nI 0)] from mm_r0 (T := T) hM2)) (ci := 7) rfl 4 (by decide) mw_1183 rfl dX7_move_42 ?_
      refine lv_iload_n (pc := 45) F.1 F.2.1 dX7_move_45 rfl (lv_at hl 2 rfl) ?_
      refine lv_iload_n (pc := 46) F.1 F.2.1 dX7_move_46 rfl (lv_at hl 3 rfl) ?_
      refine mm_iast (pc := 47) F hN ((show σ2 (rd 4 0) = mm_ari 1 0 24 (fun i => nI (T.ho i)) from mm_r4 (T := T) hM2)) (j := i) (rfl) (by omega) (by decide) dX7_move_47 (fun H locs hN => ?_)
      have hN : mm_N b D s (mm_u σ2 (rd 4 0) (mm_ari 1 0 24 (va_up (fun i => nI (T.ho i)) i (nI a)))) _ _ := hN
      obtain ⟨σ3, eσ3⟩ : ∃ q, q = mm_u σ2 (rd 4 0) (mm_ari 1 0 24 (va_up (fun i => nI (T.ho i)) i (nI a))) := ⟨_, rfl⟩
      rw [← eσ3] at hN
      have hM3 : mm_M σ3 (T.w 4 (mm_u2 (T 4) i 0 a)) 0 rd := by rw [eσ3]; exact mm_Mw1 hM2 (k := 4) rfl mm_va1
      have hF3 : mm_Fr 1 σ σ3 := by rw [eσ3]; exact (hF2).tr (mm_Fr.u (mm_r4 hM2))
      refine lv_aload_n (pc := 48) F.1 F.2.1 dX7_move_48 rfl (lv_at hl 1 rfl) ?_
      refine mm_get (pc := 49) F hN ((show σ3 (rd 0 0) = mm_obj 1 7 [.ref ((rd 1 0)), .ref ((rd 2 0)), .ref ((rd 3 0)), .int (nI T.nA), .ref ((rd 4 0)), .ref ((rd 5 0)), .ref ((rd 6 0)), .int (nI T.nP), .ref ((rd 7 0)), .ref ((rd 8 0)), .ref ((rd 9 0)), .ref ((rd 10 0)), .ref ((rd 11 0)), .int (nI T.nT), .int (nI T.pa), .ref ((rd 12 0)), .int (nI T.bo), .ref ((rd 13 0)), .ref ((rd 14 0)), .ref ((rd 15 0)), .ref ((rd 16 0)), .ref ((rd 17 0)), .ref ((rd 18 0)), .ref ((rd 19 0)), .int (nI T.nR), .int (nI 0)] from mm_r0 (T := (T.w 4 (mm_u2 (T 4) i 0 a))) hM3)) (ci := 7) rfl 6 (by decide) mw_1185 rfl dX7_move_49 ?_
      refine lv_iload_n (pc := 52) F.1 F.2.1 dX7_move_52 rfl (lv_at hl 2 rfl) ?_
      refine lv_aload_n (pc := 53) F.1 F.2.1 dX7_move_53 rfl (lv_at hl 1 rfl) ?_
      refine mm_get (pc := 54) F hN ((show σ3 (rd 0 0) = mm_obj 1 7 [.ref ((rd 1 0)), .ref ((rd 2 0)), .ref ((rd 3 0)), .int (nI T.nA), .ref ((rd 4 0)), .ref ((rd 5 0)), .ref ((rd 6 0)), .int (nI T.nP), .ref ((rd 7 0)), .ref ((rd 8 0)), .ref ((rd 9 0)), .ref ((rd 10 0)), .ref ((rd 11 0)), .int (nI T.nT), .int (nI T.pa), .ref ((rd 12 0)), .int (nI T.bo), .ref ((rd 13 0)), .ref ((rd 14 0)), .ref ((rd 15 0)), .ref ((rd 16 0)), .ref ((rd 17 0)), .ref ((rd 18 0)), .ref ((rd 19 0)), .int (nI T.nR), .int (nI 0)] from mm_r0 (T := (T.w 4 (mm_u2 (T 4) i 0 a))) hM3)) (ci := 7) rfl 6 (by decide) mw_1185 rfl dX7_move_54 ?_
      refine lv_iload_n (pc := 57) F.1 F.2.1 dX7_move_57 rfl (lv_at hl 2 rfl) ?_
      refine mm_cald (pc := 58) F hN ((show σ3 (rd 6 0) = mm_ari 1 3 24 (fun i => nI (T.re i)) from mm_r6 (T := (T.w 4 (mm_u2 (T 4) i 0 a))) hM3)) (j := i) (rfl) (by omega) (by decide) dX7_move_58 ?_
      refine lv_bipush (pc := 59) (v := nI 109) F.1 F.2.1 dX7_move_59 (by decide) ?_
      refine mm_icmp_ne (pc := 61) F (x := T.re i) (y := 109) (tgt := 69) (by omega) (by omega) dX7_move_61 (by decide) (fun cz61 => ?_) (fun cz61 => ?_)
      ·
        refine lv_aload_n (pc := 69) F.1 F.2.1 dX7_move_69 rfl (lv_at hl 1 rfl) ?_
        refine mm_get (pc := 70) F hN ((show σ3 (rd 0 0) = mm_obj 1 7 [.ref ((rd 1 0)), .ref ((rd 2 0)), .ref ((rd 3 0)), .int (nI T.nA), .ref ((rd 4 0)), .ref ((rd 5 0)), .ref ((rd 6 0)), .int (nI T.nP), .ref ((rd 7 0)), .ref ((rd 8 0)), .ref ((rd 9 0)), .ref ((rd 10 0)), .ref ((rd 11 0)), .int (nI T.nT), .int (nI T.pa), .ref ((rd 12 0)), .int (nI T.bo), .ref ((rd 13 0)), .ref ((rd 14 0)), .ref ((rd 15 0)), .ref ((rd 16 0)), .ref ((rd 17 0)), .ref ((rd 18 0)), .ref ((rd 19 0)), .int (nI T.nR), .int (nI 0)] from mm_r0 (T := (T.w 4 (mm_u2 (T 4) i 0 a))) hM3)) (ci := 7) rfl 6 (by decide) mw_1185 rfl dX7_move_70 ?_
        refine lv_iload_n (pc := 73) F.1 F.2.1 dX7_move_73 rfl (lv_at hl 2 rfl) ?_
        refine mm_cald (pc := 74) F hN ((show σ3 (rd 6 0) = mm_ari 1 3 24 (fun i => nI (T.re i)) from mm_r6 (T := (T.w 4 (mm_u2 (T 4) i 0 a))) hM3)) (j := i) (rfl) (by omega) (by decide) dX7_move_74 ?_
        refine mm_cast_ (pc := 75) F hN ((show σ3 (rd 6 0) = mm_ari 1 3 24 (fun i => nI (T.re i)) from mm_r6 (T := (T.w 4 (mm_u2 (T 4) i 0 a))) hM3)) (j := i) (rfl) (by omega) (by decide) (mm_narC wrei) dX7_move_75 (fun H locs hN => ?_)
        have hN : mm_N b D s (mm_u σ3 (rd 6 0) (mm_ari 1 3 24 (va_up (fun i => nI (T.re i)) i (nI (T.re i))))) _ _ := hN
        obtain ⟨σ4, eσ4⟩ : ∃ q, q = mm_u σ3 (rd 6 0) (mm_ari 1 3 24 (va_up (fun i => nI (T.re i)) i (nI (T.re i)))) := ⟨_, rfl⟩
        rw [← eσ4] at hN
        have hM4 : mm_M σ4 ((T.w 4 (mm_u2 (T 4) i 0 a)).w 6 (mm_u2 ((T.w 4 (mm_u2 (T 4) i 0 a)) 6) i 0 (T.re i))) 0 rd := by rw [eσ4]; exact mm_Mw1 hM3 (k := 6) rfl mm_va1
        have hF4 : mm_Fr 1 σ σ4 := by rw [eσ4]; exact (hF3).tr (mm_Fr.u (mm_r6 hM3))
        refine lv_iload_n (pc := 76) F.1 F.2.1 dX7_move_76 rfl (lv_at hl 0 rfl) ?_
        exact mm_iret (pc := 77) F hr hN (Or.inl ⟨by show mm_q_move T i a = 0; unfold mm_q_move; (repeat' split) <;> omega, rfl, mm_M_cg hM4 (fun k hk => by
          by_cases e4 : k = 4
          · subst e4; rfl
          by_cases e6 : k = 6
          · subst e6
            show mm_u2 (T 6) i 0 (if T.re i = 109 then 45 else T.re i) = mm_u2 (T 6) i 0 (T.re i)
            rw [if_neg cz61]
          simp only [mm_T.w, if_neg e4, if_neg e6]) rfl, hF4⟩) (Nat.le_of_ble_eq_true rfl) (Nat.le_of_ble_eq_true rfl) dX7_move_77
      ·
        refine lv_bipush (pc := 64) (v := nI 45) F.1 F.2.1 dX7_move_64 (by decide) ?_
        refine lv_goto (pc := 66) (tgt := 75) F.1 F.2.1 dX7_move_66 (by decide) ?_
        refine mm_cast_ (pc := 75) F hN ((show σ3 (rd 6 0) = mm_ari 1 3 24 (fun i => nI (T.re i)) from mm_r6 (T := (T.w 4 (mm_u2 (T 4) i 0 a))) hM3)) (j := i) (rfl) (by omega) (by decide) (by decide) dX7_move_75 (fun H locs hN => ?_)
        have hN : mm_N b D s (mm_u σ3 (rd 6 0) (mm_ari 1 3 24 (va_up (fun i => nI (T.re i)) i (nI 45)))) _ _ := hN
        obtain ⟨σ5, eσ5⟩ : ∃ q, q = mm_u σ3 (rd 6 0) (mm_ari 1 3 24 (va_up (fun i => nI (T.re i)) i (nI 45))) := ⟨_, rfl⟩
        rw [← eσ5] at hN
        have hM5 : mm_M σ5 ((T.w 4 (mm_u2 (T 4) i 0 a)).w 6 (mm_u2 ((T.w 4 (mm_u2 (T 4) i 0 a)) 6) i 0 45)) 0 rd := by rw [eσ5]; exact mm_Mw1 hM3 (k := 6) rfl mm_va1
        have hF5 : mm_Fr 1 σ σ5 := by rw [eσ5]; exact (hF3).tr (mm_Fr.u (mm_r6 hM3))
        refine lv_iload_n (pc := 76) F.1 F.2.1 dX7_move_76 rfl (lv_at hl 0 rfl) ?_
        exact mm_iret (pc := 77) F hr hN (Or.inl ⟨by show mm_q_move T i a = 0; unfold mm_q_move; (repeat' split) <;> omega, rfl, mm_M_cg hM5 (fun k hk => by
          by_cases e4 : k = 4
          · subst e4; rfl
          by_cases e6 : k = 6
          · subst e6
            show mm_u2 (T 6) i 0 (if T.re i = 109 then 45 else T.re i) = mm_u2 (T 6) i 0 45
            rw [if_pos cz61]
          simp only [mm_T.w, if_neg e4, if_neg e6]) rfl, hF5⟩) (Nat.le_of_ble_eq_true rfl) (Nat.le_of_ble_eq_true rfl) dX7_move_77
    ·
      refine W.eq (g2 := F0 m 14 ls [.int (nI 0), .ref ((rd 0 0))]) (by rw [if_neg haa]) ?_
      refine mm_if_ne (pc := 14) F (tgt := 21) (by omega) dX7_move_14 (by decide) (fun h9 => absurd h9 (by decide)) (fun cz14 => ?_)
      refine lv_iconst (pc := 17) (v := nI 1) F.1 F.2.1 dX7_move_17 (by decide) ?_
      refine lv_goto (pc := 18) (tgt := 22) F.1 F.2.1 dX7_move_18 (by decide) ?_
      refine mm_put (pc := 22) F hN (mm_r0 hM) (ci := 7) rfl 25 (by decide) mw_1204 rfl (ty := .int) (by decide +kernel) (rfl) (rfl) (Nat.le_of_ble_eq_true rfl) dX7_move_22 (fun H locs hN => ?_)
      have hN : mm_N b D s (mm_u σ ((rd 0 0)) (mm_obj 1 7 [.ref ((rd 1 0)), .ref ((rd 2 0)), .ref ((rd 3 0)), .int (nI T.nA), .ref ((rd 4 0)), .ref ((rd 5 0)), .ref ((rd 6 0)), .int (nI T.nP), .ref ((rd 7 0)), .ref ((rd 8 0)), .ref ((rd 9 0)), .ref ((rd 10 0)), .ref ((rd 11 0)), .int (nI T.nT), .int (nI T.pa), .ref ((rd 12 0)), .int (nI T.bo), .ref ((rd 13 0)), .ref ((rd 14 0)), .ref ((rd 15 0)), .ref ((rd 16 0)), .ref ((rd 17 0)), .ref ((rd 18 0)), .ref ((rd 19 0)), .int (nI T.nR), .int (nI 1)])) _ _ := hN
      obtain ⟨σ6, eσ6⟩ : ∃ q, q = mm_u σ ((rd 0 0)) (mm_obj 1 7 [.ref ((rd 1 0)), .ref ((rd 2 0)), .ref ((rd 3 0)), .int (nI T.nA), .ref ((rd 4 0)), .ref ((rd 5 0)), .ref ((rd 6 0)), .int (nI T.nP), .ref ((rd 7 0)), .ref ((rd 8 0)), .ref ((rd 9 0)), .ref ((rd 10 0)), .ref ((rd 11 0)), .int (nI T.nT), .int (nI T.pa), .ref ((rd 12 0)), .int (nI T.bo), .ref ((rd 13 0)), .ref ((rd 14 0)), .ref ((rd 15 0)), .ref ((rd 16 0)), .ref ((rd 17 0)), .ref ((rd 18 0)), .ref ((rd 19 0)), .int (nI T.nR), .int (nI 1)]) := ⟨_, rfl⟩
      rw [← eσ6] at hN
      have hM6 : mm_M σ6 T 1 rd := by rw [eσ6]; exact mm_Mo hM (fun _ _ => rfl) rfl
      have hF6 : mm_Fr 1 σ σ6 := by rw [eσ6]; exact (mm_Fr.rf).tr (mm_Fr.u (mm_r0 hM))
      refine lv_aload_n (pc := 25) F.1 F.2.1 dX7_move_25 rfl (lv_at hl 0 rfl) ?_
      refine mm_get (pc := 26) F hN ((show σ6 (rd 0 0) = mm_obj 1 7 [.ref ((rd 1 0)), .ref ((rd 2 0)), .ref ((rd 3 0)), .int (nI T.nA), .ref ((rd 4 0)), .ref ((rd 5 0)), .ref ((rd 6 0)), .int (nI T.nP), .ref ((rd 7 0)), .ref ((rd 8 0)), .ref ((rd 9 0)), .ref ((rd 10 0)), .ref ((rd 11 0)), .int (nI T.nT), .int (nI T.pa), .ref ((rd 12 0)), .int (nI T.bo), .ref ((rd 13 0)), .ref ((rd 14 0)), .ref ((rd 15 0)), .ref ((rd 16 0)), .ref ((rd 17 0)), .ref ((rd 18 0)), .ref ((rd 19 0)), .int (nI T.nR), .int (nI 1)] from mm_r0 (T := T) hM6)) (ci := 7) rfl 25 (by decide) mw_1204 rfl dX7_move_26 ?_
      refine mm_if_le (pc := 29) F (tgt := 34) (by omega) dX7_move_29 (by decide) (fun h9 => absurd h9 (by decide)) (fun cz29 => ?_)
      refine lv_iconst (pc := 32) (v := nI 0) F.1 F.2.1 dX7_move_32 (by decide) ?_
      exact mm_iret (pc := 33) F hr hN (Or.inr ⟨by rw [show mm_q_move T i a = 1 from by show mm_q_move T i a = 1; unfold mm_q_move; (repeat' split) <;> omega]; decide, ⟨_, rfl⟩, by rw [show mm_q_move T i a = 1 from by show mm_q_move T i a = 1; unfold mm_q_move; (repeat' split) <;> omega]; exact hM6, hF6⟩) (Nat.le_of_ble_eq_true rfl) (Nat.le_of_ble_eq_true rfl) dX7_move_33
  ·
    refine W.eq (g2 := F0 m 6 ls [.int (nI 0), .ref ((rd 0 0))]) (by rw [if_neg hpi]) ?_
    refine mm_if_eq (pc := 6) F (tgt := 17) (by omega) dX7_move_6 (by decide) (fun cz6 => ?_) (fun h9 => absurd h9 (by decide))
    refine lv_iconst (pc := 17) (v := nI 1) F.1 F.2.1 dX7_move_17 (by decide) ?_
    refine lv_goto (pc := 18) (tgt := 22) F.1 F.2.1 dX7_move_18 (by decide) ?_
    refine mm_put (pc := 22) F hN (mm_r0 hM) (ci := 7) rfl 25 (by decide) mw_1204 rfl (ty := .int) (by decide +kernel) (rfl) (rfl) (Nat.le_of_ble_eq_true rfl) dX7_move_22 (fun H locs hN => ?_)
    have hN : mm_N b D s (mm_u σ ((rd 0 0)) (mm_obj 1 7 [.ref ((rd 1 0)), .ref ((rd 2 0)), .ref ((rd 3 0)), .int (nI T.nA), .ref ((rd 4 0)), .ref ((rd 5 0)), .ref ((rd 6 0)), .int (nI T.nP), .ref ((rd 7 0)), .ref ((rd 8 0)), .ref ((rd 9 0)), .ref ((rd 10 0)), .ref ((rd 11 0)), .int (nI T.nT), .int (nI T.pa), .ref ((rd 12 0)), .int (nI T.bo), .ref ((rd 13 0)), .ref ((rd 14 0)), .ref ((rd 15 0)), .ref ((rd 16 0)), .ref ((rd 17 0)), .ref ((rd 18 0)), .ref ((rd 19 0)), .int (nI T.nR), .int (nI 1)])) _ _ := hN
    obtain ⟨σ7, eσ7⟩ : ∃ q, q = mm_u σ ((rd 0 0)) (mm_obj 1 7 [.ref ((rd 1 0)), .ref ((rd 2 0)), .ref ((rd 3 0)), .int (nI T.nA), .ref ((rd 4 0)), .ref ((rd 5 0)), .ref ((rd 6 0)), .int (nI T.nP), .ref ((rd 7 0)), .ref ((rd 8 0)), .ref ((rd 9 0)), .ref ((rd 10 0)), .ref ((rd 11 0)), .int (nI T.nT), .int (nI T.pa), .ref ((rd 12 0)), .int (nI T.bo), .ref ((rd 13 0)), .ref ((rd 14 0)), .ref ((rd 15 0)), .ref ((rd 16 0)), .ref ((rd 17 0)), .ref ((rd 18 0)), .ref ((rd 19 0)), .int (nI T.nR), .int (nI 1)]) := ⟨_, rfl⟩
    rw [← eσ7] at hN
    have hM7 : mm_M σ7 T 1 rd := by rw [eσ7]; exact mm_Mo hM (fun _ _ => rfl) rfl
    have hF7 : mm_Fr 1 σ σ7 := by rw [eσ7]; exact (mm_Fr.rf).tr (mm_Fr.u (mm_r0 hM))
    refine lv_aload_n (pc := 25) F.1 F.2.1 dX7_move_25 rfl (lv_at hl 0 rfl) ?_
    refine mm_get (pc := 26) F hN ((show σ7 (rd 0 0) = mm_obj 1 7 [.ref ((rd 1 0)), .ref ((rd 2 0)), .ref ((rd 3 0)), .int (nI T.nA), .ref ((rd 4 0)), .ref ((rd 5 0)), .ref ((rd 6 0)), .int (nI T.nP), .ref ((rd 7 0)), .ref ((rd 8 0)), .ref ((rd 9 0)), .ref ((rd 10 0)), .ref ((rd 11 0)), .int (nI T.nT), .int (nI T.pa), .ref ((rd 12 0)), .int (nI T.bo), .ref ((rd 13 0)), .ref ((rd 14 0)), .ref ((rd 15 0)), .ref ((rd 16 0)), .ref ((rd 17 0)), .ref ((rd 18 0)), .ref ((rd 19 0)), .int (nI T.nR), .int (nI 1)] from mm_r0 (T := T) hM7)) (ci := 7) rfl 25 (by decide) mw_1204 rfl dX7_move_26 ?_
    refine mm_if_le (pc := 29) F (tgt := 34) (by omega) dX7_move_29 (by decide) (fun h9 => absurd h9 (by decide)) (fun cz29 => ?_)
    refine lv_iconst (pc := 32) (v := nI 0) F.1 F.2.1 dX7_move_32 (by decide) ?_
    exact mm_iret (pc := 33) F hr hN (Or.inr ⟨by rw [show mm_q_move T i a = 1 from by show mm_q_move T i a = 1; unfold mm_q_move; (repeat' split) <;> omega]; decide, ⟨_, rfl⟩, by rw [show mm_q_move T i a = 1 from by show mm_q_move T i a = 1; unfold mm_q_move; (repeat' split) <;> omega]; exact hM7, hF7⟩) (Nat.le_of_ble_eq_true rfl) (Nat.le_of_ble_eq_true rfl) dX7_move_33

set_option maxHeartbeats 4000000 in
set_option maxRecDepth 100000 in
theorem r_suppress (l : Launch) (b : Nat) (D : mm_D) (hst : l.stackTraces = false) (T : mm_T) (th : Nat) (rd : Nat → Nat → Nat) (σ : mm_S) (hM : mm_M σ T th rd) (hW : mm_WF T) (i : Nat) (zi : i < 2 ^ 32) (ch : Nat) (zch : ch < 65536) : mm_K l b D yX7_suppress (.code yX7_suppress cX7_suppress 4 (some .char)) ({ frames := 6, cells := 0, slots := 0, locals := 160 } : Room) [.ref ((rd 0 0)), .int (nI i), .int (nI ch)] σ
    (fun v σ2 => mm_Mt rd σ σ2 T (T.w 6 (mm_u2 (T 6) i 0 ch)) (mm_q_suppress T i ch) v (some (.int (nI (T.re i)))))
    (fun _ _ => False) := by
  refine mm_of (cc := cX7_suppress) (nL := 4) (ret := (some .char)) (by decide) rfl (Nat.le_of_ble_eq_true rfl) hst ?_
  intro p e s m args below meth c ls F ht hr hin hN hl
  have hl : lv_has ls 4 [(0, .ref ((rd 0 0))), (1, .int (nI i)), (2, .int (nI ch))] := hl
  have wnA := hW.hnA
  have wnP := hW.hnP
  have wnT := hW.hnT
  have wnR := hW.hnR
  have wpa := hW.hpa
  have wbo := hW.hbo
  have wen0 := hW.hen 0
  have wen1 := hW.hen 1
  refine lv_aload_n (pc := 0) F.1 F.2.1 dX7_suppress_0 rfl (lv_at hl 0 rfl) ?_
  refine lv_aload_n (pc := 1) F.1 F.2.1 dX7_suppress_1 rfl (lv_at hl 0 rfl) ?_
  refine lv_iload_n (pc := 2) F.1 F.2.1 dX7_suppress_2 rfl (lv_at hl 1 rfl) ?_
  refine mm_runV (pc := 3) (As := [.int (nI i)]) (rest := [.ref ((rd 0 0))]) F hN (c_isPerson l b D hst T th rd σ hM hW i (by omega)) mw_1287 mw_1289 mw_p25 mw_6 mw_1290 ⟨pmX7_isPerson, (Nat.le_of_ble_eq_true rfl), (Nat.le_of_ble_eq_true rfl)⟩ (mm_recv F.2.2.2.2.2.1 hN (mm_r0 hM) rfl) hl.1 rfl (Nat.le_of_ble_eq_true rfl) ⟨(Nat.le_of_ble_eq_true rfl), (Nat.le_of_ble_eq_true rfl)⟩ dX7_suppress_3
    (fun _ _ _ _ _ _ h9 => False.elim h9)
    (fun v9 σ9 H locs hp9 hN => ?_)
  obtain ⟨rfl, h9⟩ := hp9
  rw [h9] at hN
  refine W.eq (g2 := F0 m 6 ls [.int (nI (if i < T.nP then 1 else 0)), .ref ((rd 0 0))]) rfl ?_
  refine W.widen (k := 0) (n := 0) (Nat.le_of_ble_eq_true rfl) (Nat.le_of_ble_eq_true rfl) ?_
  by_cases hpi : i < T.nP
  ·
    refine W.eq (g2 := F0 m 6 ls [.int (nI 1), .ref ((rd 0 0))]) (by rw [if_pos hpi]) ?_
    obtain ⟨whoi, wfli, wrei⟩ := hW.hpe i hpi
    refine mm_if_ne (pc := 6) F (tgt := 13) (by omega) dX7_suppress_6 (by decide) (fun cz6 => ?_) (fun h9 => absurd h9 (by decide))
    refine lv_iload_n (pc := 13) F.1 F.2.1 dX7_suppress_13 rfl (lv_at hl 2 rfl) ?_
    refine lv_bipush (pc := 14) (v := nI 109) F.1 F.2.1 dX7_suppress_14 (by decide) ?_
    refine mm_icmp_eq (pc := 16) F (x := ch) (y := 109) (tgt := 35) (by omega) (by omega) dX7_suppress_16 (by decide) (fun cz16 => ?_) (fun cz16 => ?_)
    ·
      refine lv_iconst (pc := 35) (v := nI 0) F.1 F.2.1 dX7_suppress_35 (by decide) ?_
      refine mm_put (pc := 36) F hN (mm_r0 hM) (ci := 7) rfl 25 (by decide) mw_1204 rfl (ty := .int) (by decide +kernel) (rfl) (rfl) (Nat.le_of_ble_eq_true rfl) dX7_suppress_36 (fun H locs hN => ?_)
      have hN : mm_N b D s (mm_u σ ((rd 0 0)) (mm_obj 1 7 [.ref ((rd 1 0)), .ref ((rd 2 0)), .ref ((rd 3 0)), .int (nI T.nA), .ref ((rd 4 0)), .ref ((rd 5 0)), .ref ((rd 6 0)), .int (nI T.nP), .ref ((rd 7 0)), .ref ((rd 8 0)), .ref ((rd 9 0)), .ref ((rd 10 0)), .ref ((rd 11 0)), .int (nI T.nT), .int (nI T.pa), .ref ((rd 12 0)), .int (nI T.bo), .ref ((rd 13 0)), .ref ((rd 14 0)), .ref ((rd 15 0)), .ref ((rd 16 0)), .ref ((rd 17 0)), .ref ((rd 18 0)), .ref ((rd 19 0)), .int (nI T.nR), .int (nI 0)])) _ _ := hN
      obtain ⟨σ2, eσ2⟩ : ∃ q, q = mm_u σ ((rd 0 0)) (mm_obj 1 7 [.ref ((rd 1 0)), .ref ((rd 2 0)), .ref ((rd 3 0)), .int (nI T.nA), .ref ((rd 4 0)), .ref ((rd 5 0)), .ref ((rd 6 0)), .int (nI T.nP), .ref ((rd 7 0)), .ref ((rd 8 0)), .ref ((rd 9 0)), .ref ((rd 10 0)), .ref ((rd 11 0)), .int (nI T.nT), .int (nI T.pa), .ref ((rd 12 0)), .int (nI T.bo), .ref ((rd 13 0)), .ref ((rd 14 0)), .ref ((rd 15 0)), .ref ((rd 16 0)), .ref ((rd 17 0)), .ref ((rd 18 0)), .ref ((rd 19 0)), .int (nI T.nR), .int (nI 0)]) := ⟨_, rfl⟩
      rw [← eσ2] at hN
      have hM2 : mm_M σ2 T 0 rd := by rw [eσ2]; exact mm_Mo hM (fun _ _ => rfl) rfl
      have hF2 : mm_Fr 1 σ σ2 := by rw [eσ2]; exact (mm_Fr.rf).tr (mm_Fr.u (mm_r0 hM))
      refine lv_aload_n (pc := 39) F.1 F.2.1 dX7_suppress_39 rfl (lv_at hl 0 rfl) ?_
      refine mm_get (pc := 40) F hN ((show σ2 (rd 0 0) = mm_obj 1 7 [.ref ((rd 1 0)), .ref ((rd 2 0)), .ref ((rd 3 0)), .int (nI T.nA), .ref ((rd 4 0)), .ref ((rd 5 0)), .ref ((rd 6 0)), .int (nI T.nP), .ref ((rd 7 0)), .ref ((rd 8 0)), .ref ((rd 9 0)), .ref ((rd 10 0)), .ref ((rd 11 0)), .int (nI T.nT), .int (nI T.pa), .ref ((rd 12 0)), .int (nI T.bo), .ref ((rd 13 0)), .ref ((rd 14 0)), .ref ((rd 15 0)), .ref ((rd 16 0)), .ref ((rd 17 0)), .ref ((rd 18 0)), .ref ((rd 19 0)), .int (nI T.nR), .int (nI 0)] from mm_r0 (T := T) hM2)) (ci := 7) rfl 25 (by decide) mw_1204 rfl dX7_suppress_40 ?_
      refine mm_if_le (pc := 43) F (tgt := 49) (by omega) dX7_suppress_43 (by decide) (fun cz43 => ?_) (fun h9 => absurd h9 (by decide))
      refine lv_aload_n (pc := 49) F.1 F.2.1 dX7_suppress_49 rfl (lv_at hl 0 rfl) ?_
      refine mm_get (pc := 50) F hN ((show σ2 (rd 0 0) = mm_obj 1 7 [.ref ((rd 1 0)), .ref ((rd 2 0)), .ref ((rd 3 0)), .int (nI T.nA), .ref ((rd 4 0)), .ref ((rd 5 0)), .ref ((rd 6 0)), .int (nI T.nP), .ref ((rd 7 0)), .ref ((rd 8 0)), .ref ((rd 9 0)), .ref ((rd 10 0)), .ref ((rd 11 0)), .int (nI T.nT), .int (nI T.pa), .ref ((rd 12 0)), .int (nI T.bo), .ref ((rd 13 0)), .ref ((rd 14 0)), .ref ((rd 15 0)), .ref ((rd 16 0)), .ref ((rd 17 0)), .ref ((rd 18 0)), .ref ((rd 19 0)), .int (nI T.nR), .int (nI 0)] from mm_r0 (T := T) hM2)) (ci := 7) rfl 6 (by decide) mw_1185 rfl dX7_suppress_50 ?_
      refine lv_iload_n (pc := 53) F.1 F.2.1 dX7_suppress_53 rfl (lv_at hl 1 rfl) ?_
      refine mm_cald (pc := 54) F hN ((show σ2 (rd 6 0) = mm_ari 1 3 24 (fun i => nI (T.re i)) from mm_r6 (T := T) hM2)) (j := i) (rfl) (by omega) (by decide) dX7_suppress_54 ?_
      refine lv_istore_n (pc := 55) (lv' := [(3, .int (nI (T.re i))), (0, .ref ((rd 0 0))), (1, .int (nI i)), (2, .int (nI ch))]) F.1 F.2.1 dX7_suppress_55 rfl hl (by decide) rfl (fun ls hl => ?_)
      refine lv_aload_n (pc := 56) F.1 F.2.1 dX7_suppress_56 rfl (lv_at hl 1 rfl) ?_
      refine mm_get (pc := 57) F hN ((show σ2 (rd 0 0) = mm_obj 1 7 [.ref ((rd 1 0)), .ref ((rd 2 0)), .ref ((rd 3 0)), .int (nI T.nA), .ref ((rd 4 0)), .ref ((rd 5 0)), .ref ((rd 6 0)), .int (nI T.nP), .ref ((rd 7 0)), .ref ((rd 8 0)), .ref ((rd 9 0)), .ref ((rd 10 0)), .ref ((rd 11 0)), .int (nI T.nT), .int (nI T.pa), .ref ((rd 12 0)), .int (nI T.bo), .ref ((rd 13 0)), .ref ((rd 14 0)), .ref ((rd 15 0)), .ref ((rd 16 0)), .ref ((rd 17 0)), .ref ((rd 18 0)), .ref ((rd 19 0)), .int (nI T.nR), .int (nI 0)] from mm_r0 (T := T) hM2)) (ci := 7) rfl 6 (by decide) mw_1185 rfl dX7_suppress_57 ?_
      refine lv_iload_n (pc := 60) F.1 F.2.1 dX7_suppress_60 rfl (lv_at hl 2 rfl) ?_
      refine lv_iload_n (pc := 61) F.1 F.2.1 dX7_suppress_61 rfl (lv_at hl 3 rfl) ?_
      refine mm_cast_ (pc := 62) F hN ((show σ2 (rd 6 0) = mm_ari 1 3 24 (fun i => nI (T.re i)) from mm_r6 (T := T) hM2)) (j := i) (rfl) (by omega) (by decide) (mm_narC (by omega)) dX7_suppress_62 (fun H locs hN => ?_)
      have hN : mm_N b D s (mm_u σ2 (rd 6 0) (mm_ari 1 3 24 (va_up (fun i => nI (T.re i)) i (nI ch)))) _ _ := hN
      obtain ⟨σ3, eσ3⟩ : ∃ q, q = mm_u σ2 (rd 6 0) (mm_ari 1 3 24 (va_up (fun i => nI (T.re i)) i (nI ch))) := ⟨_, rfl⟩
      rw [← eσ3] at hN
      have hM3 : mm_M σ3 (T.w 6 (mm_u2 (T 6) i 0 ch)) 0 rd := by rw [eσ3]; exact mm_Mw1 hM2 (k := 6) rfl mm_va1
      have hF3 : mm_Fr 1 σ σ3 := by rw [eσ3]; exact (hF2).tr (mm_Fr.u (mm_r6 hM2))
      refine lv_iload_n (pc := 63) F.1 F.2.1 dX7_suppress_63 rfl (lv_at hl 0 rfl) ?_
      exact mm_zret (pc := 64) F (ty := .char) hr hN (mm_narC wrei) (Or.inl ⟨by show mm_q_suppress T i ch = 0; unfold mm_q_suppress; (repeat' split) <;> omega, rfl, hM3, hF3⟩) (Nat.le_of_ble_eq_true rfl) (Nat.le_of_ble_eq_true rfl) dX7_suppress_64
    ·
      refine lv_iload_n (pc := 19) F.1 F.2.1 dX7_suppress_19 rfl (lv_at hl 2 rfl) ?_
      refine lv_bipush (pc := 20) (v := nI 100) F.1 F.2.1 dX7_suppress_20 (by decide) ?_
      refine mm_icmp_eq (pc := 22) F (x := ch) (y := 100) (tgt := 35) (by omega) (by omega) dX7_suppress_22 (by decide) (fun cz22 => ?_) (fun cz22 => ?_)
      ·
        refine lv_iconst (pc := 35) (v := nI 0) F.1 F.2.1 dX7_suppress_35 (by decide) ?_
        refine mm_put (pc := 36) F hN (mm_r0 hM) (ci := 7) rfl 25 (by decide) mw_1204 rfl (ty := .int) (by decide +kernel) (rfl) (rfl) (Nat.le_of_ble_eq_true rfl) dX7_suppress_36 (fun H locs hN => ?_)
        have hN : mm_N b D s (mm_u σ ((rd 0 0)) (mm_obj 1 7 [.ref ((rd 1 0)), .ref ((rd 2 0)), .ref ((rd 3 0)), .int (nI T.nA), .ref ((rd 4 0)), .ref ((rd 5 0)), .ref ((rd 6 0)), .int (nI T.nP), .ref ((rd 7 0)), .ref ((rd 8 0)), .ref ((rd 9 0)), .ref ((rd 10 0)), .ref ((rd 11 0)), .int (nI T.nT), .int (nI T.pa), .ref ((rd 12 0)), .int (nI T.bo), .ref ((rd 13 0)), .ref ((rd 14 0)), .ref ((rd 15 0)), .ref ((rd 16 0)), .ref ((rd 17 0)), .ref ((rd 18 0)), .ref ((rd 19 0)), .int (nI T.nR), .int (nI 0)])) _ _ := hN
        obtain ⟨σ4, eσ4⟩ : ∃ q, q = mm_u σ ((rd 0 0)) (mm_obj 1 7 [.ref ((rd 1 0)), .ref ((rd 2 0)), .ref ((rd 3 0)), .int (nI T.nA), .ref ((rd 4 0)), .ref ((rd 5 0)), .ref ((rd 6 0)), .int (nI T.nP), .ref ((rd 7 0)), .ref ((rd 8 0)), .ref ((rd 9 0)), .ref ((rd 10 0)), .ref ((rd 11 0)), .int (nI T.nT), .int (nI T.pa), .ref ((rd 12 0)), .int (nI T.bo), .ref ((rd 13 0)), .ref ((rd 14 0)), .ref ((rd 15 0)), .ref ((rd 16 0)), .ref ((rd 17 0)), .ref ((rd 18 0)), .ref ((rd 19 0)), .int (nI T.nR), .int (nI 0)]) := ⟨_, rfl⟩
        rw [← eσ4] at hN
        have hM4 : mm_M σ4 T 0 rd := by rw [eσ4]; exact mm_Mo hM (fun _ _ => rfl) rfl
        have hF4 : mm_Fr 1 σ σ4 := by rw [eσ4]; exact (mm_Fr.rf).tr (mm_Fr.u (mm_r0 hM))
        refine lv_aload_n (pc := 39) F.1 F.2.1 dX7_suppress_39 rfl (lv_at hl 0 rfl) ?_
        refine mm_get (pc := 40) F hN ((show σ4 (rd 0 0) = mm_obj 1 7 [.ref ((rd 1 0)), .ref ((rd 2 0)), .ref ((rd 3 0)), .int (nI T.nA), .ref ((rd 4 0)), .ref ((rd 5 0)), .ref ((rd 6 0)), .int (nI T.nP), .ref ((rd 7 0)), .ref ((rd 8 0)), .ref ((rd 9 0)), .ref ((rd 10 0)), .ref ((rd 11 0)), .int (nI T.nT), .int (nI T.pa), .ref ((rd 12 0)), .int (nI T.bo), .ref ((rd 13 0)), .ref ((rd 14 0)), .ref ((rd 15 0)), .ref ((rd 16 0)), .ref ((rd 17 0)), .ref ((rd 18 0)), .ref ((rd 19 0)), .int (nI T.nR), .int (nI 0)] from mm_r0 (T := T) hM4)) (ci := 7) rfl 25 (by decide) mw_1204 rfl dX7_suppress_40 ?_
        refine mm_if_le (pc := 43) F (tgt := 49) (by omega) dX7_suppress_43 (by decide) (fun cz43 => ?_) (fun h9 => absurd h9 (by decide))
        refine lv_aload_n (pc := 49) F.1 F.2.1 dX7_suppress_49 rfl (lv_at hl 0 rfl) ?_
        refine mm_get (pc := 50) F hN ((show σ4 (rd 0 0) = mm_obj 1 7 [.ref ((rd 1 0)), .ref ((rd 2 0)), .ref ((rd 3 0)), .int (nI T.nA), .ref ((rd 4 0)), .ref ((rd 5 0)), .ref ((rd 6 0)), .int (nI T.nP), .ref ((rd 7 0)), .ref ((rd 8 0)), .ref ((rd 9 0)), .ref ((rd 10 0)), .ref ((rd 11 0)), .int (nI T.nT), .int (nI T.pa), .ref ((rd 12 0)), .int (nI T.bo), .ref ((rd 13 0)), .ref ((rd 14 0)), .ref ((rd 15 0)), .ref ((rd 16 0)), .ref ((rd 17 0)), .ref ((rd 18 0)), .ref ((rd 19 0)), .int (nI T.nR), .int (nI 0)] from mm_r0 (T := T) hM4)) (ci := 7) rfl 6 (by decide) mw_1185 rfl dX7_suppress_50 ?_
        refine lv_iload_n (pc := 53) F.1 F.2.1 dX7_suppress_53 rfl (lv_at hl 1 rfl) ?_
        refine mm_cald (pc := 54) F hN ((show σ4 (rd 6 0) = mm_ari 1 3 24 (fun i => nI (T.re i)) from mm_r6 (T := T) hM4)) (j := i) (rfl) (by omega) (by decide) dX7_suppress_54 ?_
        refine lv_istore_n (pc := 55) (lv' := [(3, .int (nI (T.re i))), (0, .ref ((rd 0 0))), (1, .int (nI i)), (2, .int (nI ch))]) F.1 F.2.1 dX7_suppress_55 rfl hl (by decide) rfl (fun ls hl => ?_)
        refine lv_aload_n (pc := 56) F.1 F.2.1 dX7_suppress_56 rfl (lv_at hl 1 rfl) ?_
        refine mm_get (pc := 57) F hN ((show σ4 (rd 0 0) = mm_obj 1 7 [.ref ((rd 1 0)), .ref ((rd 2 0)), .ref ((rd 3 0)), .int (nI T.nA), .ref ((rd 4 0)), .ref ((rd 5 0)), .ref ((rd 6 0)), .int (nI T.nP), .ref ((rd 7 0)), .ref ((rd 8 0)), .ref ((rd 9 0)), .ref ((rd 10 0)), .ref ((rd 11 0)), .int (nI T.nT), .int (nI T.pa), .ref ((rd 12 0)), .int (nI T.bo), .ref ((rd 13 0)), .ref ((rd 14 0)), .ref ((rd 15 0)), .ref ((rd 16 0)), .ref ((rd 17 0)), .ref ((rd 18 0)), .ref ((rd 19 0)), .int (nI T.nR), .int (nI 0)] from mm_r0 (T := T) hM4)) (ci := 7) rfl 6 (by decide) mw_1185 rfl dX7_suppress_57 ?_
        refine lv_iload_n (pc := 60) F.1 F.2.1 dX7_suppress_60 rfl (lv_at hl 2 rfl) ?_
        refine lv_iload_n (pc := 61) F.1 F.2.1 dX7_suppress_61 rfl (lv_at hl 3 rfl) ?_
        refine mm_cast_ (pc := 62) F hN ((show σ4 (rd 6 0) = mm_ari 1 3 24 (fun i => nI (T.re i)) from mm_r6 (T := T) hM4)) (j := i) (rfl) (by omega) (by decide) (mm_narC (by omega)) dX7_suppress_62 (fun H locs hN => ?_)
        have hN : mm_N b D s (mm_u σ4 (rd 6 0) (mm_ari 1 3 24 (va_up (fun i => nI (T.re i)) i (nI ch)))) _ _ := hN
        obtain ⟨σ5, eσ5⟩ : ∃ q, q = mm_u σ4 (rd 6 0) (mm_ari 1 3 24 (va_up (fun i => nI (T.re i)) i (nI ch))) := ⟨_, rfl⟩
        rw [← eσ5] at hN
        have hM5 : mm_M σ5 (T.w 6 (mm_u2 (T 6) i 0 ch)) 0 rd := by rw [eσ5]; exact mm_Mw1 hM4 (k := 6) rfl mm_va1
        have hF5 : mm_Fr 1 σ σ5 := by rw [eσ5]; exact (hF4).tr (mm_Fr.u (mm_r6 hM4))
        refine lv_iload_n (pc := 63) F.1 F.2.1 dX7_suppress_63 rfl (lv_at hl 0 rfl) ?_
        exact mm_zret (pc := 64) F (ty := .char) hr hN (mm_narC wrei) (Or.inl ⟨by show mm_q_suppress T i ch = 0; unfold mm_q_suppress; (repeat' split) <;> omega, rfl, hM5, hF5⟩) (Nat.le_of_ble_eq_true rfl) (Nat.le_of_ble_eq_true rfl) dX7_suppress_64
      ·
        refine lv_iload_n (pc := 25) F.1 F.2.1 dX7_suppress_25 rfl (lv_at hl 2 rfl) ?_
        refine lv_bipush (pc := 26) (v := nI 111) F.1 F.2.1 dX7_suppress_26 (by decide) ?_
        refine mm_icmp_eq (pc := 28) F (x := ch) (y := 111) (tgt := 35) (by omega) (by omega) dX7_suppress_28 (by decide) (fun cz28 => ?_) (fun cz28 => ?_)
        ·
          refine lv_iconst (pc := 35) (v := nI 0) F.1 F.2.1 dX7_suppress_35 (by decide) ?_
          refine mm_put (pc := 36) F hN (mm_r0 hM) (ci := 7) rfl 25 (by decide) mw_1204 rfl (ty := .int) (by decide +kernel) (rfl) (rfl) (Nat.le_of_ble_eq_true rfl) dX7_suppress_36 (fun H locs hN => ?_)
          have hN : mm_N b D s (mm_u σ ((rd 0 0)) (mm_obj 1 7 [.ref ((rd 1 0)), .ref ((rd 2 0)), .ref ((rd 3 0)), .int (nI T.nA), .ref ((rd 4 0)), .ref ((rd 5 0)), .ref ((rd 6 0)), .int (nI T.nP), .ref ((rd 7 0)), .ref ((rd 8 0)), .ref ((rd 9 0)), .ref ((rd 10 0)), .ref ((rd 11 0)), .int (nI T.nT), .int (nI T.pa), .ref ((rd 12 0)), .int (nI T.bo), .ref ((rd 13 0)), .ref ((rd 14 0)), .ref ((rd 15 0)), .ref ((rd 16 0)), .ref ((rd 17 0)), .ref ((rd 18 0)), .ref ((rd 19 0)), .int (nI T.nR), .int (nI 0)])) _ _ := hN
          obtain ⟨σ6, eσ6⟩ : ∃ q, q = mm_u σ ((rd 0 0)) (mm_obj 1 7 [.ref ((rd 1 0)), .ref ((rd 2 0)), .ref ((rd 3 0)), .int (nI T.nA), .ref ((rd 4 0)), .ref ((rd 5 0)), .ref ((rd 6 0)), .int (nI T.nP), .ref ((rd 7 0)), .ref ((rd 8 0)), .ref ((rd 9 0)), .ref ((rd 10 0)), .ref ((rd 11 0)), .int (nI T.nT), .int (nI T.pa), .ref ((rd 12 0)), .int (nI T.bo), .ref ((rd 13 0)), .ref ((rd 14 0)), .ref ((rd 15 0)), .ref ((rd 16 0)), .ref ((rd 17 0)), .ref ((rd 18 0)), .ref ((rd 19 0)), .int (nI T.nR), .int (nI 0)]) := ⟨_, rfl⟩
          rw [← eσ6] at hN
          have hM6 : mm_M σ6 T 0 rd := by rw [eσ6]; exact mm_Mo hM (fun _ _ => rfl) rfl
          have hF6 : mm_Fr 1 σ σ6 := by rw [eσ6]; exact (mm_Fr.rf).tr (mm_Fr.u (mm_r0 hM))
          refine lv_aload_n (pc := 39) F.1 F.2.1 dX7_suppress_39 rfl (lv_at hl 0 rfl) ?_
          refine mm_get (pc := 40) F hN ((show σ6 (rd 0 0) = mm_obj 1 7 [.ref ((rd 1 0)), .ref ((rd 2 0)), .ref ((rd 3 0)), .int (nI T.nA), .ref ((rd 4 0)), .ref ((rd 5 0)), .ref ((rd 6 0)), .int (nI T.nP), .ref ((rd 7 0)), .ref ((rd 8 0)), .ref ((rd 9 0)), .ref ((rd 10 0)), .ref ((rd 11 0)), .int (nI T.nT), .int (nI T.pa), .ref ((rd 12 0)), .int (nI T.bo), .ref ((rd 13 0)), .ref ((rd 14 0)), .ref ((rd 15 0)), .ref ((rd 16 0)), .ref ((rd 17 0)), .ref ((rd 18 0)), .ref ((rd 19 0)), .int (nI T.nR), .int (nI 0)] from mm_r0 (T := T) hM6)) (ci := 7) rfl 25 (by decide) mw_1204 rfl dX7_suppress_40 ?_
          refine mm_if_le (pc := 43) F (tgt := 49) (by omega) dX7_suppress_43 (by decide) (fun cz43 => ?_) (fun h9 => absurd h9 (by decide))
          refine lv_aload_n (pc := 49) F.1 F.2.1 dX7_suppress_49 rfl (lv_at hl 0 rfl) ?_
          refine mm_get (pc := 50) F hN ((show σ6 (rd 0 0) = mm_obj 1 7 [.ref ((rd 1 0)), .ref ((rd 2 0)), .ref ((rd 3 0)), .int (nI T.nA), .ref ((rd 4 0)), .ref ((rd 5 0)), .ref ((rd 6 0)), .int (nI T.nP), .ref ((rd 7 0)), .ref ((rd 8 0)), .ref ((rd 9 0)), .ref ((rd 10 0)), .ref ((rd 11 0)), .int (nI T.nT), .int (nI T.pa), .ref ((rd 12 0)), .int (nI T.bo), .ref ((rd 13 0)), .ref ((rd 14 0)), .ref ((rd 15 0)), .ref ((rd 16 0)), .ref ((rd 17 0)), .ref ((rd 18 0)), .ref ((rd 19 0)), .int (nI T.nR), .int (nI 0)] from mm_r0 (T := T) hM6)) (ci := 7) rfl 6 (by decide) mw_1185 rfl dX7_suppress_50 ?_
          refine lv_iload_n (pc := 53) F.1 F.2.1 dX7_suppress_53 rfl (lv_at hl 1 rfl) ?_
          refine mm_cald (pc := 54) F hN ((show σ6 (rd 6 0) = mm_ari 1 3 24 (fun i => nI (T.re i)) from mm_r6 (T := T) hM6)) (j := i) (rfl) (by omega) (by decide) dX7_suppress_54 ?_
          refine lv_istore_n (pc := 55) (lv' := [(3, .int (nI (T.re i))), (0, .ref ((rd 0 0))), (1, .int (nI i)), (2, .int (nI ch))]) F.1 F.2.1 dX7_suppress_55 rfl hl (by decide) rfl (fun ls hl => ?_)
          refine lv_aload_n (pc := 56) F.1 F.2.1 dX7_suppress_56 rfl (lv_at hl 1 rfl) ?_
          refine mm_get (pc := 57) F hN ((show σ6 (rd 0 0) = mm_obj 1 7 [.ref ((rd 1 0)), .ref ((rd 2 0)), .ref ((rd 3 0)), .int (nI T.nA), .ref ((rd 4 0)), .ref ((rd 5 0)), .ref ((rd 6 0)), .int (nI T.nP), .ref ((rd 7 0)), .ref ((rd 8 0)), .ref ((rd 9 0)), .ref ((rd 10 0)), .ref ((rd 11 0)), .int (nI T.nT), .int (nI T.pa), .ref ((rd 12 0)), .int (nI T.bo), .ref ((rd 13 0)), .ref ((rd 14 0)), .ref ((rd 15 0)), .ref ((rd 16 0)), .ref ((rd 17 0)), .ref ((rd 18 0)), .ref ((rd 19 0)), .int (nI T.nR), .int (nI 0)] from mm_r0 (T := T) hM6)) (ci := 7) rfl 6 (by decide) mw_1185 rfl dX7_suppress_57 ?_
          refine lv_iload_n (pc := 60) F.1 F.2.1 dX7_suppress_60 rfl (lv_at hl 2 rfl) ?_
          refine lv_iload_n (pc := 61) F.1 F.2.1 dX7_suppress_61 rfl (lv_at hl 3 rfl) ?_
          refine mm_cast_ (pc := 62) F hN ((show σ6 (rd 6 0) = mm_ari 1 3 24 (fun i => nI (T.re i)) from mm_r6 (T := T) hM6)) (j := i) (rfl) (by omega) (by decide) (mm_narC (by omega)) dX7_suppress_62 (fun H locs hN => ?_)
          have hN : mm_N b D s (mm_u σ6 (rd 6 0) (mm_ari 1 3 24 (va_up (fun i => nI (T.re i)) i (nI ch)))) _ _ := hN
          obtain ⟨σ7, eσ7⟩ : ∃ q, q = mm_u σ6 (rd 6 0) (mm_ari 1 3 24 (va_up (fun i => nI (T.re i)) i (nI ch))) := ⟨_, rfl⟩
          rw [← eσ7] at hN
          have hM7 : mm_M σ7 (T.w 6 (mm_u2 (T 6) i 0 ch)) 0 rd := by rw [eσ7]; exact mm_Mw1 hM6 (k := 6) rfl mm_va1
          have hF7 : mm_Fr 1 σ σ7 := by rw [eσ7]; exact (hF6).tr (mm_Fr.u (mm_r6 hM6))
          refine lv_iload_n (pc := 63) F.1 F.2.1 dX7_suppress_63 rfl (lv_at hl 0 rfl) ?_
          exact mm_zret (pc := 64) F (ty := .char) hr hN (mm_narC wrei) (Or.inl ⟨by show mm_q_suppress T i ch = 0; unfold mm_q_suppress; (repeat' split) <;> omega, rfl, hM7, hF7⟩) (Nat.le_of_ble_eq_true rfl) (Nat.le_of_ble_eq_true rfl) dX7_suppress_64
        ·
          refine lv_iconst (pc := 31) (v := nI 2) F.1 F.2.1 dX7_suppress_31 (by decide) ?_
          refine lv_goto (pc := 32) (tgt := 36) F.1 F.2.1 dX7_suppress_32 (by decide) ?_
          refine mm_put (pc := 36) F hN (mm_r0 hM) (ci := 7) rfl 25 (by decide) mw_1204 rfl (ty := .int) (by decide +kernel) (rfl) (rfl) (Nat.le_of_ble_eq_true rfl) dX7_suppress_36 (fun H locs hN => ?_)
          have hN : mm_N b D s (mm_u σ ((rd 0 0)) (mm_obj 1 7 [.ref ((rd 1 0)), .ref ((rd 2 0)), .ref ((rd 3 0)), .int (nI T.nA), .ref ((rd 4 0)), .ref ((rd 5 0)), .ref ((rd 6 0)), .int (nI T.nP), .ref ((rd 7 0)), .ref ((rd 8 0)), .ref ((rd 9 0)), .ref ((rd 10 0)), .ref ((rd 11 0)), .int (nI T.nT), .int (nI T.pa), .ref ((rd 12 0)), .int (nI T.bo), .ref ((rd 13 0)), .ref ((rd 14 0)), .ref ((rd 15 0)), .ref ((rd 16 0)), .ref ((rd 17 0)), .ref ((rd 18 0)), .ref ((rd 19 0)), .int (nI T.nR), .int (nI 2)])) _ _ := hN
          obtain ⟨σ8, eσ8⟩ : ∃ q, q = mm_u σ ((rd 0 0)) (mm_obj 1 7 [.ref ((rd 1 0)), .ref ((rd 2 0)), .ref ((rd 3 0)), .int (nI T.nA), .ref ((rd 4 0)), .ref ((rd 5 0)), .ref ((rd 6 0)), .int (nI T.nP), .ref ((rd 7 0)), .ref ((rd 8 0)), .ref ((rd 9 0)), .ref ((rd 10 0)), .ref ((rd 11 0)), .int (nI T.nT), .int (nI T.pa), .ref ((rd 12 0)), .int (nI T.bo), .ref ((rd 13 0)), .ref ((rd 14 0)), .ref ((rd 15 0)), .ref ((rd 16 0)), .ref ((rd 17 0)), .ref ((rd 18 0)), .ref ((rd 19 0)), .int (nI T.nR), .int (nI 2)]) := ⟨_, rfl⟩
          rw [← eσ8] at hN
          have hM8 : mm_M σ8 T 2 rd := by rw [eσ8]; exact mm_Mo hM (fun _ _ => rfl) rfl
          have hF8 : mm_Fr 1 σ σ8 := by rw [eσ8]; exact (mm_Fr.rf).tr (mm_Fr.u (mm_r0 hM))
          refine lv_aload_n (pc := 39) F.1 F.2.1 dX7_suppress_39 rfl (lv_at hl 0 rfl) ?_
          refine mm_get (pc := 40) F hN ((show σ8 (rd 0 0) = mm_obj 1 7 [.ref ((rd 1 0)), .ref ((rd 2 0)), .ref ((rd 3 0)), .int (nI T.nA), .ref ((rd 4 0)), .ref ((rd 5 0)), .ref ((rd 6 0)), .int (nI T.nP), .ref ((rd 7 0)), .ref ((rd 8 0)), .ref ((rd 9 0)), .ref ((rd 10 0)), .ref ((rd 11 0)), .int (nI T.nT), .int (nI T.pa), .ref ((rd 12 0)), .int (nI T.bo), .ref ((rd 13 0)), .ref ((rd 14 0)), .ref ((rd 15 0)), .ref ((rd 16 0)), .ref ((rd 17 0)), .ref ((rd 18 0)), .ref ((rd 19 0)), .int (nI T.nR), .int (nI 2)] from mm_r0 (T := T) hM8)) (ci := 7) rfl 25 (by decide) mw_1204 rfl dX7_suppress_40 ?_
          refine mm_if_le (pc := 43) F (tgt := 49) (by omega) dX7_suppress_43 (by decide) (fun h9 => absurd h9 (by decide)) (fun cz43 => ?_)
          refine lv_bipush (pc := 46) (v := nI 45) F.1 F.2.1 dX7_suppress_46 (by decide) ?_
          exact mm_zret (pc := 48) F (ty := .char) hr hN (by decide) (Or.inr ⟨by rw [show mm_q_suppress T i ch = 2 from by show mm_q_suppress T i ch = 2; unfold mm_q_suppress; (repeat' split) <;> omega]; decide, ⟨_, rfl⟩, by rw [show mm_q_suppress T i ch = 2 from by show mm_q_suppress T i ch = 2; unfold mm_q_suppress; (repeat' split) <;> omega]; exact hM8, hF8⟩) (Nat.le_of_ble_eq_true rfl) (Nat.le_of_ble_eq_true rfl) dX7_suppress_48
  ·
    refine W.eq (g2 := F0 m 6 ls [.int (nI 0), .ref ((rd 0 0))]) (by rw [if_neg hpi]) ?_
    refine mm_if_ne (pc := 6) F (tgt := 13) (by omega) dX7_suppress_6 (by decide) (fun h9 => absurd h9 (by decide)) (fun cz6 => ?_)
    refine lv_iconst (pc := 9) (v := nI 1) F.1 F.2.1 dX7_suppress_9 (by decide) ?_
    refine lv_goto (pc := 10) (tgt := 36) F.1 F.2.1 dX7_suppress_10 (by decide) ?_
    refine mm_put (pc := 36) F hN (mm_r0 hM) (ci := 7) rfl 25 (by decide) mw_1204 rfl (ty := .int) (by decide +kernel) (rfl) (rfl) (Nat.le_of_ble_eq_true rfl) dX7_suppress_36 (fun H locs hN => ?_)
    have hN : mm_N b D s (mm_u σ ((rd 0 0)) (mm_obj 1 7 [.ref ((rd 1 0)), .ref ((rd 2 0)), .ref ((rd 3 0)), .int (nI T.nA), .ref ((rd 4 0)), .ref ((rd 5 0)), .ref ((rd 6 0)), .int (nI T.nP), .ref ((rd 7 0)), .ref ((rd 8 0)), .ref ((rd 9 0)), .ref ((rd 10 0)), .ref ((rd 11 0)), .int (nI T.nT), .int (nI T.pa), .ref ((rd 12 0)), .int (nI T.bo), .ref ((rd 13 0)), .ref ((rd 14 0)), .ref ((rd 15 0)), .ref ((rd 16 0)), .ref ((rd 17 0)), .ref ((rd 18 0)), .ref ((rd 19 0)), .int (nI T.nR), .int (nI 1)])) _ _ := hN
    obtain ⟨σ9, eσ9⟩ : ∃ q, q = mm_u σ ((rd 0 0)) (mm_obj 1 7 [.ref ((rd 1 0)), .ref ((rd 2 0)), .ref ((rd 3 0)), .int (nI T.nA), .ref ((rd 4 0)), .ref ((rd 5 0)), .ref ((rd 6 0)), .int (nI T.nP), .ref ((rd 7 0)), .ref ((rd 8 0)), .ref ((rd 9 0)), .ref ((rd 10 0)), .ref ((rd 11 0)), .int (nI T.nT), .int (nI T.pa), .ref ((rd 12 0)), .int (nI T.bo), .ref ((rd 13 0)), .ref ((rd 14 0)), .ref ((rd 15 0)), .ref ((rd 16 0)), .ref ((rd 17 0)), .ref ((rd 18 0)), .ref ((rd 19 0)), .int (nI T.nR), .int (nI 1)]) := ⟨_, rfl⟩
    rw [← eσ9] at hN
    have hM9 : mm_M σ9 T 1 rd := by rw [eσ9]; exact mm_Mo hM (fun _ _ => rfl) rfl
    have hF9 : mm_Fr 1 σ σ9 := by rw [eσ9]; exact (mm_Fr.rf).tr (mm_Fr.u (mm_r0 hM))
    refine lv_aload_n (pc := 39) F.1 F.2.1 dX7_suppress_39 rfl (lv_at hl 0 rfl) ?_
    refine mm_get (pc := 40) F hN ((show σ9 (rd 0 0) = mm_obj 1 7 [.ref ((rd 1 0)), .ref ((rd 2 0)), .ref ((rd 3 0)), .int (nI T.nA), .ref ((rd 4 0)), .ref ((rd 5 0)), .ref ((rd 6 0)), .int (nI T.nP), .ref ((rd 7 0)), .ref ((rd 8 0)), .ref ((rd 9 0)), .ref ((rd 10 0)), .ref ((rd 11 0)), .int (nI T.nT), .int (nI T.pa), .ref ((rd 12 0)), .int (nI T.bo), .ref ((rd 13 0)), .ref ((rd 14 0)), .ref ((rd 15 0)), .ref ((rd 16 0)), .ref ((rd 17 0)), .ref ((rd 18 0)), .ref ((rd 19 0)), .int (nI T.nR), .int (nI 1)] from mm_r0 (T := T) hM9)) (ci := 7) rfl 25 (by decide) mw_1204 rfl dX7_suppress_40 ?_
    refine mm_if_le (pc := 43) F (tgt := 49) (by omega) dX7_suppress_43 (by decide) (fun h9 => absurd h9 (by decide)) (fun cz43 => ?_)
    refine lv_bipush (pc := 46) (v := nI 45) F.1 F.2.1 dX7_suppress_46 (by decide) ?_
    exact mm_zret (pc := 48) F (ty := .char) hr hN (by decide) (Or.inr ⟨by rw [show mm_q_suppress T i ch = 1 from by show mm_q_suppress T i ch = 1; unfold mm_q_suppress; (repeat' split) <;> omega]; decide, ⟨_, rfl⟩, by rw [show mm_q_suppress T i ch = 1 from by show mm_q_suppress T i ch = 1; unfold mm_q_suppress; (repeat' split) <;> omega]; exact hM9, hF9⟩) (Nat.le_of_ble_eq_true rfl) (Nat.le_of_ble_eq_true rfl) dX7_suppress_48

set_option maxHeartbeats 4000000 in
set_option maxRecDepth 100000 in
theorem r_allow (l : Launch) (b : Nat) (D : mm_D) (hst : l.stackTraces = false) (T : mm_T) (th : Nat) (rd : Nat → Nat → Nat) (σ : mm_S) (hM : mm_M σ T th rd) (hW : mm_WF T) (i : Nat) (zi : i < 2 ^ 32) : mm_K l b D yX7_allow (.code yX7_allow cX7_allow 3 (some .char)) ({ frames := 6, cells := 0, slots := 0, locals := 160 } : Room) [.ref ((rd 0 0)), .int (nI i)] σ
    (fun v σ2 => mm_Mt rd σ σ2 T (T.w 6 (mm_u2 (T 6) i 0 45)) (mm_q_allow T i) v (some (.int (nI (T.re i)))))
    (fun _ _ => False) := by
  refine mm_of (cc := cX7_allow) (nL := 3) (ret := (some .char)) (by decide) rfl (Nat.le_of_ble_eq_true rfl) hst ?_
  intro p e s m args below meth c ls F ht hr hin hN hl
  have hl : lv_has ls 3 [(0, .ref ((rd 0 0))), (1, .int (nI i))] := hl
  have wnA := hW.hnA
  have wnP := hW.hnP
  have wnT := hW.hnT
  have wnR := hW.hnR
  have wpa := hW.hpa
  have wbo := hW.hbo
  have wen0 := hW.hen 0
  have wen1 := hW.hen 1
  refine lv_aload_n (pc := 0) F.1 F.2.1 dX7_allow_0 rfl (lv_at hl 0 rfl) ?_
  refine lv_aload_n (pc := 1) F.1 F.2.1 dX7_allow_1 rfl (lv_at hl 0 rfl) ?_
  refine lv_iload_n (pc := 2) F.1 F.2.1 dX7_allow_2 rfl (lv_at hl 1 rfl) ?_
  refine mm_runV (pc := 3) (As := [.int (nI i)]) (rest := [.ref ((rd 0 0))]) F hN (c_isPerson l b D hst T th rd σ hM hW i (by omega)) mw_1287 mw_1289 mw_p25 mw_6 mw_1290 ⟨pmX7_isPerson, (Nat.le_of_ble_eq_true rfl), (Nat.le_of_ble_eq_true rfl)⟩ (mm_recv F.2.2.2.2.2.1 hN (mm_r0 hM) rfl) hl.1 rfl (Nat.le_of_ble_eq_true rfl) ⟨(Nat.le_of_ble_eq_true rfl), (Nat.le_of_ble_eq_true rfl)⟩ dX7_allow_3
    (fun _ _ _ _ _ _ h9 => False.elim h9)
    (fun v9 σ9 H locs hp9 hN => ?_)
  obtain ⟨rfl, h9⟩ := hp9
  rw [h9] at hN
  refine W.eq (g2 := F0 m 6 ls [.int (nI (if i < T.nP then 1 else 0)), .ref ((rd 0 0))]) rfl ?_
  refine W.widen (k := 0) (n := 0) (Nat.le_of_ble_eq_true rfl) (Nat.le_of_ble_eq_true rfl) ?_
  by_cases hpi : i < T.nP
  ·
    refine W.eq (g2 := F0 m 6 ls [.int (nI 1), .ref ((rd 0 0))]) (by rw [if_pos hpi]) ?_
    obtain ⟨whoi, wfli, wrei⟩ := hW.hpe i hpi
    refine mm_if_ne (pc := 6) F (tgt := 13) (by omega) dX7_allow_6 (by decide) (fun cz6 => ?_) (fun h9 => absurd h9 (by decide))
    refine lv_aload_n (pc := 13) F.1 F.2.1 dX7_allow_13 rfl (lv_at hl 0 rfl) ?_
    refine mm_get (pc := 14) F hN (mm_r0 hM) (ci := 7) rfl 6 (by decide) mw_1185 rfl dX7_allow_14 ?_
    refine lv_iload_n (pc := 17) F.1 F.2.1 dX7_allow_17 rfl (lv_at hl 1 rfl) ?_
    refine mm_cald (pc := 18) F hN ((show σ (rd 6 0) = mm_ari 1 3 24 (fun i => nI (T.re i)) from mm_r6 (T := T) hM)) (j := i) (rfl) (by omega) (by decide) dX7_allow_18 ?_
    refine lv_bipush (pc := 19) (v := nI 45) F.1 F.2.1 dX7_allow_19 (by decide) ?_
    refine mm_icmp_eq (pc := 21) F (x := T.re i) (y := 45) (tgt := 35) (by omega) (by omega) dX7_allow_21 (by decide) (fun cz21 => ?_) (fun cz21 => ?_)
    ·
      refine lv_iconst (pc := 35) (v := nI 2) F.1 F.2.1 dX7_allow_35 (by decide) ?_
      refine lv_goto (pc := 36) (tgt := 40) F.1 F.2.1 dX7_allow_36 (by decide) ?_
      refine mm_put (pc := 40) F hN (mm_r0 hM) (ci := 7) rfl 25 (by decide) mw_1204 rfl (ty := .int) (by decide +kernel) (rfl) (rfl) (Nat.le_of_ble_eq_true rfl) dX7_allow_40 (fun H locs hN => ?_)
      have hN : mm_N b D s (mm_u σ ((rd 0 0)) (mm_obj 1 7 [.ref ((rd 1 0)), .ref ((rd 2 0)), .ref ((rd 3 0)), .int (nI T.nA), .ref ((rd 4 0)), .ref ((rd 5 0)), .ref ((rd 6 0)), .int (nI T.nP), .ref ((rd 7 0)), .ref ((rd 8 0)), .ref ((rd 9 0)), .ref ((rd 10 0)), .ref ((rd 11 0)), .int (nI T.nT), .int (nI T.pa), .ref ((rd 12 0)), .int (nI T.bo), .ref ((rd 13 0)), .ref ((rd 14 0)), .ref ((rd 15 0)), .ref ((rd 16 0)), .ref ((rd 17 0)), .ref ((rd 18 0)), .ref ((rd 19 0)), .int (nI T.nR), .int (nI 2)])) _ _ := hN
      obtain ⟨σ2, eσ2⟩ : ∃ q, q = mm_u σ ((rd 0 0)) (mm_obj 1 7 [.ref ((rd 1 0)), .ref ((rd 2 0)), .ref ((rd 3 0)), .int (nI T.nA), .ref ((rd 4 0)), .ref ((rd 5 0)), .ref ((rd 6 0)), .int (nI T.nP), .ref ((rd 7 0)), .ref ((rd 8 0)), .ref ((rd 9 0)), .ref ((rd 10 0)), .ref ((rd 11 0)), .int (nI T.nT), .int (nI T.pa), .ref ((rd 12 0)), .int (nI T.bo), .ref ((rd 13 0)), .ref ((rd 14 0)), .ref ((rd 15 0)), .ref ((rd 16 0)), .ref ((rd 17 0)), .ref ((rd 18 0)), .ref ((rd 19 0)), .int (nI T.nR), .int (nI 2)]) := ⟨_, rfl⟩
      rw [← eσ2] at hN
      have hM2 : mm_M σ2 T 2 rd := by rw [eσ2]; exact mm_Mo hM (fun _ _ => rfl) rfl
      have hF2 : mm_Fr 1 σ σ2 := by rw [eσ2]; exact (mm_Fr.rf).tr (mm_Fr.u (mm_r0 hM))
      refine lv_aload_n (pc := 43) F.1 F.2.1 dX7_allow_43 rfl (lv_at hl 0 rfl) ?_
      refine mm_get (pc := 44) F hN ((show σ2 (rd 0 0) = mm_obj 1 7 [.ref ((rd 1 0)), .ref ((rd 2 0)), .ref ((rd 3 0)), .int (nI T.nA), .ref ((rd 4 0)), .ref ((rd 5 0)), .ref ((rd 6 0)), .int (nI T.nP), .ref ((rd 7 0)), .ref ((rd 8 0)), .ref ((rd 9 0)), .ref ((rd 10 0)), .ref ((rd 11 0)), .int (nI T.nT), .int (nI T.pa), .ref ((rd 12 0)), .int (nI T.bo), .ref ((rd 13 0)), .ref ((rd 14 0)), .ref ((rd 15 0)), .ref ((rd 16 0)), .ref ((rd 17 0)), .ref ((rd 18 0)), .ref ((rd 19 0)), .int (nI T.nR), .int (nI 2)] from mm_r0 (T := T) hM2)) (ci := 7) rfl 25 (by decide) mw_1204 rfl dX7_allow_44 ?_
      refine mm_if_le (pc := 47) F (tgt := 53) (by omega) dX7_allow_47 (by decide) (fun h9 => absurd h9 (by decide)) (fun cz47 => ?_)
      refine lv_bipush (pc := 50) (v := nI 45) F.1 F.2.1 dX7_allow_50 (by decide) ?_
      exact mm_zret (pc := 52) F (ty := .char) hr hN (by decide) (Or.inr ⟨by rw [show mm_q_allow T i = 2 from by show mm_q_allow T i = 2; unfold mm_q_allow; (repeat' split) <;> omega]; decide, ⟨_, rfl⟩, by rw [show mm_q_allow T i = 2 from by show mm_q_allow T i = 2; unfold mm_q_allow; (repeat' split) <;> omega]; exact hM2, hF2⟩) (Nat.le_of_ble_eq_true rfl) (Nat.le_of_ble_eq_true rfl) dX7_allow_52
    ·
      refine lv_aload_n (pc := 24) F.1 F.2.1 dX7_allow_24 rfl (lv_at hl 0 rfl) ?_
      refine mm_get (pc := 25) F hN (mm_r0 hM) (ci := 7) rfl 6 (by decide) mw_1185 rfl dX7_allow_25 ?_
      refine lv_iload_n (pc := 28) F.1 F.2.1 dX7_allow_28 rfl (lv_at hl 1 rfl) ?_
      refine mm_cald (pc := 29) F hN ((show σ (rd 6 0) = mm_ari 1 3 24 (fun i => nI (T.re i)) from mm_r6 (T := T) hM)) (j := i) (rfl) (by omega) (by decide) dX7_allow_29 ?_
      refine lv_bipush (pc := 30) (v := nI 100) F.1 F.2.1 dX7_allow_30 (by decide) ?_
      refine mm_icmp_ne (pc := 32) F (x := T.re i) (y := 100) (tgt := 39) (by omega) (by omega) dX7_allow_32 (by decide) (fun cz32 => ?_) (fun cz32 => ?_)
      ·
        refine lv_iconst (pc := 39) (v := nI 0) F.1 F.2.1 dX7_allow_39 (by decide) ?_
        refine mm_put (pc := 40) F hN (mm_r0 hM) (ci := 7) rfl 25 (by decide) mw_1204 rfl (ty := .int) (by decide +kernel) (rfl) (rfl) (Nat.le_of_ble_eq_true rfl) dX7_allow_40 (fun H locs hN => ?_)
        have hN : mm_N b D s (mm_u σ ((rd 0 0)) (mm_obj 1 7 [.ref ((rd 1 0)), .ref ((rd 2 0)), .ref ((rd 3 0)), .int (nI T.nA), .ref ((rd 4 0)), .ref ((rd 5 0)), .ref ((rd 6 0)), .int (nI T.nP), .ref ((rd 7 0)), .ref ((rd 8 0)), .ref ((rd 9 0)), .ref ((rd 10 0)), .ref ((rd 11 0)), .int (nI T.nT), .int (nI T.pa), .ref ((rd 12 0)), .int (nI T.bo), .ref ((rd 13 0)), .ref ((rd 14 0)), .ref ((rd 15 0)), .ref ((rd 16 0)), .ref ((rd 17 0)), .ref ((rd 18 0)), .ref ((rd 19 0)), .int (nI T.nR), .int (nI 0)])) _ _ := hN
        obtain ⟨σ3, eσ3⟩ : ∃ q, q = mm_u σ ((rd 0 0)) (mm_obj 1 7 [.ref ((rd 1 0)), .ref ((rd 2 0)), .ref ((rd 3 0)), .int (nI T.nA), .ref ((rd 4 0)), .ref ((rd 5 0)), .ref ((rd 6 0)), .int (nI T.nP), .ref ((rd 7 0)), .ref ((rd 8 0)), .ref ((rd 9 0)), .ref ((rd 10 0)), .ref ((rd 11 0)), .int (nI T.nT), .int (nI T.pa), .ref ((rd 12 0)), .int (nI T.bo), .ref ((rd 13 0)), .ref ((rd 14 0)), .ref ((rd 15 0)), .ref ((rd 16 0)), .ref ((rd 17 0)), .ref ((rd 18 0)), .ref ((rd 19 0)), .int (nI T.nR), .int (nI 0)]) := ⟨_, rfl⟩
        rw [← eσ3] at hN
        have hM3 : mm_M σ3 T 0 rd := by rw [eσ3]; exact mm_Mo hM (fun _ _ => rfl) rfl
        have hF3 : mm_Fr 1 σ σ3 := by rw [eσ3]; exact (mm_Fr.rf).tr (mm_Fr.u (mm_r0 hM))
        refine lv_aload_n (pc := 43) F.1 F.2.1 dX7_allow_43 rfl (lv_at hl 0 rfl) ?_
        refine mm_get (pc := 44) F hN ((show σ3 (rd 0 0) = mm_obj 1 7 [.ref ((rd 1 0)), .ref ((rd 2 0)), .ref ((rd 3 0)), .int (nI T.nA), .ref ((rd 4 0)), .ref ((rd 5 0)), .ref ((rd 6 0)), .int (nI T.nP), .ref ((rd 7 0)), .ref ((rd 8 0)), .ref ((rd 9 0)), .ref ((rd 10 0)), .ref ((rd 11 0)), .int (nI T.nT), .int (nI T.pa), .ref ((rd 12 0)), .int (nI T.bo), .ref ((rd 13 0)), .ref ((rd 14 0)), .ref ((rd 15 0)), .ref ((rd 16 0)), .ref ((rd 17 0)), .ref ((rd 18 0)), .ref ((rd 19 0)), .int (nI T.nR), .int (nI 0)] from mm_r0 (T := T) hM3)) (ci := 7) rfl 25 (by decide) mw_1204 rfl dX7_allow_44 ?_
        refine mm_if_le (pc := 47) F (tgt := 53) (by omega) dX7_allow_47 (by decide) (fun cz47 => ?_) (fun h9 => absurd h9 (by decide))
        refine lv_aload_n (pc := 53) F.1 F.2.1 dX7_allow_53 rfl (lv_at hl 0 rfl) ?_
        refine mm_get (pc := 54) F hN ((show σ3 (rd 0 0) = mm_obj 1 7 [.ref ((rd 1 0)), .ref ((rd 2 0)), .ref ((rd 3 0)), .int (nI T.nA), .ref ((rd 4 0)), .ref ((rd 5 0)), .ref ((rd 6 0)), .int (nI T.nP), .ref ((rd 7 0)), .ref ((rd 8 0)), .ref ((rd 9 0)), .ref ((rd 10 0)), .ref ((rd 11 0)), .int (nI T.nT), .int (nI T.pa), .ref ((rd 12 0)), .int (nI T.bo), .ref ((rd 13 0)), .ref ((rd 14 0)), .ref ((rd 15 0)), .ref ((rd 16 0)), .ref ((rd 17 0)), .ref ((rd 18 0)), .ref ((rd 19 0)), .int (nI T.nR), .int (nI 0)] from mm_r0 (T := T) hM3)) (ci := 7) rfl 6 (by decide) mw_1185 rfl dX7_allow_54 ?_
        refine lv_iload_n (pc := 57) F.1 F.2.1 dX7_allow_57 rfl (lv_at hl 1 rfl) ?_
        refine mm_cald (pc := 58) F hN ((show σ3 (rd 6 0) = mm_ari 1 3 24 (fun i => nI (T.re i)) from mm_r6 (T := T) hM3)) (j := i) (rfl) (by omega) (by decide) dX7_allow_58 ?_
        refine lv_istore_n (pc := 59) (lv' := [(2, .int (nI (T.re i))), (0, .ref ((rd 0 0))), (1, .int (nI i))]) F.1 F.2.1 dX7_allow_59 rfl hl (by decide) rfl (fun ls hl => ?_)
        refine lv_aload_n (pc := 60) F.1 F.2.1 dX7_allow_60 rfl (lv_at hl 1 rfl) ?_
        refine mm_get (pc := 61) F hN ((show σ3 (rd 0 0) = mm_obj 1 7 [.ref ((rd 1 0)), .ref ((rd 2 0)), .ref ((rd 3 0)), .int (nI T.nA), .ref ((rd 4 0)), .ref ((rd 5 0)), .ref ((rd 6 0)), .int (nI T.nP), .ref ((rd 7 0)), .ref ((rd 8 0)), .ref ((rd 9 0)), .ref ((rd 10 0)), .ref ((rd 11 0)), .int (nI T.nT), .int (nI T.pa), .ref ((rd 12 0)), .int (nI T.bo), .ref ((rd 13 0)), .ref ((rd 14 0)), .ref ((rd 15 0)), .ref ((rd 16 0)), .ref ((rd 17 0)), .ref ((rd 18 0)), .ref ((rd 19 0)), .int (nI T.nR), .int (nI 0)] from mm_r0 (T := T) hM3)) (ci := 7) rfl 6 (by decide) mw_1185 rfl dX7_allow_61 ?_
        refine lv_iload_n (pc := 64) F.1 F.2.1 dX7_allow_64 rfl (lv_at hl 2 rfl) ?_
        refine lv_bipush (pc := 65) (v := nI 45) F.1 F.2.1 dX7_allow_65 (by decide) ?_
        refine mm_cast_ (pc := 67) F hN ((show σ3 (rd 6 0) = mm_ari 1 3 24 (fun i => nI (T.re i)) from mm_r6 (T := T) hM3)) (j := i) (rfl) (by omega) (by decide) (by decide) dX7_allow_67 (fun H locs hN => ?_)
        have hN : mm_N b D s (mm_u σ3 (rd 6 0) (mm_ari 1 3 24 (va_up (fun i => nI (T.re i)) i (nI 45)))) _ _ := hN
        obtain ⟨σ4, eσ4⟩ : ∃ q, q = mm_u σ3 (rd 6 0) (mm_ari 1 3 24 (va_up (fun i => nI (T.re i)) i (nI 45))) := ⟨_, rfl⟩
        rw [← eσ4] at hN
        have hM4 : mm_M σ4 (T.w 6 (mm_u2 (T 6) i 0 45)) 0 rd := by rw [eσ4]; exact mm_Mw1 hM3 (k := 6) rfl mm_va1
        have hF4 : mm_Fr 1 σ σ4 := by rw [eσ4]; exact (hF3).tr (mm_Fr.u (mm_r6 hM3))
        refine lv_iload_n (pc := 68) F.1 F.2.1 dX7_allow_68 rfl (lv_at hl 0 rfl) ?_
        exact mm_zret (pc := 69) F (ty := .char) hr hN (mm_narC wrei) (Or.inl ⟨by show mm_q_allow T i = 0; unfold mm_q_allow; (repeat' split) <;> omega, rfl, hM4, hF4⟩) (Nat.le_of_ble_eq_true rfl) (Nat.le_of_ble_eq_true rfl) dX7_allow_69
      ·
        refine lv_iconst (pc := 35) (v := nI 2) F.1 F.2.1 dX7_allow_35 (by decide) ?_
        refine lv_goto (pc := 36) (tgt := 40) F.1 F.2.1 dX7_allow_36 (by decide) ?_
        refine mm_put (pc := 40) F hN (mm_r0 hM) (ci := 7) rfl 25 (by decide) mw_1204 rfl (ty := .int) (by decide +kernel) (rfl) (rfl) (Nat.le_of_ble_eq_true rfl) dX7_allow_40 (fun H locs hN => ?_)
        have hN : mm_N b D s (mm_u σ ((rd 0 0)) (mm_obj 1 7 [.ref ((rd 1 0)), .ref ((rd 2 0)), .ref ((rd 3 0)), .int (nI T.nA), .ref ((rd 4 0)), .ref ((rd 5 0)), .ref ((rd 6 0)), .int (nI T.nP), .ref ((rd 7 0)), .ref ((rd 8 0)), .ref ((rd 9 0)), .ref ((rd 10 0)), .ref ((rd 11 0)), .int (nI T.nT), .int (nI T.pa), .ref ((rd 12 0)), .int (nI T.bo), .ref ((rd 13 0)), .ref ((rd 14 0)), .ref ((rd 15 0)), .ref ((rd 16 0)), .ref ((rd 17 0)), .ref ((rd 18 0)), .ref ((rd 19 0)), .int (nI T.nR), .int (nI 2)])) _ _ := hN
        obtain ⟨σ5, eσ5⟩ : ∃ q, q = mm_u σ ((rd 0 0)) (mm_obj 1 7 [.ref ((rd 1 0)), .ref ((rd 2 0)), .ref ((rd 3 0)), .int (nI T.nA), .ref ((rd 4 0)), .ref ((rd 5 0)), .ref ((rd 6 0)), .int (nI T.nP), .ref ((rd 7 0)), .ref ((rd 8 0)), .ref ((rd 9 0)), .ref ((rd 10 0)), .ref ((rd 11 0)), .int (nI T.nT), .int (nI T.pa), .ref ((rd 12 0)), .int (nI T.bo), .ref ((rd 13 0)), .ref ((rd 14 0)), .ref ((rd 15 0)), .ref ((rd 16 0)), .ref ((rd 17 0)), .ref ((rd 18 0)), .ref ((rd 19 0)), .int (nI T.nR), .int (nI 2)]) := ⟨_, rfl⟩
        rw [← eσ5] at hN
        have hM5 : mm_M σ5 T 2 rd := by rw [eσ5]; exact mm_Mo hM (fun _ _ => rfl) rfl
        have hF5 : mm_Fr 1 σ σ5 := by rw [eσ5]; exact (mm_Fr.rf).tr (mm_Fr.u (mm_r0 hM))
        refine lv_aload_n (pc := 43) F.1 F.2.1 dX7_allow_43 rfl (lv_at hl 0 rfl) ?_
        refine mm_get (pc := 44) F hN ((show σ5 (rd 0 0) = mm_obj 1 7 [.ref ((rd 1 0)), .ref ((rd 2 0)), .ref ((rd 3 0)), .int (nI T.nA), .ref ((rd 4 0)), .ref ((rd 5 0)), .ref ((rd 6 0)), .int (nI T.nP), .ref ((rd 7 0)), .ref ((rd 8 0)), .ref ((rd 9 0)), .ref ((rd 10 0)), .ref ((rd 11 0)), .int (nI T.nT), .int (nI T.pa), .ref ((rd 12 0)), .int (nI T.bo), .ref ((rd 13 0)), .ref ((rd 14 0)), .ref ((rd 15 0)), .ref ((rd 16 0)), .ref ((rd 17 0)), .ref ((rd 18 0)), .ref ((rd 19 0)), .int (nI T.nR), .int (nI 2)] from mm_r0 (T := T) hM5)) (ci := 7) rfl 25 (by decide) mw_1204 rfl dX7_allow_44 ?_
        refine mm_if_le (pc := 47) F (tgt := 53) (by omega) dX7_allow_47 (by decide) (fun h9 => absurd h9 (by decide)) (fun cz47 => ?_)
        refine lv_bipush (pc := 50) (v := nI 45) F.1 F.2.1 dX7_allow_50 (by decide) ?_
        exact mm_zret (pc := 52) F (ty := .char) hr hN (by decide) (Or.inr ⟨by rw [show mm_q_allow T i = 2 from by show mm_q_allow T i = 2; unfold mm_q_allow; (repeat' split) <;> omega]; decide, ⟨_, rfl⟩, by rw [show mm_q_allow T i = 2 from by show mm_q_allow T i = 2; unfold mm_q_allow; (repeat' split) <;> omega]; exact hM5, hF5⟩) (Nat.le_of_ble_eq_true rfl) (Nat.le_of_ble_eq_true rfl) dX7_allow_52
  ·
    refine W.eq (g2 := F0 m 6 ls [.int (nI 0), .ref ((rd 0 0))]) (by rw [if_neg hpi]) ?_
    refine mm_if_ne (pc := 6) F (tgt := 13) (by omega) dX7_allow_6 (by decide) (fun h9 => absurd h9 (by decide)) (fun cz6 => ?_)
    refine lv_iconst (pc := 9) (v := nI 1) F.1 F.2.1 dX7_allow_9 (by decide) ?_
    refine lv_goto (pc := 10) (tgt := 40) F.1 F.2.1 dX7_allow_10 (by decide) ?_
    refine mm_put (pc := 40) F hN (mm_r0 hM) (ci := 7) rfl 25 (by decide) mw_1204 rfl (ty := .int) (by decide +kernel) (rfl) (rfl) (Nat.le_of_ble_eq_true rfl) dX7_allow_40 (fun H locs hN => ?_)
    have hN : mm_N b D s (mm_u σ ((rd 0 0)) (mm_obj 1 7 [.ref ((rd 1 0)), .ref ((rd 2 0)), .ref ((rd 3 0)), .int (nI T.nA), .ref ((rd 4 0)), .ref ((rd 5 0)), .ref ((rd 6 0)), .int (nI T.nP), .ref ((rd 7 0)), .ref ((rd 8 0)), .ref ((rd 9 0)), .ref ((rd 10 0)), .ref ((rd 11 0)), .int (nI T.nT), .int (nI T.pa), .ref ((rd 12 0)), .int (nI T.bo), .ref ((rd 13 0)), .ref ((rd 14 0)), .ref ((rd 15 0)), .ref ((rd 16 0)), .ref ((rd 17 0)), .ref ((rd 18 0)), .ref ((rd 19 0)), .int (nI T.nR), .int (nI 1)])) _ _ := hN
    obtain ⟨σ6, eσ6⟩ : ∃ q, q = mm_u σ ((rd 0 0)) (mm_obj 1 7 [.ref ((rd 1 0)), .ref ((rd 2 0)), .ref ((rd 3 0)), .int (nI T.nA), .ref ((rd 4 0)), .ref ((rd 5 0)), .ref ((rd 6 0)), .int (nI T.nP), .ref ((rd 7 0)), .ref ((rd 8 0)), .ref ((rd 9 0)), .ref ((rd 10 0)), .ref ((rd 11 0)), .int (nI T.nT), .int (nI T.pa), .ref ((rd 12 0)), .int (nI T.bo), .ref ((rd 13 0)), .ref ((rd 14 0)), .ref ((rd 15 0)), .ref ((rd 16 0)), .ref ((rd 17 0)), .ref ((rd 18 0)), .ref ((rd 19 0)), .int (nI T.nR), .int (nI 1)]) := ⟨_, rfl⟩
    rw [← eσ6] at hN
    have hM6 : mm_M σ6 T 1 rd := by rw [eσ6]; exact mm_Mo hM (fun _ _ => rfl) rfl
    have hF6 : mm_Fr 1 σ σ6 := by rw [eσ6]; exact (mm_Fr.rf).tr (mm_Fr.u (mm_r0 hM))
    refine lv_aload_n (pc := 43) F.1 F.2.1 dX7_allow_43 rfl (lv_at hl 0 rfl) ?_
    refine mm_get (pc := 44) F hN ((show σ6 (rd 0 0) = mm_obj 1 7 [.ref ((rd 1 0)), .ref ((rd 2 0)), .ref ((rd 3 0)), .int (nI T.nA), .ref ((rd 4 0)), .ref ((rd 5 0)), .ref ((rd 6 0)), .int (nI T.nP), .ref ((rd 7 0)), .ref ((rd 8 0)), .ref ((rd 9 0)), .ref ((rd 10 0)), .ref ((rd 11 0)), .int (nI T.nT), .int (nI T.pa), .ref ((rd 12 0)), .int (nI T.bo), .ref ((rd 13 0)), .ref ((rd 14 0)), .ref ((rd 15 0)), .ref ((rd 16 0)), .ref ((rd 17 0)), .ref ((rd 18 0)), .ref ((rd 19 0)), .int (nI T.nR), .int (nI 1)] from mm_r0 (T := T) hM6)) (ci := 7) rfl 25 (by decide) mw_1204 rfl dX7_allow_44 ?_
    refine mm_if_le (pc := 47) F (tgt := 53) (by omega) dX7_allow_47 (by decide) (fun h9 => absurd h9 (by decide)) (fun cz47 => ?_)
    refine lv_bipush (pc := 50) (v := nI 45) F.1 F.2.1 dX7_allow_50 (by decide) ?_
    exact mm_zret (pc := 52) F (ty := .char) hr hN (by decide) (Or.inr ⟨by rw [show mm_q_allow T i = 1 from by show mm_q_allow T i = 1; unfold mm_q_allow; (repeat' split) <;> omega]; decide, ⟨_, rfl⟩, by rw [show mm_q_allow T i = 1 from by show mm_q_allow T i = 1; unfold mm_q_allow; (repeat' split) <;> omega]; exact hM6, hF6⟩) (Nat.le_of_ble_eq_true rfl) (Nat.le_of_ble_eq_true rfl) dX7_allow_52

set_option maxHeartbeats 4000000 in
set_option maxRecDepth 100000 in
theorem r_addTemplate (l : Launch) (b : Nat) (D : mm_D) (hst : l.stackTraces = false) (T : mm_T) (th : Nat) (rd : Nat → Nat → Nat) (σ : mm_S) (hM : mm_M σ T th rd) (hW : mm_WF T) : mm_K l b D yX7_addTemplate (.code yX7_addTemplate cX7_addTemplate 1 (some .int)) ({ frames := 6, cells := 0, slots := 0, locals := 160 } : Room) [.ref ((rd 0 0))] σ
    (fun v σ2 => mm_Mt rd σ σ2 T (mm_t_addTemplate T) (mm_q_addTemplate T) v (some (.int (nI (T.nT)))))
    (fun _ _ => False) := by
  refine mm_of (cc := cX7_addTemplate) (nL := 1) (ret := (some .int)) (by decide) rfl (Nat.le_of_ble_eq_true rfl) hst ?_
  intro p e s m args below meth c ls F ht hr hin hN hl
  have hl : lv_has ls 1 [(0, .ref ((rd 0 0)))] := hl
  have wnA := hW.hnA
  have wnP := hW.hnP
  have wnT := hW.hnT
  have wnR := hW.hnR
  have wpa := hW.hpa
  have wbo := hW.hbo
  have wen0 := hW.hen 0
  have wen1 := hW.hen 1
  refine lv_aload_n (pc := 0) F.1 F.2.1 dX7_addTemplate_0 rfl (lv_at hl 0 rfl) ?_
  refine lv_aload_n (pc := 1) F.1 F.2.1 dX7_addTemplate_1 rfl (lv_at hl 0 rfl) ?_
  refine mm_get (pc := 2) F hN (mm_r0 hM) (ci := 7) rfl 13 (by decide) mw_1192 rfl dX7_addTemplate_2 ?_
  refine lv_iconst (pc := 5) (v := nI 4) F.1 F.2.1 dX7_addTemplate_5 (by decide) ?_
  refine mm_icmp_ne (pc := 6) F (x := T.nT) (y := 4) (tgt := 13) (by omega) (by omega) dX7_addTemplate_6 (by decide) (fun cz6 => ?_) (fun cz6 => ?_)
  ·
    refine lv_iconst (pc := 13) (v := nI 0) F.1 F.2.1 dX7_addTemplate_13 (by decide) ?_
    refine mm_put (pc := 14) F hN (mm_r0 hM) (ci := 7) rfl 25 (by decide) mw_1204 rfl (ty := .int) (by decide +kernel) (rfl) (rfl) (Nat.le_of_ble_eq_true rfl) dX7_addTemplate_14 (fun H locs hN => ?_)
    have hN : mm_N b D s (mm_u σ ((rd 0 0)) (mm_obj 1 7 [.ref ((rd 1 0)), .ref ((rd 2 0)), .ref ((rd 3 0)), .int (nI T.nA), .ref ((rd 4 0)), .ref ((rd 5 0)), .ref ((rd 6 0)), .int (nI T.nP), .ref ((rd 7 0)), .ref ((rd 8 0)), .ref ((rd 9 0)), .ref ((rd 10 0)), .ref ((rd 11 0)), .int (nI T.nT), .int (nI T.pa), .ref ((rd 12 0)), .int (nI T.bo), .ref ((rd 13 0)), .ref ((rd 14 0)), .ref ((rd 15 0)), .ref ((rd 16 0)), .ref ((rd 17 0)), .ref ((rd 18 0)), .ref ((rd 19 0)), .int (nI T.nR), .int (nI 0)])) _ _ := hN
    obtain ⟨σ2, eσ2⟩ : ∃ q, q = mm_u σ ((rd 0 0)) (mm_obj 1 7 [.ref ((rd 1 0)), .ref ((rd 2 0)), .ref ((rd 3 0)), .int (nI T.nA), .ref ((rd 4 0)), .ref ((rd 5 0)), .ref ((rd 6 0)), .int (nI T.nP), .ref ((rd 7 0)), .ref ((rd 8 0)), .ref ((rd 9 0)), .ref ((rd 10 0)), .ref ((rd 11 0)), .int (nI T.nT), .int (nI T.pa), .ref ((rd 12 0)), .int (nI T.bo), .ref ((rd 13 0)), .ref ((rd 14 0)), .ref ((rd 15 0)), .ref ((rd 16 0)), .ref ((rd 17 0)), .ref ((rd 18 0)), .ref ((rd 19 0)), .int (nI T.nR), .int (nI 0)]) := ⟨_, rfl⟩
    rw [← eσ2] at hN
    have hM2 : mm_M σ2 T 0 rd := by rw [eσ2]; exact mm_Mo hM (fun _ _ => rfl) rfl
    have hF2 : mm_Fr 1 σ σ2 := by rw [eσ2]; exact (mm_Fr.rf).tr (mm_Fr.u (mm_r0 hM))
    refine lv_aload_n (pc := 17) F.1 F.2.1 dX7_addTemplate_17 rfl (lv_at hl 0 rfl) ?_
    refine mm_get (pc := 18) F hN ((show σ2 (rd 0 0) = mm_obj 1 7 [.ref ((rd 1 0)), .ref ((rd 2 0)), .ref ((rd 3 0)), .int (nI T.nA), .ref ((rd 4 0)), .ref ((rd 5 0)), .ref ((rd 6 0)), .int (nI T.nP), .ref ((rd 7 0)), .ref ((rd 8 0)), .ref ((rd 9 0)), .ref ((rd 10 0)), .ref ((rd 11 0)), .int (nI T.nT), .int (nI T.pa), .ref ((rd 12 0)), .int (nI T.bo), .ref ((rd 13 0)), .ref ((rd 14 0)), .ref ((rd 15 0)), .ref ((rd 16 0)), .ref ((rd 17 0)), .ref ((rd 18 0)), .ref ((rd 19 0)), .int (nI T.nR), .int (nI 0)] from mm_r0 (T := T) hM2)) (ci := 7) rfl 25 (by decide) mw_1204 rfl dX7_addTemplate_18 ?_
    refine mm_if_le (pc := 21) F (tgt := 26) (by omega) dX7_addTemplate_21 (by decide) (fun cz21 => ?_) (fun h9 => absurd h9 (by decide))
    refine lv_aload_n (pc := 26) F.1 F.2.1 dX7_addTemplate_26 rfl (lv_at hl 0 rfl) ?_
    refine lv_dup (pc := 27) F.1 F.2.1 dX7_addTemplate_27 rfl ?_
    refine mm_get (pc := 28) F hN ((show σ2 (rd 0 0) = mm_obj 1 7 [.ref ((rd 1 0)), .ref ((rd 2 0)), .ref ((rd 3 0)), .int (nI T.nA), .ref ((rd 4 0)), .ref ((rd 5 0)), .ref ((rd 6 0)), .int (nI T.nP), .ref ((rd 7 0)), .ref ((rd 8 0)), .ref ((rd 9 0)), .ref ((rd 10 0)), .ref ((rd 11 0)), .int (nI T.nT), .int (nI T.pa), .ref ((rd 12 0)), .int (nI T.bo), .ref ((rd 13 0)), .ref ((rd 14 0)), .ref ((rd 15 0)), .ref ((rd 16 0)), .ref ((rd 17 0)), .ref ((rd 18 0)), .ref ((rd 19 0)), .int (nI T.nR), .int (nI 0)] from mm_r0 (T := T) hM2)) (ci := 7) rfl 13 (by decide) mw_1192 rfl dX7_addTemplate_28 ?_
    refine lv_iconst (pc := 31) (v := nI 1) F.1 F.2.1 dX7_addTemplate_31 (by decide) ?_
    refine mm_iadd (pc := 32) F (z := nI (T.nT + 1)) (nI_add _ _) dX7_addTemplate_32 ?_
    refine mm_put (pc := 33) F hN ((show σ2 (rd 0 0) = mm_obj 1 7 [.ref ((rd 1 0)), .ref ((rd 2 0)), .ref ((rd 3 0)), .int (nI T.nA), .ref ((rd 4 0)), .ref ((rd 5 0)), .ref ((rd 6 0)), .int (nI T.nP), .ref ((rd 7 0)), .ref ((rd 8 0)), .ref ((rd 9 0)), .ref ((rd 10 0)), .ref ((rd 11 0)), .int (nI T.nT), .int (nI T.pa), .ref ((rd 12 0)), .int (nI T.bo), .ref ((rd 13 0)), .ref ((rd 14 0)), .ref ((rd 15 0)), .ref ((rd 16 0)), .ref ((rd 17 0)), .ref ((rd 18 0)), .ref ((rd 19 0)), .int (nI T.nR), .int (nI 0)] from mm_r0 (T := T) hM2)) (ci := 7) rfl 13 (by decide) mw_1192 rfl (ty := .int) (by decide +kernel) (rfl) (rfl) (Nat.le_of_ble_eq_true rfl) dX7_addTemplate_33 (fun H locs hN => ?_)
    have hN : mm_N b D s (mm_u σ2 ((rd 0 0)) (mm_obj 1 7 [.ref ((rd 1 0)), .ref ((rd 2 0)), .ref ((rd 3 0)), .int (nI T.nA), .ref ((rd 4 0)), .ref ((rd 5 0)), .ref ((rd 6 0)), .int (nI T.nP), .ref ((rd 7 0)), .ref ((rd 8 0)), .ref ((rd 9 0)), .ref ((rd 10 0)), .ref ((rd 11 0)), .int (nI (T.nT + 1)), .int (nI T.pa), .ref ((rd 12 0)), .int (nI T.bo), .ref ((rd 13 0)), .ref ((rd 14 0)), .ref ((rd 15 0)), .ref ((rd 16 0)), .ref ((rd 17 0)), .ref ((rd 18 0)), .ref ((rd 19 0)), .int (nI T.nR), .int (nI 0)])) _ _ := hN
    obtain ⟨σ3, eσ3⟩ : ∃ q, q = mm_u σ2 ((rd 0 0)) (mm_obj 1 7 [.ref ((rd 1 0)), .ref ((rd 2 0)), .ref ((rd 3 0)), .int (nI T.nA), .ref ((rd 4 0)), .ref ((rd 5 0)), .ref ((rd 6 0)), .int (nI T.nP), .ref ((rd 7 0)), .ref ((rd 8 0)), .ref ((rd 9 0)), .ref ((rd 10 0)), .ref ((rd 11 0)), .int (nI (T.nT + 1)), .int (nI T.pa), .ref ((rd 12 0)), .int (nI T.bo), .ref ((rd 13 0)), .ref ((rd 14 0)), .ref ((rd 15 0)), .ref ((rd 16 0)), .ref ((rd 17 0)), .ref ((rd 18 0)), .ref ((rd 19 0)), .int (nI T.nR), .int (nI 0)]) := ⟨_, rfl⟩
    rw [← eσ3] at hN
    have hM3 : mm_M σ3 (T.w 0 (mm_u2 (T 0) 2 0 (T.nT + 1))) 0 rd := by rw [eσ3]; exact mm_Mo hM2 (fun k hk => mm_T.wo hk) rfl
    have hF3 : mm_Fr 1 σ σ3 := by rw [eσ3]; exact (hF2).tr (mm_Fr.u (mm_r0 hM2))
    refine lv_aload_n (pc := 36) F.1 F.2.1 dX7_addTemplate_36 rfl (lv_at hl 0 rfl) ?_
    refine mm_get (pc := 37) F hN ((show σ3 (rd 0 0) = mm_obj 1 7 [.ref ((rd 1 0)), .ref ((rd 2 0)), .ref ((rd 3 0)), .int (nI T.nA), .ref ((rd 4 0)), .ref ((rd 5 0)), .ref ((rd 6 0)), .int (nI T.nP), .ref ((rd 7 0)), .ref ((rd 8 0)), .ref ((rd 9 0)), .ref ((rd 10 0)), .ref ((rd 11 0)), .int (nI (T.nT + 1)), .int (nI T.pa), .ref ((rd 12 0)), .int (nI T.bo), .ref ((rd 13 0)), .ref ((rd 14 0)), .ref ((rd 15 0)), .ref ((rd 16 0)), .ref ((rd 17 0)), .ref ((rd 18 0)), .ref ((rd 19 0)), .int (nI T.nR), .int (nI 0)] from mm_r0 (T := (T.w 0 (mm_u2 (T 0) 2 0 (T.nT + 1)))) hM3)) (ci := 7) rfl 13 (by decide) mw_1192 rfl dX7_addTemplate_37 ?_
    refine lv_iconst (pc := 40) (v := nI 1) F.1 F.2.1 dX7_addTemplate_40 (by decide) ?_
    refine mm_isub (pc := 41) F (z := nI ((T.nT + 1) - 1)) (pk_sub (by omega)) dX7_addTemplate_41 ?_
    exact mm_iret (pc := 42) F hr hN (Or.inl ⟨by show mm_q_addTemplate T = 0; unfold mm_q_addTemplate; (repeat' split) <;> omega, by rw [Nat.add_sub_cancel], mm_M_cg hM3 (fun _ _ => rfl) rfl, hF3⟩) (Nat.le_of_ble_eq_true rfl) (Nat.le_of_ble_eq_true rfl) dX7_addTemplate_42
  ·
    refine lv_iconst (pc := 9) (v := nI 1) F.1 F.2.1 dX7_addTemplate_9 (by decide) ?_
    refine lv_goto (pc := 10) (tgt := 14) F.1 F.2.1 dX7_addTemplate_10 (by decide) ?_
    refine mm_put (pc := 14) F hN (mm_r0 hM) (ci := 7) rfl 25 (by decide) mw_1204 rfl (ty := .int) (by decide +kernel) (rfl) (rfl) (Nat.le_of_ble_eq_true rfl) dX7_addTemplate_14 (fun H locs hN => ?_)
    have hN : mm_N b D s (mm_u σ ((rd 0 0)) (mm_obj 1 7 [.ref ((rd 1 0)), .ref ((rd 2 0)), .ref ((rd 3 0)), .int (nI T.nA), .ref ((rd 4 0)), .ref ((rd 5 0)), .ref ((rd 6 0)), .int (nI T.nP), .ref ((rd 7 0)), .ref ((rd 8 0)), .ref ((rd 9 0)), .ref ((rd 10 0)), .ref ((rd 11 0)), .int (nI T.nT), .int (nI T.pa), .ref ((rd 12 0)), .int (nI T.bo), .ref ((rd 13 0)), .ref ((rd 14 0)), .ref ((rd 15 0)), .ref ((rd 16 0)), .ref ((rd 17 0)), .ref ((rd 18 0)), .ref ((rd 19 0)), .int (nI T.nR), .int (nI 1)])) _ _ := hN
    obtain ⟨σ4, eσ4⟩ : ∃ q, q = mm_u σ ((rd 0 0)) (mm_obj 1 7 [.ref ((rd 1 0)), .ref ((rd 2 0)), .ref ((rd 3 0)), .int (nI T.nA), .ref ((rd 4 0)), .ref ((rd 5 0)), .ref ((rd 6 0)), .int (nI T.nP), .ref ((rd 7 0)), .ref ((rd 8 0)), .ref ((rd 9 0)), .ref ((rd 10 0)), .ref ((rd 11 0)), .int (nI T.nT), .int (nI T.pa), .ref ((rd 12 0)), .int (nI T.bo), .ref ((rd 13 0)), .ref ((rd 14 0)), .ref ((rd 15 0)), .ref ((rd 16 0)), .ref ((rd 17 0)), .ref ((rd 18 0)), .ref ((rd 19 0)), .int (nI T.nR), .int (nI 1)]) := ⟨_, rfl⟩
    rw [← eσ4] at hN
    have hM4 : mm_M σ4 T 1 rd := by rw [eσ4]; exact mm_Mo hM (fun _ _ => rfl) rfl
    have hF4 : mm_Fr 1 σ σ4 := by rw [eσ4]; exact (mm_Fr.rf).tr (mm_Fr.u (mm_r0 hM))
    refine lv_aload_n (pc := 17) F.1 F.2.1 dX7_addTemplate_17 rfl (lv_at hl 0 rfl) ?_
    refine mm_get (pc := 18) F hN ((show σ4 (rd 0 0) = mm_obj 1 7 [.ref ((rd 1 0)), .ref ((rd 2 0)), .ref ((rd 3 0)), .int (nI T.nA), .ref ((rd 4 0)), .ref ((rd 5 0)), .ref ((rd 6 0)), .int (nI T.nP), .ref ((rd 7 0)), .ref ((rd 8 0)), .ref ((rd 9 0)), .ref ((rd 10 0)), .ref ((rd 11 0)), .int (nI T.nT), .int (nI T.pa), .ref ((rd 12 0)), .int (nI T.bo), .ref ((rd 13 0)), .ref ((rd 14 0)), .ref ((rd 15 0)), .ref ((rd 16 0)), .ref ((rd 17 0)), .ref ((rd 18 0)), .ref ((rd 19 0)), .int (nI T.nR), .int (nI 1)] from mm_r0 (T := T) hM4)) (ci := 7) rfl 25 (by decide) mw_1204 rfl dX7_addTemplate_18 ?_
    refine mm_if_le (pc := 21) F (tgt := 26) (by omega) dX7_addTemplate_21 (by decide) (fun h9 => absurd h9 (by decide)) (fun cz21 => ?_)
    refine lv_iconst (pc := 24) (v := nI 0) F.1 F.2.1 dX7_addTemplate_24 (by decide) ?_
    exact mm_iret (pc := 25) F hr hN (Or.inr ⟨by rw [show mm_q_addTemplate T = 1 from by show mm_q_addTemplate T = 1; unfold mm_q_addTemplate; (repeat' split) <;> omega]; decide, ⟨_, rfl⟩, by rw [show mm_q_addTemplate T = 1 from by show mm_q_addTemplate T = 1; unfold mm_q_addTemplate; (repeat' split) <;> omega]; exact hM4, hF4⟩) (Nat.le_of_ble_eq_true rfl) (Nat.le_of_ble_eq_true rfl) dX7_addTemplate_25

set_option maxHeartbeats 4000000 in
set_option maxRecDepth 100000 in
theorem r_addPart (l : Launch) (b : Nat) (D : mm_D) (hst : l.stackTraces = false) (T : mm_T) (th : Nat) (rd : Nat → Nat → Nat) (σ : mm_S) (hM : mm_M σ T th rd) (hW : mm_WF T) (t : Nat) (zt : t < 2 ^ 32) (ln : Nat) (zln : ln < 2 ^ 32) (ne : Nat) (zne : ne < 2 ^ 32) (fo : Nat) (zfo : fo < 2 ^ 32) : mm_K l b D yX7_addPart (.code yX7_addPart cX7_addPart 6 (some .int)) ({ frames := 6, cells := 0, slots := 0, locals := 160 } : Room) [.ref ((rd 0 0)), .int (nI t), .int (nI ln), .int (nI ne), .int (nI fo)] σ
    (fun v σ2 => mm_Mt rd σ σ2 T (mm_t_addPart T t ln ne fo) (mm_q_addPart T t ln ne fo) v (some (.int (nI (T.pc t + 1)))))
    (fun _ _ => False) := by
  refine mm_of (cc := cX7_addPart) (nL := 6) (ret := (some .int)) (by decide) rfl (Nat.le_of_ble_eq_true rfl) hst ?_
  intro p e s m args below meth c ls F ht hr hin hN hl
  have hl : lv_has ls 6 [(0, .ref ((rd 0 0))), (1, .int (nI t)), (2, .int (nI ln)), (3, .int (nI ne)), (4, .int (nI fo))] := hl
  have wnA := hW.hnA
  have wnP := hW.hnP
  have wnT := hW.hnT
  have wnR := hW.hnR
  have wpa := hW.hpa
  have wbo := hW.hbo
  have wen0 := hW.hen 0
  have wen1 := hW.hen 1
  refine lv_iload_n (pc := 0) F.1 F.2.1 dX7_addPart_0 rfl (lv_at hl 2 rfl) ?_
  refine lv_iconst (pc := 1) (v := nI 1) F.1 F.2.1 dX7_addPart_1 (by decide) ?_
  refine lv_bipush (pc := 2) (v := nI 40) F.1 F.2.1 dX7_addPart_2 (by decide) ?_
  refine mm_runS (pc := 4) (As := [.int (nI ln), .int (nI 1), .int (nI 40)]) (rest := []) F hN (c_in l b D hst (nI ln) (nI 1) (nI 40) σ) mw_1268 mw_1269 mw_6 mw_1270 ⟨pmX7_in, (Nat.le_of_ble_eq_true rfl), (Nat.le_of_ble_eq_true rfl)⟩ hl.1 rfl (Nat.le_of_ble_eq_true rfl) ⟨(Nat.le_of_ble_eq_true rfl), (Nat.le_of_ble_eq_true rfl)⟩ dX7_addPart_4
    (fun _ _ _ _ _ _ h9 => False.elim h9)
    (fun v9 σ9 H locs hp9 hN => ?_)
  obtain ⟨rfl, h9⟩ := hp9
  rw [h9] at hN
  refine W.eq (g2 := F0 m 7 ls [.int (nI (if nI 1 ≤ nI ln ∧ nI ln ≤ nI 40 then 1 else 0))]) rfl ?_
  refine W.widen (k := 0) (n := 0) (Nat.le_of_ble_eq_true rfl) (Nat.le_of_ble_eq_true rfl) ?_
  by_cases hi4 : 1 ≤ ln ∧ ln ≤ 40
  ·
    refine W.eq (g2 := F0 m 7 ls [.int (nI 1)]) (by rw [if_pos ((mm_inC (a := ln) (lo := 1) (hi := 40) (by omega) (by decide) (by decide)).mpr hi4)]) ?_
    refine mm_if_eq (pc := 7) F (tgt := 35) (by omega) dX7_addPart_7 (by decide) (fun h9 => absurd h9 (by decide)) (fun cz7 => ?_)
    refine lv_iload_n (pc := 10) F.1 F.2.1 dX7_addPart_10 rfl (lv_at hl 3 rfl) ?_
    refine lv_iconst (pc := 11) (v := nI 0) F.1 F.2.1 dX7_addPart_11 (by decide) ?_
    refine lv_bipush (pc := 12) (v := nI 7) F.1 F.2.1 dX7_addPart_12 (by decide) ?_
    refine mm_runS (pc := 14) (As := [.int (nI ne), .int (nI 0), .int (nI 7)]) (rest := []) F hN (c_in l b D hst (nI ne) (nI 0) (nI 7) σ) mw_1268 mw_1269 mw_6 mw_1270 ⟨pmX7_in, (Nat.le_of_ble_eq_true rfl), (Nat.le_of_ble_eq_true rfl)⟩ hl.1 rfl (Nat.le_of_ble_eq_true rfl) ⟨(Nat.le_of_ble_eq_true rfl), (Nat.le_of_ble_eq_true rfl)⟩ dX7_addPart_14
      (fun _ _ _ _ _ _ h9 => False.elim h9)
      (fun v9 σ9 H locs hp9 hN => ?_)
    obtain ⟨rfl, h9⟩ := hp9
    rw [h9] at hN
    refine W.eq (g2 := F0 m 17 ls [.int (nI (if nI 0 ≤ nI ne ∧ nI ne ≤ nI 7 then 1 else 0))]) rfl ?_
    refine W.widen (k := 0) (n := 0) (Nat.le_of_ble_eq_true rfl) (Nat.le_of_ble_eq_true rfl) ?_
    by_cases hi14 : 0 ≤ ne ∧ ne ≤ 7
    ·
      refine W.eq (g2 := F0 m 17 ls [.int (nI 1)]) (by rw [if_pos ((mm_inC (a := ne) (lo := 0) (hi := 7) (by omega) (by decide) (by decide)).mpr hi14)]) ?_
      refine mm_if_eq (pc := 17) F (tgt := 35) (by omega) dX7_addPart_17 (by decide) (fun h9 => absurd h9 (by decide)) (fun cz17 => ?_)
      refine lv_iload (pc := 20) F.1 F.2.1 dX7_addPart_20 (lv_at hl 4 rfl) ?_
      refine lv_iconst (pc := 22) (v := nI 0) F.1 F.2.1 dX7_addPart_22 (by decide) ?_
      refine lv_bipush (pc := 23) (v := nI 7) F.1 F.2.1 dX7_addPart_23 (by decide) ?_
      refine mm_runS (pc := 25) (As := [.int (nI fo), .int (nI 0), .int (nI 7)]) (rest := []) F hN (c_in l b D hst (nI fo) (nI 0) (nI 7) σ) mw_1268 mw_1269 mw_6 mw_1270 ⟨pmX7_in, (Nat.le_of_ble_eq_true rfl), (Nat.le_of_ble_eq_true rfl)⟩ hl.1 rfl (Nat.le_of_ble_eq_true rfl) ⟨(Nat.le_of_ble_eq_true rfl), (Nat.le_of_ble_eq_true rfl)⟩ dX7_addPart_25
        (fun _ _ _ _ _ _ h9 => False.elim h9)
        (fun v9 σ9 H locs hp9 hN => ?_)
      obtain ⟨rfl, h9⟩ := hp9
      rw [h9] at hN
      refine W.eq (g2 := F0 m 28 ls [.int (nI (if nI 0 ≤ nI fo ∧ nI fo ≤ nI 7 then 1 else 0))]) rfl ?_
      refine W.widen (k := 0) (n := 0) (Nat.le_of_ble_eq_true rfl) (Nat.le_of_ble_eq_true rfl) ?_
      by_cases hi25 : 0 ≤ fo ∧ fo ≤ 7
      ·
        refine W.eq (g2 := F0 m 28 ls [.int (nI 1)]) (by rw [if_pos ((mm_inC (a := fo) (lo := 0) (hi := 7) (by omega) (by decide) (by decide)).mpr hi25)]) ?_
        refine mm_if_eq (pc := 28) F (tgt := 35) (by omega) dX7_addPart_28 (by decide) (fun h9 => absurd h9 (by decide)) (fun cz28 => ?_)
        refine lv_iconst (pc := 31) (v := nI 1) F.1 F.2.1 dX7_addPart_31 (by decide) ?_
        refine lv_goto (pc := 32) (tgt := 36) F.1 F.2.1 dX7_addPart_32 (by decide) ?_
        refine lv_istore (pc := 36) (lv' := [(5, .int (nI 1)), (0, .ref ((rd 0 0))), (1, .int (nI t)), (2, .int (nI ln)), (3, .int (nI ne)), (4, .int (nI fo))]) F.1 F.2.1 dX7_addPart_36 hl (by decide) rfl (fun ls hl => ?_)
        refine lv_aload_n (pc := 38) F.1 F.2.1 dX7_addPart_38 rfl (lv_at hl 1 rfl) ?_
        refine lv_aload_n (pc := 39) F.1 F.2.1 dX7_addPart_39 rfl (lv_at hl 1 rfl) ?_
        refine lv_iload_n (pc := 40) F.1 F.2.1 dX7_addPart_40 rfl (lv_at hl 2 rfl) ?_
        refine mm_runV (pc := 41) (As := [.int (nI t)]) (rest := [.ref ((rd 0 0))]) F hN (c_isTpl l b D hst T th rd σ hM hW t (by omega)) mw_1323 mw_1325 mw_p26 mw_6 mw_1326 ⟨pmX7_isTemplate, (Nat.le_of_ble_eq_true rfl), (Nat.le_of_ble_eq_true rfl)⟩ (mm_recv F.2.2.2.2.2.1 hN (mm_r0 hM) rfl) hl.1 rfl (Nat.le_of_ble_eq_true rfl) ⟨(Nat.le_of_ble_eq_true rfl), (Nat.le_of_ble_eq_true rfl)⟩ dX7_addPart_41
          (fun _ _ _ _ _ _ h9 => False.elim h9)
          (fun v9 σ9 H locs hp9 hN => ?_)
        obtain ⟨rfl, h9⟩ := hp9
        rw [h9] at hN
        refine W.eq (g2 := F0 m 44 ls [.int (nI (if t < T.nT then 1 else 0)), .ref ((rd 0 0))]) rfl ?_
        refine W.widen (k := 0) (n := 0) (Nat.le_of_ble_eq_true rfl) (Nat.le_of_ble_eq_true rfl) ?_
        by_cases htt : t < T.nT
        ·
          refine W.eq (g2 := F0 m 44 ls [.int (nI 1), .ref ((rd 0 0))]) (by rw [if_pos htt]) ?_
          obtain ⟨wt1t, wt2t, wt3t⟩ := hW.htp t htt
          refine mm_if_ne (pc := 44) F (tgt := 51) (by omega) dX7_addPart_44 (by decide) (fun cz44 => ?_) (fun h9 => absurd h9 (by decide))
          refine lv_iload (pc := 51) F.1 F.2.1 dX7_addPart_51 (lv_at hl 0 rfl) ?_
          refine mm_if_ne (pc := 53) F (tgt := 60) (by omega) dX7_addPart_53 (by decide) (fun cz53 => ?_) (fun h9 => absurd h9 (by decide))
          refine lv_aload_n (pc := 60) F.1 F.2.1 dX7_addPart_60 rfl (lv_at hl 1 rfl) ?_
          refine mm_get (pc := 61) F hN (mm_r0 hM) (ci := 7) rfl 11 (by decide) mw_1190 rfl dX7_addPart_61 ?_
          refine lv_iload_n (pc := 64) F.1 F.2.1 dX7_addPart_64 rfl (lv_at hl 2 rfl) ?_
          refine mm_iald (pc := 65) F hN ((show σ (rd 10 0) = mm_ari 1 0 4 (fun i => nI (T.pc i)) from mm_r10 (T := T) hM)) (j := t) (rfl) (by omega) (by decide) dX7_addPart_65 ?_
          refine lv_bipush (pc := 66) (v := nI 8) F.1 F.2.1 dX7_addPart_66 (by decide) ?_
          refine mm_icmp_eq (pc := 68) F (x := T.pc t) (y := 8) (tgt := 80) (by omega) (by omega) dX7_addPart_68 (by decide) (fun cz68 => ?_) (fun cz68 => ?_)
          ·
            refine lv_iconst (pc := 80) (v := nI 3) F.1 F.2.1 dX7_addPart_80 (by decide) ?_
            refine lv_goto (pc := 81) (tgt := 85) F.1 F.2.1 dX7_addPart_81 (by decide) ?_
            refine mm_put (pc := 85) F hN (mm_r0 hM) (ci := 7) rfl 25 (by decide) mw_1204 rfl (ty := .int) (by decide +kernel) (rfl) (rfl) (Nat.le_of_ble_eq_true rfl) dX7_addPart_85 (fun H locs hN => ?_)
            have hN : mm_N b D s (mm_u σ ((rd 0 0)) (mm_obj 1 7 [.ref ((rd 1 0)), .ref ((rd 2 0)), .ref ((rd 3 0)), .int (nI T.nA), .ref ((rd 4 0)), .ref ((rd 5 0)), .ref ((rd 6 0)), .int (nI T.nP), .ref ((rd 7 0)), .ref ((rd 8 0)), .ref ((rd 9 0)), .ref ((rd 10 0)), .ref ((rd 11 0)), .int (nI T.nT), .int (nI T.pa), .ref ((rd 12 0)), .int (nI T.bo), .ref ((rd 13 0)), .ref ((rd 14 0)), .ref ((rd 15 0)), .ref ((rd 16 0)), .ref ((rd 17 0)), .ref ((rd 18 0)), .ref ((rd 19 0)), .int (nI T.nR), .int (nI 3)])) _ _ := hN
            obtain ⟨σ2, eσ2⟩ : ∃ q, q = mm_u σ ((rd 0 0)) (mm_obj 1 7 [.ref ((rd 1 0)), .ref ((rd 2 0)), .ref ((rd 3 0)), .int (nI T.nA), .ref ((rd 4 0)), .ref ((rd 5 0)), .ref ((rd 6 0)), .int (nI T.nP), .ref ((rd 7 0)), .ref ((rd 8 0)), .ref ((rd 9 0)), .ref ((rd 10 0)), .ref ((rd 11 0)), .int (nI T.nT), .int (nI T.pa), .ref ((rd 12 0)), .int (nI T.bo), .ref ((rd 13 0)), .ref ((rd 14 0)), .ref ((rd 15 0)), .ref ((rd 16 0)), .ref ((rd 17 0)), .ref ((rd 18 0)), .ref ((rd 19 0)), .int (nI T.nR), .int (nI 3)]) := ⟨_, rfl⟩
            rw [← eσ2] at hN
            have hM2 : mm_M σ2 T 3 rd := by rw [eσ2]; exact mm_Mo hM (fun _ _ => rfl) rfl
            have hF2 : mm_Fr 1 σ σ2 := by rw [eσ2]; exact (mm_Fr.rf).tr (mm_Fr.u (mm_r0 hM))
            refine lv_aload_n (pc := 88) F.1 F.2.1 dX7_addPart_88 rfl (lv_at hl 1 rfl) ?_
            refine mm_get (pc := 89) F hN ((show σ2 (rd 0 0) = mm_obj 1 7 [.ref ((rd 1 0)), .ref ((rd 2 0)), .ref ((rd 3 0)), .int (nI T.nA), .ref ((rd 4 0)), .ref ((rd 5 0)), .ref ((rd 6 0)), .int (nI T.nP), .ref ((rd 7 0)), .ref ((rd 8 0)), .ref ((rd 9 0)), .ref ((rd 10 0)), .ref ((rd 11 0)), .int (nI T.nT), .int (nI T.pa), .ref ((rd 12 0)), .int (nI T.bo), .ref ((rd 13 0)), .ref ((rd 14 0)), .ref ((rd 15 0)), .ref ((rd 16 0)), .ref ((rd 17 0)), .ref ((rd 18 0)), .ref ((rd 19 0)), .int (nI T.nR), .int (nI 3)] from mm_r0 (T := T) hM2)) (ci := 7) rfl 25 (by decide) mw_1204 rfl dX7_addPart_89 ?_
            refine mm_if_le (pc := 92) F (tgt := 97) (by omega) dX7_addPart_92 (by decide) (fun h9 => absurd h9 (by decide)) (fun cz92 => ?_)
            refine lv_iconst (pc := 95) (v := nI 0) F.1 F.2.1 dX7_addPart_95 (by decide) ?_
            exact mm_iret (pc := 96) F hr hN (Or.inr ⟨by rw [show mm_q_addPart T t ln ne fo = 3 from by show mm_q_addPart T t ln ne fo = 3; unfold mm_q_addPart; (repeat' split) <;> omega]; decide, ⟨_, rfl⟩, by rw [show mm_q_addPart T t ln ne fo = 3 from by show mm_q_addPart T t ln ne fo = 3; unfold mm_q_addPart; (repeat' split) <;> omega]; exact hM2, hF2⟩) (Nat.le_of_ble_eq_true rfl) (Nat.le_of_ble_eq_true rfl) dX7_addPart_96
          ·
            refine lv_aload_n (pc := 71) F.1 F.2.1 dX7_addPart_71 rfl (lv_at hl 1 rfl) ?_
            refine mm_get (pc := 72) F hN (mm_r0 hM) (ci := 7) rfl 12 (by decide) mw_1191 rfl dX7_addPart_72 ?_
            refine lv_iload_n (pc := 75) F.1 F.2.1 dX7_addPart_75 rfl (lv_at hl 2 rfl) ?_
            refine mm_zald (pc := 76) F hN ((show σ (rd 11 0) = mm_ari 1 4 4 (fun i => nI (T.us i)) from mm_r11 (T := T) hM)) (j := t) (rfl) (by omega) (by decide) dX7_addPart_76 ?_
            refine mm_if_eq (pc := 77) F (tgt := 84) (by omega) dX7_addPart_77 (by decide) (fun cz77 => ?_) (fun cz77 => ?_)
            ·
              refine lv_iconst (pc := 84) (v := nI 0) F.1 F.2.1 dX7_addPart_84 (by decide) ?_
              refine mm_put (pc := 85) F hN (mm_r0 hM) (ci := 7) rfl 25 (by decide) mw_1204 rfl (ty := .int) (by decide +kernel) (rfl) (rfl) (Nat.le_of_ble_eq_true rfl) dX7_addPart_85 (fun H locs hN => ?_)
              have hN : mm_N b D s (mm_u σ ((rd 0 0)) (mm_obj 1 7 [.ref ((rd 1 0)), .ref ((rd 2 0)), .ref ((rd 3 0)), .int (nI T.nA), .ref ((rd 4 0)), .ref ((rd 5 0)), .ref ((rd 6 0)), .int (nI T.nP), .ref ((rd 7 0)), .ref ((rd 8 0)), .ref ((rd 9 0)), .ref ((rd 10 0)), .ref ((rd 11 0)), .int (nI T.nT), .int (nI T.pa), .ref ((rd 12 0)), .int (nI T.bo), .ref ((rd 13 0)), .ref ((rd 14 0)), .ref ((rd 15 0)), .ref ((rd 16 0)), .ref ((rd 17 0)), .ref ((rd 18 0)), .ref ((rd 19 0)), .int (nI T.nR), .int (nI 0)])) _ _ := hN
              obtain ⟨σ3, eσ3⟩ : ∃ q, q = mm_u σ ((rd 0 0)) (mm_obj 1 7 [.ref ((rd 1 0)), .ref ((rd 2 0)), .ref ((rd 3 0)), .int (nI T.nA), .ref ((rd 4 0)), .ref ((rd 5 0)), .ref ((rd 6 0)), .int (nI T.nP), .ref ((rd 7 0)), .ref ((rd 8 0)), .ref ((rd 9 0)), .ref ((rd 10 0)), .ref ((rd 11 0)), .int (nI T.nT), .int (nI T.pa), .ref ((rd 12 0)), .int (nI T.bo), .ref ((rd 13 0)), .ref ((rd 14 0)), .ref ((rd 15 0)), .ref ((rd 16 0)), .ref ((rd 17 0)), .ref ((rd 18 0)), .ref ((rd 19 0)), .int (nI T.nR), .int (nI 0)]) := ⟨_, rfl⟩
              rw [← eσ3] at hN
              have hM3 : mm_M σ3 T 0 rd := by rw [eσ3]; exact mm_Mo hM (fun _ _ => rfl) rfl
              have hF3 : mm_Fr 1 σ σ3 := by rw [eσ3]; exact (mm_Fr.rf).tr (mm_Fr.u (mm_r0 hM))
              refine lv_aload_n (pc := 88) F.1 F.2.1 dX7_addPart_88 rfl (lv_at hl 1 rfl) ?_
              refine mm_get (pc := 89) F hN ((show σ3 (rd 0 0) = mm_obj 1 7 [.ref ((rd 1 0)), .ref ((rd 2 0)), .ref ((rd 3 0)), .int (nI T.nA), .ref ((rd 4 0)), .ref ((rd 5 0)), .ref ((rd 6 0)), .int (nI T.nP), .ref ((rd 7 0)), .ref ((rd 8 0)), .ref ((rd 9 0)), .ref ((rd 10 0)), .ref ((rd 11 0)), .int (nI T.nT), .int (nI T.pa), .ref ((rd 12 0)), .int (nI T.bo), .ref ((rd 13 0)), .ref ((rd 14 0)), .ref ((rd 15 0)), .ref ((rd 16 0)), .ref ((rd 17 0)), .ref ((rd 18 0)), .ref ((rd 19 0)), .int (nI T.nR), .int (nI 0)] from mm_r0 (T := T) hM3)) (ci := 7) rfl 25 (by decide) mw_1204 rfl dX7_addPart_89 ?_
              refine mm_if_le (pc := 92) F (tgt := 97) (by omega) dX7_addPart_92 (by decide) (fun cz92 => ?_) (fun h9 => absurd h9 (by decide))
              refine lv_aload_n (pc := 97) F.1 F.2.1 dX7_addPart_97 rfl (lv_at hl 1 rfl) ?_
              refine mm_get (pc := 98) F hN ((show σ3 (rd 0 0) = mm_obj 1 7 [.ref ((rd 1 0)), .ref ((rd 2 0)), .ref ((rd 3 0)), .int (nI T.nA), .ref ((rd 4 0)), .ref ((rd 5 0)), .ref ((rd 6 0)), .int (nI T.nP), .ref ((rd 7 0)), .ref ((rd 8 0)), .ref ((rd 9 0)), .ref ((rd 10 0)), .ref ((rd 11 0)), .int (nI T.nT), .int (nI T.pa), .ref ((rd 12 0)), .int (nI T.bo), .ref ((rd 13 0)), .ref ((rd 14 0)), .ref ((rd 15 0)), .ref ((rd 16 0)), .ref ((rd 17 0)), .ref ((rd 18 0)), .ref ((rd 19 0)), .int (nI T.nR), .int (nI 0)] from mm_r0 (T := T) hM3)) (ci := 7) rfl 8 (by decide) mw_1187 rfl dX7_addPart_98 ?_
              refine lv_iload_n (pc := 101) F.1 F.2.1 dX7_addPart_101 rfl (lv_at hl 2 rfl) ?_
              refine mm_aald (pc := 102) F hN ((show σ3 (rd 7 0) = mm_arq 1 5 4 (fun i => if i < 4 then some (rd 7 (i + 1)) else none) from mm_rq7 (T := T) hM3)) rfl rfl (j := t) (rfl) (by omega) (by decide) (if_pos (by omega)) dX7_addPart_102 ?_
              refine lv_aload_n (pc := 103) F.1 F.2.1 dX7_addPart_103 rfl (lv_at hl 1 rfl) ?_
              refine mm_get (pc := 104) F hN ((show σ3 (rd 0 0) = mm_obj 1 7 [.ref ((rd 1 0)), .ref ((rd 2 0)), .ref ((rd 3 0)), .int (nI T.nA), .ref ((rd 4 0)), .ref ((rd 5 0)), .ref ((rd 6 0)), .int (nI T.nP), .ref ((rd 7 0)), .ref ((rd 8 0)), .ref ((rd 9 0)), .ref ((rd 10 0)), .ref ((rd 11 0)), .int (nI T.nT), .int (nI T.pa), .ref ((rd 12 0)), .int (nI T.bo), .ref ((rd 13 0)), .ref ((rd 14 0)), .ref ((rd 15 0)), .ref ((rd 16 0)), .ref ((rd 17 0)), .ref ((rd 18 0)), .ref ((rd 19 0)), .int (nI T.nR), .int (nI 0)] from mm_r0 (T := T) hM3)) (ci := 7) rfl 11 (by decide) mw_1190 rfl dX7_addPart_104 ?_
              refine lv_iload_n (pc := 107) F.1 F.2.1 dX7_addPart_107 rfl (lv_at hl 2 rfl) ?_
              refine mm_iald (pc := 108) F hN ((show σ3 (rd 10 0) = mm_ari 1 0 4 (fun i => nI (T.pc i)) from mm_r10 (T := T) hM3)) (j := t) (rfl) (by omega) (by decide) dX7_addPart_108 ?_
              refine lv_iload_n (pc := 109) F.1 F.2.1 dX7_addPart_109 rfl (lv_at hl 3 rfl) ?_
              refine mm_iast (pc := 110) F hN ((show σ3 (rd 7 (t + 1)) = mm_ari 1 0 8 (fun j => nI (T.li t j)) from mm_rr7 (T := T) hM3 (i := t) (by omega))) (j := T.pc t) (rfl) (by omega) (by decide) dX7_addPart_110 (fun H locs hN => ?_)
              have hN : mm_N b D s (mm_u σ3 (rd 7 (t + 1)) (mm_ari 1 0 8 (va_up (fun j => nI (T.li t j)) (T.pc t) (nI ln)))) _ _ := hN
              obtain ⟨σ4, eσ4⟩ : ∃ q, q = mm_u σ3 (rd 7 (t + 1)) (mm_ari 1 0 8 (va_up (fun j => nI (T.li t j)) (T.pc t) (nI ln))) := ⟨_, rfl⟩
              rw [← eσ4] at hN
              have hM4 : mm_M σ4 (T.w 7 (mm_u2 (T 7) t (T.pc t) ln)) 0 rd := by rw [eσ4]; exact mm_Mw2 hM3 (k := 7) (i := t) rfl (show t < 4 by omega) (fun a ha => mm_u2_row ha) mm_va2
              have hF4 : mm_Fr 1 σ σ4 := by rw [eσ4]; exact (hF3).tr (mm_Fr.u (mm_rr7 hM3 (i := t) (by omega)))
              refine lv_aload_n (pc := 111) F.1 F.2.1 dX7_addPart_111 rfl (lv_at hl 1 rfl) ?_
              refine mm_get (pc := 112) F hN ((show σ4 (rd 0 0) = mm_obj 1 7 [.ref ((rd 1 0)), .ref ((rd 2 0)), .ref ((rd 3 0)), .int (nI T.nA), .ref ((rd 4 0)), .ref ((rd 5 0)), .ref ((rd 6 0)), .int (nI T.nP), .ref ((rd 7 0)), .ref ((rd 8 0)), .ref ((rd 9 0)), .ref ((rd 10 0)), .ref ((rd 11 0)), .int (nI T.nT), .int (nI T.pa), .ref ((rd 12 0)), .int (nI T.bo), .ref ((rd 13 0)), .ref ((rd 14 0)), .ref ((rd 15 0)), .ref ((rd 16 0)), .ref ((rd 17 0)), .ref ((rd 18 0)), .ref ((rd 19 0)), .int (nI T.nR), .int (nI 0)] from mm_r0 (T := (T.w 7 (mm_u2 (T 7) t (T.pc t) ln))) hM4)) (ci := 7) rfl 9 (by decide) mw_1188 rfl dX7_addPart_112 ?_
              refine lv_iload_n (pc := 115) F.1 F.2.1 dX7_addPart_115 rfl (lv_at hl 2 rfl) ?_
              refine mm_aald (pc := 116) F hN ((show σ4 (rd 8 0) = mm_arq 1 5 4 (fun i => if i < 4 then some (rd 8 (i + 1)) else none) from mm_rq8 (T := (T.w 7 (mm_u2 (T 7) t (T.pc t) ln))) hM4)) rfl rfl (j := t) (rfl) (by omega) (by decide) (if_pos (by omega)) dX7_addPart_116 ?_
              refine lv_aload_n (pc := 117) F.1 F.2.1 dX7_addPart_117 rfl (lv_at hl 1 rfl) ?_
              refine mm_get (pc := 118) F hN ((show σ4 (rd 0 0) = mm_obj 1 7 [.ref ((rd 1 0)), .ref ((rd 2 0)), .ref ((rd 3 0)), .int (nI T.nA), .ref ((rd 4 0)), .ref ((rd 5 0)), .ref ((rd 6 0)), .int (nI T.nP), .ref ((rd 7 0)), .ref ((rd 8 0)), .ref ((rd 9 0)), .ref ((rd 10 0)), .ref ((rd 11 0)), .int (nI T.nT), .int (nI T.pa), .ref ((rd 12 0)), .int (nI T.bo), .ref ((rd 13 0)), .ref ((rd 14 0)), .ref ((rd 15 0)), .ref ((rd 16 0)), .ref ((rd 17 0)), .ref ((rd 18 0)), .ref ((rd 19 0)), .int (nI T.nR), .int (nI 0)] from mm_r0 (T := (T.w 7 (mm_u2 (T 7) t (T.pc t) ln))) hM4)) (ci := 7) rfl 11 (by decide) mw_1190 rfl dX7_addPart_118 ?_
              refine lv_iload_n (pc := 121) F.1 F.2.1 dX7_addPart_121 rfl (lv_at hl 2 rfl) ?_
              refine mm_iald (pc := 122) F hN ((show σ4 (rd 10 0) = mm_ari 1 0 4 (fun i => nI (T.pc i)) from mm_r10 (T := (T.w 7 (mm_u2 (T 7) t (T.pc t) ln))) hM4)) (j := t) (rfl) (by omega) (by decide) dX7_addPart_122 ?_
              refine lv_iload_n (pc := 123) F.1 F.2.1 dX7_addPart_123 rfl (lv_at hl 4 rfl) ?_
              refine mm_iast (pc := 124) F hN ((show σ4 (rd 8 (t + 1)) = mm_ari 1 0 8 (fun j => nI (T.ne t j)) from mm_rr8 (T := (T.w 7 (mm_u2 (T 7) t (T.pc t) ln))) hM4 (i := t) (by omega))) (j := T.pc t) (rfl) (by omega) (by decide) dX7_addPart_124 (fun H locs hN => ?_)
              have hN : mm_N b D s (mm_u σ4 (rd 8 (t + 1)) (mm_ari 1 0 8 (va_up (fun j => nI (T.ne t j)) (T.pc t) (nI ne)))) _ _ := hN
              obtain ⟨σ5, eσ5⟩ : ∃ q, q = mm_u σ4 (rd 8 (t + 1)) (mm_ari 1 0 8 (va_up (fun j => nI (T.ne t j)) (T.pc t) (nI ne))) := ⟨_, rfl⟩
              rw [← eσ5] at hN
              have hM5 : mm_M σ5 ((T.w 7 (mm_u2 (T 7) t (T.pc t) ln)).w 8 (mm_u2 ((T.w 7 (mm_u2 (T 7) t (T.pc t) ln)) 8) t (T.pc t) ne)) 0 rd := by rw [eσ5]; exact mm_Mw2 hM4 (k := 8) (i := t) rfl (show t < 4 by omega) (fun a ha => mm_u2_row ha) mm_va2
              have hF5 : mm_Fr 1 σ σ5 := by rw [eσ5]; exact (hF4).tr (mm_Fr.u (mm_rr8 hM4 (i := t) (by omega)))
              refine lv_aload_n (pc := 125) F.1 F.2.1 dX7_addPart_125 rfl (lv_at hl 1 rfl) ?_
              refine mm_get (pc := 126) F hN ((show σ5 (rd 0 0) = mm_obj 1 7 [.ref ((rd 1 0)), .ref ((rd 2 0)), .ref ((rd 3 0)), .int (nI T.nA), .ref ((rd 4 0)), .ref ((rd 5 0)), .ref ((rd 6 0)), .int (nI T.nP), .ref ((rd 7 0)), .ref ((rd 8 0)), .ref ((rd 9 0)), .ref ((rd 10 0)), .ref ((rd 11 0)), .int (nI T.nT), .int (nI T.pa), .ref ((rd 12 0)), .int (nI T.bo), .ref ((rd 13 0)), .ref ((rd 14 0)), .ref ((rd 15 0)), .ref ((rd 16 0)), .ref ((rd 17 0)), .ref ((rd 18 0)), .ref ((rd 19 0)), .int (nI T.nR), .int (nI 0)] from mm_r0 (T := ((T.w 7 (mm_u2 (T 7) t (T.pc t) ln)).w 8 (mm_u2 ((T.w 7 (mm_u2 (T 7) t (T.pc t) ln)) 8) t (T.pc t) ne))) hM5)) (ci := 7) rfl 10 (by decide) mw_1189 rfl dX7_addPart_126 ?_
              refine lv_iload_n (pc := 129) F.1 F.2.1 dX7_addPart_129 rfl (lv_at hl 2 rfl) ?_
              refine mm_aald (pc := 130) F hN ((show σ5 (rd 9 0) = mm_arq 1 5 4 (fun i => if i < 4 then some (rd 9 (i + 1)) else none) from mm_rq9 (T := ((T.w 7 (mm_u2 (T 7) t (T.pc t) ln)).w 8 (mm_u2 ((T.w 7 (mm_u2 (T 7) t (T.pc t) ln)) 8) t (T.pc t) ne))) hM5)) rfl rfl (j := t) (rfl) (by omega) (by decide) (if_pos (by omega)) dX7_addPart_130 ?_
              refine lv_aload_n (pc := 131) F.1 F.2.1 dX7_addPart_131 rfl (lv_at hl 1 rfl) ?_
              refine mm_get (pc := 132) F hN ((show σ5 (rd 0 0) = mm_obj 1 7 [.ref ((rd 1 0)), .ref ((rd 2 0)), .ref ((rd 3 0)), .int (nI T.nA), .ref ((rd 4 0)), .ref ((rd 5 0)), .ref ((rd 6 0)), .int (nI T.nP), .ref ((rd 7 0)), .ref ((rd 8 0)), .ref ((rd 9 0)), .ref ((rd 10 0)), .ref ((rd 11 0)), .int (nI T.nT), .int (nI T.pa), .ref ((rd 12 0)), .int (nI T.bo), .ref ((rd 13 0)), .ref ((rd 14 0)), .ref ((rd 15 0)), .ref ((rd 16 0)), .ref ((rd 17 0)), .ref ((rd 18 0)), .ref ((rd 19 0)), .int (nI T.nR), .int (nI 0)] from mm_r0 (T := ((T.w 7 (mm_u2 (T 7) t (T.pc t) ln)).w 8 (mm_u2 ((T.w 7 (mm_u2 (T 7) t (T.pc t) ln)) 8) t (T.pc t) ne))) hM5)) (ci := 7) rfl 11 (by decide) mw_1190 rfl dX7_addPart_132 ?_
              refine lv_iload_n (pc := 135) F.1 F.2.1 dX7_addPart_135 rfl (lv_at hl 2 rfl) ?_
              refine mm_iald (pc := 136) F hN ((show σ5 (rd 10 0) = mm_ari 1 0 4 (fun i => nI (T.pc i)) from mm_r10 (T := ((T.w 7 (mm_u2 (T 7) t (T.pc t) ln)).w 8 (mm_u2 ((T.w 7 (mm_u2 (T 7) t (T.pc t) ln)) 8) t (T.pc t) ne))) hM5)) (j := t) (rfl) (by omega) (by decide) dX7_addPart_136 ?_
              refine lv_iload (pc := 137) F.1 F.2.1 dX7_addPart_137 (lv_at hl 5 rfl) ?_
              refine mm_iast (pc := 139) F hN ((show σ5 (rd 9 (t + 1)) = mm_ari 1 0 8 (fun j => nI (T.fo t j)) from mm_rr9 (T := ((T.w 7 (mm_u2 (T 7) t (T.pc t) ln)).w 8 (mm_u2 ((T.w 7 (mm_u2 (T 7) t (T.pc t) ln)) 8) t (T.pc t) ne))) hM5 (i := t) (by omega))) (j := T.pc t) (rfl) (by omega) (by decide) dX7_addPart_139 (fun H locs hN => ?_)
              have hN : mm_N b D s (mm_u σ5 (rd 9 (t + 1)) (mm_ari 1 0 8 (va_up (fun j => nI (T.fo t j)) (T.pc t) (nI fo)))) _ _ := hN
              obtain ⟨σ6, eσ6⟩ : ∃ q, q = mm_u σ5 (rd 9 (t + 1)) (mm_ari 1 0 8 (va_up (fun j => nI (T.fo t j)) (T.pc t) (nI fo))) := ⟨_, rfl⟩
              rw [← eσ6] at hN
              have hM6 : mm_M σ6 (((T.w 7 (mm_u2 (T 7) t (T.pc t) ln)).w 8 (mm_u2 ((T.w 7 (mm_u2 (T 7) t (T.pc t) ln)) 8) t (T.pc t) ne)).w 9 (mm_u2 (((T.w 7 (mm_u2 (T 7) t (T.pc t) ln)).w 8 (mm_u2 ((T.w 7 (mm_u2 (T 7) t (T.pc t) ln)) 8) t (T.pc t) ne)) 9) t (T.pc t) fo)) 0 rd := by rw [eσ6]; exact mm_Mw2 hM5 (k := 9) (i := t) rfl (show t < 4 by omega) (fun a ha => mm_u2_row ha) mm_va2
              have hF6 : mm_Fr 1 σ σ6 := by rw [eσ6]; exact (hF5).tr (mm_Fr.u (mm_rr9 hM5 (i := t) (by omega)))
              refine lv_aload_n (pc := 140) F.1 F.2.1 dX7_addPart_140 rfl (lv_at hl 1 rfl) ?_
              refine mm_get (pc := 141) F hN ((show σ6 (rd 0 0) = mm_obj 1 7 [.ref ((rd 1 0)), .ref ((rd 2 0)), .ref ((rd 3 0)), .int (nI T.nA), .ref ((rd 4 0)), .ref ((rd 5 0)), .ref ((rd 6 0)), .int (nI T.nP), .ref ((rd 7 0)), .ref ((rd 8 0)), .ref ((rd 9 0)), .ref ((rd 10 0)), .ref ((rd 11 0)), .int (nI T.nT), .int (nI T.pa), .ref ((rd 12 0)), .int (nI T.bo), .ref ((rd 13 0)), .ref ((rd 14 0)), .ref ((rd 15 0)), .ref ((rd 16 0)), .ref ((rd 17 0)), .ref ((rd 18 0)), .ref ((rd 19 0)), .int (nI T.nR), .int (nI 0)] from mm_r0 (T := (((T.w 7 (mm_u2 (T 7) t (T.pc t) ln)).w 8 (mm_u2 ((T.w 7 (mm_u2 (T 7) t (T.pc t) ln)) 8) t (T.pc t) ne)).w 9 (mm_u2 (((T.w 7 (mm_u2 (T 7) t (T.pc t) ln)).w 8 (mm_u2 ((T.w 7 (mm_u2 (T 7) t (T.pc t) ln)) 8) t (T.pc t) ne)) 9) t (T.pc t) fo))) hM6)) (ci := 7) rfl 11 (by decide) mw_1190 rfl dX7_addPart_141 ?_
              refine lv_iload_n (pc := 144) F.1 F.2.1 dX7_addPart_144 rfl (lv_at hl 2 rfl) ?_
              refine lv_dup2_11 (pc := 145) F.1 F.2.1 dX7_addPart_145 rfl rfl ?_
              refine mm_iald (pc := 146) F hN ((show σ6 (rd 10 0) = mm_ari 1 0 4 (fun i => nI (T.pc i)) from mm_r10 (T := (((T.w 7 (mm_u2 (T 7) t (T.pc t) ln)).w 8 (mm_u2 ((T.w 7 (mm_u2 (T 7) t (T.pc t) ln)) 8) t (T.pc t) ne)).w 9 (mm_u2 (((T.w 7 (mm_u2 (T 7) t (T.pc t) ln)).w 8 (mm_u2 ((T.w 7 (mm_u2 (T 7) t (T.pc t) ln)) 8) t (T.pc t) ne)) 9) t (T.pc t) fo))) hM6)) (j := t) (rfl) (by omega) (by decide) dX7_addPart_146 ?_
              refine lv_iconst (pc := 147) (v := nI 1) F.1 F.2.1 dX7_addPart_147 (by decide) ?_
              refine mm_iadd (pc := 148) F (z := nI ((T.pc t) + 1)) (nI_add _ _) dX7_addPart_148 ?_
              refine mm_iast (pc := 149) F hN ((show σ6 (rd 10 0) = mm_ari 1 0 4 (fun i => nI (T.pc i)) from mm_r10 (T := (((T.w 7 (mm_u2 (T 7) t (T.pc t) ln)).w 8 (mm_u2 ((T.w 7 (mm_u2 (T 7) t (T.pc t) ln)) 8) t (T.pc t) ne)).w 9 (mm_u2 (((T.w 7 (mm_u2 (T 7) t (T.pc t) ln)).w 8 (mm_u2 ((T.w 7 (mm_u2 (T 7) t (T.pc t) ln)) 8) t (T.pc t) ne)) 9) t (T.pc t) fo))) hM6)) (j := t) (rfl) (by omega) (by decide) dX7_addPart_149 (fun H locs hN => ?_)
              have hN : mm_N b D s (mm_u σ6 (rd 10 0) (mm_ari 1 0 4 (va_up (fun i => nI (T.pc i)) t (nI ((T.pc t) + 1))))) _ _ := hN
              obtain ⟨σ7, eσ7⟩ : ∃ q, q = mm_u σ6 (rd 10 0) (mm_ari 1 0 4 (va_up (fun i => nI (T.pc i)) t (nI ((T.pc t) + 1)))) := ⟨_, rfl⟩
              rw [← eσ7] at hN
              have hM7 : mm_M σ7 ((((T.w 7 (mm_u2 (T 7) t (T.pc t) ln)).w 8 (mm_u2 ((T.w 7 (mm_u2 (T 7) t (T.pc t) ln)) 8) t (T.pc t) ne)).w 9 (mm_u2 (((T.w 7 (mm_u2 (T 7) t (T.pc t) ln)).w 8 (mm_u2 ((T.w 7 (mm_u2 (T 7) t (T.pc t) ln)) 8) t (T.pc t) ne)) 9) t (T.pc t) fo)).w 10 (mm_u2 ((((T.w 7 (mm_u2 (T 7) t (T.pc t) ln)).w 8 (mm_u2 ((T.w 7 (mm_u2 (T 7) t (T.pc t) ln)) 8) t (T.pc t) ne)).w 9 (mm_u2 (((T.w 7 (mm_u2 (T 7) t (T.pc t) ln)).w 8 (mm_u2 ((T.w 7 (mm_u2 (T 7) t (T.pc t) ln)) 8) t (T.pc t) ne)) 9) t (T.pc t) fo)) 10) t 0 ((T.pc t) + 1))) 0 rd := by rw [eσ7]; exact mm_Mw1 hM6 (k := 10) rfl mm_va1
              have hF7 : mm_Fr 1 σ σ7 := by rw [eσ7]; exact (hF6).tr (mm_Fr.u (mm_r10 hM6))
              refine lv_aload_n (pc := 150) F.1 F.2.1 dX7_addPart_150 rfl (lv_at hl 1 rfl) ?_
              refine mm_get (pc := 151) F hN ((show σ7 (rd 0 0) = mm_obj 1 7 [.ref ((rd 1 0)), .ref ((rd 2 0)), .ref ((rd 3 0)), .int (nI T.nA), .ref ((rd 4 0)), .ref ((rd 5 0)), .ref ((rd 6 0)), .int (nI T.nP), .ref ((rd 7 0)), .ref ((rd 8 0)), .ref ((rd 9 0)), .ref ((rd 10 0)), .ref ((rd 11 0)), .int (nI T.nT), .int (nI T.pa), .ref ((rd 12 0)), .int (nI T.bo), .ref ((rd 13 0)), .ref ((rd 14 0)), .ref ((rd 15 0)), .ref ((rd 16 0)), .ref ((rd 17 0)), .ref ((rd 18 0)), .ref ((rd 19 0)), .int (nI T.nR), .int (nI 0)] from mm_r0 (T := ((((T.w 7 (mm_u2 (T 7) t (T.pc t) ln)).w 8 (mm_u2 ((T.w 7 (mm_u2 (T 7) t (T.pc t) ln)) 8) t (T.pc t) ne)).w 9 (mm_u2 (((T.w 7 (mm_u2 (T 7) t (T.pc t) ln)).w 8 (mm_u2 ((T.w 7 (mm_u2 (T 7) t (T.pc t) ln)) 8) t (T.pc t) ne)) 9) t (T.pc t) fo)).w 10 (mm_u2 ((((T.w 7 (mm_u2 (T 7) t (T.pc t) ln)).w 8 (mm_u2 ((T.w 7 (mm_u2 (T 7) t (T.pc t) ln)) 8) t (T.pc t) ne)).w 9 (mm_u2 (((T.w 7 (mm_u2 (T 7) t (T.pc t) ln)).w 8 (mm_u2 ((T.w 7 (mm_u2 (T 7) t (T.pc t) ln)) 8) t (T.pc t) ne)) 9) t (T.pc t) fo)) 10) t 0 ((T.pc t) + 1)))) hM7)) (ci := 7) rfl 11 (by decide) mw_1190 rfl dX7_addPart_151 ?_
              refine lv_iload_n (pc := 154) F.1 F.2.1 dX7_addPart_154 rfl (lv_at hl 2 rfl) ?_
              refine mm_iald (pc := 155) F hN ((show σ7 (rd 10 0) = mm_ari 1 0 4 (fun i => nI ((mm_u2 ((((T.w 7 (mm_u2 (T 7) t (T.pc t) ln)).w 8 (mm_u2 ((T.w 7 (mm_u2 (T 7) t (T.pc t) ln)) 8) t (T.pc t) ne)).w 9 (mm_u2 (((T.w 7 (mm_u2 (T 7) t (T.pc t) ln)).w 8 (mm_u2 ((T.w 7 (mm_u2 (T 7) t (T.pc t) ln)) 8) t (T.pc t) ne)) 9) t (T.pc t) fo)) 10) t 0 ((T.pc t) + 1)) i 0)) from mm_r10 (T := ((((T.w 7 (mm_u2 (T 7) t (T.pc t) ln)).w 8 (mm_u2 ((T.w 7 (mm_u2 (T 7) t (T.pc t) ln)) 8) t (T.pc t) ne)).w 9 (mm_u2 (((T.w 7 (mm_u2 (T 7) t (T.pc t) ln)).w 8 (mm_u2 ((T.w 7 (mm_u2 (T 7) t (T.pc t) ln)) 8) t (T.pc t) ne)) 9) t (T.pc t) fo)).w 10 (mm_u2 ((((T.w 7 (mm_u2 (T 7) t (T.pc t) ln)).w 8 (mm_u2 ((T.w 7 (mm_u2 (T 7) t (T.pc t) ln)) 8) t (T.pc t) ne)).w 9 (mm_u2 (((T.w 7 (mm_u2 (T 7) t (T.pc t) ln)).w 8 (mm_u2 ((T.w 7 (mm_u2 (T 7) t (T.pc t) ln)) 8) t (T.pc t) ne)) 9) t (T.pc t) fo)) 10) t 0 ((T.pc t) + 1)))) hM7)) (j := t) (rfl) (by omega) (by decide) dX7_addPart_155 ?_
              exact mm_iret (pc := 156) F hr hN (Or.inl ⟨by show mm_q_addPart T t ln ne fo = 0; unfold mm_q_addPart; (repeat' split) <;> omega, congrArg (fun q => some (Value.int (nI q))) (if_pos ⟨rfl, rfl⟩), mm_M_cg hM7 (fun k hk => by
                by_cases e7 : k = 7
                · subst e7; rfl
                by_cases e8 : k = 8
                · subst e8; rfl
                by_cases e9 : k = 9
                · subst e9; rfl
                by_cases e10 : k = 10
                · subst e10; rfl
                simp only [mm_t_addPart, mm_T.w, if_neg e7, if_neg e8, if_neg e9, if_neg e10]) rfl, hF7⟩) (Nat.le_of_ble_eq_true rfl) (Nat.le_of_ble_eq_true rfl) dX7_addPart_156
            ·
              refine lv_iconst (pc := 80) (v := nI 3) F.1 F.2.1 dX7_addPart_80 (by decide) ?_
              refine lv_goto (pc := 81) (tgt := 85) F.1 F.2.1 dX7_addPart_81 (by decide) ?_
              refine mm_put (pc := 85) F hN (mm_r0 hM) (ci := 7) rfl 25 (by decide) mw_1204 rfl (ty := .int) (by decide +kernel) (rfl) (rfl) (Nat.le_of_ble_eq_true rfl) dX7_addPart_85 (fun H locs hN => ?_)
              have hN : mm_N b D s (mm_u σ ((rd 0 0)) (mm_obj 1 7 [.ref ((rd 1 0)), .ref ((rd 2 0)), .ref ((rd 3 0)), .int (nI T.nA), .ref ((rd 4 0)), .ref ((rd 5 0)), .ref ((rd 6 0)), .int (nI T.nP), .ref ((rd 7 0)), .ref ((rd 8 0)), .ref ((rd 9 0)), .ref ((rd 10 0)), .ref ((rd 11 0)), .int (nI T.nT), .int (nI T.pa), .ref ((rd 12 0)), .int (nI T.bo), .ref ((rd 13 0)), .ref ((rd 14 0)), .ref ((rd 15 0)), .ref ((rd 16 0)), .ref ((rd 17 0)), .ref ((rd 18 0)), .ref ((rd 19 0)), .int (nI T.nR), .int (nI 3)])) _ _ := hN
              obtain ⟨σ8, eσ8⟩ : ∃ q, q = mm_u σ ((rd 0 0)) (mm_obj 1 7 [.ref ((rd 1 0)), .ref ((rd 2 0)), .ref ((rd 3 0)), .int (nI T.nA), .ref ((rd 4 0)), .ref ((rd 5 0)), .ref ((rd 6 0)), .int (nI T.nP), .ref ((rd 7 0)), .ref ((rd 8 0)), .ref ((rd 9 0)), .ref ((rd 10 0)), .ref ((rd 11 0)), .int (nI T.nT), .int (nI T.pa), .ref ((rd 12 0)), .int (nI T.bo), .ref ((rd 13 0)), .ref ((rd 14 0)), .ref ((rd 15 0)), .ref ((rd 16 0)), .ref ((rd 17 0)), .ref ((rd 18 0)), .ref ((rd 19 0)), .int (nI T.nR), .int (nI 3)]) := ⟨_, rfl⟩
              rw [← eσ8] at hN
              have hM8 : mm_M σ8 T 3 rd := by rw [eσ8]; exact mm_Mo hM (fun _ _ => rfl) rfl
              have hF8 : mm_Fr 1 σ σ8 := by rw [eσ8]; exact (mm_Fr.rf).tr (mm_Fr.u (mm_r0 hM))
              refine lv_aload_n (pc := 88) F.1 F.2.1 dX7_addPart_88 rfl (lv_at hl 1 rfl) ?_
              refine mm_get (pc := 89) F hN ((show σ8 (rd 0 0) = mm_obj 1 7 [.ref ((rd 1 0)), .ref ((rd 2 0)), .ref ((rd 3 0)), .int (nI T.nA), .ref ((rd 4 0)), .ref ((rd 5 0)), .ref ((rd 6 0)), .int (nI T.nP), .ref ((rd 7 0)), .ref ((rd 8 0)), .ref ((rd 9 0)), .ref ((rd 10 0)), .ref ((rd 11 0)), .int (nI T.nT), .int (nI T.pa), .ref ((rd 12 0)), .int (nI T.bo), .ref ((rd 13 0)), .ref ((rd 14 0)), .ref ((rd 15 0)), .ref ((rd 16 0)), .ref ((rd 17 0)), .ref ((rd 18 0)), .ref ((rd 19 0)), .int (nI T.nR), .int (nI 3)] from mm_r0 (T := T) hM8)) (ci := 7) rfl 25 (by decide) mw_1204 rfl dX7_addPart_89 ?_
              refine mm_if_le (pc := 92) F (tgt := 97) (by omega) dX7_addPart_92 (by decide) (fun h9 => absurd h9 (by decide)) (fun cz92 => ?_)
              refine lv_iconst (pc := 95) (v := nI 0) F.1 F.2.1 dX7_addPart_95 (by decide) ?_
              exact mm_iret (pc := 96) F hr hN (Or.inr ⟨by rw [show mm_q_addPart T t ln ne fo = 3 from by show mm_q_addPart T t ln ne fo = 3; unfold mm_q_addPart; (repeat' split) <;> omega]; decide, ⟨_, rfl⟩, by rw [show mm_q_addPart T t ln ne fo = 3 from by show mm_q_addPart T t ln ne fo = 3; unfold mm_q_addPart; (repeat' split) <;> omega]; exact hM8, hF8⟩) (Nat.le_of_ble_eq_true rfl) (Nat.le_of_ble_eq_true rfl) dX7_addPart_96
        ·
          refine W.eq (g2 := F0 m 44 ls [.int (nI 0), .ref ((rd 0 0))]) (by rw [if_neg htt]) ?_
          refine mm_if_ne (pc := 44) F (tgt := 51) (by omega) dX7_addPart_44 (by decide) (fun h9 => absurd h9 (by decide)) (fun cz44 => ?_)
          refine lv_iconst (pc := 47) (v := nI 1) F.1 F.2.1 dX7_addPart_47 (by decide) ?_
          refine lv_goto (pc := 48) (tgt := 85) F.1 F.2.1 dX7_addPart_48 (by decide) ?_
          refine mm_put (pc := 85) F hN (mm_r0 hM) (ci := 7) rfl 25 (by decide) mw_1204 rfl (ty := .int) (by decide +kernel) (rfl) (rfl) (Nat.le_of_ble_eq_true rfl) dX7_addPart_85 (fun H locs hN => ?_)
          have hN : mm_N b D s (mm_u σ ((rd 0 0)) (mm_obj 1 7 [.ref ((rd 1 0)), .ref ((rd 2 0)), .ref ((rd 3 0)), .int (nI T.nA), .ref ((rd 4 0)), .ref ((rd 5 0)), .ref ((rd 6 0)), .int (nI T.nP), .ref ((rd 7 0)), .ref ((rd 8 0)), .ref ((rd 9 0)), .ref ((rd 10 0)), .ref ((rd 11 0)), .int (nI T.nT), .int (nI T.pa), .ref ((rd 12 0)), .int (nI T.bo), .ref ((rd 13 0)), .ref ((rd 14 0)), .ref ((rd 15 0)), .ref ((rd 16 0)), .ref ((rd 17 0)), .ref ((rd 18 0)), .ref ((rd 19 0)), .int (nI T.nR), .int (nI 1)])) _ _ := hN
          obtain ⟨σ9, eσ9⟩ : ∃ q, q = mm_u σ ((rd 0 0)) (mm_obj 1 7 [.ref ((rd 1 0)), .ref ((rd 2 0)), .ref ((rd 3 0)), .int (nI T.nA), .ref ((rd 4 0)), .ref ((rd 5 0)), .ref ((rd 6 0)), .int (nI T.nP), .ref ((rd 7 0)), .ref ((rd 8 0)), .ref ((rd 9 0)), .ref ((rd 10 0)), .ref ((rd 11 0)), .int (nI T.nT), .int (nI T.pa), .ref ((rd 12 0)), .int (nI T.bo), .ref ((rd 13 0)), .ref ((rd 14 0)), .ref ((rd 15 0)), .ref ((rd 16 0)), .ref ((rd 17 0)), .ref ((rd 18 0)), .ref ((rd 19 0)), .int (nI T.nR), .int (nI 1)]) := ⟨_, rfl⟩
          rw [← eσ9] at hN
          have hM9 : mm_M σ9 T 1 rd := by rw [eσ9]; exact mm_Mo hM (fun _ _ => rfl) rfl
          have hF9 : mm_Fr 1 σ σ9 := by rw [eσ9]; exact (mm_Fr.rf).tr (mm_Fr.u (mm_r0 hM))
          refine lv_aload_n (pc := 88) F.1 F.2.1 dX7_addPart_88 rfl (lv_at hl 1 rfl) ?_
          refine mm_get (pc := 89) F hN ((show σ9 (rd 0 0) = mm_obj 1 7 [.ref ((rd 1 0)), .ref ((rd 2 0)), .ref ((rd 3 0)), .int (nI T.nA), .ref ((rd 4 0)), .ref ((rd 5 0)), .ref ((rd 6 0)), .int (nI T.nP), .ref ((rd 7 0)), .ref ((rd 8 0)), .ref ((rd 9 0)), .ref ((rd 10 0)), .ref ((rd 11 0)), .int (nI T.nT), .int (nI T.pa), .ref ((rd 12 0)), .int (nI T.bo), .ref ((rd 13 0)), .ref ((rd 14 0)), .ref ((rd 15 0)), .ref ((rd 16 0)), .ref ((rd 17 0)), .ref ((rd 18 0)), .ref ((rd 19 0)), .int (nI T.nR), .int (nI 1)] from mm_r0 (T := T) hM9)) (ci := 7) rfl 25 (by decide) mw_1204 rfl dX7_addPart_89 ?_
          refine mm_if_le (pc := 92) F (tgt := 97) (by omega) dX7_addPart_92 (by decide) (fun h9 => absurd h9 (by decide)) (fun cz92 => ?_)
          refine lv_iconst (pc := 95) (v := nI 0) F.1 F.2.1 dX7_addPart_95 (by decide) ?_
          exact mm_iret (pc := 96) F hr hN (Or.inr ⟨by rw [show mm_q_addPart T t ln ne fo = 1 from by show mm_q_addPart T t ln ne fo = 1; unfold mm_q_addPart; (repeat' split) <;> omega]; decide, ⟨_, rfl⟩, by rw [show mm_q_addPart T t ln ne fo = 1 from by show mm_q_addPart T t ln ne fo = 1; unfold mm_q_addPart; (repeat' split) <;> omega]; exact hM9, hF9⟩) (Nat.le_of_ble_eq_true rfl) (Nat.le_of_ble_eq_true rfl) dX7_addPart_96
      ·
        refine W.eq (g2 := F0 m 28 ls [.int (nI 0)]) (by rw [if_neg (fun q => hi25 ((mm_inC (a := fo) (lo := 0) (hi := 7) (by omega) (by decide) (by decide)).mp q))]) ?_
        refine mm_if_eq (pc := 28) F (tgt := 35) (by omega) dX7_addPart_28 (by decide) (fun cz28 => ?_) (fun h9 => absurd h9 (by decide))
        refine lv_iconst (pc := 35) (v := nI 0) F.1 F.2.1 dX7_addPart_35 (by decide) ?_
        refine lv_istore (pc := 36) (lv' := [(5, .int (nI 0)), (0, .ref ((rd 0 0))), (1, .int (nI t)), (2, .int (nI ln)), (3, .int (nI ne)), (4, .int (nI fo))]) F.1 F.2.1 dX7_addPart_36 hl (by decide) rfl (fun ls hl => ?_)
        refine lv_aload_n (pc := 38) F.1 F.2.1 dX7_addPart_38 rfl (lv_at hl 1 rfl) ?_
        refine lv_aload_n (pc := 39) F.1 F.2.1 dX7_addPart_39 rfl (lv_at hl 1 rfl) ?_
        refine lv_iload_n (pc := 40) F.1 F.2.1 dX7_addPart_40 rfl (lv_at hl 2 rfl) ?_
        refine mm_runV (pc := 41) (As := [.int (nI t)]) (rest := [.ref ((rd 0 0))]) F hN (c_isTpl l b D hst T th rd σ hM hW t (by omega)) mw_1323 mw_1325 mw_p26 mw_6 mw_1326 ⟨pmX7_isTemplate, (Nat.le_of_ble_eq_true rfl), (Nat.le_of_ble_eq_true rfl)⟩ (mm_recv F.2.2.2.2.2.1 hN (mm_r0 hM) rfl) hl.1 rfl (Nat.le_of_ble_eq_true rfl) ⟨(Nat.le_of_ble_eq_true rfl), (Nat.le_of_ble_eq_true rfl)⟩ dX7_addPart_41
          (fun _ _ _ _ _ _ h9 => False.elim h9)
          (fun v9 σ9 H locs hp9 hN => ?_)
        obtain ⟨rfl, h9⟩ := hp9
        rw [h9] at hN
        refine W.eq (g2 := F0 m 44 ls [.int (nI (if t < T.nT then 1 else 0)), .ref ((rd 0 0))]) rfl ?_
        refine W.widen (k := 0) (n := 0) (Nat.le_of_ble_eq_true rfl) (Nat.le_of_ble_eq_true rfl) ?_
        by_cases htt : t < T.nT
        ·
          refine W.eq (g2 := F0 m 44 ls [.int (nI 1), .ref ((rd 0 0))]) (by rw [if_pos htt]) ?_
          obtain ⟨wt1t, wt2t, wt3t⟩ := hW.htp t htt
          refine mm_if_ne (pc := 44) F (tgt := 51) (by omega) dX7_addPart_44 (by decide) (fun cz44 => ?_) (fun h9 => absurd h9 (by decide))
          refine lv_iload (pc := 51) F.1 F.2.1 dX7_addPart_51 (lv_at hl 0 rfl) ?_
          refine mm_if_ne (pc := 53) F (tgt := 60) (by omega) dX7_addPart_53 (by decide) (fun h9 => absurd h9 (by decide)) (fun cz53 => ?_)
          refine lv_iconst (pc := 56) (v := nI 2) F.1 F.2.1 dX7_addPart_56 (by decide) ?_
          refine lv_goto (pc := 57) (tgt := 85) F.1 F.2.1 dX7_addPart_57 (by decide) ?_
          refine mm_put (pc := 85) F hN (mm_r0 hM) (ci := 7) rfl 25 (by decide) mw_1204 rfl (ty := .int) (by decide +kernel) (rfl) (rfl) (Nat.le_of_ble_eq_true rfl) dX7_addPart_85 (fun H locs hN => ?_)
          have hN : mm_N b D s (mm_u σ ((rd 0 0)) (mm_obj 1 7 [.ref ((rd 1 0)), .ref ((rd 2 0)), .ref ((rd 3 0)), .int (nI T.nA), .ref ((rd 4 0)), .ref ((rd 5 0)), .ref ((rd 6 0)), .int (nI T.nP), .ref ((rd 7 0)), .ref ((rd 8 0)), .ref ((rd 9 0)), .ref ((rd 10 0)), .ref ((rd 11 0)), .int (nI T.nT), .int (nI T.pa), .ref ((rd 12 0)), .int (nI T.bo), .ref ((rd 13 0)), .ref ((rd 14 0)), .ref ((rd 15 0)), .ref ((rd 16 0)), .ref ((rd 17 0)), .ref ((rd 18 0)), .ref ((rd 19 0)), .int (nI T.nR), .int (nI 2)])) _ _ := hN
          obtain ⟨σ10, eσ10⟩ : ∃ q, q = mm_u σ ((rd 0 0)) (mm_obj 1 7 [.ref ((rd 1 0)), .ref ((rd 2 0)), .ref ((rd 3 0)), .int (nI T.nA), .ref ((rd 4 0)), .ref ((rd 5 0)), .ref ((rd 6 0)), .int (nI T.nP), .ref ((rd 7 0)), .ref ((rd 8 0)), .ref ((rd 9 0)), .ref ((rd 10 0)), .ref ((rd 11 0)), .int (nI T.nT), .int (nI T.pa), .ref ((rd 12 0)), .int (nI T.bo), .ref ((rd 13 0)), .ref ((rd 14 0)), .ref ((rd 15 0)), .ref ((rd 16 0)), .ref ((rd 17 0)), .ref ((rd 18 0)), .ref ((rd 19 0)), .int (nI T.nR), .int (nI 2)]) := ⟨_, rfl⟩
          rw [← eσ10] at hN
          have hM10 : mm_M σ10 T 2 rd := by rw [eσ10]; exact mm_Mo hM (fun _ _ => rfl) rfl
          have hF10 : mm_Fr 1 σ σ10 := by rw [eσ10]; exact (mm_Fr.rf).tr (mm_Fr.u (mm_r0 hM))
          refine lv_aload_n (pc := 88) F.1 F.2.1 dX7_addPart_88 rfl (lv_at hl 1 rfl) ?_
          refine mm_get (pc := 89) F hN ((show σ10 (rd 0 0) = mm_obj 1 7 [.ref ((rd 1 0)), .ref ((rd 2 0)), .ref ((rd 3 0)), .int (nI T.nA), .ref ((rd 4 0)), .ref ((rd 5 0)), .ref ((rd 6 0)), .int (nI T.nP), .ref ((rd 7 0)), .ref ((rd 8 0)), .ref ((rd 9 0)), .ref ((rd 10 0)), .ref ((rd 11 0)), .int (nI T.nT), .int (nI T.pa), .ref ((rd 12 0)), .int (nI T.bo), .ref ((rd 13 0)), .ref ((rd 14 0)), .ref ((rd 15 0)), .ref ((rd 16 0)), .ref ((rd 17 0)), .ref ((rd 18 0)), .ref ((rd 19 0)), .int (nI T.nR), .int (nI 2)] from mm_r0 (T := T) hM10)) (ci := 7) rfl 25 (by decide) mw_1204 rfl dX7_addPart_89 ?_
          refine mm_if_le (pc := 92) F (tgt := 97) (by omega) dX7_addPart_92 (by decide) (fun h9 => absurd h9 (by decide)) (fun cz92 => ?_)
          refine lv_iconst (pc := 95) (v := nI 0) F.1 F.2.1 dX7_addPart_95 (by decide) ?_
          exact mm_iret (pc := 96) F hr hN (Or.inr ⟨by rw [show mm_q_addPart T t ln ne fo = 2 from by show mm_q_addPart T t ln ne fo = 2; unfold mm_q_addPart; (repeat' split) <;> omega]; decide, ⟨_, rfl⟩, by rw [show mm_q_addPart T t ln ne fo = 2 from by show mm_q_addPart T t ln ne fo = 2; unfold mm_q_addPart; (repeat' split) <;> omega]; exact hM10, hF10⟩) (Nat.le_of_ble_eq_true rfl) (Nat.le_of_ble_eq_true rfl) dX7_addPart_96
        ·
          refine W.eq (g2 := F0 m 44 ls [.int (nI 0), .ref ((rd 0 0))]) (by rw [if_neg htt]) ?_
          refine mm_if_ne (pc := 44) F (tgt := 51) (by omega) dX7_addPart_44 (by decide) (fun h9 => absurd h9 (by decide)) (fun cz44 => ?_)
          refine lv_iconst (pc := 47) (v := nI 1) F.1 F.2.1 dX7_addPart_47 (by decide) ?_
          refine lv_goto (pc := 48) (tgt := 85) F.1 F.2.1 dX7_addPart_48 (by decide) ?_
          refine mm_put (pc := 85) F hN (mm_r0 hM) (ci := 7) rfl 25 (by decide) mw_1204 rfl (ty := .int) (by decide +kernel) (rfl) (rfl) (Nat.le_of_ble_eq_true rfl) dX7_addPart_85 (fun H locs hN => ?_)
          have hN : mm_N b D s (mm_u σ ((rd 0 0)) (mm_obj 1 7 [.ref ((rd 1 0)), .ref ((rd 2 0)), .ref ((rd 3 0)), .int (nI T.nA), .ref ((rd 4 0)), .ref ((rd 5 0)), .ref ((rd 6 0)), .int (nI T.nP), .ref ((rd 7 0)), .ref ((rd 8 0)), .ref ((rd 9 0)), .ref ((rd 10 0)), .ref ((rd 11 0)), .int (nI T.nT), .int (nI T.pa), .ref ((rd 12 0)), .int (nI T.bo), .ref ((rd 13 0)), .ref ((rd 14 0)), .ref ((rd 15 0)), .ref ((rd 16 0)), .ref ((rd 17 0)), .ref ((rd 18 0)), .ref ((rd 19 0)), .int (nI T.nR), .int (nI 1)])) _ _ := hN
          obtain ⟨σ11, eσ11⟩ : ∃ q, q = mm_u σ ((rd 0 0)) (mm_obj 1 7 [.ref ((rd 1 0)), .ref ((rd 2 0)), .ref ((rd 3 0)), .int (nI T.nA), .ref ((rd 4 0)), .ref ((rd 5 0)), .ref ((rd 6 0)), .int (nI T.nP), .ref ((rd 7 0)), .ref ((rd 8 0)), .ref ((rd 9 0)), .ref ((rd 10 0)), .ref ((rd 11 0)), .int (nI T.nT), .int (nI T.pa), .ref ((rd 12 0)), .int (nI T.bo), .ref ((rd 13 0)), .ref ((rd 14 0)), .ref ((rd 15 0)), .ref ((rd 16 0)), .ref ((rd 17 0)), .ref ((rd 18 0)), .ref ((rd 19 0)), .int (nI T.nR), .int (nI 1)]) := ⟨_, rfl⟩
          rw [← eσ11] at hN
          have hM11 : mm_M σ11 T 1 rd := by rw [eσ11]; exact mm_Mo hM (fun _ _ => rfl) rfl
          have hF11 : mm_Fr 1 σ σ11 := by rw [eσ11]; exact (mm_Fr.rf).tr (mm_Fr.u (mm_r0 hM))
          refine lv_aload_n (pc := 88) F.1 F.2.1 dX7_addPart_88 rfl (lv_at hl 1 rfl) ?_
          refine mm_get (pc := 89) F hN ((show σ11 (rd 0 0) = mm_obj 1 7 [.ref ((rd 1 0)), .ref ((rd 2 0)), .ref ((rd 3 0)), .int (nI T.nA), .ref ((rd 4 0)), .ref ((rd 5 0)), .ref ((rd 6 0)), .int (nI T.nP), .ref ((rd 7 0)), .ref ((rd 8 0)), .ref ((rd 9 0)), .ref ((rd 10 0)), .ref ((rd 11 0)), .int (nI T.nT), .int (nI T.pa), .ref ((rd 12 0)), .int (nI T.bo), .ref ((rd 13 0)), .ref ((rd 14 0)), .ref ((rd 15 0)), .ref ((rd 16 0)), .ref ((rd 17 0)), .ref ((rd 18 0)), .ref ((rd 19 0)), .int (nI T.nR), .int (nI 1)] from mm_r0 (T := T) hM11)) (ci := 7) rfl 25 (by decide) mw_1204 rfl dX7_addPart_89 ?_
          refine mm_if_le (pc := 92) F (tgt := 97) (by omega) dX7_addPart_92 (by decide) (fun h9 => absurd h9 (by decide)) (fun cz92 => ?_)
          refine lv_iconst (pc := 95) (v := nI 0) F.1 F.2.1 dX7_addPart_95 (by decide) ?_
          exact mm_iret (pc := 96) F hr hN (Or.inr ⟨by rw [show mm_q_addPart T t ln ne fo = 1 from by show mm_q_addPart T t ln ne fo = 1; unfold mm_q_addPart; (repeat' split) <;> omega]; decide, ⟨_, rfl⟩, by rw [show mm_q_addPart T t ln ne fo = 1 from by show mm_q_addPart T t ln ne fo = 1; unfold mm_q_addPart; (repeat' split) <;> omega]; exact hM11, hF11⟩) (Nat.le_of_ble_eq_true rfl) (Nat.le_of_ble_eq_true rfl) dX7_addPart_96
    ·
      refine W.eq (g2 := F0 m 17 ls [.int (nI 0)]) (by rw [if_neg (fun q => hi14 ((mm_inC (a := ne) (lo := 0) (hi := 7) (by omega) (by decide) (by decide)).mp q))]) ?_
      refine mm_if_eq (pc := 17) F (tgt := 35) (by omega) dX7_addPart_17 (by decide) (fun cz17 => ?_) (fun h9 => absurd h9 (by decide))
      refine lv_iconst (pc := 35) (v := nI 0) F.1 F.2.1 dX7_addPart_35 (by decide) ?_
      refine lv_istore (pc := 36) (lv' := [(5, .int (nI 0)), (0, .ref ((rd 0 0))), (1, .int (nI t)), (2, .int (nI ln)), (3, .int (nI ne)), (4, .int (nI fo))]) F.1 F.2.1 dX7_addPart_36 hl (by decide) rfl (fun ls hl => ?_)
      refine lv_aload_n (pc := 38) F.1 F.2.1 dX7_addPart_38 rfl (lv_at hl 1 rfl) ?_
      refine lv_aload_n (pc := 39) F.1 F.2.1 dX7_addPart_39 rfl (lv_at hl 1 rfl) ?_
      refine lv_iload_n (pc := 40) F.1 F.2.1 dX7_addPart_40 rfl (lv_at hl 2 rfl) ?_
      refine mm_runV (pc := 41) (As := [.int (nI t)]) (rest := [.ref ((rd 0 0))]) F hN (c_isTpl l b D hst T th rd σ hM hW t (by omega)) mw_1323 mw_1325 mw_p26 mw_6 mw_1326 ⟨pmX7_isTemplate, (Nat.le_of_ble_eq_true rfl), (Nat.le_of_ble_eq_true rfl)⟩ (mm_recv F.2.2.2.2.2.1 hN (mm_r0 hM) rfl) hl.1 rfl (Nat.le_of_ble_eq_true rfl) ⟨(Nat.le_of_ble_eq_true rfl), (Nat.le_of_ble_eq_true rfl)⟩ dX7_addPart_41
        (fun _ _ _ _ _ _ h9 => False.elim h9)
        (fun v9 σ9 H locs hp9 hN => ?_)
      obtain ⟨rfl, h9⟩ := hp9
      rw [h9] at hN
      refine W.eq (g2 := F0 m 44 ls [.int (nI (if t < T.nT then 1 else 0)), .ref ((rd 0 0))]) rfl ?_
      refine W.widen (k := 0) (n := 0) (Nat.le_of_ble_eq_true rfl) (Nat.le_of_ble_eq_true rfl) ?_
      by_cases htt : t < T.nT
      ·
        refine W.eq (g2 := F0 m 44 ls [.int (nI 1), .ref ((rd 0 0))]) (by rw [if_pos htt]) ?_
        obtain ⟨wt1t, wt2t, wt3t⟩ := hW.htp t htt
        refine mm_if_ne (pc := 44) F (tgt := 51) (by omega) dX7_addPart_44 (by decide) (fun cz44 => ?_) (fun h9 => absurd h9 (by decide))
        refine lv_iload (pc := 51) F.1 F.2.1 dX7_addPart_51 (lv_at hl 0 rfl) ?_
        refine mm_if_ne (pc := 53) F (tgt := 60) (by omega) dX7_addPart_53 (by decide) (fun h9 => absurd h9 (by decide)) (fun cz53 => ?_)
        refine lv_iconst (pc := 56) (v := nI 2) F.1 F.2.1 dX7_addPart_56 (by decide) ?_
        refine lv_goto (pc := 57) (tgt := 85) F.1 F.2.1 dX7_addPart_57 (by decide) ?_
        refine mm_put (pc := 85) F hN (mm_r0 hM) (ci := 7) rfl 25 (by decide) mw_1204 rfl (ty := .int) (by decide +kernel) (rfl) (rfl) (Nat.le_of_ble_eq_true rfl) dX7_addPart_85 (fun H locs hN => ?_)
        have hN : mm_N b D s (mm_u σ ((rd 0 0)) (mm_obj 1 7 [.ref ((rd 1 0)), .ref ((rd 2 0)), .ref ((rd 3 0)), .int (nI T.nA), .ref ((rd 4 0)), .ref ((rd 5 0)), .ref ((rd 6 0)), .int (nI T.nP), .ref ((rd 7 0)), .ref ((rd 8 0)), .ref ((rd 9 0)), .ref ((rd 10 0)), .ref ((rd 11 0)), .int (nI T.nT), .int (nI T.pa), .ref ((rd 12 0)), .int (nI T.bo), .ref ((rd 13 0)), .ref ((rd 14 0)), .ref ((rd 15 0)), .ref ((rd 16 0)), .ref ((rd 17 0)), .ref ((rd 18 0)), .ref ((rd 19 0)), .int (nI T.nR), .int (nI 2)])) _ _ := hN
        obtain ⟨σ12, eσ12⟩ : ∃ q, q = mm_u σ ((rd 0 0)) (mm_obj 1 7 [.ref ((rd 1 0)), .ref ((rd 2 0)), .ref ((rd 3 0)), .int (nI T.nA), .ref ((rd 4 0)), .ref ((rd 5 0)), .ref ((rd 6 0)), .int (nI T.nP), .ref ((rd 7 0)), .ref ((rd 8 0)), .ref ((rd 9 0)), .ref ((rd 10 0)), .ref ((rd 11 0)), .int (nI T.nT), .int (nI T.pa), .ref ((rd 12 0)), .int (nI T.bo), .ref ((rd 13 0)), .ref ((rd 14 0)), .ref ((rd 15 0)), .ref ((rd 16 0)), .ref ((rd 17 0)), .ref ((rd 18 0)), .ref ((rd 19 0)), .int (nI T.nR), .int (nI 2)]) := ⟨_, rfl⟩
        rw [← eσ12] at hN
        have hM12 : mm_M σ12 T 2 rd := by rw [eσ12]; exact mm_Mo hM (fun _ _ => rfl) rfl
        have hF12 : mm_Fr 1 σ σ12 := by rw [eσ12]; exact (mm_Fr.rf).tr (mm_Fr.u (mm_r0 hM))
        refine lv_aload_n (pc := 88) F.1 F.2.1 dX7_addPart_88 rfl (lv_at hl 1 rfl) ?_
        refine mm_get (pc := 89) F hN ((show σ12 (rd 0 0) = mm_obj 1 7 [.ref ((rd 1 0)), .ref ((rd 2 0)), .ref ((rd 3 0)), .int (nI T.nA), .ref ((rd 4 0)), .ref ((rd 5 0)), .ref ((rd 6 0)), .int (nI T.nP), .ref ((rd 7 0)), .ref ((rd 8 0)), .ref ((rd 9 0)), .ref ((rd 10 0)), .ref ((rd 11 0)), .int (nI T.nT), .int (nI T.pa), .ref ((rd 12 0)), .int (nI T.bo), .ref ((rd 13 0)), .ref ((rd 14 0)), .ref ((rd 15 0)), .ref ((rd 16 0)), .ref ((rd 17 0)), .ref ((rd 18 0)), .ref ((rd 19 0)), .int (nI T.nR), .int (nI 2)] from mm_r0 (T := T) hM12)) (ci := 7) rfl 25 (by decide) mw_1204 rfl dX7_addPart_89 ?_
        refine mm_if_le (pc := 92) F (tgt := 97) (by omega) dX7_addPart_92 (by decide) (fun h9 => absurd h9 (by decide)) (fun cz92 => ?_)
        refine lv_iconst (pc := 95) (v := nI 0) F.1 F.2.1 dX7_addPart_95 (by decide) ?_
        exact mm_iret (pc := 96) F hr hN (Or.inr ⟨by rw [show mm_q_addPart T t ln ne fo = 2 from by show mm_q_addPart T t ln ne fo = 2; unfold mm_q_addPart; (repeat' split) <;> omega]; decide, ⟨_, rfl⟩, by rw [show mm_q_addPart T t ln ne fo = 2 from by show mm_q_addPart T t ln ne fo = 2; unfold mm_q_addPart; (repeat' split) <;> omega]; exact hM12, hF12⟩) (Nat.le_of_ble_eq_true rfl) (Nat.le_of_ble_eq_true rfl) dX7_addPart_96
      ·
        refine W.eq (g2 := F0 m 44 ls [.int (nI 0), .ref ((rd 0 0))]) (by rw [if_neg htt]) ?_
        refine mm_if_ne (pc := 44) F (tgt := 51) (by omega) dX7_addPart_44 (by decide) (fun h9 => absurd h9 (by decide)) (fun cz44 => ?_)
        refine lv_iconst (pc := 47) (v := nI 1) F.1 F.2.1 dX7_addPart_47 (by decide) ?_
        refine lv_goto (pc := 48) (tgt := 85) F.1 F.2.1 dX7_addPart_48 (by decide) ?_
        refine mm_put (pc := 85) F hN (mm_r0 hM) (ci := 7) rfl 25 (by decide) mw_1204 rfl (ty := .int) (by decide +kernel) (rfl) (rfl) (Nat.le_of_ble_eq_true rfl) dX7_addPart_85 (fun H locs hN => ?_)
        have hN : mm_N b D s (mm_u σ ((rd 0 0)) (mm_obj 1 7 [.ref ((rd 1 0)), .ref ((rd 2 0)), .ref ((rd 3 0)), .int (nI T.nA), .ref ((rd 4 0)), .ref ((rd 5 0)), .ref ((rd 6 0)), .int (nI T.nP), .ref ((rd 7 0)), .ref ((rd 8 0)), .ref ((rd 9 0)), .ref ((rd 10 0)), .ref ((rd 11 0)), .int (nI T.nT), .int (nI T.pa), .ref ((rd 12 0)), .int (nI T.bo), .ref ((rd 13 0)), .ref ((rd 14 0)), .ref ((rd 15 0)), .ref ((rd 16 0)), .ref ((rd 17 0)), .ref ((rd 18 0)), .ref ((rd 19 0)), .int (nI T.nR), .int (nI 1)])) _ _ := hN
        obtain ⟨σ13, eσ13⟩ : ∃ q, q = mm_u σ ((rd 0 0)) (mm_obj 1 7 [.ref ((rd 1 0)), .ref ((rd 2 0)), .ref ((rd 3 0)), .int (nI T.nA), .ref ((rd 4 0)), .ref ((rd 5 0)), .ref ((rd 6 0)), .int (nI T.nP), .ref ((rd 7 0)), .ref ((rd 8 0)), .ref ((rd 9 0)), .ref ((rd 10 0)), .ref ((rd 11 0)), .int (nI T.nT), .int (nI T.pa), .ref ((rd 12 0)), .int (nI T.bo), .ref ((rd 13 0)), .ref ((rd 14 0)), .ref ((rd 15 0)), .ref ((rd 16 0)), .ref ((rd 17 0)), .ref ((rd 18 0)), .ref ((rd 19 0)), .int (nI T.nR), .int (nI 1)]) := ⟨_, rfl⟩
        rw [← eσ13] at hN
        have hM13 : mm_M σ13 T 1 rd := by rw [eσ13]; exact mm_Mo hM (fun _ _ => rfl) rfl
        have hF13 : mm_Fr 1 σ σ13 := by rw [eσ13]; exact (mm_Fr.rf).tr (mm_Fr.u (mm_r0 hM))
        refine lv_aload_n (pc := 88) F.1 F.2.1 dX7_addPart_88 rfl (lv_at hl 1 rfl) ?_
        refine mm_get (pc := 89) F hN ((show σ13 (rd 0 0) = mm_obj 1 7 [.ref ((rd 1 0)), .ref ((rd 2 0)), .ref ((rd 3 0)), .int (nI T.nA), .ref ((rd 4 0)), .ref ((rd 5 0)), .ref ((rd 6 0)), .int (nI T.nP), .ref ((rd 7 0)), .ref ((rd 8 0)), .ref ((rd 9 0)), .ref ((rd 10 0)), .ref ((rd 11 0)), .int (nI T.nT), .int (nI T.pa), .ref ((rd 12 0)), .int (nI T.bo), .ref ((rd 13 0)), .ref ((rd 14 0)), .ref ((rd 15 0)), .ref ((rd 16 0)), .ref ((rd 17 0)), .ref ((rd 18 0)), .ref ((rd 19 0)), .int (nI T.nR), .int (nI 1)] from mm_r0 (T := T) hM13)) (ci := 7) rfl 25 (by decide) mw_1204 rfl dX7_addPart_89 ?_
        refine mm_if_le (pc := 92) F (tgt := 97) (by omega) dX7_addPart_92 (by decide) (fun h9 => absurd h9 (by decide)) (fun cz92 => ?_)
        refine lv_iconst (pc := 95) (v := nI 0) F.1 F.2.1 dX7_addPart_95 (by decide) ?_
        exact mm_iret (pc := 96) F hr hN (Or.inr ⟨by rw [show mm_q_addPart T t ln ne fo = 1 from by show mm_q_addPart T t ln ne fo = 1; unfold mm_q_addPart; (repeat' split) <;> omega]; decide, ⟨_, rfl⟩, by rw [show mm_q_addPart T t ln ne fo = 1 from by show mm_q_addPart T t ln ne fo = 1; unfold mm_q_addPart; (repeat' split) <;> omega]; exact hM13, hF13⟩) (Nat.le_of_ble_eq_true rfl) (Nat.le_of_ble_eq_true rfl) dX7_addPart_96
  ·
    refine W.eq (g2 := F0 m 7 ls [.int (nI 0)]) (by rw [if_neg (fun q => hi4 ((mm_inC (a := ln) (lo := 1) (hi := 40) (by omega) (by decide) (by decide)).mp q))]) ?_
    refine mm_if_eq (pc := 7) F (tgt := 35) (by omega) dX7_addPart_7 (by decide) (fun cz7 => ?_) (fun h9 => absurd h9 (by decide))
    refine lv_iconst (pc := 35) (v := nI 0) F.1 F.2.1 dX7_addPart_35 (by decide) ?_
    refine lv_istore (pc := 36) (lv' := [(5, .int (nI 0)), (0, .ref ((rd 0 0))), (1, .int (nI t)), (2, .int (nI ln)), (3, .int (nI ne)), (4, .int (nI fo))]) F.1 F.2.1 dX7_addPart_36 hl (by decide) rfl (fun ls hl => ?_)
    refine lv_aload_n (pc := 38) F.1 F.2.1 dX7_addPart_38 rfl (lv_at hl 1 rfl) ?_
    refine lv_aload_n (pc := 39) F.1 F.2.1 dX7_addPart_39 rfl (lv_at hl 1 rfl) ?_
    refine lv_iload_n (pc := 40) F.1 F.2.1 dX7_addPart_40 rfl (lv_at hl 2 rfl) ?_
    refine mm_runV (pc := 41) (As := [.int (nI t)]) (rest := [.ref ((rd 0 0))]) F hN (c_isTpl l b D hst T th rd σ hM hW t (by omega)) mw_1323 mw_1325 mw_p26 mw_6 mw_1326 ⟨pmX7_isTemplate, (Nat.le_of_ble_eq_true rfl), (Nat.le_of_ble_eq_true rfl)⟩ (mm_recv F.2.2.2.2.2.1 hN (mm_r0 hM) rfl) hl.1 rfl (Nat.le_of_ble_eq_true rfl) ⟨(Nat.le_of_ble_eq_true rfl), (Nat.le_of_ble_eq_true rfl)⟩ dX7_addPart_41
      (fun _ _ _ _ _ _ h9 => False.elim h9)
      (fun v9 σ9 H locs hp9 hN => ?_)
    obtain ⟨rfl, h9⟩ := hp9
    rw [h9] at hN
    refine W.eq (g2 := F0 m 44 ls [.int (nI (if t < T.nT then 1 else 0)), .ref ((rd 0 0))]) rfl ?_
    refine W.widen (k := 0) (n := 0) (Nat.le_of_ble_eq_true rfl) (Nat.le_of_ble_eq_true rfl) ?_
    by_cases htt : t < T.nT
    ·
      refine W.eq (g2 := F0 m 44 ls [.int (nI 1), .ref ((rd 0 0))]) (by rw [if_pos htt]) ?_
      obtain ⟨wt1t, wt2t, wt3t⟩ := hW.htp t htt
      refine mm_if_ne (pc := 44) F (tgt := 51) (by omega) dX7_addPart_44 (by decide) (fun cz44 => ?_) (fun h9 => absurd h9 (by decide))
      refine lv_iload (pc := 51) F.1 F.2.1 dX7_addPart_51 (lv_at hl 0 rfl) ?_
      refine mm_if_ne (pc := 53) F (tgt := 60) (by omega) dX7_addPart_53 (by decide) (fun h9 => absurd h9 (by decide)) (fun cz53 => ?_)
      refine lv_iconst (pc := 56) (v := nI 2) F.1 F.2.1 dX7_addPart_56 (by decide) ?_
      refine lv_goto (pc := 57) (tgt := 85) F.1 F.2.1 dX7_addPart_57 (by decide) ?_
      refine mm_put (pc := 85) F hN (mm_r0 hM) (ci := 7) rfl 25 (by decide) mw_1204 rfl (ty := .int) (by decide +kernel) (rfl) (rfl) (Nat.le_of_ble_eq_true rfl) dX7_addPart_85 (fun H locs hN => ?_)
      have hN : mm_N b D s (mm_u σ ((rd 0 0)) (mm_obj 1 7 [.ref ((rd 1 0)), .ref ((rd 2 0)), .ref ((rd 3 0)), .int (nI T.nA), .ref ((rd 4 0)), .ref ((rd 5 0)), .ref ((rd 6 0)), .int (nI T.nP), .ref ((rd 7 0)), .ref ((rd 8 0)), .ref ((rd 9 0)), .ref ((rd 10 0)), .ref ((rd 11 0)), .int (nI T.nT), .int (nI T.pa), .ref ((rd 12 0)), .int (nI T.bo), .ref ((rd 13 0)), .ref ((rd 14 0)), .ref ((rd 15 0)), .ref ((rd 16 0)), .ref ((rd 17 0)), .ref ((rd 18 0)), .ref ((rd 19 0)), .int (nI T.nR), .int (nI 2)])) _ _ := hN
      obtain ⟨σ14, eσ14⟩ : ∃ q, q = mm_u σ ((rd 0 0)) (mm_obj 1 7 [.ref ((rd 1 0)), .ref ((rd 2 0)), .ref ((rd 3 0)), .int (nI T.nA), .ref ((rd 4 0)), .ref ((rd 5 0)), .ref ((rd 6 0)), .int (nI T.nP), .ref ((rd 7 0)), .ref ((rd 8 0)), .ref ((rd 9 0)), .ref ((rd 10 0)), .ref ((rd 11 0)), .int (nI T.nT), .int (nI T.pa), .ref ((rd 12 0)), .int (nI T.bo), .ref ((rd 13 0)), .ref ((rd 14 0)), .ref ((rd 15 0)), .ref ((rd 16 0)), .ref ((rd 17 0)), .ref ((rd 18 0)), .ref ((rd 19 0)), .int (nI T.nR), .int (nI 2)]) := ⟨_, rfl⟩
      rw [← eσ14] at hN
      have hM14 : mm_M σ14 T 2 rd := by rw [eσ14]; exact mm_Mo hM (fun _ _ => rfl) rfl
      have hF14 : mm_Fr 1 σ σ14 := by rw [eσ14]; exact (mm_Fr.rf).tr (mm_Fr.u (mm_r0 hM))
      refine lv_aload_n (pc := 88) F.1 F.2.1 dX7_addPart_88 rfl (lv_at hl 1 rfl) ?_
      refine mm_get (pc := 89) F hN ((show σ14 (rd 0 0) = mm_obj 1 7 [.ref ((rd 1 0)), .ref ((rd 2 0)), .ref ((rd 3 0)), .int (nI T.nA), .ref ((rd 4 0)), .ref ((rd 5 0)), .ref ((rd 6 0)), .int (nI T.nP), .ref ((rd 7 0)), .ref ((rd 8 0)), .ref ((rd 9 0)), .ref ((rd 10 0)), .ref ((rd 11 0)), .int (nI T.nT), .int (nI T.pa), .ref ((rd 12 0)), .int (nI T.bo), .ref ((rd 13 0)), .ref ((rd 14 0)), .ref ((rd 15 0)), .ref ((rd 16 0)), .ref ((rd 17 0)), .ref ((rd 18 0)), .ref ((rd 19 0)), .int (nI T.nR), .int (nI 2)] from mm_r0 (T := T) hM14)) (ci := 7) rfl 25 (by decide) mw_1204 rfl dX7_addPart_89 ?_
      refine mm_if_le (pc := 92) F (tgt := 97) (by omega) dX7_addPart_92 (by decide) (fun h9 => absurd h9 (by decide)) (fun cz92 => ?_)
      refine lv_iconst (pc := 95) (v := nI 0) F.1 F.2.1 dX7_addPart_95 (by decide) ?_
      exact mm_iret (pc := 96) F hr hN (Or.inr ⟨by rw [show mm_q_addPart T t ln ne fo = 2 from by show mm_q_addPart T t ln ne fo = 2; unfold mm_q_addPart; (repeat' split) <;> omega]; decide, ⟨_, rfl⟩, by rw [show mm_q_addPart T t ln ne fo = 2 from by show mm_q_addPart T t ln ne fo = 2; unfold mm_q_addPart; (repeat' split) <;> omega]; exact hM14, hF14⟩) (Nat.le_of_ble_eq_true rfl) (Nat.le_of_ble_eq_true rfl) dX7_addPart_96
    ·
      refine W.eq (g2 := F0 m 44 ls [.int (nI 0), .ref ((rd 0 0))]) (by rw [if_neg htt]) ?_
      refine mm_if_ne (pc := 44) F (tgt := 51) (by omega) dX7_addPart_44 (by decide) (fun h9 => absurd h9 (by decide)) (fun cz44 => ?_)
      refine lv_iconst (pc := 47) (v := nI 1) F.1 F.2.1 dX7_addPart_47 (by decide) ?_
      refine lv_goto (pc := 48) (tgt := 85) F.1 F.2.1 dX7_addPart_48 (by decide) ?_
      refine mm_put (pc := 85) F hN (mm_r0 hM) (ci := 7) rfl 25 (by decide) mw_1204 rfl (ty := .int) (by decide +kernel) (rfl) (rfl) (Nat.le_of_ble_eq_true rfl) dX7_addPart_85 (fun H locs hN => ?_)
      have hN : mm_N b D s (mm_u σ ((rd 0 0)) (mm_obj 1 7 [.ref ((rd 1 0)), .ref ((rd 2 0)), .ref ((rd 3 0)), .int (nI T.nA), .ref ((rd 4 0)), .ref ((rd 5 0)), .ref ((rd 6 0)), .int (nI T.nP), .ref ((rd 7 0)), .ref ((rd 8 0)), .ref ((rd 9 0)), .ref ((rd 10 0)), .ref ((rd 11 0)), .int (nI T.nT), .int (nI T.pa), .ref ((rd 12 0)), .int (nI T.bo), .ref ((rd 13 0)), .ref ((rd 14 0)), .ref ((rd 15 0)), .ref ((rd 16 0)), .ref ((rd 17 0)), .ref ((rd 18 0)), .ref ((rd 19 0)), .int (nI T.nR), .int (nI 1)])) _ _ := hN
      obtain ⟨σ15, eσ15⟩ : ∃ q, q = mm_u σ ((rd 0 0)) (mm_obj 1 7 [.ref ((rd 1 0)), .ref ((rd 2 0)), .ref ((rd 3 0)), .int (nI T.nA), .ref ((rd 4 0)), .ref ((rd 5 0)), .ref ((rd 6 0)), .int (nI T.nP), .ref ((rd 7 0)), .ref ((rd 8 0)), .ref ((rd 9 0)), .ref ((rd 10 0)), .ref ((rd 11 0)), .int (nI T.nT), .int (nI T.pa), .ref ((rd 12 0)), .int (nI T.bo), .ref ((rd 13 0)), .ref ((rd 14 0)), .ref ((rd 15 0)), .ref ((rd 16 0)), .ref ((rd 17 0)), .ref ((rd 18 0)), .ref ((rd 19 0)), .int (nI T.nR), .int (nI 1)]) := ⟨_, rfl⟩
      rw [← eσ15] at hN
      have hM15 : mm_M σ15 T 1 rd := by rw [eσ15]; exact mm_Mo hM (fun _ _ => rfl) rfl
      have hF15 : mm_Fr 1 σ σ15 := by rw [eσ15]; exact (mm_Fr.rf).tr (mm_Fr.u (mm_r0 hM))
      refine lv_aload_n (pc := 88) F.1 F.2.1 dX7_addPart_88 rfl (lv_at hl 1 rfl) ?_
      refine mm_get (pc := 89) F hN ((show σ15 (rd 0 0) = mm_obj 1 7 [.ref ((rd 1 0)), .ref ((rd 2 0)), .ref ((rd 3 0)), .int (nI T.nA), .ref ((rd 4 0)), .ref ((rd 5 0)), .ref ((rd 6 0)), .int (nI T.nP), .ref ((rd 7 0)), .ref ((rd 8 0)), .ref ((rd 9 0)), .ref ((rd 10 0)), .ref ((rd 11 0)), .int (nI T.nT), .int (nI T.pa), .ref ((rd 12 0)), .int (nI T.bo), .ref ((rd 13 0)), .ref ((rd 14 0)), .ref ((rd 15 0)), .ref ((rd 16 0)), .ref ((rd 17 0)), .ref ((rd 18 0)), .ref ((rd 19 0)), .int (nI T.nR), .int (nI 1)] from mm_r0 (T := T) hM15)) (ci := 7) rfl 25 (by decide) mw_1204 rfl dX7_addPart_89 ?_
      refine mm_if_le (pc := 92) F (tgt := 97) (by omega) dX7_addPart_92 (by decide) (fun h9 => absurd h9 (by decide)) (fun cz92 => ?_)
      refine lv_iconst (pc := 95) (v := nI 0) F.1 F.2.1 dX7_addPart_95 (by decide) ?_
      exact mm_iret (pc := 96) F hr hN (Or.inr ⟨by rw [show mm_q_addPart T t ln ne fo = 1 from by show mm_q_addPart T t ln ne fo = 1; unfold mm_q_addPart; (repeat' split) <;> omega]; decide, ⟨_, rfl⟩, by rw [show mm_q_addPart T t ln ne fo = 1 from by show mm_q_addPart T t ln ne fo = 1; unfold mm_q_addPart; (repeat' split) <;> omega]; exact hM15, hF15⟩) (Nat.le_of_ble_eq_true rfl) (Nat.le_of_ble_eq_true rfl) dX7_addPart_96

set_option maxHeartbeats 4000000 in
set_option maxRecDepth 100000 in
theorem r_buyPaper (l : Launch) (b : Nat) (D : mm_D) (hst : l.stackTraces = false) (T : mm_T) (th : Nat) (rd : Nat → Nat → Nat) (σ : mm_S) (hM : mm_M σ T th rd) (hW : mm_WF T) (n : Nat) (zn : n < 2 ^ 32) : mm_K l b D yX7_buyPaper (.code yX7_buyPaper cX7_buyPaper 2 (some .int)) ({ frames := 6, cells := 0, slots := 0, locals := 160 } : Room) [.ref ((rd 0 0)), .int (nI n)] σ
    (fun v σ2 => mm_Mt rd σ σ2 T ((T.w 0 (mm_u2 (T 0) 4 0 (T.pa + n))).w 0 (mm_u2 (mm_u2 (T 0) 4 0 (T.pa + n)) 6 0 (T.b0 + n))) (mm_q_buyPaper T n) v (some (.int (nI (T.pa + n)))))
    (fun _ _ => False) := by
  refine mm_of (cc := cX7_buyPaper) (nL := 2) (ret := (some .int)) (by decide) rfl (Nat.le_of_ble_eq_true rfl) hst ?_
  intro p e s m args below meth c ls F ht hr hin hN hl
  have hl : lv_has ls 2 [(0, .ref ((rd 0 0))), (1, .int (nI n))] := hl
  have wnA := hW.hnA
  have wnP := hW.hnP
  have wnT := hW.hnT
  have wnR := hW.hnR
  have wpa := hW.hpa
  have wbo := hW.hbo
  have wen0 := hW.hen 0
  have wen1 := hW.hen 1
  refine lv_aload_n (pc := 0) F.1 F.2.1 dX7_buyPaper_0 rfl (lv_at hl 0 rfl) ?_
  refine lv_iload_n (pc := 1) F.1 F.2.1 dX7_buyPaper_1 rfl (lv_at hl 1 rfl) ?_
  refine lv_iconst (pc := 2) (v := nI 1) F.1 F.2.1 dX7_buyPaper_2 (by decide) ?_
  refine lv_sipush (pc := 3) (v := nI 500) F.1 F.2.1 dX7_buyPaper_3 (by decide) ?_
  refine mm_runS (pc := 6) (As := [.int (nI n), .int (nI 1), .int (nI 500)]) (rest := [.ref ((rd 0 0))]) F hN (c_in l b D hst (nI n) (nI 1) (nI 500) σ) mw_1268 mw_1269 mw_6 mw_1270 ⟨pmX7_in, (Nat.le_of_ble_eq_true rfl), (Nat.le_of_ble_eq_true rfl)⟩ hl.1 rfl (Nat.le_of_ble_eq_true rfl) ⟨(Nat.le_of_ble_eq_true rfl), (Nat.le_of_ble_eq_true rfl)⟩ dX7_buyPaper_6
    (fun _ _ _ _ _ _ h9 => False.elim h9)
    (fun v9 σ9 H locs hp9 hN => ?_)
  obtain ⟨rfl, h9⟩ := hp9
  rw [h9] at hN
  refine W.eq (g2 := F0 m 9 ls [.int (nI (if nI 1 ≤ nI n ∧ nI n ≤ nI 500 then 1 else 0)), .ref ((rd 0 0))]) rfl ?_
  refine W.widen (k := 0) (n := 0) (Nat.le_of_ble_eq_true rfl) (Nat.le_of_ble_eq_true rfl) ?_
  by_cases hi6 : 1 ≤ n ∧ n ≤ 500
  ·
    refine W.eq (g2 := F0 m 9 ls [.int (nI 1), .ref ((rd 0 0))]) (by rw [if_pos ((mm_inC (a := n) (lo := 1) (hi := 500) (by omega) (by decide) (by decide)).mpr hi6)]) ?_
    refine mm_if_ne (pc := 9) F (tgt := 16) (by omega) dX7_buyPaper_9 (by decide) (fun cz9 => ?_) (fun h9 => absurd h9 (by decide))
    refine lv_aload_n (pc := 16) F.1 F.2.1 dX7_buyPaper_16 rfl (lv_at hl 0 rfl) ?_
    refine mm_get (pc := 17) F hN (mm_r0 hM) (ci := 7) rfl 14 (by decide) mw_1193 rfl dX7_buyPaper_17 ?_
    refine lv_iload_n (pc := 20) F.1 F.2.1 dX7_buyPaper_20 rfl (lv_at hl 1 rfl) ?_
    refine mm_iadd (pc := 21) F (z := nI (T.pa + n)) (nI_add _ _) dX7_buyPaper_21 ?_
    refine lv_sipush (pc := 22) (v := nI 5000) F.1 F.2.1 dX7_buyPaper_22 (by decide) ?_
    refine mm_icmp_le (pc := 25) F (x := T.pa + n) (y := 5000) (tgt := 32) (by omega) (by omega) dX7_buyPaper_25 (by decide) (fun cz25 => ?_) (fun cz25 => ?_)
    ·
      refine lv_iconst (pc := 32) (v := nI 0) F.1 F.2.1 dX7_buyPaper_32 (by decide) ?_
      refine mm_put (pc := 33) F hN (mm_r0 hM) (ci := 7) rfl 25 (by decide) mw_1204 rfl (ty := .int) (by decide +kernel) (rfl) (rfl) (Nat.le_of_ble_eq_true rfl) dX7_buyPaper_33 (fun H locs hN => ?_)
      have hN : mm_N b D s (mm_u σ ((rd 0 0)) (mm_obj 1 7 [.ref ((rd 1 0)), .ref ((rd 2 0)), .ref ((rd 3 0)), .int (nI T.nA), .ref ((rd 4 0)), .ref ((rd 5 0)), .ref ((rd 6 0)), .int (nI T.nP), .ref ((rd 7 0)), .ref ((rd 8 0)), .ref ((rd 9 0)), .ref ((rd 10 0)), .ref ((rd 11 0)), .int (nI T.nT), .int (nI T.pa), .ref ((rd 12 0)), .int (nI T.bo), .ref ((rd 13 0)), .ref ((rd 14 0)), .ref ((rd 15 0)), .ref ((rd 16 0)), .ref ((rd 17 0)), .ref ((rd 18 0)), .ref ((rd 19 0)), .int (nI T.nR), .int (nI 0)])) _ _ := hN
      obtain ⟨σ2, eσ2⟩ : ∃ q, q = mm_u σ ((rd 0 0)) (mm_obj 1 7 [.ref ((rd 1 0)), .ref ((rd 2 0)), .ref ((rd 3 0)), .int (nI T.nA), .ref ((rd 4 0)), .ref ((rd 5 0)), .ref ((rd 6 0)), .int (nI T.nP), .ref ((rd 7 0)), .ref ((rd 8 0)), .ref ((rd 9 0)), .ref ((rd 10 0)), .ref ((rd 11 0)), .int (nI T.nT), .int (nI T.pa), .ref ((rd 12 0)), .int (nI T.bo), .ref ((rd 13 0)), .ref ((rd 14 0)), .ref ((rd 15 0)), .ref ((rd 16 0)), .ref ((rd 17 0)), .ref ((rd 18 0)), .ref ((rd 19 0)), .int (nI T.nR), .int (nI 0)]) := ⟨_, rfl⟩
      rw [← eσ2] at hN
      have hM2 : mm_M σ2 T 0 rd := by rw [eσ2]; exact mm_Mo hM (fun _ _ => rfl) rfl
      have hF2 : mm_Fr 1 σ σ2 := by rw [eσ2]; exact (mm_Fr.rf).tr (mm_Fr.u (mm_r0 hM))
      refine lv_aload_n (pc := 36) F.1 F.2.1 dX7_buyPaper_36 rfl (lv_at hl 0 rfl) ?_
      refine mm_get (pc := 37) F hN ((show σ2 (rd 0 0) = mm_obj 1 7 [.ref ((rd 1 0)), .ref ((rd 2 0)), .ref ((rd 3 0)), .int (nI T.nA), .ref ((rd 4 0)), .ref ((rd 5 0)), .ref ((rd 6 0)), .int (nI T.nP), .ref ((rd 7 0)), .ref ((rd 8 0)), .ref ((rd 9 0)), .ref ((rd 10 0)), .ref ((rd 11 0)), .int (nI T.nT), .int (nI T.pa), .ref ((rd 12 0)), .int (nI T.bo), .ref ((rd 13 0)), .ref ((rd 14 0)), .ref ((rd 15 0)), .ref ((rd 16 0)), .ref ((rd 17 0)), .ref ((rd 18 0)), .ref ((rd 19 0)), .int (nI T.nR), .int (nI 0)] from mm_r0 (T := T) hM2)) (ci := 7) rfl 25 (by decide) mw_1204 rfl dX7_buyPaper_37 ?_
      refine mm_if_le (pc := 40) F (tgt := 45) (by omega) dX7_buyPaper_40 (by decide) (fun cz40 => ?_) (fun h9 => absurd h9 (by decide))
      refine lv_aload_n (pc := 45) F.1 F.2.1 dX7_buyPaper_45 rfl (lv_at hl 0 rfl) ?_
      refine lv_dup (pc := 46) F.1 F.2.1 dX7_buyPaper_46 rfl ?_
      refine mm_get (pc := 47) F hN ((show σ2 (rd 0 0) = mm_obj 1 7 [.ref ((rd 1 0)), .ref ((rd 2 0)), .ref ((rd 3 0)), .int (nI T.nA), .ref ((rd 4 0)), .ref ((rd 5 0)), .ref ((rd 6 0)), .int (nI T.nP), .ref ((rd 7 0)), .ref ((rd 8 0)), .ref ((rd 9 0)), .ref ((rd 10 0)), .ref ((rd 11 0)), .int (nI T.nT), .int (nI T.pa), .ref ((rd 12 0)), .int (nI T.bo), .ref ((rd 13 0)), .ref ((rd 14 0)), .ref ((rd 15 0)), .ref ((rd 16 0)), .ref ((rd 17 0)), .ref ((rd 18 0)), .ref ((rd 19 0)), .int (nI T.nR), .int (nI 0)] from mm_r0 (T := T) hM2)) (ci := 7) rfl 14 (by decide) mw_1193 rfl dX7_buyPaper_47 ?_
      refine lv_iload_n (pc := 50) F.1 F.2.1 dX7_buyPaper_50 rfl (lv_at hl 1 rfl) ?_
      refine mm_iadd (pc := 51) F (z := nI (T.pa + n)) (nI_add _ _) dX7_buyPaper_51 ?_
      refine mm_put (pc := 52) F hN ((show σ2 (rd 0 0) = mm_obj 1 7 [.ref ((rd 1 0)), .ref ((rd 2 0)), .ref ((rd 3 0)), .int (nI T.nA), .ref ((rd 4 0)), .ref ((rd 5 0)), .ref ((rd 6 0)), .int (nI T.nP), .ref ((rd 7 0)), .ref ((rd 8 0)), .ref ((rd 9 0)), .ref ((rd 10 0)), .ref ((rd 11 0)), .int (nI T.nT), .int (nI T.pa), .ref ((rd 12 0)), .int (nI T.bo), .ref ((rd 13 0)), .ref ((rd 14 0)), .ref ((rd 15 0)), .ref ((rd 16 0)), .ref ((rd 17 0)), .ref ((rd 18 0)), .ref ((rd 19 0)), .int (nI T.nR), .int (nI 0)] from mm_r0 (T := T) hM2)) (ci := 7) rfl 14 (by decide) mw_1193 rfl (ty := .int) (by decide +kernel) (rfl) (rfl) (Nat.le_of_ble_eq_true rfl) dX7_buyPaper_52 (fun H locs hN => ?_)
      have hN : mm_N b D s (mm_u σ2 ((rd 0 0)) (mm_obj 1 7 [.ref ((rd 1 0)), .ref ((rd 2 0)), .ref ((rd 3 0)), .int (nI T.nA), .ref ((rd 4 0)), .ref ((rd 5 0)), .ref ((rd 6 0)), .int (nI T.nP), .ref ((rd 7 0)), .ref ((rd 8 0)), .ref ((rd 9 0)), .ref ((rd 10 0)), .ref ((rd 11 0)), .int (nI T.nT), .int (nI (T.pa + n)), .ref ((rd 12 0)), .int (nI T.bo), .ref ((rd 13 0)), .ref ((rd 14 0)), .ref ((rd 15 0)), .ref ((rd 16 0)), .ref ((rd 17 0)), .ref ((rd 18 0)), .ref ((rd 19 0)), .int (nI T.nR), .int (nI 0)])) _ _ := hN
      obtain ⟨σ3, eσ3⟩ : ∃ q, q = mm_u σ2 ((rd 0 0)) (mm_obj 1 7 [.ref ((rd 1 0)), .ref ((rd 2 0)), .ref ((rd 3 0)), .int (nI T.nA), .ref ((rd 4 0)), .ref ((rd 5 0)), .ref ((rd 6 0)), .int (nI T.nP), .ref ((rd 7 0)), .ref ((rd 8 0)), .ref ((rd 9 0)), .ref ((rd 10 0)), .ref ((rd 11 0)), .int (nI T.nT), .int (nI (T.pa + n)), .ref ((rd 12 0)), .int (nI T.bo), .ref ((rd 13 0)), .ref ((rd 14 0)), .ref ((rd 15 0)), .ref ((rd 16 0)), .ref ((rd 17 0)), .ref ((rd 18 0)), .ref ((rd 19 0)), .int (nI T.nR), .int (nI 0)]) := ⟨_, rfl⟩
      rw [← eσ3] at hN
      have hM3 : mm_M σ3 (T.w 0 (mm_u2 (T 0) 4 0 (T.pa + n))) 0 rd := by rw [eσ3]; exact mm_Mo hM2 (fun k hk => mm_T.wo hk) rfl
      have hF3 : mm_Fr 1 σ σ3 := by rw [eσ3]; exact (hF2).tr (mm_Fr.u (mm_r0 hM2))
      refine lv_aload_n (pc := 55) F.1 F.2.1 dX7_buyPaper_55 rfl (lv_at hl 0 rfl) ?_
      refine mm_get (pc := 56) F hN ((show σ3 (rd 0 0) = mm_obj 1 7 [.ref ((rd 1 0)), .ref ((rd 2 0)), .ref ((rd 3 0)), .int (nI T.nA), .ref ((rd 4 0)), .ref ((rd 5 0)), .ref ((rd 6 0)), .int (nI T.nP), .ref ((rd 7 0)), .ref ((rd 8 0)), .ref ((rd 9 0)), .ref ((rd 10 0)), .ref ((rd 11 0)), .int (nI T.nT), .int (nI (T.pa + n)), .ref ((rd 12 0)), .int (nI T.bo), .ref ((rd 13 0)), .ref ((rd 14 0)), .ref ((rd 15 0)), .ref ((rd 16 0)), .ref ((rd 17 0)), .ref ((rd 18 0)), .ref ((rd 19 0)), .int (nI T.nR), .int (nI 0)] from mm_r0 (T := (T.w 0 (mm_u2 (T 0) 4 0 (T.pa + n)))) hM3)) (ci := 7) rfl 14 (by decide) mw_1193 rfl dX7_buyPaper_56 ?_
      exact mm_iret (pc := 59) F hr hN (Or.inl ⟨by show mm_q_buyPaper T n = 0; unfold mm_q_buyPaper; (repeat' split) <;> omega, rfl, mm_M_cg hM3 (fun k hk => by
        by_cases e0 : k = 0
        · subst e0; exact absurd rfl hk
        simp only [mm_T.w, if_neg e0]) rfl, hF3⟩) (Nat.le_of_ble_eq_true rfl) (Nat.le_of_ble_eq_true rfl) dX7_buyPaper_59
    ·
      refine lv_iconst (pc := 28) (v := nI 2) F.1 F.2.1 dX7_buyPaper_28 (by decide) ?_
      refine lv_goto (pc := 29) (tgt := 33) F.1 F.2.1 dX7_buyPaper_29 (by decide) ?_
      refine mm_put (pc := 33) F hN (mm_r0 hM) (ci := 7) rfl 25 (by decide) mw_1204 rfl (ty := .int) (by decide +kernel) (rfl) (rfl) (Nat.le_of_ble_eq_true rfl) dX7_buyPaper_33 (fun H locs hN => ?_)
      have hN : mm_N b D s (mm_u σ ((rd 0 0)) (mm_obj 1 7 [.ref ((rd 1 0)), .ref ((rd 2 0)), .ref ((rd 3 0)), .int (nI T.nA), .ref ((rd 4 0)), .ref ((rd 5 0)), .ref ((rd 6 0)), .int (nI T.nP), .ref ((rd 7 0)), .ref ((rd 8 0)), .ref ((rd 9 0)), .ref ((rd 10 0)), .ref ((rd 11 0)), .int (nI T.nT), .int (nI T.pa), .ref ((rd 12 0)), .int (nI T.bo), .ref ((rd 13 0)), .ref ((rd 14 0)), .ref ((rd 15 0)), .ref ((rd 16 0)), .ref ((rd 17 0)), .ref ((rd 18 0)), .ref ((rd 19 0)), .int (nI T.nR), .int (nI 2)])) _ _ := hN
      obtain ⟨σ4, eσ4⟩ : ∃ q, q = mm_u σ ((rd 0 0)) (mm_obj 1 7 [.ref ((rd 1 0)), .ref ((rd 2 0)), .ref ((rd 3 0)), .int (nI T.nA), .ref ((rd 4 0)), .ref ((rd 5 0)), .ref ((rd 6 0)), .int (nI T.nP), .ref ((rd 7 0)), .ref ((rd 8 0)), .ref ((rd 9 0)), .ref ((rd 10 0)), .ref ((rd 11 0)), .int (nI T.nT), .int (nI T.pa), .ref ((rd 12 0)), .int (nI T.bo), .ref ((rd 13 0)), .ref ((rd 14 0)), .ref ((rd 15 0)), .ref ((rd 16 0)), .ref ((rd 17 0)), .ref ((rd 18 0)), .ref ((rd 19 0)), .int (nI T.nR), .int (nI 2)]) := ⟨_, rfl⟩
      rw [← eσ4] at hN
      have hM4 : mm_M σ4 T 2 rd := by rw [eσ4]; exact mm_Mo hM (fun _ _ => rfl) rfl
      have hF4 : mm_Fr 1 σ σ4 := by rw [eσ4]; exact (mm_Fr.rf).tr (mm_Fr.u (mm_r0 hM))
      refine lv_aload_n (pc := 36) F.1 F.2.1 dX7_buyPaper_36 rfl (lv_at hl 0 rfl) ?_
      refine mm_get (pc := 37) F hN ((show σ4 (rd 0 0) = mm_obj 1 7 [.ref ((rd 1 0)), .ref ((rd 2 0)), .ref ((rd 3 0)), .int (nI T.nA), .ref ((rd 4 0)), .ref ((rd 5 0)), .ref ((rd 6 0)), .int (nI T.nP), .ref ((rd 7 0)), .ref ((rd 8 0)), .ref ((rd 9 0)), .ref ((rd 10 0)), .ref ((rd 11 0)), .int (nI T.nT), .int (nI T.pa), .ref ((rd 12 0)), .int (nI T.bo), .ref ((rd 13 0)), .ref ((rd 14 0)), .ref ((rd 15 0)), .ref ((rd 16 0)), .ref ((rd 17 0)), .ref ((rd 18 0)), .ref ((rd 19 0)), .int (nI T.nR), .int (nI 2)] from mm_r0 (T := T) hM4)) (ci := 7) rfl 25 (by decide) mw_1204 rfl dX7_buyPaper_37 ?_
      refine mm_if_le (pc := 40) F (tgt := 45) (by omega) dX7_buyPaper_40 (by decide) (fun h9 => absurd h9 (by decide)) (fun cz40 => ?_)
      refine lv_iconst (pc := 43) (v := nI 0) F.1 F.2.1 dX7_buyPaper_43 (by decide) ?_
      exact mm_iret (pc := 44) F hr hN (Or.inr ⟨by rw [show mm_q_buyPaper T n = 2 from by show mm_q_buyPaper T n = 2; unfold mm_q_buyPaper; (repeat' split) <;> omega]; decide, ⟨_, rfl⟩, by rw [show mm_q_buyPaper T n = 2 from by show mm_q_buyPaper T n = 2; unfold mm_q_buyPaper; (repeat' split) <;> omega]; exact hM4, hF4⟩) (Nat.le_of_ble_eq_true rfl) (Nat.le_of_ble_eq_true rfl) dX7_buyPaper_44
  ·
    refine W.eq (g2 := F0 m 9 ls [.int (nI 0), .ref ((rd 0 0))]) (by rw [if_neg (fun q => hi6 ((mm_inC (a := n) (lo := 1) (hi := 500) (by omega) (by decide) (by decide)).mp q))]) ?_
    refine mm_if_ne (pc := 9) F (tgt := 16) (by omega) dX7_buyPaper_9 (by decide) (fun h9 => absurd h9 (by decide)) (fun cz9 => ?_)
    refine lv_iconst (pc := 12) (v := nI 1) F.1 F.2.1 dX7_buyPaper_12 (by decide) ?_
    refine lv_goto (pc := 13) (tgt := 33) F.1 F.2.1 dX7_buyPaper_13 (by decide) ?_
    refine mm_put (pc := 33) F hN (mm_r0 hM) (ci := 7) rfl 25 (by decide) mw_1204 rfl (ty := .int) (by decide +kernel) (rfl) (rfl) (Nat.le_of_ble_eq_true rfl) dX7_buyPaper_33 (fun H locs hN => ?_)
    have hN : mm_N b D s (mm_u σ ((rd 0 0)) (mm_obj 1 7 [.ref ((rd 1 0)), .ref ((rd 2 0)), .ref ((rd 3 0)), .int (nI T.nA), .ref ((rd 4 0)), .ref ((rd 5 0)), .ref ((rd 6 0)), .int (nI T.nP), .ref ((rd 7 0)), .ref ((rd 8 0)), .ref ((rd 9 0)), .ref ((rd 10 0)), .ref ((rd 11 0)), .int (nI T.nT), .int (nI T.pa), .ref ((rd 12 0)), .int (nI T.bo), .ref ((rd 13 0)), .ref ((rd 14 0)), .ref ((rd 15 0)), .ref ((rd 16 0)), .ref ((rd 17 0)), .ref ((rd 18 0)), .ref ((rd 19 0)), .int (nI T.nR), .int (nI 1)])) _ _ := hN
    obtain ⟨σ5, eσ5⟩ : ∃ q, q = mm_u σ ((rd 0 0)) (mm_obj 1 7 [.ref ((rd 1 0)), .ref ((rd 2 0)), .ref ((rd 3 0)), .int (nI T.nA), .ref ((rd 4 0)), .ref ((rd 5 0)), .ref ((rd 6 0)), .int (nI T.nP), .ref ((rd 7 0)), .ref ((rd 8 0)), .ref ((rd 9 0)), .ref ((rd 10 0)), .ref ((rd 11 0)), .int (nI T.nT), .int (nI T.pa), .ref ((rd 12 0)), .int (nI T.bo), .ref ((rd 13 0)), .ref ((rd 14 0)), .ref ((rd 15 0)), .ref ((rd 16 0)), .ref ((rd 17 0)), .ref ((rd 18 0)), .ref ((rd 19 0)), .int (nI T.nR), .int (nI 1)]) := ⟨_, rfl⟩
    rw [← eσ5] at hN
    have hM5 : mm_M σ5 T 1 rd := by rw [eσ5]; exact mm_Mo hM (fun _ _ => rfl) rfl
    have hF5 : mm_Fr 1 σ σ5 := by rw [eσ5]; exact (mm_Fr.rf).tr (mm_Fr.u (mm_r0 hM))
    refine lv_aload_n (pc := 36) F.1 F.2.1 dX7_buyPaper_36 rfl (lv_at hl 0 rfl) ?_
    refine mm_get (pc := 37) F hN ((show σ5 (rd 0 0) = mm_obj 1 7 [.ref ((rd 1 0)), .ref ((rd 2 0)), .ref ((rd 3 0)), .int (nI T.nA), .ref ((rd 4 0)), .ref ((rd 5 0)), .ref ((rd 6 0)), .int (nI T.nP), .ref ((rd 7 0)), .ref ((rd 8 0)), .ref ((rd 9 0)), .ref ((rd 10 0)), .ref ((rd 11 0)), .int (nI T.nT), .int (nI T.pa), .ref ((rd 12 0)), .int (nI T.bo), .ref ((rd 13 0)), .ref ((rd 14 0)), .ref ((rd 15 0)), .ref ((rd 16 0)), .ref ((rd 17 0)), .ref ((rd 18 0)), .ref ((rd 19 0)), .int (nI T.nR), .int (nI 1)] from mm_r0 (T := T) hM5)) (ci := 7) rfl 25 (by decide) mw_1204 rfl dX7_buyPaper_37 ?_
    refine mm_if_le (pc := 40) F (tgt := 45) (by omega) dX7_buyPaper_40 (by decide) (fun h9 => absurd h9 (by decide)) (fun cz40 => ?_)
    refine lv_iconst (pc := 43) (v := nI 0) F.1 F.2.1 dX7_buyPaper_43 (by decide) ?_
    exact mm_iret (pc := 44) F hr hN (Or.inr ⟨by rw [show mm_q_buyPaper T n = 1 from by show mm_q_buyPaper T n = 1; unfold mm_q_buyPaper; (repeat' split) <;> omega]; decide, ⟨_, rfl⟩, by rw [show mm_q_buyPaper T n = 1 from by show mm_q_buyPaper T n = 1; unfold mm_q_buyPaper; (repeat' split) <;> omega]; exact hM5, hF5⟩) (Nat.le_of_ble_eq_true rfl) (Nat.le_of_ble_eq_true rfl) dX7_buyPaper_44

set_option maxHeartbeats 4000000 in
set_option maxRecDepth 100000 in
theorem r_buyEnv0 (l : Launch) (b : Nat) (D : mm_D) (hst : l.stackTraces = false) (T : mm_T) (th : Nat) (rd : Nat → Nat → Nat) (σ : mm_S) (hM : mm_M σ T th rd) (hW : mm_WF T) (n : Nat) (zn : n < 2 ^ 32) : mm_K l b D yX7_buyEnvelopes (.code yX7_buyEnvelopes cX7_buyEnvelopes 4 (some .int)) ({ frames := 6, cells := 0, slots := 0, locals := 160 } : Room) [.ref ((rd 0 0)), .int (nI 0), .int (nI n)] σ
    (fun v σ2 => mm_Mt rd σ σ2 T ((T.w 12 (mm_u2 (T 12) 0 0 (T.en 0 + n))).w 0 (mm_u2 (T 0) 7 0 (T 0 7 0 + n))) (mm_q_buyEnvelopes T 0 n) v (some (.int (nI (T.en 0 + n)))))
    (fun _ _ => False) := by
  refine mm_of (cc := cX7_buyEnvelopes) (nL := 4) (ret := (some .int)) (by decide) rfl (Nat.le_of_ble_eq_true rfl) hst ?_
  intro p e s m args below meth c ls F ht hr hin hN hl
  have hl : lv_has ls 4 [(0, .ref ((rd 0 0))), (1, .int (nI 0)), (2, .int (nI n))] := hl
  have wnA := hW.hnA
  have wnP := hW.hnP
  have wnT := hW.hnT
  have wnR := hW.hnR
  have wpa := hW.hpa
  have wbo := hW.hbo
  have wen0 := hW.hen 0
  have wen1 := hW.hen 1
  refine lv_iload_n (pc := 0) F.1 F.2.1 dX7_buyEnvelopes_0 rfl (lv_at hl 1 rfl) ?_
  refine mm_if_eq (pc := 1) F (tgt := 8) (by omega) dX7_buyEnvelopes_1 (by decide) (fun cz1 => ?_) (fun h9 => absurd h9 (by decide))
  refine lv_iconst (pc := 8) (v := nI 0) F.1 F.2.1 dX7_buyEnvelopes_8 (by decide) ?_
  refine lv_istore_n (pc := 9) (lv' := [(3, .int (nI 0)), (0, .ref ((rd 0 0))), (1, .int (nI 0)), (2, .int (nI n))]) F.1 F.2.1 dX7_buyEnvelopes_9 rfl hl (by decide) rfl (fun ls hl => ?_)
  refine lv_aload_n (pc := 10) F.1 F.2.1 dX7_buyEnvelopes_10 rfl (lv_at hl 1 rfl) ?_
  refine lv_iload_n (pc := 11) F.1 F.2.1 dX7_buyEnvelopes_11 rfl (lv_at hl 3 rfl) ?_
  refine lv_iconst (pc := 12) (v := nI 1) F.1 F.2.1 dX7_buyEnvelopes_12 (by decide) ?_
  refine lv_sipush (pc := 13) (v := nI 500) F.1 F.2.1 dX7_buyEnvelopes_13 (by decide) ?_
  refine mm_runS (pc := 16) (As := [.int (nI n), .int (nI 1), .int (nI 500)]) (rest := [.ref ((rd 0 0))]) F hN (c_in l b D hst (nI n) (nI 1) (nI 500) σ) mw_1268 mw_1269 mw_6 mw_1270 ⟨pmX7_in, (Nat.le_of_ble_eq_true rfl), (Nat.le_of_ble_eq_true rfl)⟩ hl.1 rfl (Nat.le_of_ble_eq_true rfl) ⟨(Nat.le_of_ble_eq_true rfl), (Nat.le_of_ble_eq_true rfl)⟩ dX7_buyEnvelopes_16
    (fun _ _ _ _ _ _ h9 => False.elim h9)
    (fun v9 σ9 H locs hp9 hN => ?_)
  obtain ⟨rfl, h9⟩ := hp9
  rw [h9] at hN
  refine W.eq (g2 := F0 m 19 ls [.int (nI (if nI 1 ≤ nI n ∧ nI n ≤ nI 500 then 1 else 0)), .ref ((rd 0 0))]) rfl ?_
  refine W.widen (k := 0) (n := 0) (Nat.le_of_ble_eq_true rfl) (Nat.le_of_ble_eq_true rfl) ?_
  by_cases hi16 : 1 ≤ n ∧ n ≤ 500
  ·
    refine W.eq (g2 := F0 m 19 ls [.int (nI 1), .ref ((rd 0 0))]) (by rw [if_pos ((mm_inC (a := n) (lo := 1) (hi := 500) (by omega) (by decide) (by decide)).mpr hi16)]) ?_
    refine mm_if_ne (pc := 19) F (tgt := 26) (by omega) dX7_buyEnvelopes_19 (by decide) (fun cz19 => ?_) (fun h9 => absurd h9 (by decide))
    refine lv_aload_n (pc := 26) F.1 F.2.1 dX7_buyEnvelopes_26 rfl (lv_at hl 1 rfl) ?_
    refine mm_get (pc := 27) F hN (mm_r0 hM) (ci := 7) rfl 15 (by decide) mw_1194 rfl dX7_buyEnvelopes_27 ?_
    refine lv_iload_n (pc := 30) F.1 F.2.1 dX7_buyEnvelopes_30 rfl (lv_at hl 0 rfl) ?_
    refine mm_iald (pc := 31) F hN ((show σ (rd 12 0) = mm_ari 1 0 2 (fun i => nI (T.en i)) from mm_r12 (T := T) hM)) (j := 0) (rfl) (by omega) (by decide) dX7_buyEnvelopes_31 ?_
    refine lv_iload_n (pc := 32) F.1 F.2.1 dX7_buyEnvelopes_32 rfl (lv_at hl 3 rfl) ?_
    refine mm_iadd (pc := 33) F (z := nI ((T.en 0) + n)) (nI_add _ _) dX7_buyEnvelopes_33 ?_
    refine lv_sipush (pc := 34) (v := nI 5000) F.1 F.2.1 dX7_buyEnvelopes_34 (by decide) ?_
    refine mm_icmp_le (pc := 37) F (x := (T.en 0) + n) (y := 5000) (tgt := 44) (by omega) (by omega) dX7_buyEnvelopes_37 (by decide) (fun cz37 => ?_) (fun cz37 => ?_)
    ·
      refine lv_iconst (pc := 44) (v := nI 0) F.1 F.2.1 dX7_buyEnvelopes_44 (by decide) ?_
      refine mm_put (pc := 45) F hN (mm_r0 hM) (ci := 7) rfl 25 (by decide) mw_1204 rfl (ty := .int) (by decide +kernel) (rfl) (rfl) (Nat.le_of_ble_eq_true rfl) dX7_buyEnvelopes_45 (fun H locs hN => ?_)
      have hN : mm_N b D s (mm_u σ ((rd 0 0)) (mm_obj 1 7 [.ref ((rd 1 0)), .ref ((rd 2 0)), .ref ((rd 3 0)), .int (nI T.nA), .ref ((rd 4 0)), .ref ((rd 5 0)), .ref ((rd 6 0)), .int (nI T.nP), .ref ((rd 7 0)), .ref ((rd 8 0)), .ref ((rd 9 0)), .ref ((rd 10 0)), .ref ((rd 11 0)), .int (nI T.nT), .int (nI T.pa), .ref ((rd 12 0)), .int (nI T.bo), .ref ((rd 13 0)), .ref ((rd 14 0)), .ref ((rd 15 0)), .ref ((rd 16 0)), .ref ((rd 17 0)), .ref ((rd 18 0)), .ref ((rd 19 0)), .int (nI T.nR), .int (nI 0)])) _ _ := hN
      obtain ⟨σ2, eσ2⟩ : ∃ q, q = mm_u σ ((rd 0 0)) (mm_obj 1 7 [.ref ((rd 1 0)), .ref ((rd 2 0)), .ref ((rd 3 0)), .int (nI T.nA), .ref ((rd 4 0)), .ref ((rd 5 0)), .ref ((rd 6 0)), .int (nI T.nP), .ref ((rd 7 0)), .ref ((rd 8 0)), .ref ((rd 9 0)), .ref ((rd 10 0)), .ref ((rd 11 0)), .int (nI T.nT), .int (nI T.pa), .ref ((rd 12 0)), .int (nI T.bo), .ref ((rd 13 0)), .ref ((rd 14 0)), .ref ((rd 15 0)), .ref ((rd 16 0)), .ref ((rd 17 0)), .ref ((rd 18 0)), .ref ((rd 19 0)), .int (nI T.nR), .int (nI 0)]) := ⟨_, rfl⟩
      rw [← eσ2] at hN
      have hM2 : mm_M σ2 T 0 rd := by rw [eσ2]; exact mm_Mo hM (fun _ _ => rfl) rfl
      have hF2 : mm_Fr 1 σ σ2 := by rw [eσ2]; exact (mm_Fr.rf).tr (mm_Fr.u (mm_r0 hM))
      refine lv_aload_n (pc := 48) F.1 F.2.1 dX7_buyEnvelopes_48 rfl (lv_at hl 1 rfl) ?_
      refine mm_get (pc := 49) F hN ((show σ2 (rd 0 0) = mm_obj 1 7 [.ref ((rd 1 0)), .ref ((rd 2 0)), .ref ((rd 3 0)), .int (nI T.nA), .ref ((rd 4 0)), .ref ((rd 5 0)), .ref ((rd 6 0)), .int (nI T.nP), .ref ((rd 7 0)), .ref ((rd 8 0)), .ref ((rd 9 0)), .ref ((rd 10 0)), .ref ((rd 11 0)), .int (nI T.nT), .int (nI T.pa), .ref ((rd 12 0)), .int (nI T.bo), .ref ((rd 13 0)), .ref ((rd 14 0)), .ref ((rd 15 0)), .ref ((rd 16 0)), .ref ((rd 17 0)), .ref ((rd 18 0)), .ref ((rd 19 0)), .int (nI T.nR), .int (nI 0)] from mm_r0 (T := T) hM2)) (ci := 7) rfl 25 (by decide) mw_1204 rfl dX7_buyEnvelopes_49 ?_
      refine mm_if_le (pc := 52) F (tgt := 57) (by omega) dX7_buyEnvelopes_52 (by decide) (fun cz52 => ?_) (fun h9 => absurd h9 (by decide))
      refine lv_aload_n (pc := 57) F.1 F.2.1 dX7_buyEnvelopes_57 rfl (lv_at hl 1 rfl) ?_
      refine mm_get (pc := 58) F hN ((show σ2 (rd 0 0) = mm_obj 1 7 [.ref ((rd 1 0)), .ref ((rd 2 0)), .ref ((rd 3 0)), .int (nI T.nA), .ref ((rd 4 0)), .ref ((rd 5 0)), .ref ((rd 6 0)), .int (nI T.nP), .ref ((rd 7 0)), .ref ((rd 8 0)), .ref ((rd 9 0)), .ref ((rd 10 0)), .ref ((rd 11 0)), .int (nI T.nT), .int (nI T.pa), .ref ((rd 12 0)), .int (nI T.bo), .ref ((rd 13 0)), .ref ((rd 14 0)), .ref ((rd 15 0)), .ref ((rd 16 0)), .ref ((rd 17 0)), .ref ((rd 18 0)), .ref ((rd 19 0)), .int (nI T.nR), .int (nI 0)] from mm_r0 (T := T) hM2)) (ci := 7) rfl 15 (by decide) mw_1194 rfl dX7_buyEnvelopes_58 ?_
      refine lv_iload_n (pc := 61) F.1 F.2.1 dX7_buyEnvelopes_61 rfl (lv_at hl 0 rfl) ?_
      refine lv_dup2_11 (pc := 62) F.1 F.2.1 dX7_buyEnvelopes_62 rfl rfl ?_
      refine mm_iald (pc := 63) F hN ((show σ2 (rd 12 0) = mm_ari 1 0 2 (fun i => nI (T.en i)) from mm_r12 (T := T) hM2)) (j := 0) (rfl) (by omega) (by decide) dX7_buyEnvelopes_63 ?_
      refine lv_iload_n (pc := 64) F.1 F.2.1 dX7_buyEnvelopes_64 rfl (lv_at hl 3 rfl) ?_
      refine mm_iadd (pc := 65) F (z := nI ((T.en 0) + n)) (nI_add _ _) dX7_buyEnvelopes_65 ?_
      refine mm_iast (pc := 66) F hN ((show σ2 (rd 12 0) = mm_ari 1 0 2 (fun i => nI (T.en i)) from mm_r12 (T := T) hM2)) (j := 0) (rfl) (by omega) (by decide) dX7_buyEnvelopes_66 (fun H locs hN => ?_)
      have hN : mm_N b D s (mm_u σ2 (rd 12 0) (mm_ari 1 0 2 (va_up (fun i => nI (T.en i)) 0 (nI ((T.en 0) + n))))) _ _ := hN
      obtain ⟨σ3, eσ3⟩ : ∃ q, q = mm_u σ2 (rd 12 0) (mm_ari 1 0 2 (va_up (fun i => nI (T.en i)) 0 (nI ((T.en 0) + n)))) := ⟨_, rfl⟩
      rw [← eσ3] at hN
      have hM3 : mm_M σ3 (T.w 12 (mm_u2 (T 12) 0 0 ((T.en 0) + n))) 0 rd := by rw [eσ3]; exact mm_Mw1 hM2 (k := 12) rfl mm_va1
      have hF3 : mm_Fr 1 σ σ3 := by rw [eσ3]; exact (hF2).tr (mm_Fr.u (mm_r12 hM2))
      refine lv_aload_n (pc := 67) F.1 F.2.1 dX7_buyEnvelopes_67 rfl (lv_at hl 1 rfl) ?_
      refine mm_get (pc := 68) F hN ((show σ3 (rd 0 0) = mm_obj 1 7 [.ref ((rd 1 0)), .ref ((rd 2 0)), .ref ((rd 3 0)), .int (nI T.nA), .ref ((rd 4 0)), .ref ((rd 5 0)), .ref ((rd 6 0)), .int (nI T.nP), .ref ((rd 7 0)), .ref ((rd 8 0)), .ref ((rd 9 0)), .ref ((rd 10 0)), .ref ((rd 11 0)), .int (nI T.nT), .int (nI T.pa), .ref ((rd 12 0)), .int (nI T.bo), .ref ((rd 13 0)), .ref ((rd 14 0)), .ref ((rd 15 0)), .ref ((rd 16 0)), .ref ((rd 17 0)), .ref ((rd 18 0)), .ref ((rd 19 0)), .int (nI T.nR), .int (nI 0)] from mm_r0 (T := (T.w 12 (mm_u2 (T 12) 0 0 ((T.en 0) + n)))) hM3)) (ci := 7) rfl 15 (by decide) mw_1194 rfl dX7_buyEnvelopes_68 ?_
      refine lv_iload_n (pc := 71) F.1 F.2.1 dX7_buyEnvelopes_71 rfl (lv_at hl 0 rfl) ?_
      refine mm_iald (pc := 72) F hN ((show σ3 (rd 12 0) = mm_ari 1 0 2 (fun i => nI ((mm_u2 (T 12) 0 0 ((T.en 0) + n)) i 0)) from mm_r12 (T := (T.w 12 (mm_u2 (T 12) 0 0 ((T.en 0) + n)))) hM3)) (j := 0) (rfl) (by omega) (by decide) dX7_buyEnvelopes_72 ?_
      exact mm_iret (pc := 73) F hr hN (Or.inl ⟨by show mm_q_buyEnvelopes T 0 n = 0; unfold mm_q_buyEnvelopes; (repeat' split) <;> omega, rfl, mm_M_cg hM3 (fun k hk => by
        by_cases e0 : k = 0
        · subst e0; exact absurd rfl hk
        by_cases e1 : k = 12
        · subst e1; rfl
        simp only [mm_T.w, if_neg e0, if_neg e1]) rfl, hF3⟩) (Nat.le_of_ble_eq_true rfl) (Nat.le_of_ble_eq_true rfl) dX7_buyEnvelopes_73
    ·
      refine lv_iconst (pc := 40) (v := nI 2) F.1 F.2.1 dX7_buyEnvelopes_40 (by decide) ?_
      refine lv_goto (pc := 41) (tgt := 45) F.1 F.2.1 dX7_buyEnvelopes_41 (by decide) ?_
      refine mm_put (pc := 45) F hN (mm_r0 hM) (ci := 7) rfl 25 (by decide) mw_1204 rfl (ty := .int) (by decide +kernel) (rfl) (rfl) (Nat.le_of_ble_eq_true rfl) dX7_buyEnvelopes_45 (fun H locs hN => ?_)
      have hN : mm_N b D s (mm_u σ ((rd 0 0)) (mm_obj 1 7 [.ref ((rd 1 0)), .ref ((rd 2 0)), .ref ((rd 3 0)), .int (nI T.nA), .ref ((rd 4 0)), .ref ((rd 5 0)), .ref ((rd 6 0)), .int (nI T.nP), .ref ((rd 7 0)), .ref ((rd 8 0)), .ref ((rd 9 0)), .ref ((rd 10 0)), .ref ((rd 11 0)), .int (nI T.nT), .int (nI T.pa), .ref ((rd 12 0)), .int (nI T.bo), .ref ((rd 13 0)), .ref ((rd 14 0)), .ref ((rd 15 0)), .ref ((rd 16 0)), .ref ((rd 17 0)), .ref ((rd 18 0)), .ref ((rd 19 0)), .int (nI T.nR), .int (nI 2)])) _ _ := hN
      obtain ⟨σ4, eσ4⟩ : ∃ q, q = mm_u σ ((rd 0 0)) (mm_obj 1 7 [.ref ((rd 1 0)), .ref ((rd 2 0)), .ref ((rd 3 0)), .int (nI T.nA), .ref ((rd 4 0)), .ref ((rd 5 0)), .ref ((rd 6 0)), .int (nI T.nP), .ref ((rd 7 0)), .ref ((rd 8 0)), .ref ((rd 9 0)), .ref ((rd 10 0)), .ref ((rd 11 0)), .int (nI T.nT), .int (nI T.pa), .ref ((rd 12 0)), .int (nI T.bo), .ref ((rd 13 0)), .ref ((rd 14 0)), .ref ((rd 15 0)), .ref ((rd 16 0)), .ref ((rd 17 0)), .ref ((rd 18 0)), .ref ((rd 19 0)), .int (nI T.nR), .int (nI 2)]) := ⟨_, rfl⟩
      rw [← eσ4] at hN
      have hM4 : mm_M σ4 T 2 rd := by rw [eσ4]; exact mm_Mo hM (fun _ _ => rfl) rfl
      have hF4 : mm_Fr 1 σ σ4 := by rw [eσ4]; exact (mm_Fr.rf).tr (mm_Fr.u (mm_r0 hM))
      refine lv_aload_n (pc := 48) F.1 F.2.1 dX7_buyEnvelopes_48 rfl (lv_at hl 1 rfl) ?_
      refine mm_get (pc := 49) F hN ((show σ4 (rd 0 0) = mm_obj 1 7 [.ref ((rd 1 0)), .ref ((rd 2 0)), .ref ((rd 3 0)), .int (nI T.nA), .ref ((rd 4 0)), .ref ((rd 5 0)), .ref ((rd 6 0)), .int (nI T.nP), .ref ((rd 7 0)), .ref ((rd 8 0)), .ref ((rd 9 0)), .ref ((rd 10 0)), .ref ((rd 11 0)), .int (nI T.nT), .int (nI T.pa), .ref ((rd 12 0)), .int (nI T.bo), .ref ((rd 13 0)), .ref ((rd 14 0)), .ref ((rd 15 0)), .ref ((rd 16 0)), .ref ((rd 17 0)), .ref ((rd 18 0)), .ref ((rd 19 0)), .int (nI T.nR), .int (nI 2)] from mm_r0 (T := T) hM4)) (ci := 7) rfl 25 (by decide) mw_1204 rfl dX7_buyEnvelopes_49 ?_
      refine mm_if_le (pc := 52) F (tgt := 57) (by omega) dX7_buyEnvelopes_52 (by decide) (fun h9 => absurd h9 (by decide)) (fun cz52 => ?_)
      refine lv_iconst (pc := 55) (v := nI 0) F.1 F.2.1 dX7_buyEnvelopes_55 (by decide) ?_
      exact mm_iret (pc := 56) F hr hN (Or.inr ⟨by rw [show mm_q_buyEnvelopes T 0 n = 2 from by show mm_q_buyEnvelopes T 0 n = 2; unfold mm_q_buyEnvelopes; (repeat' split) <;> omega]; decide, ⟨_, rfl⟩, by rw [show mm_q_buyEnvelopes T 0 n = 2 from by show mm_q_buyEnvelopes T 0 n = 2; unfold mm_q_buyEnvelopes; (repeat' split) <;> omega]; exact hM4, hF4⟩) (Nat.le_of_ble_eq_true rfl) (Nat.le_of_ble_eq_true rfl) dX7_buyEnvelopes_56
  ·
    refine W.eq (g2 := F0 m 19 ls [.int (nI 0), .ref ((rd 0 0))]) (by rw [if_neg (fun q => hi16 ((mm_inC (a := n) (lo := 1) (hi := 500) (by omega) (by decide) (by decide)).mp q))]) ?_
    refine mm_if_ne (pc := 19) F (tgt := 26) (by omega) dX7_buyEnvelopes_19 (by decide) (fun h9 => absurd h9 (by decide)) (fun cz19 => ?_)
    refine lv_iconst (pc := 22) (v := nI 1) F.1 F.2.1 dX7_buyEnvelopes_22 (by decide) ?_
    refine lv_goto (pc := 23) (tgt := 45) F.1 F.2.1 dX7_buyEnvelopes_23 (by decide) ?_
    refine mm_put (pc := 45) F hN (mm_r0 hM) (ci := 7) rfl 25 (by decide) mw_1204 rfl (ty := .int) (by decide +kernel) (rfl) (rfl) (Nat.le_of_ble_eq_true rfl) dX7_buyEnvelopes_45 (fun H locs hN => ?_)
    have hN : mm_N b D s (mm_u σ ((rd 0 0)) (mm_obj 1 7 [.ref ((rd 1 0)), .ref ((rd 2 0)), .ref ((rd 3 0)), .int (nI T.nA), .ref ((rd 4 0)), .ref ((rd 5 0)), .ref ((rd 6 0)), .int (nI T.nP), .ref ((rd 7 0)), .ref ((rd 8 0)), .ref ((rd 9 0)), .ref ((rd 10 0)), .ref ((rd 11 0)), .int (nI T.nT), .int (nI T.pa), .ref ((rd 12 0)), .int (nI T.bo), .ref ((rd 13 0)), .ref ((rd 14 0)), .ref ((rd 15 0)), .ref ((rd 16 0)), .ref ((rd 17 0)), .ref ((rd 18 0)), .ref ((rd 19 0)), .int (nI T.nR), .int (nI 1)])) _ _ := hN
    obtain ⟨σ5, eσ5⟩ : ∃ q, q = mm_u σ ((rd 0 0)) (mm_obj 1 7 [.ref ((rd 1 0)), .ref ((rd 2 0)), .ref ((rd 3 0)), .int (nI T.nA), .ref ((rd 4 0)), .ref ((rd 5 0)), .ref ((rd 6 0)), .int (nI T.nP), .ref ((rd 7 0)), .ref ((rd 8 0)), .ref ((rd 9 0)), .ref ((rd 10 0)), .ref ((rd 11 0)), .int (nI T.nT), .int (nI T.pa), .ref ((rd 12 0)), .int (nI T.bo), .ref ((rd 13 0)), .ref ((rd 14 0)), .ref ((rd 15 0)), .ref ((rd 16 0)), .ref ((rd 17 0)), .ref ((rd 18 0)), .ref ((rd 19 0)), .int (nI T.nR), .int (nI 1)]) := ⟨_, rfl⟩
    rw [← eσ5] at hN
    have hM5 : mm_M σ5 T 1 rd := by rw [eσ5]; exact mm_Mo hM (fun _ _ => rfl) rfl
    have hF5 : mm_Fr 1 σ σ5 := by rw [eσ5]; exact (mm_Fr.rf).tr (mm_Fr.u (mm_r0 hM))
    refine lv_aload_n (pc := 48) F.1 F.2.1 dX7_buyEnvelopes_48 rfl (lv_at hl 1 rfl) ?_
    refine mm_get (pc := 49) F hN ((show σ5 (rd 0 0) = mm_obj 1 7 [.ref ((rd 1 0)), .ref ((rd 2 0)), .ref ((rd 3 0)), .int (nI T.nA), .ref ((rd 4 0)), .ref ((rd 5 0)), .ref ((rd 6 0)), .int (nI T.nP), .ref ((rd 7 0)), .ref ((rd 8 0)), .ref ((rd 9 0)), .ref ((rd 10 0)), .ref ((rd 11 0)), .int (nI T.nT), .int (nI T.pa), .ref ((rd 12 0)), .int (nI T.bo), .ref ((rd 13 0)), .ref ((rd 14 0)), .ref ((rd 15 0)), .ref ((rd 16 0)), .ref ((rd 17 0)), .ref ((rd 18 0)), .ref ((rd 19 0)), .int (nI T.nR), .int (nI 1)] from mm_r0 (T := T) hM5)) (ci := 7) rfl 25 (by decide) mw_1204 rfl dX7_buyEnvelopes_49 ?_
    refine mm_if_le (pc := 52) F (tgt := 57) (by omega) dX7_buyEnvelopes_52 (by decide) (fun h9 => absurd h9 (by decide)) (fun cz52 => ?_)
    refine lv_iconst (pc := 55) (v := nI 0) F.1 F.2.1 dX7_buyEnvelopes_55 (by decide) ?_
    exact mm_iret (pc := 56) F hr hN (Or.inr ⟨by rw [show mm_q_buyEnvelopes T 0 n = 1 from by show mm_q_buyEnvelopes T 0 n = 1; unfold mm_q_buyEnvelopes; (repeat' split) <;> omega]; decide, ⟨_, rfl⟩, by rw [show mm_q_buyEnvelopes T 0 n = 1 from by show mm_q_buyEnvelopes T 0 n = 1; unfold mm_q_buyEnvelopes; (repeat' split) <;> omega]; exact hM5, hF5⟩) (Nat.le_of_ble_eq_true rfl) (Nat.le_of_ble_eq_true rfl) dX7_buyEnvelopes_56

set_option maxHeartbeats 4000000 in
set_option maxRecDepth 100000 in
theorem r_buyEnv1 (l : Launch) (b : Nat) (D : mm_D) (hst : l.stackTraces = false) (T : mm_T) (th : Nat) (rd : Nat → Nat → Nat) (σ : mm_S) (hM : mm_M σ T th rd) (hW : mm_WF T) (n : Nat) (zn : n < 2 ^ 32) : mm_K l b D yX7_buyEnvelopes (.code yX7_buyEnvelopes cX7_buyEnvelopes 4 (some .int)) ({ frames := 6, cells := 0, slots := 0, locals := 160 } : Room) [.ref ((rd 0 0)), .int (nI 1), .int (nI n)] σ
    (fun v σ2 => mm_Mt rd σ σ2 T ((T.w 12 (mm_u2 (T 12) 1 0 (T.en 1 + n))).w 0 (mm_u2 (T 0) 8 0 (T 0 8 0 + n))) (mm_q_buyEnvelopes T 1 n) v (some (.int (nI (T.en 1 + n)))))
    (fun _ _ => False) := by
  refine mm_of (cc := cX7_buyEnvelopes) (nL := 4) (ret := (some .int)) (by decide) rfl (Nat.le_of_ble_eq_true rfl) hst ?_
  intro p e s m args below meth c ls F ht hr hin hN hl
  have hl : lv_has ls 4 [(0, .ref ((rd 0 0))), (1, .int (nI 1)), (2, .int (nI n))] := hl
  have wnA := hW.hnA
  have wnP := hW.hnP
  have wnT := hW.hnT
  have wnR := hW.hnR
  have wpa := hW.hpa
  have wbo := hW.hbo
  have wen0 := hW.hen 0
  have wen1 := hW.hen 1
  refine lv_iload_n (pc := 0) F.1 F.2.1 dX7_buyEnvelopes_0 rfl (lv_at hl 1 rfl) ?_
  refine mm_if_eq (pc := 1) F (tgt := 8) (by omega) dX7_buyEnvelopes_1 (by decide) (fun h9 => absurd h9 (by decide)) (fun cz1 => ?_)
  refine lv_iconst (pc := 4) (v := nI 1) F.1 F.2.1 dX7_buyEnvelopes_4 (by decide) ?_
  refine lv_goto (pc := 5) (tgt := 9) F.1 F.2.1 dX7_buyEnvelopes_5 (by decide) ?_
  refine lv_istore_n (pc := 9) (lv' := [(3, .int (nI 1)), (0, .ref ((rd 0 0))), (1, .int (nI 1)), (2, .int (nI n))]) F.1 F.2.1 dX7_buyEnvelopes_9 rfl hl (by decide) rfl (fun ls hl => ?_)
  refine lv_aload_n (pc := 10) F.1 F.2.1 dX7_buyEnvelopes_10 rfl (lv_at hl 1 rfl) ?_
  refine lv_iload_n (pc := 11) F.1 F.2.1 dX7_buyEnvelopes_11 rfl (lv_at hl 3 rfl) ?_
  refine lv_iconst (pc := 12) (v := nI 1) F.1 F.2.1 dX7_buyEnvelopes_12 (by decide) ?_
  refine lv_sipush (pc := 13) (v := nI 500) F.1 F.2.1 dX7_buyEnvelopes_13 (by decide) ?_
  refine mm_runS (pc := 16) (As := [.int (nI n), .int (nI 1), .int (nI 500)]) (rest := [.ref ((rd 0 0))]) F hN (c_in l b D hst (nI n) (nI 1) (nI 500) σ) mw_1268 mw_1269 mw_6 mw_1270 ⟨pmX7_in, (Nat.le_of_ble_eq_true rfl), (Nat.le_of_ble_eq_true rfl)⟩ hl.1 rfl (Nat.le_of_ble_eq_true rfl) ⟨(Nat.le_of_ble_eq_true rfl), (Nat.le_of_ble_eq_true rfl)⟩ dX7_buyEnvelopes_16
    (fun _ _ _ _ _ _ h9 => False.elim h9)
    (fun v9 σ9 H locs hp9 hN => ?_)
  obtain ⟨rfl, h9⟩ := hp9
  rw [h9] at hN
  refine W.eq (g2 := F0 m 19 ls [.int (nI (if nI 1 ≤ nI n ∧ nI n ≤ nI 500 then 1 else 0)), .ref ((rd 0 0))]) rfl ?_
  refine W.widen (k := 0) (n := 0) (Nat.le_of_ble_eq_true rfl) (Nat.le_of_ble_eq_true rfl) ?_
  by_cases hi16 : 1 ≤ n ∧ n ≤ 500
  ·
    refine W.eq (g2 := F0 m 19 ls [.int (nI 1), .ref ((rd 0 0))]) (by rw [if_pos ((mm_inC (a := n) (lo := 1) (hi := 500) (by omega) (by decide) (by decide)).mpr hi16)]) ?_
    refine mm_if_ne (pc := 19) F (tgt := 26) (by omega) dX7_buyEnvelopes_19 (by decide) (fun cz19 => ?_) (fun h9 => absurd h9 (by decide))
    refine lv_aload_n (pc := 26) F.1 F.2.1 dX7_buyEnvelopes_26 rfl (lv_at hl 1 rfl) ?_
    refine mm_get (pc := 27) F hN (mm_r0 hM) (ci := 7) rfl 15 (by decide) mw_1194 rfl dX7_buyEnvelopes_27 ?_
    refine lv_iload_n (pc := 30) F.1 F.2.1 dX7_buyEnvelopes_30 rfl (lv_at hl 0 rfl) ?_
    refine mm_iald (pc := 31) F hN ((show σ (rd 12 0) = mm_ari 1 0 2 (fun i => nI (T.en i)) from mm_r12 (T := T) hM)) (j := 1) (rfl) (by omega) (by decide) dX7_buyEnvelopes_31 ?_
    refine lv_iload_n (pc := 32) F.1 F.2.1 dX7_buyEnvelopes_32 rfl (lv_at hl 3 rfl) ?_
    refine mm_iadd (pc := 33) F (z := nI ((T.en 1) + n)) (nI_add _ _) dX7_buyEnvelopes_33 ?_
    refine lv_sipush (pc := 34) (v := nI 5000) F.1 F.2.1 dX7_buyEnvelopes_34 (by decide) ?_
    refine mm_icmp_le (pc := 37) F (x := (T.en 1) + n) (y := 5000) (tgt := 44) (by omega) (by omega) dX7_buyEnvelopes_37 (by decide) (fun cz37 => ?_) (fun cz37 => ?_)
    ·
      refine lv_iconst (pc := 44) (v := nI 0) F.1 F.2.1 dX7_buyEnvelopes_44 (by decide) ?_
      refine mm_put (pc := 45) F hN (mm_r0 hM) (ci := 7) rfl 25 (by decide) mw_1204 rfl (ty := .int) (by decide +kernel) (rfl) (rfl) (Nat.le_of_ble_eq_true rfl) dX7_buyEnvelopes_45 (fun H locs hN => ?_)
      have hN : mm_N b D s (mm_u σ ((rd 0 0)) (mm_obj 1 7 [.ref ((rd 1 0)), .ref ((rd 2 0)), .ref ((rd 3 0)), .int (nI T.nA), .ref ((rd 4 0)), .ref ((rd 5 0)), .ref ((rd 6 0)), .int (nI T.nP), .ref ((rd 7 0)), .ref ((rd 8 0)), .ref ((rd 9 0)), .ref ((rd 10 0)), .ref ((rd 11 0)), .int (nI T.nT), .int (nI T.pa), .ref ((rd 12 0)), .int (nI T.bo), .ref ((rd 13 0)), .ref ((rd 14 0)), .ref ((rd 15 0)), .ref ((rd 16 0)), .ref ((rd 17 0)), .ref ((rd 18 0)), .ref ((rd 19 0)), .int (nI T.nR), .int (nI 0)])) _ _ := hN
      obtain ⟨σ2, eσ2⟩ : ∃ q, q = mm_u σ ((rd 0 0)) (mm_obj 1 7 [.ref ((rd 1 0)), .ref ((rd 2 0)), .ref ((rd 3 0)), .int (nI T.nA), .ref ((rd 4 0)), .ref ((rd 5 0)), .ref ((rd 6 0)), .int (nI T.nP), .ref ((rd 7 0)), .ref ((rd 8 0)), .ref ((rd 9 0)), .ref ((rd 10 0)), .ref ((rd 11 0)), .int (nI T.nT), .int (nI T.pa), .ref ((rd 12 0)), .int (nI T.bo), .ref ((rd 13 0)), .ref ((rd 14 0)), .ref ((rd 15 0)), .ref ((rd 16 0)), .ref ((rd 17 0)), .ref ((rd 18 0)), .ref ((rd 19 0)), .int (nI T.nR), .int (nI 0)]) := ⟨_, rfl⟩
      rw [← eσ2] at hN
      have hM2 : mm_M σ2 T 0 rd := by rw [eσ2]; exact mm_Mo hM (fun _ _ => rfl) rfl
      have hF2 : mm_Fr 1 σ σ2 := by rw [eσ2]; exact (mm_Fr.rf).tr (mm_Fr.u (mm_r0 hM))
      refine lv_aload_n (pc := 48) F.1 F.2.1 dX7_buyEnvelopes_48 rfl (lv_at hl 1 rfl) ?_
      refine mm_get (pc := 49) F hN ((show σ2 (rd 0 0) = mm_obj 1 7 [.ref ((rd 1 0)), .ref ((rd 2 0)), .ref ((rd 3 0)), .int (nI T.nA), .ref ((rd 4 0)), .ref ((rd 5 0)), .ref ((rd 6 0)), .int (nI T.nP), .ref ((rd 7 0)), .ref ((rd 8 0)), .ref ((rd 9 0)), .ref ((rd 10 0)), .ref ((rd 11 0)), .int (nI T.nT), .int (nI T.pa), .ref ((rd 12 0)), .int (nI T.bo), .ref ((rd 13 0)), .ref ((rd 14 0)), .ref ((rd 15 0)), .ref ((rd 16 0)), .ref ((rd 17 0)), .ref ((rd 18 0)), .ref ((rd 19 0)), .int (nI T.nR), .int (nI 0)] from mm_r0 (T := T) hM2)) (ci := 7) rfl 25 (by decide) mw_1204 rfl dX7_buyEnvelopes_49 ?_
      refine mm_if_le (pc := 52) F (tgt := 57) (by omega) dX7_buyEnvelopes_52 (by decide) (fun cz52 => ?_) (fun h9 => absurd h9 (by decide))
      refine lv_aload_n (pc := 57) F.1 F.2.1 dX7_buyEnvelopes_57 rfl (lv_at hl 1 rfl) ?_
      refine mm_get (pc := 58) F hN ((show σ2 (rd 0 0) = mm_obj 1 7 [.ref ((rd 1 0)), .ref ((rd 2 0)), .ref ((rd 3 0)), .int (nI T.nA), .ref ((rd 4 0)), .ref ((rd 5 0)), .ref ((rd 6 0)), .int (nI T.nP), .ref ((rd 7 0)), .ref ((rd 8 0)), .ref ((rd 9 0)), .ref ((rd 10 0)), .ref ((rd 11 0)), .int (nI T.nT), .int (nI T.pa), .ref ((rd 12 0)), .int (nI T.bo), .ref ((rd 13 0)), .ref ((rd 14 0)), .ref ((rd 15 0)), .ref ((rd 16 0)), .ref ((rd 17 0)), .ref ((rd 18 0)), .ref ((rd 19 0)), .int (nI T.nR), .int (nI 0)] from mm_r0 (T := T) hM2)) (ci := 7) rfl 15 (by decide) mw_1194 rfl dX7_buyEnvelopes_58 ?_
      refine lv_iload_n (pc := 61) F.1 F.2.1 dX7_buyEnvelopes_61 rfl (lv_at hl 0 rfl) ?_
      refine lv_dup2_11 (pc := 62) F.1 F.2.1 dX7_buyEnvelopes_62 rfl rfl ?_
      refine mm_iald (pc := 63) F hN ((show σ2 (rd 12 0) = mm_ari 1 0 2 (fun i => nI (T.en i)) from mm_r12 (T := T) hM2)) (j := 1) (rfl) (by omega) (by decide) dX7_buyEnvelopes_63 ?_
      refine lv_iload_n (pc := 64) F.1 F.2.1 dX7_buyEnvelopes_64 rfl (lv_at hl 3 rfl) ?_
      refine mm_iadd (pc := 65) F (z := nI ((T.en 1) + n)) (nI_add _ _) dX7_buyEnvelopes_65 ?_
      refine mm_iast (pc := 66) F hN ((show σ2 (rd 12 0) = mm_ari 1 0 2 (fun i => nI (T.en i)) from mm_r12 (T := T) hM2)) (j := 1) (rfl) (by omega) (by decide) dX7_buyEnvelopes_66 (fun H locs hN => ?_)
      have hN : mm_N b D s (mm_u σ2 (rd 12 0) (mm_ari 1 0 2 (va_up (fun i => nI (T.en i)) 1 (nI ((T.en 1) + n))))) _ _ := hN
      obtain ⟨σ3, eσ3⟩ : ∃ q, q = mm_u σ2 (rd 12 0) (mm_ari 1 0 2 (va_up (fun i => nI (T.en i)) 1 (nI ((T.en 1) + n)))) := ⟨_, rfl⟩
      rw [← eσ3] at hN
      have hM3 : mm_M σ3 (T.w 12 (mm_u2 (T 12) 1 0 ((T.en 1) + n))) 0 rd := by rw [eσ3]; exact mm_Mw1 hM2 (k := 12) rfl mm_va1
      have hF3 : mm_Fr 1 σ σ3 := by rw [eσ3]; exact (hF2).tr (mm_Fr.u (mm_r12 hM2))
      refine lv_aload_n (pc := 67) F.1 F.2.1 dX7_buyEnvelopes_67 rfl (lv_at hl 1 rfl) ?_
      refine mm_get (pc := 68) F hN ((show σ3 (rd 0 0) = mm_obj 1 7 [.ref ((rd 1 0)), .ref ((rd 2 0)), .ref ((rd 3 0)), .int (nI T.nA), .ref ((rd 4 0)), .ref ((rd 5 0)), .ref ((rd 6 0)), .int (nI T.nP), .ref ((rd 7 0)), .ref ((rd 8 0)), .ref ((rd 9 0)), .ref ((rd 10 0)), .ref ((rd 11 0)), .int (nI T.nT), .int (nI T.pa), .ref ((rd 12 0)), .int (nI T.bo), .ref ((rd 13 0)), .ref ((rd 14 0)), .ref ((rd 15 0)), .ref ((rd 16 0)), .ref ((rd 17 0)), .ref ((rd 18 0)), .ref ((rd 19 0)), .int (nI T.nR), .int (nI 0)] from mm_r0 (T := (T.w 12 (mm_u2 (T 12) 1 0 ((T.en 1) + n)))) hM3)) (ci := 7) rfl 15 (by decide) mw_1194 rfl dX7_buyEnvelopes_68 ?_
      refine lv_iload_n (pc := 71) F.1 F.2.1 dX7_buyEnvelopes_71 rfl (lv_at hl 0 rfl) ?_
      refine mm_iald (pc := 72) F hN ((show σ3 (rd 12 0) = mm_ari 1 0 2 (fun i => nI ((mm_u2 (T 12) 1 0 ((T.en 1) + n)) i 0)) from mm_r12 (T := (T.w 12 (mm_u2 (T 12) 1 0 ((T.en 1) + n)))) hM3)) (j := 1) (rfl) (by omega) (by decide) dX7_buyEnvelopes_72 ?_
      exact mm_iret (pc := 73) F hr hN (Or.inl ⟨by show mm_q_buyEnvelopes T 1 n = 0; unfold mm_q_buyEnvelopes; (repeat' split) <;> omega, rfl, mm_M_cg hM3 (fun k hk => by
        by_cases e0 : k = 0
        · subst e0; exact absurd rfl hk
        by_cases e1 : k = 12
        · subst e1; rfl
        simp only [mm_T.w, if_neg e0, if_neg e1]) rfl, hF3⟩) (Nat.le_of_ble_eq_true rfl) (Nat.le_of_ble_eq_true rfl) dX7_buyEnvelopes_73
    ·
      refine lv_iconst (pc := 40) (v := nI 2) F.1 F.2.1 dX7_buyEnvelopes_40 (by decide) ?_
      refine lv_goto (pc := 41) (tgt := 45) F.1 F.2.1 dX7_buyEnvelopes_41 (by decide) ?_
      refine mm_put (pc := 45) F hN (mm_r0 hM) (ci := 7) rfl 25 (by decide) mw_1204 rfl (ty := .int) (by decide +kernel) (rfl) (rfl) (Nat.le_of_ble_eq_true rfl) dX7_buyEnvelopes_45 (fun H locs hN => ?_)
      have hN : mm_N b D s (mm_u σ ((rd 0 0)) (mm_obj 1 7 [.ref ((rd 1 0)), .ref ((rd 2 0)), .ref ((rd 3 0)), .int (nI T.nA), .ref ((rd 4 0)), .ref ((rd 5 0)), .ref ((rd 6 0)), .int (nI T.nP), .ref ((rd 7 0)), .ref ((rd 8 0)), .ref ((rd 9 0)), .ref ((rd 10 0)), .ref ((rd 11 0)), .int (nI T.nT), .int (nI T.pa), .ref ((rd 12 0)), .int (nI T.bo), .ref ((rd 13 0)), .ref ((rd 14 0)), .ref ((rd 15 0)), .ref ((rd 16 0)), .ref ((rd 17 0)), .ref ((rd 18 0)), .ref ((rd 19 0)), .int (nI T.nR), .int (nI 2)])) _ _ := hN
      obtain ⟨σ4, eσ4⟩ : ∃ q, q = mm_u σ ((rd 0 0)) (mm_obj 1 7 [.ref ((rd 1 0)), .ref ((rd 2 0)), .ref ((rd 3 0)), .int (nI T.nA), .ref ((rd 4 0)), .ref ((rd 5 0)), .ref ((rd 6 0)), .int (nI T.nP), .ref ((rd 7 0)), .ref ((rd 8 0)), .ref ((rd 9 0)), .ref ((rd 10 0)), .ref ((rd 11 0)), .int (nI T.nT), .int (nI T.pa), .ref ((rd 12 0)), .int (nI T.bo), .ref ((rd 13 0)), .ref ((rd 14 0)), .ref ((rd 15 0)), .ref ((rd 16 0)), .ref ((rd 17 0)), .ref ((rd 18 0)), .ref ((rd 19 0)), .int (nI T.nR), .int (nI 2)]) := ⟨_, rfl⟩
      rw [← eσ4] at hN
      have hM4 : mm_M σ4 T 2 rd := by rw [eσ4]; exact mm_Mo hM (fun _ _ => rfl) rfl
      have hF4 : mm_Fr 1 σ σ4 := by rw [eσ4]; exact (mm_Fr.rf).tr (mm_Fr.u (mm_r0 hM))
      refine lv_aload_n (pc := 48) F.1 F.2.1 dX7_buyEnvelopes_48 rfl (lv_at hl 1 rfl) ?_
      refine mm_get (pc := 49) F hN ((show σ4 (rd 0 0) = mm_obj 1 7 [.ref ((rd 1 0)), .ref ((rd 2 0)), .ref ((rd 3 0)), .int (nI T.nA), .ref ((rd 4 0)), .ref ((rd 5 0)), .ref ((rd 6 0)), .int (nI T.nP), .ref ((rd 7 0)), .ref ((rd 8 0)), .ref ((rd 9 0)), .ref ((rd 10 0)), .ref ((rd 11 0)), .int (nI T.nT), .int (nI T.pa), .ref ((rd 12 0)), .int (nI T.bo), .ref ((rd 13 0)), .ref ((rd 14 0)), .ref ((rd 15 0)), .ref ((rd 16 0)), .ref ((rd 17 0)), .ref ((rd 18 0)), .ref ((rd 19 0)), .int (nI T.nR), .int (nI 2)] from mm_r0 (T := T) hM4)) (ci := 7) rfl 25 (by decide) mw_1204 rfl dX7_buyEnvelopes_49 ?_
      refine mm_if_le (pc := 52) F (tgt := 57) (by omega) dX7_buyEnvelopes_52 (by decide) (fun h9 => absurd h9 (by decide)) (fun cz52 => ?_)
      refine lv_iconst (pc := 55) (v := nI 0) F.1 F.2.1 dX7_buyEnvelopes_55 (by decide) ?_
      exact mm_iret (pc := 56) F hr hN (Or.inr ⟨by rw [show mm_q_buyEnvelopes T 1 n = 2 from by show mm_q_buyEnvelopes T 1 n = 2; unfold mm_q_buyEnvelopes; (repeat' split) <;> omega]; decide, ⟨_, rfl⟩, by rw [show mm_q_buyEnvelopes T 1 n = 2 from by show mm_q_buyEnvelopes T 1 n = 2; unfold mm_q_buyEnvelopes; (repeat' split) <;> omega]; exact hM4, hF4⟩) (Nat.le_of_ble_eq_true rfl) (Nat.le_of_ble_eq_true rfl) dX7_buyEnvelopes_56
  ·
    refine W.eq (g2 := F0 m 19 ls [.int (nI 0), .ref ((rd 0 0))]) (by rw [if_neg (fun q => hi16 ((mm_inC (a := n) (lo := 1) (hi := 500) (by omega) (by decide) (by decide)).mp q))]) ?_
    refine mm_if_ne (pc := 19) F (tgt := 26) (by omega) dX7_buyEnvelopes_19 (by decide) (fun h9 => absurd h9 (by decide)) (fun cz19 => ?_)
    refine lv_iconst (pc := 22) (v := nI 1) F.1 F.2.1 dX7_buyEnvelopes_22 (by decide) ?_
    refine lv_goto (pc := 23) (tgt := 45) F.1 F.2.1 dX7_buyEnvelopes_23 (by decide) ?_
    refine mm_put (pc := 45) F hN (mm_r0 hM) (ci := 7) rfl 25 (by decide) mw_1204 rfl (ty := .int) (by decide +kernel) (rfl) (rfl) (Nat.le_of_ble_eq_true rfl) dX7_buyEnvelopes_45 (fun H locs hN => ?_)
    have hN : mm_N b D s (mm_u σ ((rd 0 0)) (mm_obj 1 7 [.ref ((rd 1 0)), .ref ((rd 2 0)), .ref ((rd 3 0)), .int (nI T.nA), .ref ((rd 4 0)), .ref ((rd 5 0)), .ref ((rd 6 0)), .int (nI T.nP), .ref ((rd 7 0)), .ref ((rd 8 0)), .ref ((rd 9 0)), .ref ((rd 10 0)), .ref ((rd 11 0)), .int (nI T.nT), .int (nI T.pa), .ref ((rd 12 0)), .int (nI T.bo), .ref ((rd 13 0)), .ref ((rd 14 0)), .ref ((rd 15 0)), .ref ((rd 16 0)), .ref ((rd 17 0)), .ref ((rd 18 0)), .ref ((rd 19 0)), .int (nI T.nR), .int (nI 1)])) _ _ := hN
    obtain ⟨σ5, eσ5⟩ : ∃ q, q = mm_u σ ((rd 0 0)) (mm_obj 1 7 [.ref ((rd 1 0)), .ref ((rd 2 0)), .ref ((rd 3 0)), .int (nI T.nA), .ref ((rd 4 0)), .ref ((rd 5 0)), .ref ((rd 6 0)), .int (nI T.nP), .ref ((rd 7 0)), .ref ((rd 8 0)), .ref ((rd 9 0)), .ref ((rd 10 0)), .ref ((rd 11 0)), .int (nI T.nT), .int (nI T.pa), .ref ((rd 12 0)), .int (nI T.bo), .ref ((rd 13 0)), .ref ((rd 14 0)), .ref ((rd 15 0)), .ref ((rd 16 0)), .ref ((rd 17 0)), .ref ((rd 18 0)), .ref ((rd 19 0)), .int (nI T.nR), .int (nI 1)]) := ⟨_, rfl⟩
    rw [← eσ5] at hN
    have hM5 : mm_M σ5 T 1 rd := by rw [eσ5]; exact mm_Mo hM (fun _ _ => rfl) rfl
    have hF5 : mm_Fr 1 σ σ5 := by rw [eσ5]; exact (mm_Fr.rf).tr (mm_Fr.u (mm_r0 hM))
    refine lv_aload_n (pc := 48) F.1 F.2.1 dX7_buyEnvelopes_48 rfl (lv_at hl 1 rfl) ?_
    refine mm_get (pc := 49) F hN ((show σ5 (rd 0 0) = mm_obj 1 7 [.ref ((rd 1 0)), .ref ((rd 2 0)), .ref ((rd 3 0)), .int (nI T.nA), .ref ((rd 4 0)), .ref ((rd 5 0)), .ref ((rd 6 0)), .int (nI T.nP), .ref ((rd 7 0)), .ref ((rd 8 0)), .ref ((rd 9 0)), .ref ((rd 10 0)), .ref ((rd 11 0)), .int (nI T.nT), .int (nI T.pa), .ref ((rd 12 0)), .int (nI T.bo), .ref ((rd 13 0)), .ref ((rd 14 0)), .ref ((rd 15 0)), .ref ((rd 16 0)), .ref ((rd 17 0)), .ref ((rd 18 0)), .ref ((rd 19 0)), .int (nI T.nR), .int (nI 1)] from mm_r0 (T := T) hM5)) (ci := 7) rfl 25 (by decide) mw_1204 rfl dX7_buyEnvelopes_49 ?_
    refine mm_if_le (pc := 52) F (tgt := 57) (by omega) dX7_buyEnvelopes_52 (by decide) (fun h9 => absurd h9 (by decide)) (fun cz52 => ?_)
    refine lv_iconst (pc := 55) (v := nI 0) F.1 F.2.1 dX7_buyEnvelopes_55 (by decide) ?_
    exact mm_iret (pc := 56) F hr hN (Or.inr ⟨by rw [show mm_q_buyEnvelopes T 1 n = 1 from by show mm_q_buyEnvelopes T 1 n = 1; unfold mm_q_buyEnvelopes; (repeat' split) <;> omega]; decide, ⟨_, rfl⟩, by rw [show mm_q_buyEnvelopes T 1 n = 1 from by show mm_q_buyEnvelopes T 1 n = 1; unfold mm_q_buyEnvelopes; (repeat' split) <;> omega]; exact hM5, hF5⟩) (Nat.le_of_ble_eq_true rfl) (Nat.le_of_ble_eq_true rfl) dX7_buyEnvelopes_56

set_option maxHeartbeats 4000000 in
set_option maxRecDepth 100000 in
theorem r_setBound (l : Launch) (b : Nat) (D : mm_D) (hst : l.stackTraces = false) (T : mm_T) (th : Nat) (rd : Nat → Nat → Nat) (σ : mm_S) (hM : mm_M σ T th rd) (hW : mm_WF T) (n : Nat) (zn : n < 2 ^ 32) : mm_K l b D yX7_setBound (.code yX7_setBound cX7_setBound 3 (some .int)) ({ frames := 6, cells := 0, slots := 0, locals := 160 } : Room) [.ref ((rd 0 0)), .int (nI n)] σ
    (fun v σ2 => mm_Mt rd σ σ2 T (T.w 0 (mm_u2 (T 0) 5 0 n)) (mm_q_setBound T n) v (some (.int (nI (T.bo)))))
    (fun _ _ => False) := by
  refine mm_of (cc := cX7_setBound) (nL := 3) (ret := (some .int)) (by decide) rfl (Nat.le_of_ble_eq_true rfl) hst ?_
  intro p e s m args below meth c ls F ht hr hin hN hl
  have hl : lv_has ls 3 [(0, .ref ((rd 0 0))), (1, .int (nI n))] := hl
  have wnA := hW.hnA
  have wnP := hW.hnP
  have wnT := hW.hnT
  have wnR := hW.hnR
  have wpa := hW.hpa
  have wbo := hW.hbo
  have wen0 := hW.hen 0
  have wen1 := hW.hen 1
  refine lv_aload_n (pc := 0) F.1 F.2.1 dX7_setBound_0 rfl (lv_at hl 0 rfl) ?_
  refine lv_iload_n (pc := 1) F.1 F.2.1 dX7_setBound_1 rfl (lv_at hl 1 rfl) ?_
  refine lv_iconst (pc := 2) (v := nI 1) F.1 F.2.1 dX7_setBound_2 (by decide) ?_
  refine lv_bipush (pc := 3) (v := nI 24) F.1 F.2.1 dX7_setBound_3 (by decide) ?_
  refine mm_runS (pc := 5) (As := [.int (nI n), .int (nI 1), .int (nI 24)]) (rest := [.ref ((rd 0 0))]) F hN (c_in l b D hst (nI n) (nI 1) (nI 24) σ) mw_1268 mw_1269 mw_6 mw_1270 ⟨pmX7_in, (Nat.le_of_ble_eq_true rfl), (Nat.le_of_ble_eq_true rfl)⟩ hl.1 rfl (Nat.le_of_ble_eq_true rfl) ⟨(Nat.le_of_ble_eq_true rfl), (Nat.le_of_ble_eq_true rfl)⟩ dX7_setBound_5
    (fun _ _ _ _ _ _ h9 => False.elim h9)
    (fun v9 σ9 H locs hp9 hN => ?_)
  obtain ⟨rfl, h9⟩ := hp9
  rw [h9] at hN
  refine W.eq (g2 := F0 m 8 ls [.int (nI (if nI 1 ≤ nI n ∧ nI n ≤ nI 24 then 1 else 0)), .ref ((rd 0 0))]) rfl ?_
  refine W.widen (k := 0) (n := 0) (Nat.le_of_ble_eq_true rfl) (Nat.le_of_ble_eq_true rfl) ?_
  by_cases hi5 : 1 ≤ n ∧ n ≤ 24
  ·
    refine W.eq (g2 := F0 m 8 ls [.int (nI 1), .ref ((rd 0 0))]) (by rw [if_pos ((mm_inC (a := n) (lo := 1) (hi := 24) (by omega) (by decide) (by decide)).mpr hi5)]) ?_
    refine mm_if_eq (pc := 8) F (tgt := 15) (by omega) dX7_setBound_8 (by decide) (fun h9 => absurd h9 (by decide)) (fun cz8 => ?_)
    refine lv_iconst (pc := 11) (v := nI 0) F.1 F.2.1 dX7_setBound_11 (by decide) ?_
    refine lv_goto (pc := 12) (tgt := 16) F.1 F.2.1 dX7_setBound_12 (by decide) ?_
    refine mm_put (pc := 16) F hN (mm_r0 hM) (ci := 7) rfl 25 (by decide) mw_1204 rfl (ty := .int) (by decide +kernel) (rfl) (rfl) (Nat.le_of_ble_eq_true rfl) dX7_setBound_16 (fun H locs hN => ?_)
    have hN : mm_N b D s (mm_u σ ((rd 0 0)) (mm_obj 1 7 [.ref ((rd 1 0)), .ref ((rd 2 0)), .ref ((rd 3 0)), .int (nI T.nA), .ref ((rd 4 0)), .ref ((rd 5 0)), .ref ((rd 6 0)), .int (nI T.nP), .ref ((rd 7 0)), .ref ((rd 8 0)), .ref ((rd 9 0)), .ref ((rd 10 0)), .ref ((rd 11 0)), .int (nI T.nT), .int (nI T.pa), .ref ((rd 12 0)), .int (nI T.bo), .ref ((rd 13 0)), .ref ((rd 14 0)), .ref ((rd 15 0)), .ref ((rd 16 0)), .ref ((rd 17 0)), .ref ((rd 18 0)), .ref ((rd 19 0)), .int (nI T.nR), .int (nI 0)])) _ _ := hN
    obtain ⟨σ2, eσ2⟩ : ∃ q, q = mm_u σ ((rd 0 0)) (mm_obj 1 7 [.ref ((rd 1 0)), .ref ((rd 2 0)), .ref ((rd 3 0)), .int (nI T.nA), .ref ((rd 4 0)), .ref ((rd 5 0)), .ref ((rd 6 0)), .int (nI T.nP), .ref ((rd 7 0)), .ref ((rd 8 0)), .ref ((rd 9 0)), .ref ((rd 10 0)), .ref ((rd 11 0)), .int (nI T.nT), .int (nI T.pa), .ref ((rd 12 0)), .int (nI T.bo), .ref ((rd 13 0)), .ref ((rd 14 0)), .ref ((rd 15 0)), .ref ((rd 16 0)), .ref ((rd 17 0)), .ref ((rd 18 0)), .ref ((rd 19 0)), .int (nI T.nR), .int (nI 0)]) := ⟨_, rfl⟩
    rw [← eσ2] at hN
    have hM2 : mm_M σ2 T 0 rd := by rw [eσ2]; exact mm_Mo hM (fun _ _ => rfl) rfl
    have hF2 : mm_Fr 1 σ σ2 := by rw [eσ2]; exact (mm_Fr.rf).tr (mm_Fr.u (mm_r0 hM))
    refine lv_aload_n (pc := 19) F.1 F.2.1 dX7_setBound_19 rfl (lv_at hl 0 rfl) ?_
    refine mm_get (pc := 20) F hN ((show σ2 (rd 0 0) = mm_obj 1 7 [.ref ((rd 1 0)), .ref ((rd 2 0)), .ref ((rd 3 0)), .int (nI T.nA), .ref ((rd 4 0)), .ref ((rd 5 0)), .ref ((rd 6 0)), .int (nI T.nP), .ref ((rd 7 0)), .ref ((rd 8 0)), .ref ((rd 9 0)), .ref ((rd 10 0)), .ref ((rd 11 0)), .int (nI T.nT), .int (nI T.pa), .ref ((rd 12 0)), .int (nI T.bo), .ref ((rd 13 0)), .ref ((rd 14 0)), .ref ((rd 15 0)), .ref ((rd 16 0)), .ref ((rd 17 0)), .ref ((rd 18 0)), .ref ((rd 19 0)), .int (nI T.nR), .int (nI 0)] from mm_r0 (T := T) hM2)) (ci := 7) rfl 25 (by decide) mw_1204 rfl dX7_setBound_20 ?_
    refine mm_if_le (pc := 23) F (tgt := 28) (by omega) dX7_setBound_23 (by decide) (fun cz23 => ?_) (fun h9 => absurd h9 (by decide))
    refine lv_aload_n (pc := 28) F.1 F.2.1 dX7_setBound_28 rfl (lv_at hl 0 rfl) ?_
    refine mm_get (pc := 29) F hN ((show σ2 (rd 0 0) = mm_obj 1 7 [.ref ((rd 1 0)), .ref ((rd 2 0)), .ref ((rd 3 0)), .int (nI T.nA), .ref ((rd 4 0)), .ref ((rd 5 0)), .ref ((rd 6 0)), .int (nI T.nP), .ref ((rd 7 0)), .ref ((rd 8 0)), .ref ((rd 9 0)), .ref ((rd 10 0)), .ref ((rd 11 0)), .int (nI T.nT), .int (nI T.pa), .ref ((rd 12 0)), .int (nI T.bo), .ref ((rd 13 0)), .ref ((rd 14 0)), .ref ((rd 15 0)), .ref ((rd 16 0)), .ref ((rd 17 0)), .ref ((rd 18 0)), .ref ((rd 19 0)), .int (nI T.nR), .int (nI 0)] from mm_r0 (T := T) hM2)) (ci := 7) rfl 16 (by decide) mw_1195 rfl dX7_setBound_29 ?_
    refine lv_istore_n (pc := 32) (lv' := [(2, .int (nI T.bo)), (0, .ref ((rd 0 0))), (1, .int (nI n))]) F.1 F.2.1 dX7_setBound_32 rfl hl (by decide) rfl (fun ls hl => ?_)
    refine lv_aload_n (pc := 33) F.1 F.2.1 dX7_setBound_33 rfl (lv_at hl 1 rfl) ?_
    refine lv_iload_n (pc := 34) F.1 F.2.1 dX7_setBound_34 rfl (lv_at hl 2 rfl) ?_
    refine mm_put (pc := 35) F hN ((show σ2 (rd 0 0) = mm_obj 1 7 [.ref ((rd 1 0)), .ref ((rd 2 0)), .ref ((rd 3 0)), .int (nI T.nA), .ref ((rd 4 0)), .ref ((rd 5 0)), .ref ((rd 6 0)), .int (nI T.nP), .ref ((rd 7 0)), .ref ((rd 8 0)), .ref ((rd 9 0)), .ref ((rd 10 0)), .ref ((rd 11 0)), .int (nI T.nT), .int (nI T.pa), .ref ((rd 12 0)), .int (nI T.bo), .ref ((rd 13 0)), .ref ((rd 14 0)), .ref ((rd 15 0)), .ref ((rd 16 0)), .ref ((rd 17 0)), .ref ((rd 18 0)), .ref ((rd 19 0)), .int (nI T.nR), .int (nI 0)] from mm_r0 (T := T) hM2)) (ci := 7) rfl 16 (by decide) mw_1195 rfl (ty := .int) (by decide +kernel) (rfl) (rfl) (Nat.le_of_ble_eq_true rfl) dX7_setBound_35 (fun H locs hN => ?_)
    have hN : mm_N b D s (mm_u σ2 ((rd 0 0)) (mm_obj 1 7 [.ref ((rd 1 0)), .ref ((rd 2 0)), .ref ((rd 3 0)), .int (nI T.nA), .ref ((rd 4 0)), .ref ((rd 5 0)), .ref ((rd 6 0)), .int (nI T.nP), .ref ((rd 7 0)), .ref ((rd 8 0)), .ref ((rd 9 0)), .ref ((rd 10 0)), .ref ((rd 11 0)), .int (nI T.nT), .int (nI T.pa), .ref ((rd 12 0)), .int (nI n), .ref ((rd 13 0)), .ref ((rd 14 0)), .ref ((rd 15 0)), .ref ((rd 16 0)), .ref ((rd 17 0)), .ref ((rd 18 0)), .ref ((rd 19 0)), .int (nI T.nR), .int (nI 0)])) _ _ := hN
    obtain ⟨σ3, eσ3⟩ : ∃ q, q = mm_u σ2 ((rd 0 0)) (mm_obj 1 7 [.ref ((rd 1 0)), .ref ((rd 2 0)), .ref ((rd 3 0)), .int (nI T.nA), .ref ((rd 4 0)), .ref ((rd 5 0)), .ref ((rd 6 0)), .int (nI T.nP), .ref ((rd 7 0)), .ref ((rd 8 0)), .ref ((rd 9 0)), .ref ((rd 10 0)), .ref ((rd 11 0)), .int (nI T.nT), .int (nI T.pa), .ref ((rd 12 0)), .int (nI n), .ref ((rd 13 0)), .ref ((rd 14 0)), .ref ((rd 15 0)), .ref ((rd 16 0)), .ref ((rd 17 0)), .ref ((rd 18 0)), .ref ((rd 19 0)), .int (nI T.nR), .int (nI 0)]) := ⟨_, rfl⟩
    rw [← eσ3] at hN
    have hM3 : mm_M σ3 (T.w 0 (mm_u2 (T 0) 5 0 n)) 0 rd := by rw [eσ3]; exact mm_Mo hM2 (fun k hk => mm_T.wo hk) rfl
    have hF3 : mm_Fr 1 σ σ3 := by rw [eσ3]; exact (hF2).tr (mm_Fr.u (mm_r0 hM2))
    refine lv_iload_n (pc := 38) F.1 F.2.1 dX7_setBound_38 rfl (lv_at hl 0 rfl) ?_
    exact mm_iret (pc := 39) F hr hN (Or.inl ⟨by show mm_q_setBound T n = 0; unfold mm_q_setBound; (repeat' split) <;> omega, rfl, hM3, hF3⟩) (Nat.le_of_ble_eq_true rfl) (Nat.le_of_ble_eq_true rfl) dX7_setBound_39
  ·
    refine W.eq (g2 := F0 m 8 ls [.int (nI 0), .ref ((rd 0 0))]) (by rw [if_neg (fun q => hi5 ((mm_inC (a := n) (lo := 1) (hi := 24) (by omega) (by decide) (by decide)).mp q))]) ?_
    refine mm_if_eq (pc := 8) F (tgt := 15) (by omega) dX7_setBound_8 (by decide) (fun cz8 => ?_) (fun h9 => absurd h9 (by decide))
    refine lv_iconst (pc := 15) (v := nI 1) F.1 F.2.1 dX7_setBound_15 (by decide) ?_
    refine mm_put (pc := 16) F hN (mm_r0 hM) (ci := 7) rfl 25 (by decide) mw_1204 rfl (ty := .int) (by decide +kernel) (rfl) (rfl) (Nat.le_of_ble_eq_true rfl) dX7_setBound_16 (fun H locs hN => ?_)
    have hN : mm_N b D s (mm_u σ ((rd 0 0)) (mm_obj 1 7 [.ref ((rd 1 0)), .ref ((rd 2 0)), .ref ((rd 3 0)), .int (nI T.nA), .ref ((rd 4 0)), .ref ((rd 5 0)), .ref ((rd 6 0)), .int (nI T.nP), .ref ((rd 7 0)), .ref ((rd 8 0)), .ref ((rd 9 0)), .ref ((rd 10 0)), .ref ((rd 11 0)), .int (nI T.nT), .int (nI T.pa), .ref ((rd 12 0)), .int (nI T.bo), .ref ((rd 13 0)), .ref ((rd 14 0)), .ref ((rd 15 0)), .ref ((rd 16 0)), .ref ((rd 17 0)), .ref ((rd 18 0)), .ref ((rd 19 0)), .int (nI T.nR), .int (nI 1)])) _ _ := hN
    obtain ⟨σ4, eσ4⟩ : ∃ q, q = mm_u σ ((rd 0 0)) (mm_obj 1 7 [.ref ((rd 1 0)), .ref ((rd 2 0)), .ref ((rd 3 0)), .int (nI T.nA), .ref ((rd 4 0)), .ref ((rd 5 0)), .ref ((rd 6 0)), .int (nI T.nP), .ref ((rd 7 0)), .ref ((rd 8 0)), .ref ((rd 9 0)), .ref ((rd 10 0)), .ref ((rd 11 0)), .int (nI T.nT), .int (nI T.pa), .ref ((rd 12 0)), .int (nI T.bo), .ref ((rd 13 0)), .ref ((rd 14 0)), .ref ((rd 15 0)), .ref ((rd 16 0)), .ref ((rd 17 0)), .ref ((rd 18 0)), .ref ((rd 19 0)), .int (nI T.nR), .int (nI 1)]) := ⟨_, rfl⟩
    rw [← eσ4] at hN
    have hM4 : mm_M σ4 T 1 rd := by rw [eσ4]; exact mm_Mo hM (fun _ _ => rfl) rfl
    have hF4 : mm_Fr 1 σ σ4 := by rw [eσ4]; exact (mm_Fr.rf).tr (mm_Fr.u (mm_r0 hM))
    refine lv_aload_n (pc := 19) F.1 F.2.1 dX7_setBound_19 rfl (lv_at hl 0 rfl) ?_
    refine mm_get (pc := 20) F hN ((show σ4 (rd 0 0) = mm_obj 1 7 [.ref ((rd 1 0)), .ref ((rd 2 0)), .ref ((rd 3 0)), .int (nI T.nA), .ref ((rd 4 0)), .ref ((rd 5 0)), .ref ((rd 6 0)), .int (nI T.nP), .ref ((rd 7 0)), .ref ((rd 8 0)), .ref ((rd 9 0)), .ref ((rd 10 0)), .ref ((rd 11 0)), .int (nI T.nT), .int (nI T.pa), .ref ((rd 12 0)), .int (nI T.bo), .ref ((rd 13 0)), .ref ((rd 14 0)), .ref ((rd 15 0)), .ref ((rd 16 0)), .ref ((rd 17 0)), .ref ((rd 18 0)), .ref ((rd 19 0)), .int (nI T.nR), .int (nI 1)] from mm_r0 (T := T) hM4)) (ci := 7) rfl 25 (by decide) mw_1204 rfl dX7_setBound_20 ?_
    refine mm_if_le (pc := 23) F (tgt := 28) (by omega) dX7_setBound_23 (by decide) (fun h9 => absurd h9 (by decide)) (fun cz23 => ?_)
    refine lv_iconst (pc := 26) (v := nI 0) F.1 F.2.1 dX7_setBound_26 (by decide) ?_
    exact mm_iret (pc := 27) F hr hN (Or.inr ⟨by rw [show mm_q_setBound T n = 1 from by show mm_q_setBound T n = 1; unfold mm_q_setBound; (repeat' split) <;> omega]; decide, ⟨_, rfl⟩, by rw [show mm_q_setBound T n = 1 from by show mm_q_setBound T n = 1; unfold mm_q_setBound; (repeat' split) <;> omega]; exact hM4, hF4⟩) (Nat.le_of_ble_eq_true rfl) (Nat.le_of_ble_eq_true rfl) dX7_setBound_27

