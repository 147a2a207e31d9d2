set_option maxHeartbeats 4000000 in
set_option maxRecDepth 100000 in
theorem r_comesBack (l : Launch) (b : Nat) (D : mm_D) (hst : l.stackTraces = false) (T : mm_T) (th : Nat) (rd : Nat → Nat → Nat) (σ : mm_S) (hM : mm_M σ T th rd) (hW : mm_WF T) (k : Nat) (zk : k < 2 ^ 32) (i : Nat) (zi : i < 2 ^ 32) (ch : Nat) (zch : ch < 65536) : mm_K l b D yX7_comesBack (.code yX7_comesBack cX7_comesBack 7 (some .int)) ({ frames := 6, cells := 0, slots := 0, locals := 160 } : Room) [.ref ((rd 0 0)), .int (nI k), .int (nI i), .int (nI ch)] σ
    (fun v σ2 => mm_Mt rd σ σ2 T (if ch = 117 then (T.w 19 (mm_u2 (T 19) k i 1)).w 2 (mm_u2 (T 2) (T.ho i) 0 (T.sk (T.ho i) + 1)) else (T.w 19 (mm_u2 (T 19) k i 1)).w 6 (mm_u2 (T 6) i 0 ch)) (mm_q_comesBack T k i ch) v (some (.int (nI (mm_sm ((mm_u2 (T 19) k i 1) k) (T.rp k))))))
    (fun _ _ => False) := by
  refine mm_of (cc := cX7_comesBack) (nL := 7) (ret := (some .int)) (by decide) rfl (Nat.le_of_ble_eq_true rfl) hst ?_
  intro p e s m args below meth c ls F ht hr hin hN hl
  have hl : lv_has ls 7 [(0, .ref ((rd 0 0))), (1, .int (nI k)), (2, .int (nI i)), (3, .int (nI ch))] := hl
  have wnA := hW.hnA
  have wnP := hW.hnP
  have wnT := hW.hnT
  have wnR := hW.hnR
  have wpa := hW.hpa
  have wbo := hW.hbo
  have wen0 := hW.hen 0
  have wen1 := hW.hen 1
  refine lv_aload_n (pc := 0) F.1 F.2.1 dX7_comesBack_0 rfl (lv_at hl 0 rfl) ?_
  refine lv_iload_n (pc := 1) F.1 F.2.1 dX7_comesBack_1 rfl (lv_at hl 1 rfl) ?_
  refine lv_iload_n (pc := 2) F.1 F.2.1 dX7_comesBack_2 rfl (lv_at hl 2 rfl) ?_
  refine mm_runV (pc := 3) (As := [.int (nI k), .int (nI i)]) (rest := []) F hN (c_was l b D hst T th rd σ hM hW k i (by omega) (by omega)) mw_1387 mw_1389 mw_p32 mw_6 mw_1390 ⟨pmX7_wasThere, (Nat.le_of_ble_eq_true rfl), (Nat.le_of_ble_eq_true rfl)⟩ (mm_recv F.2.2.2.2.2.1 hN (mm_r0 hM) rfl) hl.1 rfl (Nat.le_of_ble_eq_true rfl) ⟨(Nat.le_of_ble_eq_true rfl), (Nat.le_of_ble_eq_true rfl)⟩ dX7_comesBack_3
    (fun _ _ _ _ _ _ h9 => False.elim h9)
    (fun v9 σ9 H locs hp9 hN => ?_)
  obtain ⟨rfl, h9⟩ := hp9
  rw [h9] at hN
  refine W.eq (g2 := F0 m 6 ls [.int (nI (if k < T.nR ∧ i < T.rp k then 1 else 0))]) rfl ?_
  refine W.widen (k := 0) (n := 0) (Nat.le_of_ble_eq_true rfl) (Nat.le_of_ble_eq_true rfl) ?_
  by_cases hw9 : k < T.nR ∧ i < T.rp k
  ·
    refine W.eq (g2 := F0 m 6 ls [.int (nI 1)]) (by rw [if_pos hw9]) ?_
    obtain ⟨hwk, hwi⟩ := hw9
    obtain ⟨wr1, wr2, wr3, wr4⟩ := hW.hru k hwk
    obtain ⟨wp1, wp2, wp3, wp4, wp5, wp6, wp7⟩ := wr4 i hwi
    obtain ⟨who, wfl, wre⟩ := hW.hpe i (by omega)
    refine mm_if_ne (pc := 6) F (tgt := 15) (by omega) dX7_comesBack_6 (by decide) (fun cz6 => ?_) (fun h9 => absurd h9 (by decide))
    refine lv_iload_n (pc := 15) F.1 F.2.1 dX7_comesBack_15 rfl (lv_at hl 3 rfl) ?_
    refine lv_bipush (pc := 16) (v := nI 117) F.1 F.2.1 dX7_comesBack_16 (by decide) ?_
    refine mm_icmp_eq (pc := 18) F (x := ch) (y := 117) (tgt := 33) (by omega) (by omega) dX7_comesBack_18 (by decide) (fun cz18 => ?_) (fun cz18 => ?_)
    ·
      refine lv_iconst (pc := 33) (v := nI 1) F.1 F.2.1 dX7_comesBack_33 (by decide) ?_
      refine lv_goto (pc := 34) (tgt := 38) F.1 F.2.1 dX7_comesBack_34 (by decide) ?_
      refine lv_istore (pc := 38) (lv' := [(4, .int (nI 1)), (0, .ref ((rd 0 0))), (1, .int (nI k)), (2, .int (nI i)), (3, .int (nI ch))]) F.1 F.2.1 dX7_comesBack_38 hl (by decide) rfl (fun ls hl => ?_)
      refine lv_aload_n (pc := 40) F.1 F.2.1 dX7_comesBack_40 rfl (lv_at hl 1 rfl) ?_
      refine lv_iload (pc := 41) F.1 F.2.1 dX7_comesBack_41 (lv_at hl 0 rfl) ?_
      refine mm_if_ne (pc := 43) F (tgt := 50) (by omega) dX7_comesBack_43 (by decide) (fun cz43 => ?_) (fun h9 => absurd h9 (by decide))
      refine lv_aload_n (pc := 50) F.1 F.2.1 dX7_comesBack_50 rfl (lv_at hl 1 rfl) ?_
      refine mm_get (pc := 51) F hN (mm_r0 hM) (ci := 7) rfl 18 (by decide) mw_1197 rfl dX7_comesBack_51 ?_
      refine lv_iload_n (pc := 54) F.1 F.2.1 dX7_comesBack_54 rfl (lv_at hl 2 rfl) ?_
      refine mm_aald (pc := 55) F hN ((show σ (rd 14 0) = mm_arq 1 6 10 (fun i => if i < 10 then some (rd 14 (i + 1)) else none) from mm_rq14 (T := T) hM)) rfl rfl (j := k) (rfl) (by omega) (by decide) (if_pos (by omega)) dX7_comesBack_55 ?_
      refine lv_iload_n (pc := 56) F.1 F.2.1 dX7_comesBack_56 rfl (lv_at hl 3 rfl) ?_
      refine mm_cald (pc := 57) F hN ((show σ (rd 14 (k + 1)) = mm_ari 1 3 24 (fun b9 => nI (T.oc k b9)) from mm_rr14 (T := T) hM (i := k) (by omega))) (j := i) (rfl) (by omega) (by decide) dX7_comesBack_57 ?_
      refine lv_bipush (pc := 58) (v := nI 108) F.1 F.2.1 dX7_comesBack_58 (by decide) ?_
      refine mm_icmp_ne (pc := 60) F (x := T.oc k i) (y := 108) (tgt := 74) (by omega) (by omega) dX7_comesBack_60 (by decide) (fun cz60 => ?_) (fun cz60 => ?_)
      ·
        refine lv_iconst (pc := 74) (v := nI 3) F.1 F.2.1 dX7_comesBack_74 (by decide) ?_
        refine lv_goto (pc := 75) (tgt := 79) F.1 F.2.1 dX7_comesBack_75 (by decide) ?_
        refine mm_put (pc := 79) F hN (mm_r0 hM) (ci := 7) rfl 25 (by decide) mw_1204 rfl (ty := .int) (by decide +kernel) (rfl) (rfl) (Nat.le_of_ble_eq_true rfl) dX7_comesBack_79 (fun H locs hN => ?_)
        have hN : mm_N b D s (mm_u σ ((rd 0 0)) (mm_obj 1 7 [.ref ((rd 1 0)), .ref ((rd 2 0)), .ref ((rd 3 0)), .int (nI T.nA), .ref ((rd 4 0)), .ref ((rd 5 0)), .ref ((rd 6 0)), .int (nI T.nP), .ref ((rd 7 0)), .ref ((rd 8 0)), .ref ((rd 9 0)), .ref ((rd 10 0)), .ref ((rd 11 0)), .int (nI T.nT), .int (nI T.pa), .ref ((rd 12 0)), .int (nI T.bo), .ref ((rd 13 0)), .ref ((rd 14 0)), .ref ((rd 15 0)), .ref ((rd 16 0)), .ref ((rd 17 0)), .ref ((rd 18 0)), .ref ((rd 19 0)), .int (nI T.nR), .int (nI 3)])) _ _ := hN
        obtain ⟨σ2, eσ2⟩ : ∃ q, q = mm_u σ ((rd 0 0)) (mm_obj 1 7 [.ref ((rd 1 0)), .ref ((rd 2 0)), .ref ((rd 3 0)), .int (nI T.nA), .ref ((rd 4 0)), .ref ((rd 5 0)), .ref ((rd 6 0)), .int (nI T.nP), .ref ((rd 7 0)), .ref ((rd 8 0)), .ref ((rd 9 0)), .ref ((rd 10 0)), .ref ((rd 11 0)), .int (nI T.nT), .int (nI T.pa), .ref ((rd 12 0)), .int (nI T.bo), .ref ((rd 13 0)), .ref ((rd 14 0)), .ref ((rd 15 0)), .ref ((rd 16 0)), .ref ((rd 17 0)), .ref ((rd 18 0)), .ref ((rd 19 0)), .int (nI T.nR), .int (nI 3)]) := ⟨_, rfl⟩
        rw [← eσ2] at hN
        have hM2 : mm_M σ2 T 3 rd := by rw [eσ2]; exact mm_Mo hM (fun _ _ => rfl) rfl
        have hF2 : mm_Fr 1 σ σ2 := by rw [eσ2]; exact (mm_Fr.rf).tr (mm_Fr.u (mm_r0 hM))
        refine lv_aload_n (pc := 82) F.1 F.2.1 dX7_comesBack_82 rfl (lv_at hl 1 rfl) ?_
        refine mm_get (pc := 83) F hN ((show σ2 (rd 0 0) = mm_obj 1 7 [.ref ((rd 1 0)), .ref ((rd 2 0)), .ref ((rd 3 0)), .int (nI T.nA), .ref ((rd 4 0)), .ref ((rd 5 0)), .ref ((rd 6 0)), .int (nI T.nP), .ref ((rd 7 0)), .ref ((rd 8 0)), .ref ((rd 9 0)), .ref ((rd 10 0)), .ref ((rd 11 0)), .int (nI T.nT), .int (nI T.pa), .ref ((rd 12 0)), .int (nI T.bo), .ref ((rd 13 0)), .ref ((rd 14 0)), .ref ((rd 15 0)), .ref ((rd 16 0)), .ref ((rd 17 0)), .ref ((rd 18 0)), .ref ((rd 19 0)), .int (nI T.nR), .int (nI 3)] from mm_r0 (T := T) hM2)) (ci := 7) rfl 25 (by decide) mw_1204 rfl dX7_comesBack_83 ?_
        refine mm_if_le (pc := 86) F (tgt := 91) (by omega) dX7_comesBack_86 (by decide) (fun h9 => absurd h9 (by decide)) (fun cz86 => ?_)
        refine lv_iconst (pc := 89) (v := nI 0) F.1 F.2.1 dX7_comesBack_89 (by decide) ?_
        exact mm_iret (pc := 90) F hr hN (Or.inr ⟨by rw [show mm_q_comesBack T k i ch = 3 from by show mm_q_comesBack T k i ch = 3; unfold mm_q_comesBack; (repeat' split) <;> omega]; decide, ⟨_, rfl⟩, by rw [show mm_q_comesBack T k i ch = 3 from by show mm_q_comesBack T k i ch = 3; unfold mm_q_comesBack; (repeat' split) <;> omega]; exact hM2, hF2⟩) (Nat.le_of_ble_eq_true rfl) (Nat.le_of_ble_eq_true rfl) dX7_comesBack_90
      ·
        refine lv_aload_n (pc := 63) F.1 F.2.1 dX7_comesBack_63 rfl (lv_at hl 1 rfl) ?_
        refine mm_get (pc := 64) F hN (mm_r0 hM) (ci := 7) rfl 23 (by decide) mw_1202 rfl dX7_comesBack_64 ?_
        refine lv_iload_n (pc := 67) F.1 F.2.1 dX7_comesBack_67 rfl (lv_at hl 2 rfl) ?_
        refine mm_aald (pc := 68) F hN ((show σ (rd 19 0) = mm_arq 1 7 10 (fun i => if i < 10 then some (rd 19 (i + 1)) else none) from mm_rq19 (T := T) hM)) rfl rfl (j := k) (rfl) (by omega) (by decide) (if_pos (by omega)) dX7_comesBack_68 ?_
        refine lv_iload_n (pc := 69) F.1 F.2.1 dX7_comesBack_69 rfl (lv_at hl 3 rfl) ?_
        refine mm_zald (pc := 70) F hN ((show σ (rd 19 (k + 1)) = mm_ari 1 4 24 (fun b9 => nI (T.bk k b9)) from mm_rr19 (T := T) hM (i := k) (by omega))) (j := i) (rfl) (by omega) (by decide) dX7_comesBack_70 ?_
        refine mm_if_eq (pc := 71) F (tgt := 78) (by omega) dX7_comesBack_71 (by decide) (fun cz71 => ?_) (fun cz71 => ?_)
        ·
          refine lv_iconst (pc := 78) (v := nI 0) F.1 F.2.1 dX7_comesBack_78 (by decide) ?_
          refine mm_put (pc := 79) F hN (mm_r0 hM) (ci := 7) rfl 25 (by decide) mw_1204 rfl (ty := .int) (by decide +kernel) (rfl) (rfl) (Nat.le_of_ble_eq_true rfl) dX7_comesBack_79 (fun H locs hN => ?_)
          have hN : mm_N b D s (mm_u σ ((rd 0 0)) (mm_obj 1 7 [.ref ((rd 1 0)), .ref ((rd 2 0)), .ref ((rd 3 0)), .int (nI T.nA), .ref ((rd 4 0)), .ref ((rd 5 0)), .ref ((rd 6 0)), .int (nI T.nP), .ref ((rd 7 0)), .ref ((rd 8 0)), .ref ((rd 9 0)), .ref ((rd 10 0)), .ref ((rd 11 0)), .int (nI T.nT), .int (nI T.pa), .ref ((rd 12 0)), .int (nI T.bo), .ref ((rd 13 0)), .ref ((rd 14 0)), .ref ((rd 15 0)), .ref ((rd 16 0)), .ref ((rd 17 0)), .ref ((rd 18 0)), .ref ((rd 19 0)), .int (nI T.nR), .int (nI 0)])) _ _ := hN
          obtain ⟨σ3, eσ3⟩ : ∃ q, q = mm_u σ ((rd 0 0)) (mm_obj 1 7 [.ref ((rd 1 0)), .ref ((rd 2 0)), .ref ((rd 3 0)), .int (nI T.nA), .ref ((rd 4 0)), .ref ((rd 5 0)), .ref ((rd 6 0)), .int (nI T.nP), .ref ((rd 7 0)), .ref ((rd 8 0)), .ref ((rd 9 0)), .ref ((rd 10 0)), .ref ((rd 11 0)), .int (nI T.nT), .int (nI T.pa), .ref ((rd 12 0)), .int (nI T.bo), .ref ((rd 13 0)), .ref ((rd 14 0)), .ref ((rd 15 0)), .ref ((rd 16 0)), .ref ((rd 17 0)), .ref ((rd 18 0)), .ref ((rd 19 0)), .int (nI T.nR), .int (nI 0)]) := ⟨_, rfl⟩
          rw [← eσ3] at hN
          have hM3 : mm_M σ3 T 0 rd := by rw [eσ3]; exact mm_Mo hM (fun _ _ => rfl) rfl
          have hF3 : mm_Fr 1 σ σ3 := by rw [eσ3]; exact (mm_Fr.rf).tr (mm_Fr.u (mm_r0 hM))
          refine lv_aload_n (pc := 82) F.1 F.2.1 dX7_comesBack_82 rfl (lv_at hl 1 rfl) ?_
          refine mm_get (pc := 83) F hN ((show σ3 (rd 0 0) = mm_obj 1 7 [.ref ((rd 1 0)), .ref ((rd 2 0)), .ref ((rd 3 0)), .int (nI T.nA), .ref ((rd 4 0)), .ref ((rd 5 0)), .ref ((rd 6 0)), .int (nI T.nP), .ref ((rd 7 0)), .ref ((rd 8 0)), .ref ((rd 9 0)), .ref ((rd 10 0)), .ref ((rd 11 0)), .int (nI T.nT), .int (nI T.pa), .ref ((rd 12 0)), .int (nI T.bo), .ref ((rd 13 0)), .ref ((rd 14 0)), .ref ((rd 15 0)), .ref ((rd 16 0)), .ref ((rd 17 0)), .ref ((rd 18 0)), .ref ((rd 19 0)), .int (nI T.nR), .int (nI 0)] from mm_r0 (T := T) hM3)) (ci := 7) rfl 25 (by decide) mw_1204 rfl dX7_comesBack_83 ?_
          refine mm_if_le (pc := 86) F (tgt := 91) (by omega) dX7_comesBack_86 (by decide) (fun cz86 => ?_) (fun h9 => absurd h9 (by decide))
          refine lv_aload_n (pc := 91) F.1 F.2.1 dX7_comesBack_91 rfl (lv_at hl 1 rfl) ?_
          refine mm_get (pc := 92) F hN ((show σ3 (rd 0 0) = mm_obj 1 7 [.ref ((rd 1 0)), .ref ((rd 2 0)), .ref ((rd 3 0)), .int (nI T.nA), .ref ((rd 4 0)), .ref ((rd 5 0)), .ref ((rd 6 0)), .int (nI T.nP), .ref ((rd 7 0)), .ref ((rd 8 0)), .ref ((rd 9 0)), .ref ((rd 10 0)), .ref ((rd 11 0)), .int (nI T.nT), .int (nI T.pa), .ref ((rd 12 0)), .int (nI T.bo), .ref ((rd 13 0)), .ref ((rd 14 0)), .ref ((rd 15 0)), .ref ((rd 16 0)), .ref ((rd 17 0)), .ref ((rd 18 0)), .ref ((rd 19 0)), .int (nI T.nR), .int (nI 0)] from mm_r0 (T := T) hM3)) (ci := 7) rfl 23 (by decide) mw_1202 rfl dX7_comesBack_92 ?_
          refine lv_iload_n (pc := 95) F.1 F.2.1 dX7_comesBack_95 rfl (lv_at hl 2 rfl) ?_
          refine mm_aald (pc := 96) F hN ((show σ3 (rd 19 0) = mm_arq 1 7 10 (fun i => if i < 10 then some (rd 19 (i + 1)) else none) from mm_rq19 (T := T) hM3)) rfl rfl (j := k) (rfl) (by omega) (by decide) (if_pos (by omega)) dX7_comesBack_96 ?_
          refine lv_iload_n (pc := 97) F.1 F.2.1 dX7_comesBack_97 rfl (lv_at hl 3 rfl) ?_
          refine lv_iconst (pc := 98) (v := nI 1) F.1 F.2.1 dX7_comesBack_98 (by decide) ?_
          refine mm_zast (pc := 99) F hN ((show σ3 (rd 19 (k + 1)) = mm_ari 1 4 24 (fun b9 => nI (T.bk k b9)) from mm_rr19 (T := T) hM3 (i := k) (by omega))) (j := i) (rfl) (by omega) (by decide) (by decide) dX7_comesBack_99 (fun H locs hN => ?_)
          have hN : mm_N b D s (mm_u σ3 (rd 19 (k + 1)) (mm_ari 1 4 24 (va_up (fun b9 => nI (T.bk k b9)) i (nI 1)))) _ _ := hN
          obtain ⟨σ4, eσ4⟩ : ∃ q, q = mm_u σ3 (rd 19 (k + 1)) (mm_ari 1 4 24 (va_up (fun b9 => nI (T.bk k b9)) i (nI 1))) := ⟨_, rfl⟩
          rw [← eσ4] at hN
          have hM4 : mm_M σ4 (T.w 19 (mm_u2 (T 19) k i 1)) 0 rd := by rw [eσ4]; exact mm_Mw2 hM3 (k := 19) (i := k) rfl (show k < 10 by omega) (fun a ha => mm_u2_row ha) mm_va2
          have hF4 : mm_Fr 1 σ σ4 := by rw [eσ4]; exact (hF3).tr (mm_Fr.u (mm_rr19 hM3 (i := k) (by omega)))
          refine lv_aload_n (pc := 100) F.1 F.2.1 dX7_comesBack_100 rfl (lv_at hl 1 rfl) ?_
          refine mm_get (pc := 101) F hN ((show σ4 (rd 0 0) = mm_obj 1 7 [.ref ((rd 1 0)), .ref ((rd 2 0)), .ref ((rd 3 0)), .int (nI T.nA), .ref ((rd 4 0)), .ref ((rd 5 0)), .ref ((rd 6 0)), .int (nI T.nP), .ref ((rd 7 0)), .ref ((rd 8 0)), .ref ((rd 9 0)), .ref ((rd 10 0)), .ref ((rd 11 0)), .int (nI T.nT), .int (nI T.pa), .ref ((rd 12 0)), .int (nI T.bo), .ref ((rd 13 0)), .ref ((rd 14 0)), .ref ((rd 15 0)), .ref ((rd 16 0)), .ref ((rd 17 0)), .ref ((rd 18 0)), .ref ((rd 19 0)), .int (nI T.nR), .int (nI 0)] from mm_r0 (T := (T.w 19 (mm_u2 (T 19) k i 1))) hM4)) (ci := 7) rfl 1 (by decide) mw_1180 rfl dX7_comesBack_101 ?_
          refine lv_aload_n (pc := 104) F.1 F.2.1 dX7_comesBack_104 rfl (lv_at hl 1 rfl) ?_
          refine mm_get (pc := 105) F hN ((show σ4 (rd 0 0) = mm_obj 1 7 [.ref ((rd 1 0)), .ref ((rd 2 0)), .ref ((rd 3 0)), .int (nI T.nA), .ref ((rd 4 0)), .ref ((rd 5 0)), .ref ((rd 6 0)), .int (nI T.nP), .ref ((rd 7 0)), .ref ((rd 8 0)), .ref ((rd 9 0)), .ref ((rd 10 0)), .ref ((rd 11 0)), .int (nI T.nT), .int (nI T.pa), .ref ((rd 12 0)), .int (nI T.bo), .ref ((rd 13 0)), .ref ((rd 14 0)), .ref ((rd 15 0)), .ref ((rd 16 0)), .ref ((rd 17 0)), .ref ((rd 18 0)), .ref ((rd 19 0)), .int (nI T.nR), .int (nI 0)] from mm_r0 (T := (T.w 19 (mm_u2 (T 19) k i 1))) hM4)) (ci := 7) rfl 4 (by decide) mw_1183 rfl dX7_comesBack_105 ?_
          refine lv_iload_n (pc := 108) F.1 F.2.1 dX7_comesBack_108 rfl (lv_at hl 3 rfl) ?_
          refine mm_iald (pc := 109) F hN ((show σ4 (rd 4 0) = mm_ari 1 0 24 (fun b9 => nI (T.ho b9)) from mm_r4 (T := (T.w 19 (mm_u2 (T 19) k i 1))) hM4)) (j := i) (rfl) (by omega) (by decide) dX7_comesBack_109 ?_
          refine lv_dup2_11 (pc := 110) F.1 F.2.1 dX7_comesBack_110 rfl rfl ?_
          refine mm_iald (pc := 111) F hN ((show σ4 (rd 2 0) = mm_ari 1 0 12 (fun b9 => nI (T.sk b9)) from mm_r2 (T := (T.w 19 (mm_u2 (T 19) k i 1))) hM4)) (j := T.ho i) (rfl) (by omega) (by decide) dX7_comesBack_111 ?_
          refine lv_iload_n (pc := 112) F.1 F.2.1 dX7_comesBack_112 rfl (lv_at hl 4 rfl) ?_
          refine lv_bipush (pc := 113) (v := nI 117) F.1 F.2.1 dX7_comesBack_113 (by decide) ?_
          refine mm_icmp_ne (pc := 115) F (x := ch) (y := 117) (tgt := 122) (by omega) (by omega) dX7_comesBack_115 (by decide) (fun cz115 => ?_) (fun cz115 => ?_)
          ·
            omega
          ·
            refine lv_iconst (pc := 118) (v := nI 1) F.1 F.2.1 dX7_comesBack_118 (by decide) ?_
            refine lv_goto (pc := 119) (tgt := 123) F.1 F.2.1 dX7_comesBack_119 (by decide) ?_
            refine mm_iadd (pc := 123) F (z := nI ((T.sk (T.ho i)) + 1)) (nI_add _ _) dX7_comesBack_123 ?_
            refine mm_iast (pc := 124) F hN ((show σ4 (rd 2 0) = mm_ari 1 0 12 (fun b9 => nI (T.sk b9)) from mm_r2 (T := (T.w 19 (mm_u2 (T 19) k i 1))) hM4)) (j := T.ho i) (rfl) (by omega) (by decide) dX7_comesBack_124 (fun H locs hN => ?_)
            have hN : mm_N b D s (mm_u σ4 (rd 2 0) (mm_ari 1 0 12 (va_up (fun b9 => nI (T.sk b9)) (T.ho i) (nI ((T.sk (T.ho i)) + 1))))) _ _ := hN
            obtain ⟨σ5, eσ5⟩ : ∃ q, q = mm_u σ4 (rd 2 0) (mm_ari 1 0 12 (va_up (fun b9 => nI (T.sk b9)) (T.ho i) (nI ((T.sk (T.ho i)) + 1)))) := ⟨_, rfl⟩
            rw [← eσ5] at hN
            have hM5 : mm_M σ5 ((T.w 19 (mm_u2 (T 19) k i 1)).w 2 (mm_u2 ((T.w 19 (mm_u2 (T 19) k i 1)) 2) (T.ho i) 0 ((T.sk (T.ho i)) + 1))) 0 rd := by rw [eσ5]; exact mm_Mw1 hM4 (k := 2) rfl mm_va1
            have hF5 : mm_Fr 1 σ σ5 := by rw [eσ5]; exact (hF4).tr (mm_Fr.u (mm_r2 hM4))
            refine lv_aload_n (pc := 125) F.1 F.2.1 dX7_comesBack_125 rfl (lv_at hl 1 rfl) ?_
            refine mm_get (pc := 126) F hN ((show σ5 (rd 0 0) = mm_obj 1 7 [.ref ((rd 1 0)), .ref ((rd 2 0)), .ref ((rd 3 0)), .int (nI T.nA), .ref ((rd 4 0)), .ref ((rd 5 0)), .ref ((rd 6 0)), .int (nI T.nP), .ref ((rd 7 0)), .ref ((rd 8 0)), .ref ((rd 9 0)), .ref ((rd 10 0)), .ref ((rd 11 0)), .int (nI T.nT), .int (nI T.pa), .ref ((rd 12 0)), .int (nI T.bo), .ref ((rd 13 0)), .ref ((rd 14 0)), .ref ((rd 15 0)), .ref ((rd 16 0)), .ref ((rd 17 0)), .ref ((rd 18 0)), .ref ((rd 19 0)), .int (nI T.nR), .int (nI 0)] from mm_r0 (T := ((T.w 19 (mm_u2 (T 19) k i 1)).w 2 (mm_u2 ((T.w 19 (mm_u2 (T 19) k i 1)) 2) (T.ho i) 0 ((T.sk (T.ho i)) + 1)))) hM5)) (ci := 7) rfl 6 (by decide) mw_1185 rfl dX7_comesBack_126 ?_
            refine lv_iload_n (pc := 129) F.1 F.2.1 dX7_comesBack_129 rfl (lv_at hl 3 rfl) ?_
            refine lv_iload_n (pc := 130) F.1 F.2.1 dX7_comesBack_130 rfl (lv_at hl 4 rfl) ?_
            refine lv_bipush (pc := 131) (v := nI 117) F.1 F.2.1 dX7_comesBack_131 (by decide) ?_
            refine mm_icmp_ne (pc := 133) F (x := ch) (y := 117) (tgt := 145) (by omega) (by omega) dX7_comesBack_133 (by decide) (fun cz133 => ?_) (fun cz133 => ?_)
            ·
              omega
            ·
              refine lv_aload_n (pc := 136) F.1 F.2.1 dX7_comesBack_136 rfl (lv_at hl 1 rfl) ?_
              refine mm_get (pc := 137) F hN ((show σ5 (rd 0 0) = mm_obj 1 7 [.ref ((rd 1 0)), .ref ((rd 2 0)), .ref ((rd 3 0)), .int (nI T.nA), .ref ((rd 4 0)), .ref ((rd 5 0)), .ref ((rd 6 0)), .int (nI T.nP), .ref ((rd 7 0)), .ref ((rd 8 0)), .ref ((rd 9 0)), .ref ((rd 10 0)), .ref ((rd 11 0)), .int (nI T.nT), .int (nI T.pa), .ref ((rd 12 0)), .int (nI T.bo), .ref ((rd 13 0)), .ref ((rd 14 0)), .ref ((rd 15 0)), .ref ((rd 16 0)), .ref ((rd 17 0)), .ref ((rd 18 0)), .ref ((rd 19 0)), .int (nI T.nR), .int (nI 0)] from mm_r0 (T := ((T.w 19 (mm_u2 (T 19) k i 1)).w 2 (mm_u2 ((T.w 19 (mm_u2 (T 19) k i 1)) 2) (T.ho i) 0 ((T.sk (T.ho i)) + 1)))) hM5)) (ci := 7) rfl 6 (by decide) mw_1185 rfl dX7_comesBack_137 ?_
              refine lv_iload_n (pc := 140) F.1 F.2.1 dX7_comesBack_140 rfl (lv_at hl 3 rfl) ?_
              refine mm_cald (pc := 141) F hN ((show σ5 (rd 6 0) = mm_ari 1 3 24 (fun b9 => nI (T.re b9)) from mm_r6 (T := ((T.w 19 (mm_u2 (T 19) k i 1)).w 2 (mm_u2 ((T.w 19 (mm_u2 (T 19) k i 1)) 2) (T.ho i) 0 ((T.sk (T.ho i)) + 1)))) hM5)) (j := i) (rfl) (by omega) (by decide) dX7_comesBack_141 ?_
              refine lv_goto (pc := 142) (tgt := 146) F.1 F.2.1 dX7_comesBack_142 (by decide) ?_
              refine mm_cast_ (pc := 146) F hN ((show σ5 (rd 6 0) = mm_ari 1 3 24 (fun b9 => nI (T.re b9)) from mm_r6 (T := ((T.w 19 (mm_u2 (T 19) k i 1)).w 2 (mm_u2 ((T.w 19 (mm_u2 (T 19) k i 1)) 2) (T.ho i) 0 ((T.sk (T.ho i)) + 1)))) hM5)) (j := i) (rfl) (by omega) (by decide) (mm_narC (by omega)) dX7_comesBack_146 (fun H locs hN => ?_)
              have hN : mm_N b D s (mm_u σ5 (rd 6 0) (mm_ari 1 3 24 (va_up (fun b9 => nI (T.re b9)) i (nI (T.re i))))) _ _ := hN
              obtain ⟨σ6, eσ6⟩ : ∃ q, q = mm_u σ5 (rd 6 0) (mm_ari 1 3 24 (va_up (fun b9 => nI (T.re b9)) i (nI (T.re i)))) := ⟨_, rfl⟩
              rw [← eσ6] at hN
              have hM6 : mm_M σ6 (((T.w 19 (mm_u2 (T 19) k i 1)).w 2 (mm_u2 ((T.w 19 (mm_u2 (T 19) k i 1)) 2) (T.ho i) 0 ((T.sk (T.ho i)) + 1))).w 6 (mm_u2 (((T.w 19 (mm_u2 (T 19) k i 1)).w 2 (mm_u2 ((T.w 19 (mm_u2 (T 19) k i 1)) 2) (T.ho i) 0 ((T.sk (T.ho i)) + 1))) 6) i 0 (T.re i))) 0 rd := by rw [eσ6]; exact mm_Mw1 hM5 (k := 6) rfl mm_va1
              have hF6 : mm_Fr 1 σ σ6 := by rw [eσ6]; exact (hF5).tr (mm_Fr.u (mm_r6 hM5))
              refine lv_iconst (pc := 147) (v := nI 0) F.1 F.2.1 dX7_comesBack_147 (by decide) ?_
              refine lv_istore (pc := 148) (lv' := [(5, .int (nI 0)), (4, .int (nI 1)), (0, .ref ((rd 0 0))), (1, .int (nI k)), (2, .int (nI i)), (3, .int (nI ch))]) F.1 F.2.1 dX7_comesBack_148 hl (by decide) rfl (fun ls hl => ?_)
              refine lv_iconst (pc := 150) (v := nI 0) F.1 F.2.1 dX7_comesBack_150 (by decide) ?_
              refine lv_istore (pc := 151) (lv' := [(6, .int (nI 0)), (5, .int (nI 0)), (4, .int (nI 1)), (0, .ref ((rd 0 0))), (1, .int (nI k)), (2, .int (nI i)), (3, .int (nI ch))]) F.1 F.2.1 dX7_comesBack_151 hl (by decide) rfl (fun ls hl => ?_)
              have lp153 : ∀ (k153 u : Nat) (ls : Array Slot) (H : Heap) (locs : List Loc), T.rp k < u + k153 → u ≤ T.rp k → mm_N b D s σ6 H locs → lv_has ls 7 [(0, .ref ((rd 0 0))), (1, .int (nI k)), (5, .int (nI (mm_sm ((mm_u2 (T 19) k i 1) k) u))), (6, .int (nI u))] →
                  W p l e ({ frames := 6, cells := 0, slots := 0, locals := 160 } : Room) s m args below meth c H locs (0) (0) (mm_Q b D (fun v σ2 => mm_Mt rd σ σ2 T (if ch = 117 then (T.w 19 (mm_u2 (T 19) k i 1)).w 2 (mm_u2 (T 2) (T.ho i) 0 (T.sk (T.ho i) + 1)) else (T.w 19 (mm_u2 (T 19) k i 1)).w 6 (mm_u2 (T 6) i 0 ch)) (mm_q_comesBack T k i ch) v (some (.int (nI (mm_sm ((mm_u2 (T 19) k i 1) k) (T.rp k)))))) (fun _ _ => False) below args s ({ frames := 6, cells := 0, slots := 0, locals := 160 } : Room)) (F0 m 153 ls []) := by
                intro k153
                induction k153 with
                | zero => intro u  ls H locs hk153 hi153  hN hl; omega
                | succ k153 ih153 =>
                  intro u  ls H locs hk153 hi153  hN hl
                  refine lv_iload (pc := 153) F.1 F.2.1 dX7_comesBack_153 (lv_at hl 3 rfl) ?_
                  refine lv_aload_n (pc := 155) F.1 F.2.1 dX7_comesBack_155 rfl (lv_at hl 0 rfl) ?_
                  refine mm_get (pc := 156) F hN ((show σ6 (rd 0 0) = mm_obj 1 7 [.ref ((rd 1 0)), .ref ((rd 2 0)), .ref ((rd 3 0)), .int (nI T.nA), .ref ((rd 4 0)), .ref ((rd 5 0)), .ref ((rd 6 0)), .int (nI T.nP), .ref ((rd 7 0)), .ref ((rd 8 0)), .ref ((rd 9 0)), .ref ((rd 10 0)), .ref ((rd 11 0)), .int (nI T.nT), .int (nI T.pa), .ref ((rd 12 0)), .int (nI T.bo), .ref ((rd 13 0)), .ref ((rd 14 0)), .ref ((rd 15 0)), .ref ((rd 16 0)), .ref ((rd 17 0)), .ref ((rd 18 0)), .ref ((rd 19 0)), .int (nI T.nR), .int (nI 0)] from mm_r0 (T := (((T.w 19 (mm_u2 (T 19) k i 1)).w 2 (mm_u2 ((T.w 19 (mm_u2 (T 19) k i 1)) 2) (T.ho i) 0 ((T.sk (T.ho i)) + 1))).w 6 (mm_u2 (((T.w 19 (mm_u2 (T 19) k i 1)).w 2 (mm_u2 ((T.w 19 (mm_u2 (T 19) k i 1)) 2) (T.ho i) 0 ((T.sk (T.ho i)) + 1))) 6) i 0 (T.re i)))) hM6)) (ci := 7) rfl 17 (by decide) mw_1196 rfl dX7_comesBack_156 ?_
                  refine lv_iload_n (pc := 159) F.1 F.2.1 dX7_comesBack_159 rfl (lv_at hl 1 rfl) ?_
                  refine mm_iald (pc := 160) F hN ((show σ6 (rd 13 0) = mm_ari 1 0 10 (fun b9 => nI (T.rp b9)) from mm_r13 (T := (((T.w 19 (mm_u2 (T 19) k i 1)).w 2 (mm_u2 ((T.w 19 (mm_u2 (T 19) k i 1)) 2) (T.ho i) 0 ((T.sk (T.ho i)) + 1))).w 6 (mm_u2 (((T.w 19 (mm_u2 (T 19) k i 1)).w 2 (mm_u2 ((T.w 19 (mm_u2 (T 19) k i 1)) 2) (T.ho i) 0 ((T.sk (T.ho i)) + 1))) 6) i 0 (T.re i)))) hM6)) (j := k) (rfl) (by omega) (by decide) dX7_comesBack_160 ?_
                  refine mm_icmp_ge (pc := 161) F (x := u) (y := T.rp k) (tgt := 192) (by omega) (by omega) dX7_comesBack_161 (by decide) (fun cz161 => ?_) (fun cz161 => ?_)
                  ·
                    refine lv_iload (pc := 192) F.1 F.2.1 dX7_comesBack_192 (lv_at hl 2 rfl) ?_
                    have hM99 : mm_M σ6 (if ch = 117 then (T.w 19 (mm_u2 (T 19) k i 1)).w 2 (mm_u2 (T 2) (T.ho i) 0 (T.sk (T.ho i) + 1)) else (T.w 19 (mm_u2 (T 19) k i 1)).w 6 (mm_u2 (T 6) i 0 ch)) 0 rd := by
                      rw [if_pos (by omega : ch = 117)]
                      refine mm_M_cg hM6 (fun k9 hk9 => ?_) rfl
                      by_cases e6 : k9 = 6
                      · subst e6; exact (mm_u2_self (f := T 6) (i := i) (j := 0)).symm
                      by_cases e2 : k9 = 2
                      · subst e2; rfl
                      by_cases e19 : k9 = 19
                      · subst e19; rfl
                      simp only [mm_T.w, if_neg e2, if_neg e6, if_neg e19]
                    exact mm_iret (pc := 194) F hr hN (Or.inl ⟨by show mm_q_comesBack T k i ch = 0; unfold mm_q_comesBack; (repeat' split) <;> omega, by rw [show T.rp k = u by omega], hM99, hF6⟩) (Nat.le_of_ble_eq_true rfl) (Nat.le_of_ble_eq_true rfl) dX7_comesBack_194
                  ·
                    have hb9 : (mm_u2 (T 19) k i 1) k u < 2 := by
                      show (if k = k ∧ u = i then 1 else T.bk k u) < 2
                      split
                      · decide
                      · exact (wr4 u (by omega)).2.2.2.2.1
                    refine lv_iload (pc := 164) F.1 F.2.1 dX7_comesBack_164 (lv_at hl 2 rfl) ?_
                    refine lv_aload_n (pc := 166) F.1 F.2.1 dX7_comesBack_166 rfl (lv_at hl 0 rfl) ?_
                    refine mm_get (pc := 167) F hN ((show σ6 (rd 0 0) = mm_obj 1 7 [.ref ((rd 1 0)), .ref ((rd 2 0)), .ref ((rd 3 0)), .int (nI T.nA), .ref ((rd 4 0)), .ref ((rd 5 0)), .ref ((rd 6 0)), .int (nI T.nP), .ref ((rd 7 0)), .ref ((rd 8 0)), .ref ((rd 9 0)), .ref ((rd 10 0)), .ref ((rd 11 0)), .int (nI T.nT), .int (nI T.pa), .ref ((rd 12 0)), .int (nI T.bo), .ref ((rd 13 0)), .ref ((rd 14 0)), .ref ((rd 15 0)), .ref ((rd 16 0)), .ref ((rd 17 0)), .ref ((rd 18 0)), .ref ((rd 19 0)), .int (nI T.nR), .int (nI 0)] from mm_r0 (T := (((T.w 19 (mm_u2 (T 19) k i 1)).w 2 (mm_u2 ((T.w 19 (mm_u2 (T 19) k i 1)) 2) (T.ho i) 0 ((T.sk (T.ho i)) + 1))).w 6 (mm_u2 (((T.w 19 (mm_u2 (T 19) k i 1)).w 2 (mm_u2 ((T.w 19 (mm_u2 (T 19) k i 1)) 2) (T.ho i) 0 ((T.sk (T.ho i)) + 1))) 6) i 0 (T.re i)))) hM6)) (ci := 7) rfl 23 (by decide) mw_1202 rfl dX7_comesBack_167 ?_
                    refine lv_iload_n (pc := 170) F.1 F.2.1 dX7_comesBack_170 rfl (lv_at hl 1 rfl) ?_
                    refine mm_aald (pc := 171) F hN ((show σ6 (rd 19 0) = mm_arq 1 7 10 (fun i => if i < 10 then some (rd 19 (i + 1)) else none) from mm_rq19 (T := (((T.w 19 (mm_u2 (T 19) k i 1)).w 2 (mm_u2 ((T.w 19 (mm_u2 (T 19) k i 1)) 2) (T.ho i) 0 ((T.sk (T.ho i)) + 1))).w 6 (mm_u2 (((T.w 19 (mm_u2 (T 19) k i 1)).w 2 (mm_u2 ((T.w 19 (mm_u2 (T 19) k i 1)) 2) (T.ho i) 0 ((T.sk (T.ho i)) + 1))) 6) i 0 (T.re i)))) hM6)) rfl rfl (j := k) (rfl) (by omega) (by decide) (if_pos (by omega)) dX7_comesBack_171 ?_
                    refine lv_iload (pc := 172) F.1 F.2.1 dX7_comesBack_172 (lv_at hl 3 rfl) ?_
                    refine mm_zald (pc := 174) F hN ((show σ6 (rd 19 (k + 1)) = mm_ari 1 4 24 (fun b9 => nI ((mm_u2 (T 19) k i 1) k b9)) from mm_rr19 (T := (((T.w 19 (mm_u2 (T 19) k i 1)).w 2 (mm_u2 ((T.w 19 (mm_u2 (T 19) k i 1)) 2) (T.ho i) 0 ((T.sk (T.ho i)) + 1))).w 6 (mm_u2 (((T.w 19 (mm_u2 (T 19) k i 1)).w 2 (mm_u2 ((T.w 19 (mm_u2 (T 19) k i 1)) 2) (T.ho i) 0 ((T.sk (T.ho i)) + 1))) 6) i 0 (T.re i)))) hM6 (i := k) (by omega))) (j := u) (rfl) (by omega) (by decide) dX7_comesBack_174 ?_
                    refine mm_if_eq (pc := 175) F (tgt := 182) (by omega) dX7_comesBack_175 (by decide) (fun cz175 => ?_) (fun cz175 => ?_)
                    ·
                      refine lv_iconst (pc := 182) (v := nI 0) F.1 F.2.1 dX7_comesBack_182 (by decide) ?_
                      refine mm_iadd (pc := 183) F (z := nI ((mm_sm ((mm_u2 (T 19) k i 1) k) u) + 0)) (nI_add _ _) dX7_comesBack_183 ?_
                      refine W.eq (g2 := F0 m 184 ls [.int (nI (mm_sm ((mm_u2 (T 19) k i 1) k) (u + 1)))]) (congrArg (fun q => F0 m 184 ls [Value.int (nI q)]) (congrArg (mm_sm ((mm_u2 (T 19) k i 1) k) u + ·) (show _ = (mm_u2 (T 19) k i 1) k u by omega))) ?_
                      refine lv_istore (pc := 184) (lv' := [(5, .int (nI (mm_sm ((mm_u2 (T 19) k i 1) k) (u + 1)))), (0, .ref ((rd 0 0))), (1, .int (nI k)), (6, .int (nI u))]) F.1 F.2.1 dX7_comesBack_184 hl (by decide) rfl (fun ls hl => ?_)
                      refine lv_iinc (pc := 186) (v := nI (u + 1)) (lv' := [(6, .int (nI (u + 1))), (5, .int (nI (mm_sm ((mm_u2 (T 19) k i 1) k) (u + 1)))), (0, .ref ((rd 0 0))), (1, .int (nI k))]) F.1 F.2.1 dX7_comesBack_186 hl (k := 3) rfl (by rw [← nI_add]; rfl) (by decide) rfl (fun ls hl => ?_)
                      refine lv_goto (pc := 189) (tgt := 153) F.1 F.2.1 dX7_comesBack_189 (by decide) ?_
                      exact ih153 (u + 1) ls _ _ (by omega) (by omega) hN (lv_sub hl [2, 3, 1, 0] rfl)
                    ·
                      refine lv_iconst (pc := 178) (v := nI 1) F.1 F.2.1 dX7_comesBack_178 (by decide) ?_
                      refine lv_goto (pc := 179) (tgt := 183) F.1 F.2.1 dX7_comesBack_179 (by decide) ?_
                      refine mm_iadd (pc := 183) F (z := nI ((mm_sm ((mm_u2 (T 19) k i 1) k) u) + 1)) (nI_add _ _) dX7_comesBack_183 ?_
                      refine W.eq (g2 := F0 m 184 ls [.int (nI (mm_sm ((mm_u2 (T 19) k i 1) k) (u + 1)))]) (congrArg (fun q => F0 m 184 ls [Value.int (nI q)]) (congrArg (mm_sm ((mm_u2 (T 19) k i 1) k) u + ·) (show _ = (mm_u2 (T 19) k i 1) k u by omega))) ?_
                      refine lv_istore (pc := 184) (lv' := [(5, .int (nI (mm_sm ((mm_u2 (T 19) k i 1) k) (u + 1)))), (0, .ref ((rd 0 0))), (1, .int (nI k)), (6, .int (nI u))]) F.1 F.2.1 dX7_comesBack_184 hl (by decide) rfl (fun ls hl => ?_)
                      refine lv_iinc (pc := 186) (v := nI (u + 1)) (lv' := [(6, .int (nI (u + 1))), (5, .int (nI (mm_sm ((mm_u2 (T 19) k i 1) k) (u + 1)))), (0, .ref ((rd 0 0))), (1, .int (nI k))]) F.1 F.2.1 dX7_comesBack_186 hl (k := 3) rfl (by rw [← nI_add]; rfl) (by decide) rfl (fun ls hl => ?_)
                      refine lv_goto (pc := 189) (tgt := 153) F.1 F.2.1 dX7_comesBack_189 (by decide) ?_
                      exact ih153 (u + 1) ls _ _ (by omega) (by omega) hN (lv_sub hl [2, 3, 1, 0] rfl)
              exact lp153 ((T.rp k) + 1) 0 ls _ _ (by omega) (by omega) hN (lv_sub hl [3, 4, 1, 0] rfl)
        ·
          refine lv_iconst (pc := 74) (v := nI 3) F.1 F.2.1 dX7_comesBack_74 (by decide) ?_
          refine lv_goto (pc := 75) (tgt := 79) F.1 F.2.1 dX7_comesBack_75 (by decide) ?_
          refine mm_put (pc := 79) F hN (mm_r0 hM) (ci := 7) rfl 25 (by decide) mw_1204 rfl (ty := .int) (by decide +kernel) (rfl) (rfl) (Nat.le_of_ble_eq_true rfl) dX7_comesBack_79 (fun H locs hN => ?_)
          have hN : mm_N b D s (mm_u σ ((rd 0 0)) (mm_obj 1 7 [.ref ((rd 1 0)), .ref ((rd 2 0)), .ref ((rd 3 0)), .int (nI T.nA), .ref ((rd 4 0)), .ref ((rd 5 0)), .ref ((rd 6 0)), .int (nI T.nP), .ref ((rd 7 0)), .ref ((rd 8 0)), .ref ((rd 9 0)), .ref ((rd 10 0)), .ref ((rd 11 0)), .int (nI T.nT), .int (nI T.pa), .ref ((rd 12 0)), .int (nI T.bo), .ref ((rd 13 0)), .ref ((rd 14 0)), .ref ((rd 15 0)), .ref ((rd 16 0)), .ref ((rd 17 0)), .ref ((rd 18 0)), .ref ((rd 19 0)), .int (nI T.nR), .int (nI 3)])) _ _ := hN
          obtain ⟨σ7, eσ7⟩ : ∃ q, q = mm_u σ ((rd 0 0)) (mm_obj 1 7 [.ref ((rd 1 0)), .ref ((rd 2 0)), .ref ((rd 3 0)), .int (nI T.nA), .ref ((rd 4 0)), .ref ((rd 5 0)), .ref ((rd 6 0)), .int (nI T.nP), .ref ((rd 7 0)), .ref ((rd 8 0)), .ref ((rd 9 0)), .ref ((rd 10 0)), .ref ((rd 11 0)), .int (nI T.nT), .int (nI T.pa), .ref ((rd 12 0)), .int (nI T.bo), .ref ((rd 13 0)), .ref ((rd 14 0)), .ref ((rd 15 0)), .ref ((rd 16 0)), .ref ((rd 17 0)), .ref ((rd 18 0)), .ref ((rd 19 0)), .int (nI T.nR), .int (nI 3)]) := ⟨_, rfl⟩
          rw [← eσ7] at hN
          have hM7 : mm_M σ7 T 3 rd := by rw [eσ7]; exact mm_Mo hM (fun _ _ => rfl) rfl
          have hF7 : mm_Fr 1 σ σ7 := by rw [eσ7]; exact (mm_Fr.rf).tr (mm_Fr.u (mm_r0 hM))
          refine lv_aload_n (pc := 82) F.1 F.2.1 dX7_comesBack_82 rfl (lv_at hl 1 rfl) ?_
          refine mm_get (pc := 83) F hN ((show σ7 (rd 0 0) = mm_obj 1 7 [.ref ((rd 1 0)), .ref ((rd 2 0)), .ref ((rd 3 0)), .int (nI T.nA), .ref ((rd 4 0)), .ref ((rd 5 0)), .ref ((rd 6 0)), .int (nI T.nP), .ref ((rd 7 0)), .ref ((rd 8 0)), .ref ((rd 9 0)), .ref ((rd 10 0)), .ref ((rd 11 0)), .int (nI T.nT), .int (nI T.pa), .ref ((rd 12 0)), .int (nI T.bo), .ref ((rd 13 0)), .ref ((rd 14 0)), .ref ((rd 15 0)), .ref ((rd 16 0)), .ref ((rd 17 0)), .ref ((rd 18 0)), .ref ((rd 19 0)), .int (nI T.nR), .int (nI 3)] from mm_r0 (T := T) hM7)) (ci := 7) rfl 25 (by decide) mw_1204 rfl dX7_comesBack_83 ?_
          refine mm_if_le (pc := 86) F (tgt := 91) (by omega) dX7_comesBack_86 (by decide) (fun h9 => absurd h9 (by decide)) (fun cz86 => ?_)
          refine lv_iconst (pc := 89) (v := nI 0) F.1 F.2.1 dX7_comesBack_89 (by decide) ?_
          exact mm_iret (pc := 90) F hr hN (Or.inr ⟨by rw [show mm_q_comesBack T k i ch = 3 from by show mm_q_comesBack T k i ch = 3; unfold mm_q_comesBack; (repeat' split) <;> omega]; decide, ⟨_, rfl⟩, by rw [show mm_q_comesBack T k i ch = 3 from by show mm_q_comesBack T k i ch = 3; unfold mm_q_comesBack; (repeat' split) <;> omega]; exact hM7, hF7⟩) (Nat.le_of_ble_eq_true rfl) (Nat.le_of_ble_eq_true rfl) dX7_comesBack_90
    ·
      refine lv_iload_n (pc := 21) F.1 F.2.1 dX7_comesBack_21 rfl (lv_at hl 3 rfl) ?_
      refine lv_bipush (pc := 22) (v := nI 109) F.1 F.2.1 dX7_comesBack_22 (by decide) ?_
      refine mm_icmp_eq (pc := 24) F (x := ch) (y := 109) (tgt := 33) (by omega) (by omega) dX7_comesBack_24 (by decide) (fun cz24 => ?_) (fun cz24 => ?_)
      ·
        refine lv_iconst (pc := 33) (v := nI 1) F.1 F.2.1 dX7_comesBack_33 (by decide) ?_
        refine lv_goto (pc := 34) (tgt := 38) F.1 F.2.1 dX7_comesBack_34 (by decide) ?_
        refine lv_istore (pc := 38) (lv' := [(4, .int (nI 1)), (0, .ref ((rd 0 0))), (1, .int (nI k)), (2, .int (nI i)), (3, .int (nI ch))]) F.1 F.2.1 dX7_comesBack_38 hl (by decide) rfl (fun ls hl => ?_)
        refine lv_aload_n (pc := 40) F.1 F.2.1 dX7_comesBack_40 rfl (lv_at hl 1 rfl) ?_
        refine lv_iload (pc := 41) F.1 F.2.1 dX7_comesBack_41 (lv_at hl 0 rfl) ?_
        refine mm_if_ne (pc := 43) F (tgt := 50) (by omega) dX7_comesBack_43 (by decide) (fun cz43 => ?_) (fun h9 => absurd h9 (by decide))
        refine lv_aload_n (pc := 50) F.1 F.2.1 dX7_comesBack_50 rfl (lv_at hl 1 rfl) ?_
        refine mm_get (pc := 51) F hN (mm_r0 hM) (ci := 7) rfl 18 (by decide) mw_1197 rfl dX7_comesBack_51 ?_
        refine lv_iload_n (pc := 54) F.1 F.2.1 dX7_comesBack_54 rfl (lv_at hl 2 rfl) ?_
        refine mm_aald (pc := 55) F hN ((show σ (rd 14 0) = mm_arq 1 6 10 (fun i => if i < 10 then some (rd 14 (i + 1)) else none) from mm_rq14 (T := T) hM)) rfl rfl (j := k) (rfl) (by omega) (by decide) (if_pos (by omega)) dX7_comesBack_55 ?_
        refine lv_iload_n (pc := 56) F.1 F.2.1 dX7_comesBack_56 rfl (lv_at hl 3 rfl) ?_
        refine mm_cald (pc := 57) F hN ((show σ (rd 14 (k + 1)) = mm_ari 1 3 24 (fun b9 => nI (T.oc k b9)) from mm_rr14 (T := T) hM (i := k) (by omega))) (j := i) (rfl) (by omega) (by decide) dX7_comesBack_57 ?_
        refine lv_bipush (pc := 58) (v := nI 108) F.1 F.2.1 dX7_comesBack_58 (by decide) ?_
        refine mm_icmp_ne (pc := 60) F (x := T.oc k i) (y := 108) (tgt := 74) (by omega) (by omega) dX7_comesBack_60 (by decide) (fun cz60 => ?_) (fun cz60 => ?_)
        ·
          refine lv_iconst (pc := 74) (v := nI 3) F.1 F.2.1 dX7_comesBack_74 (by decide) ?_
          refine lv_goto (pc := 75) (tgt := 79) F.1 F.2.1 dX7_comesBack_75 (by decide) ?_
          refine mm_put (pc := 79) F hN (mm_r0 hM) (ci := 7) rfl 25 (by decide) mw_1204 rfl (ty := .int) (by decide +kernel) (rfl) (rfl) (Nat.le_of_ble_eq_true rfl) dX7_comesBack_79 (fun H locs hN => ?_)
          have hN : mm_N b D s (mm_u σ ((rd 0 0)) (mm_obj 1 7 [.ref ((rd 1 0)), .ref ((rd 2 0)), .ref ((rd 3 0)), .int (nI T.nA), .ref ((rd 4 0)), .ref ((rd 5 0)), .ref ((rd 6 0)), .int (nI T.nP), .ref ((rd 7 0)), .ref ((rd 8 0)), .ref ((rd 9 0)), .ref ((rd 10 0)), .ref ((rd 11 0)), .int (nI T.nT), .int (nI T.pa), .ref ((rd 12 0)), .int (nI T.bo), .ref ((rd 13 0)), .ref ((rd 14 0)), .ref ((rd 15 0)), .ref ((rd 16 0)), .ref ((rd 17 0)), .ref ((rd 18 0)), .ref ((rd 19 0)), .int (nI T.nR), .int (nI 3)])) _ _ := hN
          obtain ⟨σ8, eσ8⟩ : ∃ q, q = mm_u σ ((rd 0 0)) (mm_obj 1 7 [.ref ((rd 1 0)), .ref ((rd 2 0)), .ref ((rd 3 0)), .int (nI T.nA), .ref ((rd 4 0)), .ref ((rd 5 0)), .ref ((rd 6 0)), .int (nI T.nP), .ref ((rd 7 0)), .ref ((rd 8 0)), .ref ((rd 9 0)), .ref ((rd 10 0)), .ref ((rd 11 0)), .int (nI T.nT), .int (nI T.pa), .ref ((rd 12 0)), .int (nI T.bo), .ref ((rd 13 0)), .ref ((rd 14 0)), .ref ((rd 15 0)), .ref ((rd 16 0)), .ref ((rd 17 0)), .ref ((rd 18 0)), .ref ((rd 19 0)), .int (nI T.nR), .int (nI 3)]) := ⟨_, rfl⟩
          rw [← eσ8] at hN
          have hM8 : mm_M σ8 T 3 rd := by rw [eσ8]; exact mm_Mo hM (fun _ _ => rfl) rfl
          have hF8 : mm_Fr 1 σ σ8 := by rw [eσ8]; exact (mm_Fr.rf).tr (mm_Fr.u (mm_r0 hM))
          refine lv_aload_n (pc := 82) F.1 F.2.1 dX7_comesBack_82 rfl (lv_at hl 1 rfl) ?_
          refine mm_get (pc := 83) F hN ((show σ8 (rd 0 0) = mm_obj 1 7 [.ref ((rd 1 0)), .ref ((rd 2 0)), .ref ((rd 3 0)), .int (nI T.nA), .ref ((rd 4 0)), .ref ((rd 5 0)), .ref ((rd 6 0)), .int (nI T.nP), .ref ((rd 7 0)), .ref ((rd 8 0)), .ref ((rd 9 0)), .ref ((rd 10 0)), .ref ((rd 11 0)), .int (nI T.nT), .int (nI T.pa), .ref ((rd 12 0)), .int (nI T.bo), .ref ((rd 13 0)), .ref ((rd 14 0)), .ref ((rd 15 0)), .ref ((rd 16 0)), .ref ((rd 17 0)), .ref ((rd 18 0)), .ref ((rd 19 0)), .int (nI T.nR), .int (nI 3)] from mm_r0 (T := T) hM8)) (ci := 7) rfl 25 (by decide) mw_1204 rfl dX7_comesBack_83 ?_
          refine mm_if_le (pc := 86) F (tgt := 91) (by omega) dX7_comesBack_86 (by decide) (fun h9 => absurd h9 (by decide)) (fun cz86 => ?_)
          refine lv_iconst (pc := 89) (v := nI 0) F.1 F.2.1 dX7_comesBack_89 (by decide) ?_
          exact mm_iret (pc := 90) F hr hN (Or.inr ⟨by rw [show mm_q_comesBack T k i ch = 3 from by show mm_q_comesBack T k i ch = 3; unfold mm_q_comesBack; (repeat' split) <;> omega]; decide, ⟨_, rfl⟩, by rw [show mm_q_comesBack T k i ch = 3 from by show mm_q_comesBack T k i ch = 3; unfold mm_q_comesBack; (repeat' split) <;> omega]; exact hM8, hF8⟩) (Nat.le_of_ble_eq_true rfl) (Nat.le_of_ble_eq_true rfl) dX7_comesBack_90
        ·
          refine lv_aload_n (pc := 63) F.1 F.2.1 dX7_comesBack_63 rfl (lv_at hl 1 rfl) ?_
          refine mm_get (pc := 64) F hN (mm_r0 hM) (ci := 7) rfl 23 (by decide) mw_1202 rfl dX7_comesBack_64 ?_
          refine lv_iload_n (pc := 67) F.1 F.2.1 dX7_comesBack_67 rfl (lv_at hl 2 rfl) ?_
          refine mm_aald (pc := 68) F hN ((show σ (rd 19 0) = mm_arq 1 7 10 (fun i => if i < 10 then some (rd 19 (i + 1)) else none) from mm_rq19 (T := T) hM)) rfl rfl (j := k) (rfl) (by omega) (by decide) (if_pos (by omega)) dX7_comesBack_68 ?_
          refine lv_iload_n (pc := 69) F.1 F.2.1 dX7_comesBack_69 rfl (lv_at hl 3 rfl) ?_
          refine mm_zald (pc := 70) F hN ((show σ (rd 19 (k + 1)) = mm_ari 1 4 24 (fun b9 => nI (T.bk k b9)) from mm_rr19 (T := T) hM (i := k) (by omega))) (j := i) (rfl) (by omega) (by decide) dX7_comesBack_70 ?_
          refine mm_if_eq (pc := 71) F (tgt := 78) (by omega) dX7_comesBack_71 (by decide) (fun cz71 => ?_) (fun cz71 => ?_)
          ·
            refine lv_iconst (pc := 78) (v := nI 0) F.1 F.2.1 dX7_comesBack_78 (by decide) ?_
            refine mm_put (pc := 79) F hN (mm_r0 hM) (ci := 7) rfl 25 (by decide) mw_1204 rfl (ty := .int) (by decide +kernel) (rfl) (rfl) (Nat.le_of_ble_eq_true rfl) dX7_comesBack_79 (fun H locs hN => ?_)
            have hN : mm_N b D s (mm_u σ ((rd 0 0)) (mm_obj 1 7 [.ref ((rd 1 0)), .ref ((rd 2 0)), .ref ((rd 3 0)), .int (nI T.nA), .ref ((rd 4 0)), .ref ((rd 5 0)), .ref ((rd 6 0)), .int (nI T.nP), .ref ((rd 7 0)), .ref ((rd 8 0)), .ref ((rd 9 0)), .ref ((rd 10 0)), .ref ((rd 11 0)), .int (nI T.nT), .int (nI T.pa), .ref ((rd 12 0)), .int (nI T.bo), .ref ((rd 13 0)), .ref ((rd 14 0)), .ref ((rd 15 0)), .ref ((rd 16 0)), .ref ((rd 17 0)), .ref ((rd 18 0)), .ref ((rd 19 0)), .int (nI T.nR), .int (nI 0)])) _ _ := hN
            obtain ⟨σ9, eσ9⟩ : ∃ q, q = mm_u σ ((rd 0 0)) (mm_obj 1 7 [.ref ((rd 1 0)), .ref ((rd 2 0)), .ref ((rd 3 0)), .int (nI T.nA), .ref ((rd 4 0)), .ref ((rd 5 0)), .ref ((rd 6 0)), .int (nI T.nP), .ref ((rd 7 0)), .ref ((rd 8 0)), .ref ((rd 9 0)), .ref ((rd 10 0)), .ref ((rd 11 0)), .int (nI T.nT), .int (nI T.pa), .ref ((rd 12 0)), .int (nI T.bo), .ref ((rd 13 0)), .ref ((rd 14 0)), .ref ((rd 15 0)), .ref ((rd 16 0)), .ref ((rd 17 0)), .ref ((rd 18 0)), .ref ((rd 19 0)), .int (nI T.nR), .int (nI 0)]) := ⟨_, rfl⟩
            rw [← eσ9] at hN
            have hM9 : mm_M σ9 T 0 rd := by rw [eσ9]; exact mm_Mo hM (fun _ _ => rfl) rfl
            have hF9 : mm_Fr 1 σ σ9 := by rw [eσ9]; exact (mm_Fr.rf).tr (mm_Fr.u (mm_r0 hM))
            refine lv_aload_n (pc := 82) F.1 F.2.1 dX7_comesBack_82 rfl (lv_at hl 1 rfl) ?_
            refine mm_get (pc := 83) F hN ((show σ9 (rd 0 0) = mm_obj 1 7 [.ref ((rd 1 0)), .ref ((rd 2 0)), .ref ((rd 3 0)), .int (nI T.nA), .ref ((rd 4 0)), .ref ((rd 5 0)), .ref ((rd 6 0)), .int (nI T.nP), .ref ((rd 7 0)), .ref ((rd 8 0)), .ref ((rd 9 0)), .ref ((rd 10 0)), .ref ((rd 11 0)), .int (nI T.nT), .int (nI T.pa), .ref ((rd 12 0)), .int (nI T.bo), .ref ((rd 13 0)), .ref ((rd 14 0)), .ref ((rd 15 0)), .ref ((rd 16 0)), .ref ((rd 17 0)), .ref ((rd 18 0)), .ref ((rd 19 0)), .int (nI T.nR), .int (nI 0)] from mm_r0 (T := T) hM9)) (ci := 7) rfl 25 (by decide) mw_1204 rfl dX7_comesBack_83 ?_
            refine mm_if_le (pc := 86) F (tgt := 91) (by omega) dX7_comesBack_86 (by decide) (fun cz86 => ?_) (fun h9 => absurd h9 (by decide))
            refine lv_aload_n (pc := 91) F.1 F.2.1 dX7_comesBack_91 rfl (lv_at hl 1 rfl) ?_
            refine mm_get (pc := 92) F hN ((show σ9 (rd 0 0) = mm_obj 1 7 [.ref ((rd 1 0)), .ref ((rd 2 0)), .ref ((rd 3 0)), .int (nI T.nA), .ref ((rd 4 0)), .ref ((rd 5 0)), .ref ((rd 6 0)), .int (nI T.nP), .ref ((rd 7 0)), .ref ((rd 8 0)), .ref ((rd 9 0)), .ref ((rd 10 0)), .ref ((rd 11 0)), .int (nI T.nT), .int (nI T.pa), .ref ((rd 12 0)), .int (nI T.bo), .ref ((rd 13 0)), .ref ((rd 14 0)), .ref ((rd 15 0)), .ref ((rd 16 0)), .ref ((rd 17 0)), .ref ((rd 18 0)), .ref ((rd 19 0)), .int (nI T.nR), .int (nI 0)] from mm_r0 (T := T) hM9)) (ci := 7) rfl 23 (by decide) mw_1202 rfl dX7_comesBack_92 ?_
            refine lv_iload_n (pc := 95) F.1 F.2.1 dX7_comesBack_95 rfl (lv_at hl 2 rfl) ?_
            refine mm_aald (pc := 96) F hN ((show σ9 (rd 19 0) = mm_arq 1 7 10 (fun i => if i < 10 then some (rd 19 (i + 1)) else none) from mm_rq19 (T := T) hM9)) rfl rfl (j := k) (rfl) (by omega) (by decide) (if_pos (by omega)) dX7_comesBack_96 ?_
            refine lv_iload_n (pc := 97) F.1 F.2.1 dX7_comesBack_97 rfl (lv_at hl 3 rfl) ?_
            refine lv_iconst (pc := 98) (v := nI 1) F.1 F.2.1 dX7_comesBack_98 (by decide) ?_
            refine mm_zast (pc := 99) F hN ((show σ9 (rd 19 (k + 1)) = mm_ari 1 4 24 (fun b9 => nI (T.bk k b9)) from mm_rr19 (T := T) hM9 (i := k) (by omega))) (j := i) (rfl) (by omega) (by decide) (by decide) dX7_comesBack_99 (fun H locs hN => ?_)
            have hN : mm_N b D s (mm_u σ9 (rd 19 (k + 1)) (mm_ari 1 4 24 (va_up (fun b9 => nI (T.bk k b9)) i (nI 1)))) _ _ := hN
            obtain ⟨σ10, eσ10⟩ : ∃ q, q = mm_u σ9 (rd 19 (k + 1)) (mm_ari 1 4 24 (va_up (fun b9 => nI (T.bk k b9)) i (nI 1))) := ⟨_, rfl⟩
            rw [← eσ10] at hN
            have hM10 : mm_M σ10 (T.w 19 (mm_u2 (T 19) k i 1)) 0 rd := by rw [eσ10]; exact mm_Mw2 hM9 (k := 19) (i := k) rfl (show k < 10 by omega) (fun a ha => mm_u2_row ha) mm_va2
            have hF10 : mm_Fr 1 σ σ10 := by rw [eσ10]; exact (hF9).tr (mm_Fr.u (mm_rr19 hM9 (i := k) (by omega)))
            refine lv_aload_n (pc := 100) F.1 F.2.1 dX7_comesBack_100 rfl (lv_at hl 1 rfl) ?_
            refine mm_get (pc := 101) F hN ((show σ10 (rd 0 0) = mm_obj 1 7 [.ref ((rd 1 0)), .ref ((rd 2 0)), .ref ((rd 3 0)), .int (nI T.nA), .ref ((rd 4 0)), .ref ((rd 5 0)), .ref ((rd 6 0)), .int (nI T.nP), .ref ((rd 7 0)), .ref ((rd 8 0)), .ref ((rd 9 0)), .ref ((rd 10 0)), .ref ((rd 11 0)), .int (nI T.nT), .int (nI T.pa), .ref ((rd 12 0)), .int (nI T.bo), .ref ((rd 13 0)), .ref ((rd 14 0)), .ref ((rd 15 0)), .ref ((rd 16 0)), .ref ((rd 17 0)), .ref ((rd 18 0)), .ref ((rd 19 0)), .int (nI T.nR), .int (nI 0)] from mm_r0 (T := (T.w 19 (mm_u2 (T 19) k i 1))) hM10)) (ci := 7) rfl 1 (by decide) mw_1180 rfl dX7_comesBack_101 ?_
            refine lv_aload_n (pc := 104) F.1 F.2.1 dX7_comesBack_104 rfl (lv_at hl 1 rfl) ?_
            refine mm_get (pc := 105) F hN ((show σ10 (rd 0 0) = mm_obj 1 7 [.ref ((rd 1 0)), .ref ((rd 2 0)), .ref ((rd 3 0)), .int (nI T.nA), .ref ((rd 4 0)), .ref ((rd 5 0)), .ref ((rd 6 0)), .int (nI T.nP), .ref ((rd 7 0)), .ref ((rd 8 0)), .ref ((rd 9 0)), .ref ((rd 10 0)), .ref ((rd 11 0)), .int (nI T.nT), .int (nI T.pa), .ref ((rd 12 0)), .int (nI T.bo), .ref ((rd 13 0)), .ref ((rd 14 0)), .ref ((rd 15 0)), .ref ((rd 16 0)), .ref ((rd 17 0)), .ref ((rd 18 0)), .ref ((rd 19 0)), .int (nI T.nR), .int (nI 0)] from mm_r0 (T := (T.w 19 (mm_u2 (T 19) k i 1))) hM10)) (ci := 7) rfl 4 (by decide) mw_1183 rfl dX7_comesBack_105 ?_
            refine lv_iload_n (pc := 108) F.1 F.2.1 dX7_comesBack_108 rfl (lv_at hl 3 rfl) ?_
            refine mm_iald (pc := 109) F hN ((show σ10 (rd 4 0) = mm_ari 1 0 24 (fun b9 => nI (T.ho b9)) from mm_r4 (T := (T.w 19 (mm_u2 (T 19) k i 1))) hM10)) (j := i) (rfl) (by omega) (by decide) dX7_comesBack_109 ?_
            refine lv_dup2_11 (pc := 110) F.1 F.2.1 dX7_comesBack_110 rfl rfl ?_
            refine mm_iald (pc := 111) F hN ((show σ10 (rd 2 0) = mm_ari 1 0 12 (fun b9 => nI (T.sk b9)) from mm_r2 (T := (T.w 19 (mm_u2 (T 19) k i 1))) hM10)) (j := T.ho i) (rfl) (by omega) (by decide) dX7_comesBack_111 ?_
            refine lv_iload_n (pc := 112) F.1 F.2.1 dX7_comesBack_112 rfl (lv_at hl 4 rfl) ?_
            refine lv_bipush (pc := 113) (v := nI 117) F.1 F.2.1 dX7_comesBack_113 (by decide) ?_
            refine mm_icmp_ne (pc := 115) F (x := ch) (y := 117) (tgt := 122) (by omega) (by omega) dX7_comesBack_115 (by decide) (fun cz115 => ?_) (fun cz115 => ?_)
            ·
              refine lv_iconst (pc := 122) (v := nI 0) F.1 F.2.1 dX7_comesBack_122 (by decide) ?_
              refine mm_iadd (pc := 123) F (z := nI ((T.sk (T.ho i)) + 0)) (nI_add _ _) dX7_comesBack_123 ?_
              refine mm_iast (pc := 124) F hN ((show σ10 (rd 2 0) = mm_ari 1 0 12 (fun b9 => nI (T.sk b9)) from mm_r2 (T := (T.w 19 (mm_u2 (T 19) k i 1))) hM10)) (j := T.ho i) (rfl) (by omega) (by decide) dX7_comesBack_124 (fun H locs hN => ?_)
              have hN : mm_N b D s (mm_u σ10 (rd 2 0) (mm_ari 1 0 12 (va_up (fun b9 => nI (T.sk b9)) (T.ho i) (nI ((T.sk (T.ho i)) + 0))))) _ _ := hN
              obtain ⟨σ11, eσ11⟩ : ∃ q, q = mm_u σ10 (rd 2 0) (mm_ari 1 0 12 (va_up (fun b9 => nI (T.sk b9)) (T.ho i) (nI ((T.sk (T.ho i)) + 0)))) := ⟨_, rfl⟩
              rw [← eσ11] at hN
              have hM11 : mm_M σ11 ((T.w 19 (mm_u2 (T 19) k i 1)).w 2 (mm_u2 ((T.w 19 (mm_u2 (T 19) k i 1)) 2) (T.ho i) 0 ((T.sk (T.ho i)) + 0))) 0 rd := by rw [eσ11]; exact mm_Mw1 hM10 (k := 2) rfl mm_va1
              have hF11 : mm_Fr 1 σ σ11 := by rw [eσ11]; exact (hF10).tr (mm_Fr.u (mm_r2 hM10))
              refine lv_aload_n (pc := 125) F.1 F.2.1 dX7_comesBack_125 rfl (lv_at hl 1 rfl) ?_
              refine mm_get (pc := 126) F hN ((show σ11 (rd 0 0) = mm_obj 1 7 [.ref ((rd 1 0)), .ref ((rd 2 0)), .ref ((rd 3 0)), .int (nI T.nA), .ref ((rd 4 0)), .ref ((rd 5 0)), .ref ((rd 6 0)), .int (nI T.nP), .ref ((rd 7 0)), .ref ((rd 8 0)), .ref ((rd 9 0)), .ref ((rd 10 0)), .ref ((rd 11 0)), .int (nI T.nT), .int (nI T.pa), .ref ((rd 12 0)), .int (nI T.bo), .ref ((rd 13 0)), .ref ((rd 14 0)), .ref ((rd 15 0)), .ref ((rd 16 0)), .ref ((rd 17 0)), .ref ((rd 18 0)), .ref ((rd 19 0)), .int (nI T.nR), .int (nI 0)] from mm_r0 (T := ((T.w 19 (mm_u2 (T 19) k i 1)).w 2 (mm_u2 ((T.w 19 (mm_u2 (T 19) k i 1)) 2) (T.ho i) 0 ((T.sk (T.ho i)) + 0)))) hM11)) (ci := 7) rfl 6 (by decide) mw_1185 rfl dX7_comesBack_126 ?_
              refine lv_iload_n (pc := 129) F.1 F.2.1 dX7_comesBack_129 rfl (lv_at hl 3 rfl) ?_
              refine lv_iload_n (pc := 130) F.1 F.2.1 dX7_comesBack_130 rfl (lv_at hl 4 rfl) ?_
              refine lv_bipush (pc := 131) (v := nI 117) F.1 F.2.1 dX7_comesBack_131 (by decide) ?_
              refine mm_icmp_ne (pc := 133) F (x := ch) (y := 117) (tgt := 145) (by omega) (by omega) dX7_comesBack_133 (by decide) (fun cz133 => ?_) (fun cz133 => ?_)
              ·
                refine lv_iload_n (pc := 145) F.1 F.2.1 dX7_comesBack_145 rfl (lv_at hl 4 rfl) ?_
                refine mm_cast_ (pc := 146) F hN ((show σ11 (rd 6 0) = mm_ari 1 3 24 (fun b9 => nI (T.re b9)) from mm_r6 (T := ((T.w 19 (mm_u2 (T 19) k i 1)).w 2 (mm_u2 ((T.w 19 (mm_u2 (T 19) k i 1)) 2) (T.ho i) 0 ((T.sk (T.ho i)) + 0)))) hM11)) (j := i) (rfl) (by omega) (by decide) (mm_narC (by omega)) dX7_comesBack_146 (fun H locs hN => ?_)
                have hN : mm_N b D s (mm_u σ11 (rd 6 0) (mm_ari 1 3 24 (va_up (fun b9 => nI (T.re b9)) i (nI ch)))) _ _ := hN
                obtain ⟨σ12, eσ12⟩ : ∃ q, q = mm_u σ11 (rd 6 0) (mm_ari 1 3 24 (va_up (fun b9 => nI (T.re b9)) i (nI ch))) := ⟨_, rfl⟩
                rw [← eσ12] at hN
                have hM12 : mm_M σ12 (((T.w 19 (mm_u2 (T 19) k i 1)).w 2 (mm_u2 ((T.w 19 (mm_u2 (T 19) k i 1)) 2) (T.ho i) 0 ((T.sk (T.ho i)) + 0))).w 6 (mm_u2 (((T.w 19 (mm_u2 (T 19) k i 1)).w 2 (mm_u2 ((T.w 19 (mm_u2 (T 19) k i 1)) 2) (T.ho i) 0 ((T.sk (T.ho i)) + 0))) 6) i 0 ch)) 0 rd := by rw [eσ12]; exact mm_Mw1 hM11 (k := 6) rfl mm_va1
                have hF12 : mm_Fr 1 σ σ12 := by rw [eσ12]; exact (hF11).tr (mm_Fr.u (mm_r6 hM11))
                refine lv_iconst (pc := 147) (v := nI 0) F.1 F.2.1 dX7_comesBack_147 (by decide) ?_
                refine lv_istore (pc := 148) (lv' := [(5, .int (nI 0)), (4, .int (nI 1)), (0, .ref ((rd 0 0))), (1, .int (nI k)), (2, .int (nI i)), (3, .int (nI ch))]) F.1 F.2.1 dX7_comesBack_148 hl (by decide) rfl (fun ls hl => ?_)
                refine lv_iconst (pc := 150) (v := nI 0) F.1 F.2.1 dX7_comesBack_150 (by decide) ?_
                refine lv_istore (pc := 151) (lv' := [(6, .int (nI 0)), (5, .int (nI 0)), (4, .int (nI 1)), (0, .ref ((rd 0 0))), (1, .int (nI k)), (2, .int (nI i)), (3, .int (nI ch))]) F.1 F.2.1 dX7_comesBack_151 hl (by decide) rfl (fun ls hl => ?_)
                have lp153 : ∀ (k153 u : Nat) (ls : Array Slot) (H : Heap) (locs : List Loc), T.rp k < u + k153 → u ≤ T.rp k → mm_N b D s σ12 H locs → lv_has ls 7 [(0, .ref ((rd 0 0))), (1, .int (nI k)), (5, .int (nI (mm_sm ((mm_u2 (T 19) k i 1) k) u))), (6, .int (nI u))] →
                    W p l e ({ frames := 6, cells := 0, slots := 0, locals := 160 } : Room) s m args below meth c H locs (0) (0) (mm_Q b D (fun v σ2 => mm_Mt rd σ σ2 T (if ch = 117 then (T.w 19 (mm_u2 (T 19) k i 1)).w 2 (mm_u2 (T 2) (T.ho i) 0 (T.sk (T.ho i) + 1)) else (T.w 19 (mm_u2 (T 19) k i 1)).w 6 (mm_u2 (T 6) i 0 ch)) (mm_q_comesBack T k i ch) v (some (.int (nI (mm_sm ((mm_u2 (T 19) k i 1) k) (T.rp k)))))) (fun _ _ => False) below args s ({ frames := 6, cells := 0, slots := 0, locals := 160 } : Room)) (F0 m 153 ls []) := by
                  intro k153
                  induction k153 with
                  | zero => intro u  ls H locs hk153 hi153  hN hl; omega
                  | succ k153 ih153 =>
                    intro u  ls H locs hk153 hi153  hN hl
                    refine lv_iload (pc := 153) F.1 F.2.1 dX7_comesBack_153 (lv_at hl 3 rfl) ?_
                    refine lv_aload_n (pc := 155) F.1 F.2.1 dX7_comesBack_155 rfl (lv_at hl 0 rfl) ?_
                    refine mm_get (pc := 156) F hN ((show σ12 (rd 0 0) = mm_obj 1 7 [.ref ((rd 1 0)), .ref ((rd 2 0)), .ref ((rd 3 0)), .int (nI T.nA), .ref ((rd 4 0)), .ref ((rd 5 0)), .ref ((rd 6 0)), .int (nI T.nP), .ref ((rd 7 0)), .ref ((rd 8 0)), .ref ((rd 9 0)), .ref ((rd 10 0)), .ref ((rd 11 0)), .int (nI T.nT), .int (nI T.pa), .ref ((rd 12 0)), .int (nI T.bo), .ref ((rd 13 0)), .ref ((rd 14 0)), .ref ((rd 15 0)), .ref ((rd 16 0)), .ref ((rd 17 0)), .ref ((rd 18 0)), .ref ((rd 19 0)), .int (nI T.nR), .int (nI 0)] from mm_r0 (T := (((T.w 19 (mm_u2 (T 19) k i 1)).w 2 (mm_u2 ((T.w 19 (mm_u2 (T 19) k i 1)) 2) (T.ho i) 0 ((T.sk (T.ho i)) + 0))).w 6 (mm_u2 (((T.w 19 (mm_u2 (T 19) k i 1)).w 2 (mm_u2 ((T.w 19 (mm_u2 (T 19) k i 1)) 2) (T.ho i) 0 ((T.sk (T.ho i)) + 0))) 6) i 0 ch))) hM12)) (ci := 7) rfl 17 (by decide) mw_1196 rfl dX7_comesBack_156 ?_
                    refine lv_iload_n (pc := 159) F.1 F.2.1 dX7_comesBack_159 rfl (lv_at hl 1 rfl) ?_
                    refine mm_iald (pc := 160) F hN ((show σ12 (rd 13 0) = mm_ari 1 0 10 (fun b9 => nI (T.rp b9)) from mm_r13 (T := (((T.w 19 (mm_u2 (T 19) k i 1)).w 2 (mm_u2 ((T.w 19 (mm_u2 (T 19) k i 1)) 2) (T.ho i) 0 ((T.sk (T.ho i)) + 0))).w 6 (mm_u2 (((T.w 19 (mm_u2 (T 19) k i 1)).w 2 (mm_u2 ((T.w 19 (mm_u2 (T 19) k i 1)) 2) (T.ho i) 0 ((T.sk (T.ho i)) + 0))) 6) i 0 ch))) hM12)) (j := k) (rfl) (by omega) (by decide) dX7_comesBack_160 ?_
                    refine mm_icmp_ge (pc := 161) F (x := u) (y := T.rp k) (tgt := 192) (by omega) (by omega) dX7_comesBack_161 (by decide) (fun cz161 => ?_) (fun cz161 => ?_)
                    ·
                      refine lv_iload (pc := 192) F.1 F.2.1 dX7_comesBack_192 (lv_at hl 2 rfl) ?_
                      have hM99 : mm_M σ12 (if ch = 117 then (T.w 19 (mm_u2 (T 19) k i 1)).w 2 (mm_u2 (T 2) (T.ho i) 0 (T.sk (T.ho i) + 1)) else (T.w 19 (mm_u2 (T 19) k i 1)).w 6 (mm_u2 (T 6) i 0 ch)) 0 rd := by
                        rw [if_neg (by omega : ¬ ch = 117)]
                        refine mm_M_cg hM12 (fun k9 hk9 => ?_) rfl
                        by_cases e2 : k9 = 2
                        · subst e2; exact (mm_u2_self (f := T 2) (i := T.ho i) (j := 0)).symm
                        by_cases e6 : k9 = 6
                        · subst e6; rfl
                        by_cases e19 : k9 = 19
                        · subst e19; rfl
                        simp only [mm_T.w, if_neg e2, if_neg e6, if_neg e19]
                      exact mm_iret (pc := 194) F hr hN (Or.inl ⟨by show mm_q_comesBack T k i ch = 0; unfold mm_q_comesBack; (repeat' split) <;> omega, by rw [show T.rp k = u by omega], hM99, hF12⟩) (Nat.le_of_ble_eq_true rfl) (Nat.le_of_ble_eq_true rfl) dX7_comesBack_194
                    ·
                      have hb9 : (mm_u2 (T 19) k i 1) k u < 2 := by
                        show (if k = k ∧ u = i then 1 else T.bk k u) < 2
                        split
                        · decide
                        · exact (wr4 u (by omega)).2.2.2.2.1
                      refine lv_iload (pc := 164) F.1 F.2.1 dX7_comesBack_164 (lv_at hl 2 rfl) ?_
                      refine lv_aload_n (pc := 166) F.1 F.2.1 dX7_comesBack_166 rfl (lv_at hl 0 rfl) ?_
                      refine mm_get (pc := 167) F hN ((show σ12 (rd 0 0) = mm_obj 1 7 [.ref ((rd 1 0)), .ref ((rd 2 0)), .ref ((rd 3 0)), .int (nI T.nA), .ref ((rd 4 0)), .ref ((rd 5 0)), .ref ((rd 6 0)), .int (nI T.nP), .ref ((rd 7 0)), .ref ((rd 8 0)), .ref ((rd 9 0)), .ref ((rd 10 0)), .ref ((rd 11 0)), .int (nI T.nT), .int (nI T.pa), .ref ((rd 12 0)), .int (nI T.bo), .ref ((rd 13 0)), .ref ((rd 14 0)), .ref ((rd 15 0)), .ref ((rd 16 0)), .ref ((rd 17 0)), .ref ((rd 18 0)), .ref ((rd 19 0)), .int (nI T.nR), .int (nI 0)] from mm_r0 (T := (((T.w 19 (mm_u2 (T 19) k i 1)).w 2 (mm_u2 ((T.w 19 (mm_u2 (T 19) k i 1)) 2) (T.ho i) 0 ((T.sk (T.ho i)) + 0))).w 6 (mm_u2 (((T.w 19 (mm_u2 (T 19) k i 1)).w 2 (mm_u2 ((T.w 19 (mm_u2 (T 19) k i 1)) 2) (T.ho i) 0 ((T.sk (T.ho i)) + 0))) 6) i 0 ch))) hM12)) (ci := 7) rfl 23 (by decide) mw_1202 rfl dX7_comesBack_167 ?_
                      refine lv_iload_n (pc := 170) F.1 F.2.1 dX7_comesBack_170 rfl (lv_at hl 1 rfl) ?_
                      refine mm_aald (pc := 171) F hN ((show σ12 (rd 19 0) = mm_arq 1 7 10 (fun i => if i < 10 then some (rd 19 (i + 1)) else none) from mm_rq19 (T := (((T.w 19 (mm_u2 (T 19) k i 1)).w 2 (mm_u2 ((T.w 19 (mm_u2 (T 19) k i 1)) 2) (T.ho i) 0 ((T.sk (T.ho i)) + 0))).w 6 (mm_u2 (((T.w 19 (mm_u2 (T 19) k i 1)).w 2 (mm_u2 ((T.w 19 (mm_u2 (T 19) k i 1)) 2) (T.ho i) 0 ((T.sk (T.ho i)) + 0))) 6) i 0 ch))) hM12)) rfl rfl (j := k) (rfl) (by omega) (by decide) (if_pos (by omega)) dX7_comesBack_171 ?_
                      refine lv_iload (pc := 172) F.1 F.2.1 dX7_comesBack_172 (lv_at hl 3 rfl) ?_
                      refine mm_zald (pc := 174) F hN ((show σ12 (rd 19 (k + 1)) = mm_ari 1 4 24 (fun b9 => nI ((mm_u2 (T 19) k i 1) k b9)) from mm_rr19 (T := (((T.w 19 (mm_u2 (T 19) k i 1)).w 2 (mm_u2 ((T.w 19 (mm_u2 (T 19) k i 1)) 2) (T.ho i) 0 ((T.sk (T.ho i)) + 0))).w 6 (mm_u2 (((T.w 19 (mm_u2 (T 19) k i 1)).w 2 (mm_u2 ((T.w 19 (mm_u2 (T 19) k i 1)) 2) (T.ho i) 0 ((T.sk (T.ho i)) + 0))) 6) i 0 ch))) hM12 (i := k) (by omega))) (j := u) (rfl) (by omega) (by decide) dX7_comesBack_174 ?_
                      refine mm_if_eq (pc := 175) F (tgt := 182) (by omega) dX7_comesBack_175 (by decide) (fun cz175 => ?_) (fun cz175 => ?_)
                      ·
                        refine lv_iconst (pc := 182) (v := nI 0) F.1 F.2.1 dX7_comesBack_182 (by decide) ?_
                        refine mm_iadd (pc := 183) F (z := nI ((mm_sm ((mm_u2 (T 19) k i 1) k) u) + 0)) (nI_add _ _) dX7_comesBack_183 ?_
                        refine W.eq (g2 := F0 m 184 ls [.int (nI (mm_sm ((mm_u2 (T 19) k i 1) k) (u + 1)))]) (congrArg (fun q => F0 m 184 ls [Value.int (nI q)]) (congrArg (mm_sm ((mm_u2 (T 19) k i 1) k) u + ·) (show _ = (mm_u2 (T 19) k i 1) k u by omega))) ?_
                        refine lv_istore (pc := 184) (lv' := [(5, .int (nI (mm_sm ((mm_u2 (T 19) k i 1) k) (u + 1)))), (0, .ref ((rd 0 0))), (1, .int (nI k)), (6, .int (nI u))]) F.1 F.2.1 dX7_comesBack_184 hl (by decide) rfl (fun ls hl => ?_)
                        refine lv_iinc (pc := 186) (v := nI (u + 1)) (lv' := [(6, .int (nI (u + 1))), (5, .int (nI (mm_sm ((mm_u2 (T 19) k i 1) k) (u + 1)))), (0, .ref ((rd 0 0))), (1, .int (nI k))]) F.1 F.2.1 dX7_comesBack_186 hl (k := 3) rfl (by rw [← nI_add]; rfl) (by decide) rfl (fun ls hl => ?_)
                        refine lv_goto (pc := 189) (tgt := 153) F.1 F.2.1 dX7_comesBack_189 (by decide) ?_
                        exact ih153 (u + 1) ls _ _ (by omega) (by omega) hN (lv_sub hl [2, 3, 1, 0] rfl)
                      ·
                        refine lv_iconst (pc := 178) (v := nI 1) F.1 F.2.1 dX7_comesBack_178 (by decide) ?_
                        refine lv_goto (pc := 179) (tgt := 183) F.1 F.2.1 dX7_comesBack_179 (by decide) ?_
                        refine mm_iadd (pc := 183) F (z := nI ((mm_sm ((mm_u2 (T 19) k i 1) k) u) + 1)) (nI_add _ _) dX7_comesBack_183 ?_
                        refine W.eq (g2 := F0 m 184 ls [.int (nI (mm_sm ((mm_u2 (T 19) k i 1) k) (u + 1)))]) (congrArg (fun q => F0 m 184 ls [Value.int (nI q)]) (congrArg (mm_sm ((mm_u2 (T 19) k i 1) k) u + ·) (show _ = (mm_u2 (T 19) k i 1) k u by omega))) ?_
                        refine lv_istore (pc := 184) (lv' := [(5, .int (nI (mm_sm ((mm_u2 (T 19) k i 1) k) (u + 1)))), (0, .ref ((rd 0 0))), (1, .int (nI k)), (6, .int (nI u))]) F.1 F.2.1 dX7_comesBack_184 hl (by decide) rfl (fun ls hl => ?_)
                        refine lv_iinc (pc := 186) (v := nI (u + 1)) (lv' := [(6, .int (nI (u + 1))), (5, .int (nI (mm_sm ((mm_u2 (T 19) k i 1) k) (u + 1)))), (0, .ref ((rd 0 0))), (1, .int (nI k))]) F.1 F.2.1 dX7_comesBack_186 hl (k := 3) rfl (by rw [← nI_add]; rfl) (by decide) rfl (fun ls hl => ?_)
                        refine lv_goto (pc := 189) (tgt := 153) F.1 F.2.1 dX7_comesBack_189 (by decide) ?_
                        exact ih153 (u + 1) ls _ _ (by omega) (by omega) hN (lv_sub hl [2, 3, 1, 0] rfl)
                exact lp153 ((T.rp k) + 1) 0 ls _ _ (by omega) (by omega) hN (lv_sub hl [3, 4, 1, 0] rfl)
              ·
                omega
            ·
              omega
          ·
            refine lv_iconst (pc := 74) (v := nI 3) F.1 F.2.1 dX7_comesBack_74 (by decide) ?_
            refine lv_goto (pc := 75) (tgt := 79) F.1 F.2.1 dX7_comesBack_75 (by decide) ?_
            refine mm_put (pc := 79) F hN (mm_r0 hM) (ci := 7) rfl 25 (by decide) mw_1204 rfl (ty := .int) (by decide +kernel) (rfl) (rfl) (Nat.le_of_ble_eq_true rfl) dX7_comesBack_79 (fun H locs hN => ?_)
            have hN : mm_N b D s (mm_u σ ((rd 0 0)) (mm_obj 1 7 [.ref ((rd 1 0)), .ref ((rd 2 0)), .ref ((rd 3 0)), .int (nI T.nA), .ref ((rd 4 0)), .ref ((rd 5 0)), .ref ((rd 6 0)), .int (nI T.nP), .ref ((rd 7 0)), .ref ((rd 8 0)), .ref ((rd 9 0)), .ref ((rd 10 0)), .ref ((rd 11 0)), .int (nI T.nT), .int (nI T.pa), .ref ((rd 12 0)), .int (nI T.bo), .ref ((rd 13 0)), .ref ((rd 14 0)), .ref ((rd 15 0)), .ref ((rd 16 0)), .ref ((rd 17 0)), .ref ((rd 18 0)), .ref ((rd 19 0)), .int (nI T.nR), .int (nI 3)])) _ _ := hN
            obtain ⟨σ13, eσ13⟩ : ∃ q, q = mm_u σ ((rd 0 0)) (mm_obj 1 7 [.ref ((rd 1 0)), .ref ((rd 2 0)), .ref ((rd 3 0)), .int (nI T.nA), .ref ((rd 4 0)), .ref ((rd 5 0)), .ref ((rd 6 0)), .int (nI T.nP), .ref ((rd 7 0)), .ref ((rd 8 0)), .ref ((rd 9 0)), .ref ((rd 10 0)), .ref ((rd 11 0)), .int (nI T.nT), .int (nI T.pa), .ref ((rd 12 0)), .int (nI T.bo), .ref ((rd 13 0)), .ref ((rd 14 0)), .ref ((rd 15 0)), .ref ((rd 16 0)), .ref ((rd 17 0)), .ref ((rd 18 0)), .ref ((rd 19 0)), .int (nI T.nR), .int (nI 3)]) := ⟨_, rfl⟩
            rw [← eσ13] at hN
            have hM13 : mm_M σ13 T 3 rd := by rw [eσ13]; exact mm_Mo hM (fun _ _ => rfl) rfl
            have hF13 : mm_Fr 1 σ σ13 := by rw [eσ13]; exact (mm_Fr.rf).tr (mm_Fr.u (mm_r0 hM))
            refine lv_aload_n (pc := 82) F.1 F.2.1 dX7_comesBack_82 rfl (lv_at hl 1 rfl) ?_
            refine mm_get (pc := 83) F hN ((show σ13 (rd 0 0) = mm_obj 1 7 [.ref ((rd 1 0)), .ref ((rd 2 0)), .ref ((rd 3 0)), .int (nI T.nA), .ref ((rd 4 0)), .ref ((rd 5 0)), .ref ((rd 6 0)), .int (nI T.nP), .ref ((rd 7 0)), .ref ((rd 8 0)), .ref ((rd 9 0)), .ref ((rd 10 0)), .ref ((rd 11 0)), .int (nI T.nT), .int (nI T.pa), .ref ((rd 12 0)), .int (nI T.bo), .ref ((rd 13 0)), .ref ((rd 14 0)), .ref ((rd 15 0)), .ref ((rd 16 0)), .ref ((rd 17 0)), .ref ((rd 18 0)), .ref ((rd 19 0)), .int (nI T.nR), .int (nI 3)] from mm_r0 (T := T) hM13)) (ci := 7) rfl 25 (by decide) mw_1204 rfl dX7_comesBack_83 ?_
            refine mm_if_le (pc := 86) F (tgt := 91) (by omega) dX7_comesBack_86 (by decide) (fun h9 => absurd h9 (by decide)) (fun cz86 => ?_)
            refine lv_iconst (pc := 89) (v := nI 0) F.1 F.2.1 dX7_comesBack_89 (by decide) ?_
            exact mm_iret (pc := 90) F hr hN (Or.inr ⟨by rw [show mm_q_comesBack T k i ch = 3 from by show mm_q_comesBack T k i ch = 3; unfold mm_q_comesBack; (repeat' split) <;> omega]; decide, ⟨_, rfl⟩, by rw [show mm_q_comesBack T k i ch = 3 from by show mm_q_comesBack T k i ch = 3; unfold mm_q_comesBack; (repeat' split) <;> omega]; exact hM13, hF13⟩) (Nat.le_of_ble_eq_true rfl) (Nat.le_of_ble_eq_true rfl) dX7_comesBack_90
      ·
        refine lv_iload_n (pc := 27) F.1 F.2.1 dX7_comesBack_27 rfl (lv_at hl 3 rfl) ?_
        refine lv_bipush (pc := 28) (v := nI 100) F.1 F.2.1 dX7_comesBack_28 (by decide) ?_
        refine mm_icmp_ne (pc := 30) F (x := ch) (y := 100) (tgt := 37) (by omega) (by omega) dX7_comesBack_30 (by decide) (fun cz30 => ?_) (fun cz30 => ?_)
        ·
          refine lv_iconst (pc := 37) (v := nI 0) F.1 F.2.1 dX7_comesBack_37 (by decide) ?_
          refine lv_istore (pc := 38) (lv' := [(4, .int (nI 0)), (0, .ref ((rd 0 0))), (1, .int (nI k)), (2, .int (nI i)), (3, .int (nI ch))]) F.1 F.2.1 dX7_comesBack_38 hl (by decide) rfl (fun ls hl => ?_)
          refine lv_aload_n (pc := 40) F.1 F.2.1 dX7_comesBack_40 rfl (lv_at hl 1 rfl) ?_
          refine lv_iload (pc := 41) F.1 F.2.1 dX7_comesBack_41 (lv_at hl 0 rfl) ?_
          refine mm_if_ne (pc := 43) F (tgt := 50) (by omega) dX7_comesBack_43 (by decide) (fun h9 => absurd h9 (by decide)) (fun cz43 => ?_)
          refine lv_iconst (pc := 46) (v := nI 2) F.1 F.2.1 dX7_comesBack_46 (by decide) ?_
          refine lv_goto (pc := 47) (tgt := 79) F.1 F.2.1 dX7_comesBack_47 (by decide) ?_
          refine mm_put (pc := 79) F hN (mm_r0 hM) (ci := 7) rfl 25 (by decide) mw_1204 rfl (ty := .int) (by decide +kernel) (rfl) (rfl) (Nat.le_of_ble_eq_true rfl) dX7_comesBack_79 (fun H locs hN => ?_)
          have hN : mm_N b D s (mm_u σ ((rd 0 0)) (mm_obj 1 7 [.ref ((rd 1 0)), .ref ((rd 2 0)), .ref ((rd 3 0)), .int (nI T.nA), .ref ((rd 4 0)), .ref ((rd 5 0)), .ref ((rd 6 0)), .int (nI T.nP), .ref ((rd 7 0)), .ref ((rd 8 0)), .ref ((rd 9 0)), .ref ((rd 10 0)), .ref ((rd 11 0)), .int (nI T.nT), .int (nI T.pa), .ref ((rd 12 0)), .int (nI T.bo), .ref ((rd 13 0)), .ref ((rd 14 0)), .ref ((rd 15 0)), .ref ((rd 16 0)), .ref ((rd 17 0)), .ref ((rd 18 0)), .ref ((rd 19 0)), .int (nI T.nR), .int (nI 2)])) _ _ := hN
          obtain ⟨σ14, eσ14⟩ : ∃ q, q = mm_u σ ((rd 0 0)) (mm_obj 1 7 [.ref ((rd 1 0)), .ref ((rd 2 0)), .ref ((rd 3 0)), .int (nI T.nA), .ref ((rd 4 0)), .ref ((rd 5 0)), .ref ((rd 6 0)), .int (nI T.nP), .ref ((rd 7 0)), .ref ((rd 8 0)), .ref ((rd 9 0)), .ref ((rd 10 0)), .ref ((rd 11 0)), .int (nI T.nT), .int (nI T.pa), .ref ((rd 12 0)), .int (nI T.bo), .ref ((rd 13 0)), .ref ((rd 14 0)), .ref ((rd 15 0)), .ref ((rd 16 0)), .ref ((rd 17 0)), .ref ((rd 18 0)), .ref ((rd 19 0)), .int (nI T.nR), .int (nI 2)]) := ⟨_, rfl⟩
          rw [← eσ14] at hN
          have hM14 : mm_M σ14 T 2 rd := by rw [eσ14]; exact mm_Mo hM (fun _ _ => rfl) rfl
          have hF14 : mm_Fr 1 σ σ14 := by rw [eσ14]; exact (mm_Fr.rf).tr (mm_Fr.u (mm_r0 hM))
          refine lv_aload_n (pc := 82) F.1 F.2.1 dX7_comesBack_82 rfl (lv_at hl 1 rfl) ?_
          refine mm_get (pc := 83) F hN ((show σ14 (rd 0 0) = mm_obj 1 7 [.ref ((rd 1 0)), .ref ((rd 2 0)), .ref ((rd 3 0)), .int (nI T.nA), .ref ((rd 4 0)), .ref ((rd 5 0)), .ref ((rd 6 0)), .int (nI T.nP), .ref ((rd 7 0)), .ref ((rd 8 0)), .ref ((rd 9 0)), .ref ((rd 10 0)), .ref ((rd 11 0)), .int (nI T.nT), .int (nI T.pa), .ref ((rd 12 0)), .int (nI T.bo), .ref ((rd 13 0)), .ref ((rd 14 0)), .ref ((rd 15 0)), .ref ((rd 16 0)), .ref ((rd 17 0)), .ref ((rd 18 0)), .ref ((rd 19 0)), .int (nI T.nR), .int (nI 2)] from mm_r0 (T := T) hM14)) (ci := 7) rfl 25 (by decide) mw_1204 rfl dX7_comesBack_83 ?_
          refine mm_if_le (pc := 86) F (tgt := 91) (by omega) dX7_comesBack_86 (by decide) (fun h9 => absurd h9 (by decide)) (fun cz86 => ?_)
          refine lv_iconst (pc := 89) (v := nI 0) F.1 F.2.1 dX7_comesBack_89 (by decide) ?_
          exact mm_iret (pc := 90) F hr hN (Or.inr ⟨by rw [show mm_q_comesBack T k i ch = 2 from by show mm_q_comesBack T k i ch = 2; unfold mm_q_comesBack; (repeat' split) <;> omega]; decide, ⟨_, rfl⟩, by rw [show mm_q_comesBack T k i ch = 2 from by show mm_q_comesBack T k i ch = 2; unfold mm_q_comesBack; (repeat' split) <;> omega]; exact hM14, hF14⟩) (Nat.le_of_ble_eq_true rfl) (Nat.le_of_ble_eq_true rfl) dX7_comesBack_90
        ·
          refine lv_iconst (pc := 33) (v := nI 1) F.1 F.2.1 dX7_comesBack_33 (by decide) ?_
          refine lv_goto (pc := 34) (tgt := 38) F.1 F.2.1 dX7_comesBack_34 (by decide) ?_
          refine lv_istore (pc := 38) (lv' := [(4, .int (nI 1)), (0, .ref ((rd 0 0))), (1, .int (nI k)), (2, .int (nI i)), (3, .int (nI ch))]) F.1 F.2.1 dX7_comesBack_38 hl (by decide) rfl (fun ls hl => ?_)
          refine lv_aload_n (pc := 40) F.1 F.2.1 dX7_comesBack_40 rfl (lv_at hl 1 rfl) ?_
          refine lv_iload (pc := 41) F.1 F.2.1 dX7_comesBack_41 (lv_at hl 0 rfl) ?_
          refine mm_if_ne (pc := 43) F (tgt := 50) (by omega) dX7_comesBack_43 (by decide) (fun cz43 => ?_) (fun h9 => absurd h9 (by decide))
          refine lv_aload_n (pc := 50) F.1 F.2.1 dX7_comesBack_50 rfl (lv_at hl 1 rfl) ?_
          refine mm_get (pc := 51) F hN (mm_r0 hM) (ci := 7) rfl 18 (by decide) mw_1197 rfl dX7_comesBack_51 ?_
          refine lv_iload_n (pc := 54) F.1 F.2.1 dX7_comesBack_54 rfl (lv_at hl 2 rfl) ?_
          refine mm_aald (pc := 55) F hN ((show σ (rd 14 0) = mm_arq 1 6 10 (fun i => if i < 10 then some (rd 14 (i + 1)) else none) from mm_rq14 (T := T) hM)) rfl rfl (j := k) (rfl) (by omega) (by decide) (if_pos (by omega)) dX7_comesBack_55 ?_
          refine lv_iload_n (pc := 56) F.1 F.2.1 dX7_comesBack_56 rfl (lv_at hl 3 rfl) ?_
          refine mm_cald (pc := 57) F hN ((show σ (rd 14 (k + 1)) = mm_ari 1 3 24 (fun b9 => nI (T.oc k b9)) from mm_rr14 (T := T) hM (i := k) (by omega))) (j := i) (rfl) (by omega) (by decide) dX7_comesBack_57 ?_
          refine lv_bipush (pc := 58) (v := nI 108) F.1 F.2.1 dX7_comesBack_58 (by decide) ?_
          refine mm_icmp_ne (pc := 60) F (x := T.oc k i) (y := 108) (tgt := 74) (by omega) (by omega) dX7_comesBack_60 (by decide) (fun cz60 => ?_) (fun cz60 => ?_)
          ·
            refine lv_iconst (pc := 74) (v := nI 3) F.1 F.2.1 dX7_comesBack_74 (by decide) ?_
            refine lv_goto (pc := 75) (tgt := 79) F.1 F.2.1 dX7_comesBack_75 (by decide) ?_
            refine mm_put (pc := 79) F hN (mm_r0 hM) (ci := 7) rfl 25 (by decide) mw_1204 rfl (ty := .int) (by decide +kernel) (rfl) (rfl) (Nat.le_of_ble_eq_true rfl) dX7_comesBack_79 (fun H locs hN => ?_)
            have hN : mm_N b D s (mm_u σ ((rd 0 0)) (mm_obj 1 7 [.ref ((rd 1 0)), .ref ((rd 2 0)), .ref ((rd 3 0)), .int (nI T.nA), .ref ((rd 4 0)), .ref ((rd 5 0)), .ref ((rd 6 0)), .int (nI T.nP), .ref ((rd 7 0)), .ref ((rd 8 0)), .ref ((rd 9 0)), .ref ((rd 10 0)), .ref ((rd 11 0)), .int (nI T.nT), .int (nI T.pa), .ref ((rd 12 0)), .int (nI T.bo), .ref ((rd 13 0)), .ref ((rd 14 0)), .ref ((rd 15 0)), .ref ((rd 16 0)), .ref ((rd 17 0)), .ref ((rd 18 0)), .ref ((rd 19 0)), .int (nI T.nR), .int (nI 3)])) _ _ := hN
            obtain ⟨σ15, eσ15⟩ : ∃ q, q = mm_u σ ((rd 0 0)) (mm_obj 1 7 [.ref ((rd 1 0)), .ref ((rd 2 0)), .ref ((rd 3 0)), .int (nI T.nA), .ref ((rd 4 0)), .ref ((rd 5 0)), .ref ((rd 6 0)), .int (nI T.nP), .ref ((rd 7 0)), .ref ((rd 8 0)), .ref ((rd 9 0)), .ref ((rd 10 0)), .ref ((rd 11 0)), .int (nI T.nT), .int (nI T.pa), .ref ((rd 12 0)), .int (nI T.bo), .ref ((rd 13 0)), .ref ((rd 14 0)), .ref ((rd 15 0)), .ref ((rd 16 0)), .ref ((rd 17 0)), .ref ((rd 18 0)), .ref ((rd 19 0)), .int (nI T.nR), .int (nI 3)]) := ⟨_, rfl⟩
            rw [← eσ15] at hN
            have hM15 : mm_M σ15 T 3 rd := by rw [eσ15]; exact mm_Mo hM (fun _ _ => rfl) rfl
            have hF15 : mm_Fr 1 σ σ15 := by rw [eσ15]; exact (mm_Fr.rf).tr (mm_Fr.u (mm_r0 hM))
            refine lv_aload_n (pc := 82) F.1 F.2.1 dX7_comesBack_82 rfl (lv_at hl 1 rfl) ?_
            refine mm_get (pc := 83) F hN ((show σ15 (rd 0 0) = mm_obj 1 7 [.ref ((rd 1 0)), .ref ((rd 2 0)), .ref ((rd 3 0)), .int (nI T.nA), .ref ((rd 4 0)), .ref ((rd 5 0)), .ref ((rd 6 0)), .int (nI T.nP), .ref ((rd 7 0)), .ref ((rd 8 0)), .ref ((rd 9 0)), .ref ((rd 10 0)), .ref ((rd 11 0)), .int (nI T.nT), .int (nI T.pa), .ref ((rd 12 0)), .int (nI T.bo), .ref ((rd 13 0)), .ref ((rd 14 0)), .ref ((rd 15 0)), .ref ((rd 16 0)), .ref ((rd 17 0)), .ref ((rd 18 0)), .ref ((rd 19 0)), .int (nI T.nR), .int (nI 3)] from mm_r0 (T := T) hM15)) (ci := 7) rfl 25 (by decide) mw_1204 rfl dX7_comesBack_83 ?_
            refine mm_if_le (pc := 86) F (tgt := 91) (by omega) dX7_comesBack_86 (by decide) (fun h9 => absurd h9 (by decide)) (fun cz86 => ?_)
            refine lv_iconst (pc := 89) (v := nI 0) F.1 F.2.1 dX7_comesBack_89 (by decide) ?_
            exact mm_iret (pc := 90) F hr hN (Or.inr ⟨by rw [show mm_q_comesBack T k i ch = 3 from by show mm_q_comesBack T k i ch = 3; unfold mm_q_comesBack; (repeat' split) <;> omega]; decide, ⟨_, rfl⟩, by rw [show mm_q_comesBack T k i ch = 3 from by show mm_q_comesBack T k i ch = 3; unfold mm_q_comesBack; (repeat' split) <;> omega]; exact hM15, hF15⟩) (Nat.le_of_ble_eq_true rfl) (Nat.le_of_ble_eq_true rfl) dX7_comesBack_90
          ·
            refine lv_aload_n (pc := 63) F.1 F.2.1 dX7_comesBack_63 rfl (lv_at hl 1 rfl) ?_
            refine mm_get (pc := 64) F hN (mm_r0 hM) (ci := 7) rfl 23 (by decide) mw_1202 rfl dX7_comesBack_64 ?_
            refine lv_iload_n (pc := 67) F.1 F.2.1 dX7_comesBack_67 rfl (lv_at hl 2 rfl) ?_
            refine mm_aald (pc := 68) F hN ((show σ (rd 19 0) = mm_arq 1 7 10 (fun i => if i < 10 then some (rd 19 (i + 1)) else none) from mm_rq19 (T := T) hM)) rfl rfl (j := k) (rfl) (by omega) (by decide) (if_pos (by omega)) dX7_comesBack_68 ?_
            refine lv_iload_n (pc := 69) F.1 F.2.1 dX7_comesBack_69 rfl (lv_at hl 3 rfl) ?_
            refine mm_zald (pc := 70) F hN ((show σ (rd 19 (k + 1)) = mm_ari 1 4 24 (fun b9 => nI (T.bk k b9)) from mm_rr19 (T := T) hM (i := k) (by omega))) (j := i) (rfl) (by omega) (by decide) dX7_comesBack_70 ?_
            refine mm_if_eq (pc := 71) F (tgt := 78) (by omega) dX7_comesBack_71 (by decide) (fun cz71 => ?_) (fun cz71 => ?_)
            ·
              refine lv_iconst (pc := 78) (v := nI 0) F.1 F.2.1 dX7_comesBack_78 (by decide) ?_
              refine mm_put (pc := 79) F hN (mm_r0 hM) (ci := 7) rfl 25 (by decide) mw_1204 rfl (ty := .int) (by decide +kernel) (rfl) (rfl) (Nat.le_of_ble_eq_true rfl) dX7_comesBack_79 (fun H locs hN => ?_)
              have hN : mm_N b D s (mm_u σ ((rd 0 0)) (mm_obj 1 7 [.ref ((rd 1 0)), .ref ((rd 2 0)), .ref ((rd 3 0)), .int (nI T.nA), .ref ((rd 4 0)), .ref ((rd 5 0)), .ref ((rd 6 0)), .int (nI T.nP), .ref ((rd 7 0)), .ref ((rd 8 0)), .ref ((rd 9 0)), .ref ((rd 10 0)), .ref ((rd 11 0)), .int (nI T.nT), .int (nI T.pa), .ref ((rd 12 0)), .int (nI T.bo), .ref ((rd 13 0)), .ref ((rd 14 0)), .ref ((rd 15 0)), .ref ((rd 16 0)), .ref ((rd 17 0)), .ref ((rd 18 0)), .ref ((rd 19 0)), .int (nI T.nR), .int (nI 0)])) _ _ := hN
              obtain ⟨σ16, eσ16⟩ : ∃ q, q = mm_u σ ((rd 0 0)) (mm_obj 1 7 [.ref ((rd 1 0)), .ref ((rd 2 0)), .ref ((rd 3 0)), .int (nI T.nA), .ref ((rd 4 0)), .ref ((rd 5 0)), .ref ((rd 6 0)), .int (nI T.nP), .ref ((rd 7 0)), .ref ((rd 8 0)), .ref ((rd 9 0)), .ref ((rd 10 0)), .ref ((rd 11 0)), .int (nI T.nT), .int (nI T.pa), .ref ((rd 12 0)), .int (nI T.bo), .ref ((rd 13 0)), .ref ((rd 14 0)), .ref ((rd 15 0)), .ref ((rd 16 0)), .ref ((rd 17 0)), .ref ((rd 18 0)), .ref ((rd 19 0)), .int (nI T.nR), .int (nI 0)]) := ⟨_, rfl⟩
              rw [← eσ16] at hN
              have hM16 : mm_M σ16 T 0 rd := by rw [eσ16]; exact mm_Mo hM (fun _ _ => rfl) rfl
              have hF16 : mm_Fr 1 σ σ16 := by rw [eσ16]; exact (mm_Fr.rf).tr (mm_Fr.u (mm_r0 hM))
              refine lv_aload_n (pc := 82) F.1 F.2.1 dX7_comesBack_82 rfl (lv_at hl 1 rfl) ?_
              refine mm_get (pc := 83) F hN ((show σ16 (rd 0 0) = mm_obj 1 7 [.ref ((rd 1 0)), .ref ((rd 2 0)), .ref ((rd 3 0)), .int (nI T.nA), .ref ((rd 4 0)), .ref ((rd 5 0)), .ref ((rd 6 0)), .int (nI T.nP), .ref ((rd 7 0)), .ref ((rd 8 0)), .ref ((rd 9 0)), .ref ((rd 10 0)), .ref ((rd 11 0)), .int (nI T.nT), .int (nI T.pa), .ref ((rd 12 0)), .int (nI T.bo), .ref ((rd 13 0)), .ref ((rd 14 0)), .ref ((rd 15 0)), .ref ((rd 16 0)), .ref ((rd 17 0)), .ref ((rd 18 0)), .ref ((rd 19 0)), .int (nI T.nR), .int (nI 0)] from mm_r0 (T := T) hM16)) (ci := 7) rfl 25 (by decide) mw_1204 rfl dX7_comesBack_83 ?_
              refine mm_if_le (pc := 86) F (tgt := 91) (by omega) dX7_comesBack_86 (by decide) (fun cz86 => ?_) (fun h9 => absurd h9 (by decide))
              refine lv_aload_n (pc := 91) F.1 F.2.1 dX7_comesBack_91 rfl (lv_at hl 1 rfl) ?_
              refine mm_get (pc := 92) F hN ((show σ16 (rd 0 0) = mm_obj 1 7 [.ref ((rd 1 0)), .ref ((rd 2 0)), .ref ((rd 3 0)), .int (nI T.nA), .ref ((rd 4 0)), .ref ((rd 5 0)), .ref ((rd 6 0)), .int (nI T.nP), .ref ((rd 7 0)), .ref ((rd 8 0)), .ref ((rd 9 0)), .ref ((rd 10 0)), .ref ((rd 11 0)), .int (nI T.nT), .int (nI T.pa), .ref ((rd 12 0)), .int (nI T.bo), .ref ((rd 13 0)), .ref ((rd 14 0)), .ref ((rd 15 0)), .ref ((rd 16 0)), .ref ((rd 17 0)), .ref ((rd 18 0)), .ref ((rd 19 0)), .int (nI T.nR), .int (nI 0)] from mm_r0 (T := T) hM16)) (ci := 7) rfl 23 (by decide) mw_1202 rfl dX7_comesBack_92 ?_
              refine lv_iload_n (pc := 95) F.1 F.2.1 dX7_comesBack_95 rfl (lv_at hl 2 rfl) ?_
              refine mm_aald (pc := 96) F hN ((show σ16 (rd 19 0) = mm_arq 1 7 10 (fun i => if i < 10 then some (rd 19 (i + 1)) else none) from mm_rq19 (T := T) hM16)) rfl rfl (j := k) (rfl) (by omega) (by decide) (if_pos (by omega)) dX7_comesBack_96 ?_
              refine lv_iload_n (pc := 97) F.1 F.2.1 dX7_comesBack_97 rfl (lv_at hl 3 rfl) ?_
              refine lv_iconst (pc := 98) (v := nI 1) F.1 F.2.1 dX7_comesBack_98 (by decide) ?_
              refine mm_zast (pc := 99) F hN ((show σ16 (rd 19 (k + 1)) = mm_ari 1 4 24 (fun b9 => nI (T.bk k b9)) from mm_rr19 (T := T) hM16 (i := k) (by omega))) (j := i) (rfl) (by omega) (by decide) (by decide) dX7_comesBack_99 (fun H locs hN => ?_)
              have hN : mm_N b D s (mm_u σ16 (rd 19 (k + 1)) (mm_ari 1 4 24 (va_up (fun b9 => nI (T.bk k b9)) i (nI 1)))) _ _ := hN
              obtain ⟨σ17, eσ17⟩ : ∃ q, q = mm_u σ16 (rd 19 (k + 1)) (mm_ari 1 4 24 (va_up (fun b9 => nI (T.bk k b9)) i (nI 1))) := ⟨_, rfl⟩
              rw [← eσ17] at hN
              have hM17 : mm_M σ17 (T.w 19 (mm_u2 (T 19) k i 1)) 0 rd := by rw [eσ17]; exact mm_Mw2 hM16 (k := 19) (i := k) rfl (show k < 10 by omega) (fun a ha => mm_u2_row ha) mm_va2
              have hF17 : mm_Fr 1 σ σ17 := by rw [eσ17]; exact (hF16).tr (mm_Fr.u (mm_rr19 hM16 (i := k) (by omega)))
              refine lv_aload_n (pc := 100) F.1 F.2.1 dX7_comesBack_100 rfl (lv_at hl 1 rfl) ?_
              refine mm_get (pc := 101) F hN ((show σ17 (rd 0 0) = mm_obj 1 7 [.ref ((rd 1 0)), .ref ((rd 2 0)), .ref ((rd 3 0)), .int (nI T.nA), .ref ((rd 4 0)), .ref ((rd 5 0)), .ref ((rd 6 0)), .int (nI T.nP), .ref ((rd 7 0)), .ref ((rd 8 0)), .ref ((rd 9 0)), .ref ((rd 10 0)), .ref ((rd 11 0)), .int (nI T.nT), .int (nI T.pa), .ref ((rd 12 0)), .int (nI T.bo), .ref ((rd 13 0)), .ref ((rd 14 0)), .ref ((rd 15 0)), .ref ((rd 16 0)), .ref ((rd 17 0)), .ref ((rd 18 0)), .ref ((rd 19 0)), .int (nI T.nR), .int (nI 0)] from mm_r0 (T := (T.w 19 (mm_u2 (T 19) k i 1))) hM17)) (ci := 7) rfl 1 (by decide) mw_1180 rfl dX7_comesBack_101 ?_
              refine lv_aload_n (pc := 104) F.1 F.2.1 dX7_comesBack_104 rfl (lv_at hl 1 rfl) ?_
              refine mm_get (pc := 105) F hN ((show σ17 (rd 0 0) = mm_obj 1 7 [.ref ((rd 1 0)), .ref ((rd 2 0)), .ref ((rd 3 0)), .int (nI T.nA), .ref ((rd 4 0)), .ref ((rd 5 0)), .ref ((rd 6 0)), .int (nI T.nP), .ref ((rd 7 0)), .ref ((rd 8 0)), .ref ((rd 9 0)), .ref ((rd 10 0)), .ref ((rd 11 0)), .int (nI T.nT), .int (nI T.pa), .ref ((rd 12 0)), .int (nI T.bo), .ref ((rd 13 0)), .ref ((rd 14 0)), .ref ((rd 15 0)), .ref ((rd 16 0)), .ref ((rd 17 0)), .ref ((rd 18 0)), .ref ((rd 19 0)), .int (nI T.nR), .int (nI 0)] from mm_r0 (T := (T.w 19 (mm_u2 (T 19) k i 1))) hM17)) (ci := 7) rfl 4 (by decide) mw_1183 rfl dX7_comesBack_105 ?_
              refine lv_iload_n (pc := 108) F.1 F.2.1 dX7_comesBack_108 rfl (lv_at hl 3 rfl) ?_
              refine mm_iald (pc := 109) F hN ((show σ17 (rd 4 0) = mm_ari 1 0 24 (fun b9 => nI (T.ho b9)) from mm_r4 (T := (T.w 19 (mm_u2 (T 19) k i 1))) hM17)) (j := i) (rfl) (by omega) (by decide) dX7_comesBack_109 ?_
              refine lv_dup2_11 (pc := 110) F.1 F.2.1 dX7_comesBack_110 rfl rfl ?_
              refine mm_iald (pc := 111) F hN ((show σ17 (rd 2 0) = mm_ari 1 0 12 (fun b9 => nI (T.sk b9)) from mm_r2 (T := (T.w 19 (mm_u2 (T 19) k i 1))) hM17)) (j := T.ho i) (rfl) (by omega) (by decide) dX7_comesBack_111 ?_
              refine lv_iload_n (pc := 112) F.1 F.2.1 dX7_comesBack_112 rfl (lv_at hl 4 rfl) ?_
              refine lv_bipush (pc := 113) (v := nI 117) F.1 F.2.1 dX7_comesBack_113 (by decide) ?_
              refine mm_icmp_ne (pc := 115) F (x := ch) (y := 117) (tgt := 122) (by omega) (by omega) dX7_comesBack_115 (by decide) (fun cz115 => ?_) (fun cz115 => ?_)
              ·
                refine lv_iconst (pc := 122) (v := nI 0) F.1 F.2.1 dX7_comesBack_122 (by decide) ?_
                refine mm_iadd (pc := 123) F (z := nI ((T.sk (T.ho i)) + 0)) (nI_add _ _) dX7_comesBack_123 ?_
                refine mm_iast (pc := 124) F hN ((show σ17 (rd 2 0) = mm_ari 1 0 12 (fun b9 => nI (T.sk b9)) from mm_r2 (T := (T.w 19 (mm_u2 (T 19) k i 1))) hM17)) (j := T.ho i) (rfl) (by omega) (by decide) dX7_comesBack_124 (fun H locs hN => ?_)
                have hN : mm_N b D s (mm_u σ17 (rd 2 0) (mm_ari 1 0 12 (va_up (fun b9 => nI (T.sk b9)) (T.ho i) (nI ((T.sk (T.ho i)) + 0))))) _ _ := hN
                obtain ⟨σ18, eσ18⟩ : ∃ q, q = mm_u σ17 (rd 2 0) (mm_ari 1 0 12 (va_up (fun b9 => nI (T.sk b9)) (T.ho i) (nI ((T.sk (T.ho i)) + 0)))) := ⟨_, rfl⟩
                rw [← eσ18] at hN
                have hM18 : mm_M σ18 ((T.w 19 (mm_u2 (T 19) k i 1)).w 2 (mm_u2 ((T.w 19 (mm_u2 (T 19) k i 1)) 2) (T.ho i) 0 ((T.sk (T.ho i)) + 0))) 0 rd := by rw [eσ18]; exact mm_Mw1 hM17 (k := 2) rfl mm_va1
                have hF18 : mm_Fr 1 σ σ18 := by rw [eσ18]; exact (hF17).tr (mm_Fr.u (mm_r2 hM17))
                refine lv_aload_n (pc := 125) F.1 F.2.1 dX7_comesBack_125 rfl (lv_at hl 1 rfl) ?_
                refine mm_get (pc := 126) F hN ((show σ18 (rd 0 0) = mm_obj 1 7 [.ref ((rd 1 0)), .ref ((rd 2 0)), .ref ((rd 3 0)), .int (nI T.nA), .ref ((rd 4 0)), .ref ((rd 5 0)), .ref ((rd 6 0)), .int (nI T.nP), .ref ((rd 7 0)), .ref ((rd 8 0)), .ref ((rd 9 0)), .ref ((rd 10 0)), .ref ((rd 11 0)), .int (nI T.nT), .int (nI T.pa), .ref ((rd 12 0)), .int (nI T.bo), .ref ((rd 13 0)), .ref ((rd 14 0)), .ref ((rd 15 0)), .ref ((rd 16 0)), .ref ((rd 17 0)), .ref ((rd 18 0)), .ref ((rd 19 0)), .int (nI T.nR), .int (nI 0)] from mm_r0 (T := ((T.w 19 (mm_u2 (T 19) k i 1)).w 2 (mm_u2 ((T.w 19 (mm_u2 (T 19) k i 1)) 2) (T.ho i) 0 ((T.sk (T.ho i)) + 0)))) hM18)) (ci := 7) rfl 6 (by decide) mw_1185 rfl dX7_comesBack_126 ?_
                refine lv_iload_n (pc := 129) F.1 F.2.1 dX7_comesBack_129 rfl (lv_at hl 3 rfl) ?_
                refine lv_iload_n (pc := 130) F.1 F.2.1 dX7_comesBack_130 rfl (lv_at hl 4 rfl) ?_
                refine lv_bipush (pc := 131) (v := nI 117) F.1 F.2.1 dX7_comesBack_131 (by decide) ?_
                refine mm_icmp_ne (pc := 133) F (x := ch) (y := 117) (tgt := 145) (by omega) (by omega) dX7_comesBack_133 (by decide) (fun cz133 => ?_) (fun cz133 => ?_)
                ·
                  refine lv_iload_n (pc := 145) F.1 F.2.1 dX7_comesBack_145 rfl (lv_at hl 4 rfl) ?_
                  refine mm_cast_ (pc := 146) F hN ((show σ18 (rd 6 0) = mm_ari 1 3 24 (fun b9 => nI (T.re b9)) from mm_r6 (T := ((T.w 19 (mm_u2 (T 19) k i 1)).w 2 (mm_u2 ((T.w 19 (mm_u2 (T 19) k i 1)) 2) (T.ho i) 0 ((T.sk (T.ho i)) + 0)))) hM18)) (j := i) (rfl) (by omega) (by decide) (mm_narC (by omega)) dX7_comesBack_146 (fun H locs hN => ?_)
                  have hN : mm_N b D s (mm_u σ18 (rd 6 0) (mm_ari 1 3 24 (va_up (fun b9 => nI (T.re b9)) i (nI ch)))) _ _ := hN
                  obtain ⟨σ19, eσ19⟩ : ∃ q, q = mm_u σ18 (rd 6 0) (mm_ari 1 3 24 (va_up (fun b9 => nI (T.re b9)) i (nI ch))) := ⟨_, rfl⟩
                  rw [← eσ19] at hN
                  have hM19 : mm_M σ19 (((T.w 19 (mm_u2 (T 19) k i 1)).w 2 (mm_u2 ((T.w 19 (mm_u2 (T 19) k i 1)) 2) (T.ho i) 0 ((T.sk (T.ho i)) + 0))).w 6 (mm_u2 (((T.w 19 (mm_u2 (T 19) k i 1)).w 2 (mm_u2 ((T.w 19 (mm_u2 (T 19) k i 1)) 2) (T.ho i) 0 ((T.sk (T.ho i)) + 0))) 6) i 0 ch)) 0 rd := by rw [eσ19]; exact mm_Mw1 hM18 (k := 6) rfl mm_va1
                  have hF19 : mm_Fr 1 σ σ19 := by rw [eσ19]; exact (hF18).tr (mm_Fr.u (mm_r6 hM18))
                  refine lv_iconst (pc := 147) (v := nI 0) F.1 F.2.1 dX7_comesBack_147 (by decide) ?_
                  refine lv_istore (pc := 148) (lv' := [(5, .int (nI 0)), (4, .int (nI 1)), (0, .ref ((rd 0 0))), (1, .int (nI k)), (2, .int (nI i)), (3, .int (nI ch))]) F.1 F.2.1 dX7_comesBack_148 hl (by decide) rfl (fun ls hl => ?_)
                  refine lv_iconst (pc := 150) (v := nI 0) F.1 F.2.1 dX7_comesBack_150 (by decide) ?_
                  refine lv_istore (pc := 151) (lv' := [(6, .int (nI 0)), (5, .int (nI 0)), (4, .int (nI 1)), (0, .ref ((rd 0 0))), (1, .int (nI k)), (2, .int (nI i)), (3, .int (nI ch))]) F.1 F.2.1 dX7_comesBack_151 hl (by decide) rfl (fun ls hl => ?_)
                  have lp153 : ∀ (k153 u : Nat) (ls : Array Slot) (H : Heap) (locs : List Loc), T.rp k < u + k153 → u ≤ T.rp k → mm_N b D s σ19 H locs → lv_has ls 7 [(0, .ref ((rd 0 0))), (1, .int (nI k)), (5, .int (nI (mm_sm ((mm_u2 (T 19) k i 1) k) u))), (6, .int (nI u))] →
                      W p l e ({ frames := 6, cells := 0, slots := 0, locals := 160 } : Room) s m args below meth c H locs (0) (0) (mm_Q b D (fun v σ2 => mm_Mt rd σ σ2 T (if ch = 117 then (T.w 19 (mm_u2 (T 19) k i 1)).w 2 (mm_u2 (T 2) (T.ho i) 0 (T.sk (T.ho i) + 1)) else (T.w 19 (mm_u2 (T 19) k i 1)).w 6 (mm_u2 (T 6) i 0 ch)) (mm_q_comesBack T k i ch) v (some (.int (nI (mm_sm ((mm_u2 (T 19) k i 1) k) (T.rp k)))))) (fun _ _ => False) below args s ({ frames := 6, cells := 0, slots := 0, locals := 160 } : Room)) (F0 m 153 ls []) := by
                    intro k153
                    induction k153 with
                    | zero => intro u  ls H locs hk153 hi153  hN hl; omega
                    | succ k153 ih153 =>
                      intro u  ls H locs hk153 hi153  hN hl
                      refine lv_iload (pc := 153) F.1 F.2.1 dX7_comesBack_153 (lv_at hl 3 rfl) ?_
                      refine lv_aload_n (pc := 155) F.1 F.2.1 dX7_comesBack_155 rfl (lv_at hl 0 rfl) ?_
                      refine mm_get (pc := 156) F hN ((show σ19 (rd 0 0) = mm_obj 1 7 [.ref ((rd 1 0)), .ref ((rd 2 0)), .ref ((rd 3 0)), .int (nI T.nA), .ref ((rd 4 0)), .ref ((rd 5 0)), .ref ((rd 6 0)), .int (nI T.nP), .ref ((rd 7 0)), .ref ((rd 8 0)), .ref ((rd 9 0)), .ref ((rd 10 0)), .ref ((rd 11 0)), .int (nI T.nT), .int (nI T.pa), .ref ((rd 12 0)), .int (nI T.bo), .ref ((rd 13 0)), .ref ((rd 14 0)), .ref ((rd 15 0)), .ref ((rd 16 0)), .ref ((rd 17 0)), .ref ((rd 18 0)), .ref ((rd 19 0)), .int (nI T.nR), .int (nI 0)] from mm_r0 (T := (((T.w 19 (mm_u2 (T 19) k i 1)).w 2 (mm_u2 ((T.w 19 (mm_u2 (T 19) k i 1)) 2) (T.ho i) 0 ((T.sk (T.ho i)) + 0))).w 6 (mm_u2 (((T.w 19 (mm_u2 (T 19) k i 1)).w 2 (mm_u2 ((T.w 19 (mm_u2 (T 19) k i 1)) 2) (T.ho i) 0 ((T.sk (T.ho i)) + 0))) 6) i 0 ch))) hM19)) (ci := 7) rfl 17 (by decide) mw_1196 rfl dX7_comesBack_156 ?_
                      refine lv_iload_n (pc := 159) F.1 F.2.1 dX7_comesBack_159 rfl (lv_at hl 1 rfl) ?_
                      refine mm_iald (pc := 160) F hN ((show σ19 (rd 13 0) = mm_ari 1 0 10 (fun b9 => nI (T.rp b9)) from mm_r13 (T := (((T.w 19 (mm_u2 (T 19) k i 1)).w 2 (mm_u2 ((T.w 19 (mm_u2 (T 19) k i 1)) 2) (T.ho i) 0 ((T.sk (T.ho i)) + 0))).w 6 (mm_u2 (((T.w 19 (mm_u2 (T 19) k i 1)).w 2 (mm_u2 ((T.w 19 (mm_u2 (T 19) k i 1)) 2) (T.ho i) 0 ((T.sk (T.ho i)) + 0))) 6) i 0 ch))) hM19)) (j := k) (rfl) (by omega) (by decide) dX7_comesBack_160 ?_
                      refine mm_icmp_ge (pc := 161) F (x := u) (y := T.rp k) (tgt := 192) (by omega) (by omega) dX7_comesBack_161 (by decide) (fun cz161 => ?_) (fun cz161 => ?_)
                      ·
                        refine lv_iload (pc := 192) F.1 F.2.1 dX7_comesBack_192 (lv_at hl 2 rfl) ?_
                        have hM99 : mm_M σ19 (if ch = 117 then (T.w 19 (mm_u2 (T 19) k i 1)).w 2 (mm_u2 (T 2) (T.ho i) 0 (T.sk (T.ho i) + 1)) else (T.w 19 (mm_u2 (T 19) k i 1)).w 6 (mm_u2 (T 6) i 0 ch)) 0 rd := by
                          rw [if_neg (by omega : ¬ ch = 117)]
                          refine mm_M_cg hM19 (fun k9 hk9 => ?_) rfl
                          by_cases e2 : k9 = 2
                          · subst e2; exact (mm_u2_self (f := T 2) (i := T.ho i) (j := 0)).symm
                          by_cases e6 : k9 = 6
                          · subst e6; rfl
                          by_cases e19 : k9 = 19
                          · subst e19; rfl
                          simp only [mm_T.w, if_neg e2, if_neg e6, if_neg e19]
                        exact mm_iret (pc := 194) F hr hN (Or.inl ⟨by show mm_q_comesBack T k i ch = 0; unfold mm_q_comesBack; (repeat' split) <;> omega, by rw [show T.rp k = u by omega], hM99, hF19⟩) (Nat.le_of_ble_eq_true rfl) (Nat.le_of_ble_eq_true rfl) dX7_comesBack_194
                      ·
                        have hb9 : (mm_u2 (T 19) k i 1) k u < 2 := by
                          show (if k = k ∧ u = i then 1 else T.bk k u) < 2
                          split
                          · decide
                          · exact (wr4 u (by omega)).2.2.2.2.1
                        refine lv_iload (pc := 164) F.1 F.2.1 dX7_comesBack_164 (lv_at hl 2 rfl) ?_
                        refine lv_aload_n (pc := 166) F.1 F.2.1 dX7_comesBack_166 rfl (lv_at hl 0 rfl) ?_
                        refine mm_get (pc := 167) F hN ((show σ19 (rd 0 0) = mm_obj 1 7 [.ref ((rd 1 0)), .ref ((rd 2 0)), .ref ((rd 3 0)), .int (nI T.nA), .ref ((rd 4 0)), .ref ((rd 5 0)), .ref ((rd 6 0)), .int (nI T.nP), .ref ((rd 7 0)), .ref ((rd 8 0)), .ref ((rd 9 0)), .ref ((rd 10 0)), .ref ((rd 11 0)), .int (nI T.nT), .int (nI T.pa), .ref ((rd 12 0)), .int (nI T.bo), .ref ((rd 13 0)), .ref ((rd 14 0)), .ref ((rd 15 0)), .ref ((rd 16 0)), .ref ((rd 17 0)), .ref ((rd 18 0)), .ref ((rd 19 0)), .int (nI T.nR), .int (nI 0)] from mm_r0 (T := (((T.w 19 (mm_u2 (T 19) k i 1)).w 2 (mm_u2 ((T.w 19 (mm_u2 (T 19) k i 1)) 2) (T.ho i) 0 ((T.sk (T.ho i)) + 0))).w 6 (mm_u2 (((T.w 19 (mm_u2 (T 19) k i 1)).w 2 (mm_u2 ((T.w 19 (mm_u2 (T 19) k i 1)) 2) (T.ho i) 0 ((T.sk (T.ho i)) + 0))) 6) i 0 ch))) hM19)) (ci := 7) rfl 23 (by decide) mw_1202 rfl dX7_comesBack_167 ?_
                        refine lv_iload_n (pc := 170) F.1 F.2.1 dX7_comesBack_170 rfl (lv_at hl 1 rfl) ?_
                        refine mm_aald (pc := 171) F hN ((show σ19 (rd 19 0) = mm_arq 1 7 10 (fun i => if i < 10 then some (rd 19 (i + 1)) else none) from mm_rq19 (T := (((T.w 19 (mm_u2 (T 19) k i 1)).w 2 (mm_u2 ((T.w 19 (mm_u2 (T 19) k i 1)) 2) (T.ho i) 0 ((T.sk (T.ho i)) + 0))).w 6 (mm_u2 (((T.w 19 (mm_u2 (T 19) k i 1)).w 2 (mm_u2 ((T.w 19 (mm_u2 (T 19) k i 1)) 2) (T.ho i) 0 ((T.sk (T.ho i)) + 0))) 6) i 0 ch))) hM19)) rfl rfl (j := k) (rfl) (by omega) (by decide) (if_pos (by omega)) dX7_comesBack_171 ?_
                        refine lv_iload (pc := 172) F.1 F.2.1 dX7_comesBack_172 (lv_at hl 3 rfl) ?_
                        refine mm_zald (pc := 174) F hN ((show σ19 (rd 19 (k + 1)) = mm_ari 1 4 24 (fun b9 => nI ((mm_u2 (T 19) k i 1) k b9)) from mm_rr19 (T := (((T.w 19 (mm_u2 (T 19) k i 1)).w 2 (mm_u2 ((T.w 19 (mm_u2 (T 19) k i 1)) 2) (T.ho i) 0 ((T.sk (T.ho i)) + 0))).w 6 (mm_u2 (((T.w 19 (mm_u2 (T 19) k i 1)).w 2 (mm_u2 ((T.w 19 (mm_u2 (T 19) k i 1)) 2) (T.ho i) 0 ((T.sk (T.ho i)) + 0))) 6) i 0 ch))) hM19 (i := k) (by omega))) (j := u) (rfl) (by omega) (by decide) dX7_comesBack_174 ?_
                        refine mm_if_eq (pc := 175) F (tgt := 182) (by omega) dX7_comesBack_175 (by decide) (fun cz175 => ?_) (fun cz175 => ?_)
                        ·
                          refine lv_iconst (pc := 182) (v := nI 0) F.1 F.2.1 dX7_comesBack_182 (by decide) ?_
                          refine mm_iadd (pc := 183) F (z := nI ((mm_sm ((mm_u2 (T 19) k i 1) k) u) + 0)) (nI_add _ _) dX7_comesBack_183 ?_
                          refine W.eq (g2 := F0 m 184 ls [.int (nI (mm_sm ((mm_u2 (T 19) k i 1) k) (u + 1)))]) (congrArg (fun q => F0 m 184 ls [Value.int (nI q)]) (congrArg (mm_sm ((mm_u2 (T 19) k i 1) k) u + ·) (show _ = (mm_u2 (T 19) k i 1) k u by omega))) ?_
                          refine lv_istore (pc := 184) (lv' := [(5, .int (nI (mm_sm ((mm_u2 (T 19) k i 1) k) (u + 1)))), (0, .ref ((rd 0 0))), (1, .int (nI k)), (6, .int (nI u))]) F.1 F.2.1 dX7_comesBack_184 hl (by decide) rfl (fun ls hl => ?_)
                          refine lv_iinc (pc := 186) (v := nI (u + 1)) (lv' := [(6, .int (nI (u + 1))), (5, .int (nI (mm_sm ((mm_u2 (T 19) k i 1) k) (u + 1)))), (0, .ref ((rd 0 0))), (1, .int (nI k))]) F.1 F.2.1 dX7_comesBack_186 hl (k := 3) rfl (by rw [← nI_add]; rfl) (by decide) rfl (fun ls hl => ?_)
                          refine lv_goto (pc := 189) (tgt := 153) F.1 F.2.1 dX7_comesBack_189 (by decide) ?_
                          exact ih153 (u + 1) ls _ _ (by omega) (by omega) hN (lv_sub hl [2, 3, 1, 0] rfl)
                        ·
                          refine lv_iconst (pc := 178) (v := nI 1) F.1 F.2.1 dX7_comesBack_178 (by decide) ?_
                          refine lv_goto (pc := 179) (tgt := 183) F.1 F.2.1 dX7_comesBack_179 (by decide) ?_
                          refine mm_iadd (pc := 183) F (z := nI ((mm_sm ((mm_u2 (T 19) k i 1) k) u) + 1)) (nI_add _ _) dX7_comesBack_183 ?_
                          refine W.eq (g2 := F0 m 184 ls [.int (nI (mm_sm ((mm_u2 (T 19) k i 1) k) (u + 1)))]) (congrArg (fun q => F0 m 184 ls [Value.int (nI q)]) (congrArg (mm_sm ((mm_u2 (T 19) k i 1) k) u + ·) (show _ = (mm_u2 (T 19) k i 1) k u by omega))) ?_
                          refine lv_istore (pc := 184) (lv' := [(5, .int (nI (mm_sm ((mm_u2 (T 19) k i 1) k) (u + 1)))), (0, .ref ((rd 0 0))), (1, .int (nI k)), (6, .int (nI u))]) F.1 F.2.1 dX7_comesBack_184 hl (by decide) rfl (fun ls hl => ?_)
                          refine lv_iinc (pc := 186) (v := nI (u + 1)) (lv' := [(6, .int (nI (u + 1))), (5, .int (nI (mm_sm ((mm_u2 (T 19) k i 1) k) (u + 1)))), (0, .ref ((rd 0 0))), (1, .int (nI k))]) F.1 F.2.1 dX7_comesBack_186 hl (k := 3) rfl (by rw [← nI_add]; rfl) (by decide) rfl (fun ls hl => ?_)
                          refine lv_goto (pc := 189) (tgt := 153) F.1 F.2.1 dX7_comesBack_189 (by decide) ?_
                          exact ih153 (u + 1) ls _ _ (by omega) (by omega) hN (lv_sub hl [2, 3, 1, 0] rfl)
                  exact lp153 ((T.rp k) + 1) 0 ls _ _ (by omega) (by omega) hN (lv_sub hl [3, 4, 1, 0] rfl)
                ·
                  omega
              ·
                omega
            ·
              refine lv_iconst (pc := 74) (v := nI 3) F.1 F.2.1 dX7_comesBack_74 (by decide) ?_
              refine lv_goto (pc := 75) (tgt := 79) F.1 F.2.1 dX7_comesBack_75 (by decide) ?_
              refine mm_put (pc := 79) F hN (mm_r0 hM) (ci := 7) rfl 25 (by decide) mw_1204 rfl (ty := .int) (by decide +kernel) (rfl) (rfl) (Nat.le_of_ble_eq_true rfl) dX7_comesBack_79 (fun H locs hN => ?_)
              have hN : mm_N b D s (mm_u σ ((rd 0 0)) (mm_obj 1 7 [.ref ((rd 1 0)), .ref ((rd 2 0)), .ref ((rd 3 0)), .int (nI T.nA), .ref ((rd 4 0)), .ref ((rd 5 0)), .ref ((rd 6 0)), .int (nI T.nP), .ref ((rd 7 0)), .ref ((rd 8 0)), .ref ((rd 9 0)), .ref ((rd 10 0)), .ref ((rd 11 0)), .int (nI T.nT), .int (nI T.pa), .ref ((rd 12 0)), .int (nI T.bo), .ref ((rd 13 0)), .ref ((rd 14 0)), .ref ((rd 15 0)), .ref ((rd 16 0)), .ref ((rd 17 0)), .ref ((rd 18 0)), .ref ((rd 19 0)), .int (nI T.nR), .int (nI 3)])) _ _ := hN
              obtain ⟨σ20, eσ20⟩ : ∃ q, q = mm_u σ ((rd 0 0)) (mm_obj 1 7 [.ref ((rd 1 0)), .ref ((rd 2 0)), .ref ((rd 3 0)), .int (nI T.nA), .ref ((rd 4 0)), .ref ((rd 5 0)), .ref ((rd 6 0)), .int (nI T.nP), .ref ((rd 7 0)), .ref ((rd 8 0)), .ref ((rd 9 0)), .ref ((rd 10 0)), .ref ((rd 11 0)), .int (nI T.nT), .int (nI T.pa), .ref ((rd 12 0)), .int (nI T.bo), .ref ((rd 13 0)), .ref ((rd 14 0)), .ref ((rd 15 0)), .ref ((rd 16 0)), .ref ((rd 17 0)), .ref ((rd 18 0)), .ref ((rd 19 0)), .int (nI T.nR), .int (nI 3)]) := ⟨_, rfl⟩
              rw [← eσ20] at hN
              have hM20 : mm_M σ20 T 3 rd := by rw [eσ20]; exact mm_Mo hM (fun _ _ => rfl) rfl
              have hF20 : mm_Fr 1 σ σ20 := by rw [eσ20]; exact (mm_Fr.rf).tr (mm_Fr.u (mm_r0 hM))
              refine lv_aload_n (pc := 82) F.1 F.2.1 dX7_comesBack_82 rfl (lv_at hl 1 rfl) ?_
              refine mm_get (pc := 83) F hN ((show σ20 (rd 0 0) = mm_obj 1 7 [.ref ((rd 1 0)), .ref ((rd 2 0)), .ref ((rd 3 0)), .int (nI T.nA), .ref ((rd 4 0)), .ref ((rd 5 0)), .ref ((rd 6 0)), .int (nI T.nP), .ref ((rd 7 0)), .ref ((rd 8 0)), .ref ((rd 9 0)), .ref ((rd 10 0)), .ref ((rd 11 0)), .int (nI T.nT), .int (nI T.pa), .ref ((rd 12 0)), .int (nI T.bo), .ref ((rd 13 0)), .ref ((rd 14 0)), .ref ((rd 15 0)), .ref ((rd 16 0)), .ref ((rd 17 0)), .ref ((rd 18 0)), .ref ((rd 19 0)), .int (nI T.nR), .int (nI 3)] from mm_r0 (T := T) hM20)) (ci := 7) rfl 25 (by decide) mw_1204 rfl dX7_comesBack_83 ?_
              refine mm_if_le (pc := 86) F (tgt := 91) (by omega) dX7_comesBack_86 (by decide) (fun h9 => absurd h9 (by decide)) (fun cz86 => ?_)
              refine lv_iconst (pc := 89) (v := nI 0) F.1 F.2.1 dX7_comesBack_89 (by decide) ?_
              exact mm_iret (pc := 90) F hr hN (Or.inr ⟨by rw [show mm_q_comesBack T k i ch = 3 from by show mm_q_comesBack T k i ch = 3; unfold mm_q_comesBack; (repeat' split) <;> omega]; decide, ⟨_, rfl⟩, by rw [show mm_q_comesBack T k i ch = 3 from by show mm_q_comesBack T k i ch = 3; unfold mm_q_comesBack; (repeat' split) <;> omega]; exact hM20, hF20⟩) (Nat.le_of_ble_eq_true rfl) (Nat.le_of_ble_eq_true rfl) dX7_comesBack_90
  ·
    refine W.eq (g2 := F0 m 6 ls [.int (nI 0)]) (by rw [if_neg hw9]) ?_
    refine mm_if_ne (pc := 6) F (tgt := 15) (by omega) dX7_comesBack_6 (by decide) (fun h9 => absurd h9 (by decide)) (fun cz6 => ?_)
    refine lv_aload_n (pc := 9) F.1 F.2.1 dX7_comesBack_9 rfl (lv_at hl 0 rfl) ?_
    refine lv_iconst (pc := 10) (v := nI 1) F.1 F.2.1 dX7_comesBack_10 (by decide) ?_
    refine mm_runV (pc := 11) (As := [.int (nI 1)]) (rest := []) F hN (r_raises l b D hst T th rd σ hM 1) mw_1399 mw_1401 mw_p34 mw_6 mw_1402 ⟨pmX7_raises, (Nat.le_of_ble_eq_true rfl), (Nat.le_of_ble_eq_true rfl)⟩ (mm_recv F.2.2.2.2.2.1 hN (mm_r0 hM) rfl) hl.1 rfl (Nat.le_of_ble_eq_true rfl) ⟨(Nat.le_of_ble_eq_true rfl), (Nat.le_of_ble_eq_true rfl)⟩ dX7_comesBack_11
      (fun _ _ _ _ _ _ h9 => False.elim h9)
      (fun v9 σ21 H locs hp9 hN => ?_)
    obtain ⟨rfl, hM21, hF21⟩ := hp9
    refine W.eq (g2 := F0 m 14 ls [.int (nI 0)]) rfl ?_
    refine W.widen (k := 0) (n := 0) (Nat.le_of_ble_eq_true rfl) (Nat.le_of_ble_eq_true rfl) ?_
    exact mm_iret (pc := 14) F hr hN (Or.inr ⟨by rw [show mm_q_comesBack T k i ch = 1 from by show mm_q_comesBack T k i ch = 1; unfold mm_q_comesBack; (repeat' split) <;> omega]; decide, ⟨_, rfl⟩, by rw [show mm_q_comesBack T k i ch = 1 from by show mm_q_comesBack T k i ch = 1; unfold mm_q_comesBack; (repeat' split) <;> omega]; exact hM21, ((mm_Fr.rf).tr hF21)⟩) (Nat.le_of_ble_eq_true rfl) (Nat.le_of_ble_eq_true rfl) dX7_comesBack_14

set_option maxHeartbeats 4000000 in
set_option maxRecDepth 100000 in
theorem r_join (l : Launch) (b : Nat) (D : mm_D) (hst : l.stackTraces = false) (T : mm_T) (th : Nat) (rd : Nat → Nat → Nat) (σ : mm_S) (hM : mm_M σ T th rd) (hW : mm_WF T) (a : Nat) (za : a < 2 ^ 32) (o2 : Nat) (zo2 : o2 < 2 ^ 32) : mm_K l b D yX7_join (.code yX7_join cX7_join 5 (some .int)) ({ frames := 6, cells := 0, slots := 0, locals := 160 } : Room) [.ref ((rd 0 0)), .int (nI a), .int (nI o2)] σ
    (fun v σ2 => mm_Mt rd σ σ2 T (mm_t_join T a o2) (mm_q_join T a o2) v (some (.int (nI (mm_sm (fun p => if T.ho p = o2 then 1 else 0) T.nP)))))
    (fun _ _ => False) := by
  refine mm_of (cc := cX7_join) (nL := 5) (ret := (some .int)) (by decide) rfl (Nat.le_of_ble_eq_true rfl) hst ?_
  intro p e s m args below meth c ls F ht hr hin hN hl
  have hl : lv_has ls 5 [(0, .ref ((rd 0 0))), (1, .int (nI a)), (2, .int (nI o2))] := hl
  have wnA := hW.hnA
  have wnP := hW.hnP
  have wnT := hW.hnT
  have wnR := hW.hnR
  have wpa := hW.hpa
  have wbo := hW.hbo
  have wen0 := hW.hen 0
  have wen1 := hW.hen 1
  refine lv_aload_n (pc := 0) F.1 F.2.1 dX7_join_0 rfl (lv_at hl 0 rfl) ?_
  refine lv_aload_n (pc := 1) F.1 F.2.1 dX7_join_1 rfl (lv_at hl 0 rfl) ?_
  refine lv_iload_n (pc := 2) F.1 F.2.1 dX7_join_2 rfl (lv_at hl 1 rfl) ?_
  refine mm_runV (pc := 3) (As := [.int (nI a)]) (rest := [.ref ((rd 0 0))]) F hN (c_isAddr l b D hst T th rd σ hM hW a (by omega)) mw_1275 mw_1277 mw_p24 mw_6 mw_1278 ⟨pmX7_isAddress, (Nat.le_of_ble_eq_true rfl), (Nat.le_of_ble_eq_true rfl)⟩ (mm_recv F.2.2.2.2.2.1 hN (mm_r0 hM) rfl) hl.1 rfl (Nat.le_of_ble_eq_true rfl) ⟨(Nat.le_of_ble_eq_true rfl), (Nat.le_of_ble_eq_true rfl)⟩ dX7_join_3
    (fun _ _ _ _ _ _ h9 => False.elim h9)
    (fun v9 σ9 H locs hp9 hN => ?_)
  obtain ⟨rfl, h9⟩ := hp9
  rw [h9] at hN
  refine W.eq (g2 := F0 m 6 ls [.int (nI (if a < T.nA ∧ T.go a = 0 then 1 else 0)), .ref ((rd 0 0))]) rfl ?_
  refine W.widen (k := 0) (n := 0) (Nat.le_of_ble_eq_true rfl) (Nat.le_of_ble_eq_true rfl) ?_
  by_cases haa : a < T.nA ∧ T.go a = 0
  ·
    refine W.eq (g2 := F0 m 6 ls [.int (nI 1), .ref ((rd 0 0))]) (by rw [if_pos haa]) ?_
    refine mm_if_eq (pc := 6) F (tgt := 17) (by omega) dX7_join_6 (by decide) (fun h9 => absurd h9 (by decide)) (fun cz6 => ?_)
    refine lv_aload_n (pc := 9) F.1 F.2.1 dX7_join_9 rfl (lv_at hl 0 rfl) ?_
    refine lv_iload_n (pc := 10) F.1 F.2.1 dX7_join_10 rfl (lv_at hl 2 rfl) ?_
    refine mm_runV (pc := 11) (As := [.int (nI o2)]) (rest := [.ref ((rd 0 0))]) F hN (c_isAddr l b D hst T th rd σ hM hW o2 (by omega)) mw_1275 mw_1277 mw_p24 mw_6 mw_1278 ⟨pmX7_isAddress, (Nat.le_of_ble_eq_true rfl), (Nat.le_of_ble_eq_true rfl)⟩ (mm_recv F.2.2.2.2.2.1 hN (mm_r0 hM) rfl) hl.1 rfl (Nat.le_of_ble_eq_true rfl) ⟨(Nat.le_of_ble_eq_true rfl), (Nat.le_of_ble_eq_true rfl)⟩ dX7_join_11
      (fun _ _ _ _ _ _ h9 => False.elim h9)
      (fun v9 σ9 H locs hp9 hN => ?_)
    obtain ⟨rfl, h9⟩ := hp9
    rw [h9] at hN
    refine W.eq (g2 := F0 m 14 ls [.int (nI (if o2 < T.nA ∧ T.go o2 = 0 then 1 else 0)), .ref ((rd 0 0))]) rfl ?_
    refine W.widen (k := 0) (n := 0) (Nat.le_of_ble_eq_true rfl) (Nat.le_of_ble_eq_true rfl) ?_
    by_cases hao2 : o2 < T.nA ∧ T.go o2 = 0
    ·
      refine W.eq (g2 := F0 m 14 ls [.int (nI 1), .ref ((rd 0 0))]) (by rw [if_pos hao2]) ?_
      refine mm_if_ne (pc := 14) F (tgt := 21) (by omega) dX7_join_14 (by decide) (fun cz14 => ?_) (fun h9 => absurd h9 (by decide))
      refine lv_iload_n (pc := 21) F.1 F.2.1 dX7_join_21 rfl (lv_at hl 1 rfl) ?_
      refine lv_iload_n (pc := 22) F.1 F.2.1 dX7_join_22 rfl (lv_at hl 2 rfl) ?_
      refine mm_icmp_neB (pc := 23) F (x := a) (y := o2) (tgt := 30) (by omega) (by omega) dX7_join_23 (by decide) (fun cz23 => ?_) (fun cz23 => ?_)
      ·
        refine lv_iconst (pc := 30) (v := nI 0) F.1 F.2.1 dX7_join_30 (by decide) ?_
        refine mm_put (pc := 31) F hN (mm_r0 hM) (ci := 7) rfl 25 (by decide) mw_1204 rfl (ty := .int) (by decide +kernel) (rfl) (rfl) (Nat.le_of_ble_eq_true rfl) dX7_join_31 (fun H locs hN => ?_)
        have hN : mm_N b D s (mm_u σ ((rd 0 0)) (mm_obj 1 7 [.ref ((rd 1 0)), .ref ((rd 2 0)), .ref ((rd 3 0)), .int (nI T.nA), .ref ((rd 4 0)), .ref ((rd 5 0)), .ref ((rd 6 0)), .int (nI T.nP), .ref ((rd 7 0)), .ref ((rd 8 0)), .ref ((rd 9 0)), .ref ((rd 10 0)), .ref ((rd 11 0)), .int (nI T.nT), .int (nI T.pa), .ref ((rd 12 0)), .int (nI T.bo), .ref ((rd 13 0)), .ref ((rd 14 0)), .ref ((rd 15 0)), .ref ((rd 16 0)), .ref ((rd 17 0)), .ref ((rd 18 0)), .ref ((rd 19 0)), .int (nI T.nR), .int (nI 0)])) _ _ := hN
        obtain ⟨σ2, eσ2⟩ : ∃ q, q = mm_u σ ((rd 0 0)) (mm_obj 1 7 [.ref ((rd 1 0)), .ref ((rd 2 0)), .ref ((rd 3 0)), .int (nI T.nA), .ref ((rd 4 0)), .ref ((rd 5 0)), .ref ((rd 6 0)), .int (nI T.nP), .ref ((rd 7 0)), .ref ((rd 8 0)), .ref ((rd 9 0)), .ref ((rd 10 0)), .ref ((rd 11 0)), .int (nI T.nT), .int (nI T.pa), .ref ((rd 12 0)), .int (nI T.bo), .ref ((rd 13 0)), .ref ((rd 14 0)), .ref ((rd 15 0)), .ref ((rd 16 0)), .ref ((rd 17 0)), .ref ((rd 18 0)), .ref ((rd 19 0)), .int (nI T.nR), .int (nI 0)]) := ⟨_, rfl⟩
        rw [← eσ2] at hN
        have hM2 : mm_M σ2 T 0 rd := by rw [eσ2]; exact mm_Mo hM (fun _ _ => rfl) rfl
        have hF2 : mm_Fr 1 σ σ2 := by rw [eσ2]; exact (mm_Fr.rf).tr (mm_Fr.u (mm_r0 hM))
        refine lv_aload_n (pc := 34) F.1 F.2.1 dX7_join_34 rfl (lv_at hl 0 rfl) ?_
        refine mm_get (pc := 35) F hN ((show σ2 (rd 0 0) = mm_obj 1 7 [.ref ((rd 1 0)), .ref ((rd 2 0)), .ref ((rd 3 0)), .int (nI T.nA), .ref ((rd 4 0)), .ref ((rd 5 0)), .ref ((rd 6 0)), .int (nI T.nP), .ref ((rd 7 0)), .ref ((rd 8 0)), .ref ((rd 9 0)), .ref ((rd 10 0)), .ref ((rd 11 0)), .int (nI T.nT), .int (nI T.pa), .ref ((rd 12 0)), .int (nI T.bo), .ref ((rd 13 0)), .ref ((rd 14 0)), .ref ((rd 15 0)), .ref ((rd 16 0)), .ref ((rd 17 0)), .ref ((rd 18 0)), .ref ((rd 19 0)), .int (nI T.nR), .int (nI 0)] from mm_r0 (T := T) hM2)) (ci := 7) rfl 25 (by decide) mw_1204 rfl dX7_join_35 ?_
        refine mm_if_le (pc := 38) F (tgt := 43) (by omega) dX7_join_38 (by decide) (fun cz38 => ?_) (fun h9 => absurd h9 (by decide))
        refine lv_iconst (pc := 43) (v := nI 0) F.1 F.2.1 dX7_join_43 (by decide) ?_
        refine lv_istore_n (pc := 44) (lv' := [(3, .int (nI 0)), (0, .ref ((rd 0 0))), (1, .int (nI a)), (2, .int (nI o2))]) F.1 F.2.1 dX7_join_44 rfl hl (by decide) rfl (fun ls hl => ?_)
        refine lv_iconst (pc := 45) (v := nI 0) F.1 F.2.1 dX7_join_45 (by decide) ?_
        refine lv_istore (pc := 46) (lv' := [(4, .int (nI 0)), (3, .int (nI 0)), (0, .ref ((rd 0 0))), (1, .int (nI a)), (2, .int (nI o2))]) F.1 F.2.1 dX7_join_46 hl (by decide) rfl (fun ls hl => ?_)
        have hMz := hM2
        have lp48 : ∀ (k48 i : Nat) (mo : Nat) (σi : mm_S) (ls : Array Slot) (H : Heap) (locs : List Loc), T.nP < i + k48 → i ≤ T.nP → (mo = mm_sm (fun p => if T.ho p = o2 then 1 else 0) i) → (mm_M σi (T.w 4 (mm_jo T a o2 i)) 0 rd) → (mm_Fr 1 σ σi) → mm_N b D s σi H locs → lv_has ls 5 [(0, .ref ((rd 0 0))), (1, .int (nI a)), (2, .int (nI o2)), (3, .int (nI mo)), (4, .int (nI i))] →
            W p l e ({ frames := 6, cells := 0, slots := 0, locals := 160 } : Room) s m args below meth c H locs (0) (0) (mm_Q b D (fun v σ2 => mm_Mt rd σ σ2 T (mm_t_join T a o2) (mm_q_join T a o2) v (some (.int (nI (mm_sm (fun p => if T.ho p = o2 then 1 else 0) T.nP))))) (fun _ _ => False) below args s ({ frames := 6, cells := 0, slots := 0, locals := 160 } : Room)) (F0 m 48 ls []) := by
          intro k48
          induction k48 with
          | zero => intro i mo σi ls H locs hk48 hi48 hmo hMi hFi hN hl; omega
          | succ k48 ih48 =>
            intro i mo σi ls H locs hk48 hi48 hmo hMi hFi hN hl
            refine lv_iload (pc := 48) F.1 F.2.1 dX7_join_48 (lv_at hl 4 rfl) ?_
            refine lv_aload_n (pc := 50) F.1 F.2.1 dX7_join_50 rfl (lv_at hl 0 rfl) ?_
            refine mm_get (pc := 51) F hN ((show σi (rd 0 0) = mm_obj 1 7 [.ref ((rd 1 0)), .ref ((rd 2 0)), .ref ((rd 3 0)), .int (nI T.nA), .ref ((rd 4 0)), .ref ((rd 5 0)), .ref ((rd 6 0)), .int (nI T.nP), .ref ((rd 7 0)), .ref ((rd 8 0)), .ref ((rd 9 0)), .ref ((rd 10 0)), .ref ((rd 11 0)), .int (nI T.nT), .int (nI T.pa), .ref ((rd 12 0)), .int (nI T.bo), .ref ((rd 13 0)), .ref ((rd 14 0)), .ref ((rd 15 0)), .ref ((rd 16 0)), .ref ((rd 17 0)), .ref ((rd 18 0)), .ref ((rd 19 0)), .int (nI T.nR), .int (nI 0)] from mm_r0 (T := (T.w 4 (mm_jo T a o2 i))) hMi)) (ci := 7) rfl 7 (by decide) mw_1186 rfl dX7_join_51 ?_
            refine mm_icmp_ge (pc := 54) F (x := i) (y := T.nP) (tgt := 111) (by omega) (by omega) dX7_join_54 (by decide) (fun cz54 => ?_) (fun cz54 => ?_)
            ·
              have hin : i = T.nP := by omega
              rw [hin] at hMi
              refine lv_aload_n (pc := 111) F.1 F.2.1 dX7_join_111 rfl (lv_at hl 0 rfl) ?_
              refine mm_get (pc := 112) F hN ((show σi (rd 0 0) = mm_obj 1 7 [.ref ((rd 1 0)), .ref ((rd 2 0)), .ref ((rd 3 0)), .int (nI T.nA), .ref ((rd 4 0)), .ref ((rd 5 0)), .ref ((rd 6 0)), .int (nI T.nP), .ref ((rd 7 0)), .ref ((rd 8 0)), .ref ((rd 9 0)), .ref ((rd 10 0)), .ref ((rd 11 0)), .int (nI T.nT), .int (nI T.pa), .ref ((rd 12 0)), .int (nI T.bo), .ref ((rd 13 0)), .ref ((rd 14 0)), .ref ((rd 15 0)), .ref ((rd 16 0)), .ref ((rd 17 0)), .ref ((rd 18 0)), .ref ((rd 19 0)), .int (nI T.nR), .int (nI 0)] from mm_r0 (T := (T.w 4 (mm_jo T a o2 T.nP))) hMi)) (ci := 7) rfl 1 (by decide) mw_1180 rfl dX7_join_112 ?_
              refine lv_iload_n (pc := 115) F.1 F.2.1 dX7_join_115 rfl (lv_at hl 1 rfl) ?_
              refine lv_dup2_11 (pc := 116) F.1 F.2.1 dX7_join_116 rfl rfl ?_
              refine mm_iald (pc := 117) F hN ((show σi (rd 2 0) = mm_ari 1 0 12 (fun b9 => nI (T.sk b9)) from mm_r2 (T := (T.w 4 (mm_jo T a o2 T.nP))) hMi)) (j := a) (rfl) (by omega) (by decide) dX7_join_117 ?_
              refine lv_aload_n (pc := 118) F.1 F.2.1 dX7_join_118 rfl (lv_at hl 0 rfl) ?_
              refine mm_get (pc := 119) F hN ((show σi (rd 0 0) = mm_obj 1 7 [.ref ((rd 1 0)), .ref ((rd 2 0)), .ref ((rd 3 0)), .int (nI T.nA), .ref ((rd 4 0)), .ref ((rd 5 0)), .ref ((rd 6 0)), .int (nI T.nP), .ref ((rd 7 0)), .ref ((rd 8 0)), .ref ((rd 9 0)), .ref ((rd 10 0)), .ref ((rd 11 0)), .int (nI T.nT), .int (nI T.pa), .ref ((rd 12 0)), .int (nI T.bo), .ref ((rd 13 0)), .ref ((rd 14 0)), .ref ((rd 15 0)), .ref ((rd 16 0)), .ref ((rd 17 0)), .ref ((rd 18 0)), .ref ((rd 19 0)), .int (nI T.nR), .int (nI 0)] from mm_r0 (T := (T.w 4 (mm_jo T a o2 T.nP))) hMi)) (ci := 7) rfl 1 (by decide) mw_1180 rfl dX7_join_119 ?_
              refine lv_iload_n (pc := 122) F.1 F.2.1 dX7_join_122 rfl (lv_at hl 2 rfl) ?_
              refine mm_iald (pc := 123) F hN ((show σi (rd 2 0) = mm_ari 1 0 12 (fun b9 => nI (T.sk b9)) from mm_r2 (T := (T.w 4 (mm_jo T a o2 T.nP))) hMi)) (j := o2) (rfl) (by omega) (by decide) dX7_join_123 ?_
              refine mm_iadd (pc := 124) F (z := nI ((T.sk a) + (T.sk o2))) (nI_add _ _) dX7_join_124 ?_
              refine mm_iast (pc := 125) F hN ((show σi (rd 2 0) = mm_ari 1 0 12 (fun b9 => nI (T.sk b9)) from mm_r2 (T := (T.w 4 (mm_jo T a o2 T.nP))) hMi)) (j := a) (rfl) (by omega) (by decide) dX7_join_125 (fun H locs hN => ?_)
              have hN : mm_N b D s (mm_u σi (rd 2 0) (mm_ari 1 0 12 (va_up (fun b9 => nI (T.sk b9)) a (nI ((T.sk a) + (T.sk o2)))))) _ _ := hN
              obtain ⟨σ3, eσ3⟩ : ∃ q, q = mm_u σi (rd 2 0) (mm_ari 1 0 12 (va_up (fun b9 => nI (T.sk b9)) a (nI ((T.sk a) + (T.sk o2))))) := ⟨_, rfl⟩
              rw [← eσ3] at hN
              have hM3 : mm_M σ3 ((T.w 4 (mm_jo T a o2 T.nP)).w 2 (mm_u2 ((T.w 4 (mm_jo T a o2 T.nP)) 2) a 0 ((T.sk a) + (T.sk o2)))) 0 rd := by rw [eσ3]; exact mm_Mw1 hMi (k := 2) rfl mm_va1
              have hF3 : mm_Fr 1 σ σ3 := by rw [eσ3]; exact (hFi).tr (mm_Fr.u (mm_r2 hMi))
              refine lv_aload_n (pc := 126) F.1 F.2.1 dX7_join_126 rfl (lv_at hl 0 rfl) ?_
              refine mm_get (pc := 127) F hN ((show σ3 (rd 0 0) = mm_obj 1 7 [.ref ((rd 1 0)), .ref ((rd 2 0)), .ref ((rd 3 0)), .int (nI T.nA), .ref ((rd 4 0)), .ref ((rd 5 0)), .ref ((rd 6 0)), .int (nI T.nP), .ref ((rd 7 0)), .ref ((rd 8 0)), .ref ((rd 9 0)), .ref ((rd 10 0)), .ref ((rd 11 0)), .int (nI T.nT), .int (nI T.pa), .ref ((rd 12 0)), .int (nI T.bo), .ref ((rd 13 0)), .ref ((rd 14 0)), .ref ((rd 15 0)), .ref ((rd 16 0)), .ref ((rd 17 0)), .ref ((rd 18 0)), .ref ((rd 19 0)), .int (nI T.nR), .int (nI 0)] from mm_r0 (T := ((T.w 4 (mm_jo T a o2 T.nP)).w 2 (mm_u2 ((T.w 4 (mm_jo T a o2 T.nP)) 2) a 0 ((T.sk a) + (T.sk o2))))) hM3)) (ci := 7) rfl 2 (by decide) mw_1181 rfl dX7_join_127 ?_
              refine lv_iload_n (pc := 130) F.1 F.2.1 dX7_join_130 rfl (lv_at hl 2 rfl) ?_
              refine lv_iconst (pc := 131) (v := nI 1) F.1 F.2.1 dX7_join_131 (by decide) ?_
              refine mm_zast (pc := 132) F hN ((show σ3 (rd 3 0) = mm_ari 1 4 12 (fun b9 => nI (T.go b9)) from mm_r3 (T := ((T.w 4 (mm_jo T a o2 T.nP)).w 2 (mm_u2 ((T.w 4 (mm_jo T a o2 T.nP)) 2) a 0 ((T.sk a) + (T.sk o2))))) hM3)) (j := o2) (rfl) (by omega) (by decide) (by decide) dX7_join_132 (fun H locs hN => ?_)
              have hN : mm_N b D s (mm_u σ3 (rd 3 0) (mm_ari 1 4 12 (va_up (fun b9 => nI (T.go b9)) o2 (nI 1)))) _ _ := hN
              obtain ⟨σ4, eσ4⟩ : ∃ q, q = mm_u σ3 (rd 3 0) (mm_ari 1 4 12 (va_up (fun b9 => nI (T.go b9)) o2 (nI 1))) := ⟨_, rfl⟩
              rw [← eσ4] at hN
              have hM4 : mm_M σ4 (((T.w 4 (mm_jo T a o2 T.nP)).w 2 (mm_u2 ((T.w 4 (mm_jo T a o2 T.nP)) 2) a 0 ((T.sk a) + (T.sk o2)))).w 3 (mm_u2 (((T.w 4 (mm_jo T a o2 T.nP)).w 2 (mm_u2 ((T.w 4 (mm_jo T a o2 T.nP)) 2) a 0 ((T.sk a) + (T.sk o2)))) 3) o2 0 1)) 0 rd := by rw [eσ4]; exact mm_Mw1 hM3 (k := 3) rfl mm_va1
              have hF4 : mm_Fr 1 σ σ4 := by rw [eσ4]; exact (hF3).tr (mm_Fr.u (mm_r3 hM3))
              refine lv_iload_n (pc := 133) F.1 F.2.1 dX7_join_133 rfl (lv_at hl 3 rfl) ?_
              exact mm_iret (pc := 134) F hr hN (Or.inl ⟨by show mm_q_join T a o2 = 0; unfold mm_q_join; (repeat' split) <;> omega, by rw [hmo, hin], mm_M_cg hM4 (fun _ _ => rfl) rfl, hF4⟩) (Nat.le_of_ble_eq_true rfl) (Nat.le_of_ble_eq_true rfl) dX7_join_134
            ·
              have hi2 : i < T.nP := by omega
              have whoi := (hW.hpe i hi2).1
              refine lv_iload_n (pc := 57) F.1 F.2.1 dX7_join_57 rfl (lv_at hl 3 rfl) ?_
              refine lv_aload_n (pc := 58) F.1 F.2.1 dX7_join_58 rfl (lv_at hl 0 rfl) ?_
              refine mm_get (pc := 59) F hN ((show σi (rd 0 0) = mm_obj 1 7 [.ref ((rd 1 0)), .ref ((rd 2 0)), .ref ((rd 3 0)), .int (nI T.nA), .ref ((rd 4 0)), .ref ((rd 5 0)), .ref ((rd 6 0)), .int (nI T.nP), .ref ((rd 7 0)), .ref ((rd 8 0)), .ref ((rd 9 0)), .ref ((rd 10 0)), .ref ((rd 11 0)), .int (nI T.nT), .int (nI T.pa), .ref ((rd 12 0)), .int (nI T.bo), .ref ((rd 13 0)), .ref ((rd 14 0)), .ref ((rd 15 0)), .ref ((rd 16 0)), .ref ((rd 17 0)), .ref ((rd 18 0)), .ref ((rd 19 0)), .int (nI T.nR), .int (nI 0)] from mm_r0 (T := (T.w 4 (mm_jo T a o2 i))) hMi)) (ci := 7) rfl 4 (by decide) mw_1183 rfl dX7_join_59 ?_
              refine lv_iload (pc := 62) F.1 F.2.1 dX7_join_62 (lv_at hl 4 rfl) ?_
              refine mm_iald (pc := 64) F hN ((show σi (rd 4 0) = mm_ari 1 0 24 (fun b9 => nI (mm_jo T a o2 i b9 0)) from mm_r4 (T := (T.w 4 (mm_jo T a o2 i))) hMi)) (j := i) (rfl) (by omega) (by decide) dX7_join_64 ?_
              refine W.eq (g2 := F0 m 65 ls [.int (nI (T.ho i)), .int (nI mo)]) (congrArg (fun q => F0 m 65 ls [Value.int (nI q), .int (nI mo)]) (mm_jo_at)) ?_
              refine lv_iload_n (pc := 65) F.1 F.2.1 dX7_join_65 rfl (lv_at hl 2 rfl) ?_
              refine mm_icmp_neB (pc := 66) F (x := T.ho i) (y := o2) (tgt := 73) (by omega) (by omega) dX7_join_66 (by decide) (fun cz66 => ?_) (fun cz66 => ?_)
              ·
                refine lv_iconst (pc := 73) (v := nI 0) F.1 F.2.1 dX7_join_73 (by decide) ?_
                refine mm_iadd (pc := 74) F (z := nI (mo + 0)) (nI_add _ _) dX7_join_74 ?_
                refine lv_istore_n (pc := 75) (lv' := [(3, .int (nI (mo + 0))), (0, .ref ((rd 0 0))), (1, .int (nI a)), (2, .int (nI o2)), (4, .int (nI i))]) F.1 F.2.1 dX7_join_75 rfl hl (by decide) rfl (fun ls hl => ?_)
                refine lv_aload_n (pc := 76) F.1 F.2.1 dX7_join_76 rfl (lv_at hl 1 rfl) ?_
                refine mm_get (pc := 77) F hN ((show σi (rd 0 0) = mm_obj 1 7 [.ref ((rd 1 0)), .ref ((rd 2 0)), .ref ((rd 3 0)), .int (nI T.nA), .ref ((rd 4 0)), .ref ((rd 5 0)), .ref ((rd 6 0)), .int (nI T.nP), .ref ((rd 7 0)), .ref ((rd 8 0)), .ref ((rd 9 0)), .ref ((rd 10 0)), .ref ((rd 11 0)), .int (nI T.nT), .int (nI T.pa), .ref ((rd 12 0)), .int (nI T.bo), .ref ((rd 13 0)), .ref ((rd 14 0)), .ref ((rd 15 0)), .ref ((rd 16 0)), .ref ((rd 17 0)), .ref ((rd 18 0)), .ref ((rd 19 0)), .int (nI T.nR), .int (nI 0)] from mm_r0 (T := (T.w 4 (mm_jo T a o2 i))) hMi)) (ci := 7) rfl 4 (by decide) mw_1183 rfl dX7_join_77 ?_
                refine lv_iload (pc := 80) F.1 F.2.1 dX7_join_80 (lv_at hl 4 rfl) ?_
                refine lv_aload_n (pc := 82) F.1 F.2.1 dX7_join_82 rfl (lv_at hl 1 rfl) ?_
                refine mm_get (pc := 83) F hN ((show σi (rd 0 0) = mm_obj 1 7 [.ref ((rd 1 0)), .ref ((rd 2 0)), .ref ((rd 3 0)), .int (nI T.nA), .ref ((rd 4 0)), .ref ((rd 5 0)), .ref ((rd 6 0)), .int (nI T.nP), .ref ((rd 7 0)), .ref ((rd 8 0)), .ref ((rd 9 0)), .ref ((rd 10 0)), .ref ((rd 11 0)), .int (nI T.nT), .int (nI T.pa), .ref ((rd 12 0)), .int (nI T.bo), .ref ((rd 13 0)), .ref ((rd 14 0)), .ref ((rd 15 0)), .ref ((rd 16 0)), .ref ((rd 17 0)), .ref ((rd 18 0)), .ref ((rd 19 0)), .int (nI T.nR), .int (nI 0)] from mm_r0 (T := (T.w 4 (mm_jo T a o2 i))) hMi)) (ci := 7) rfl 4 (by decide) mw_1183 rfl dX7_join_83 ?_
                refine lv_iload (pc := 86) F.1 F.2.1 dX7_join_86 (lv_at hl 4 rfl) ?_
                refine mm_iald (pc := 88) F hN ((show σi (rd 4 0) = mm_ari 1 0 24 (fun b9 => nI (mm_jo T a o2 i b9 0)) from mm_r4 (T := (T.w 4 (mm_jo T a o2 i))) hMi)) (j := i) (rfl) (by omega) (by decide) dX7_join_88 ?_
                refine W.eq (g2 := F0 m 89 ls [.int (nI (T.ho i)), .int (nI i), .ref ((rd 4 0))]) (congrArg (fun q => F0 m 89 ls [Value.int (nI q), .int (nI i), .ref ((rd 4 0))]) (mm_jo_at)) ?_
                refine lv_iload_n (pc := 89) F.1 F.2.1 dX7_join_89 rfl (lv_at hl 3 rfl) ?_
                refine mm_icmp_neB (pc := 90) F (x := T.ho i) (y := o2) (tgt := 97) (by omega) (by omega) dX7_join_90 (by decide) (fun cz90 => ?_) (fun cz90 => ?_)
                ·
                  refine lv_aload_n (pc := 97) F.1 F.2.1 dX7_join_97 rfl (lv_at hl 1 rfl) ?_
                  refine mm_get (pc := 98) F hN ((show σi (rd 0 0) = mm_obj 1 7 [.ref ((rd 1 0)), .ref ((rd 2 0)), .ref ((rd 3 0)), .int (nI T.nA), .ref ((rd 4 0)), .ref ((rd 5 0)), .ref ((rd 6 0)), .int (nI T.nP), .ref ((rd 7 0)), .ref ((rd 8 0)), .ref ((rd 9 0)), .ref ((rd 10 0)), .ref ((rd 11 0)), .int (nI T.nT), .int (nI T.pa), .ref ((rd 12 0)), .int (nI T.bo), .ref ((rd 13 0)), .ref ((rd 14 0)), .ref ((rd 15 0)), .ref ((rd 16 0)), .ref ((rd 17 0)), .ref ((rd 18 0)), .ref ((rd 19 0)), .int (nI T.nR), .int (nI 0)] from mm_r0 (T := (T.w 4 (mm_jo T a o2 i))) hMi)) (ci := 7) rfl 4 (by decide) mw_1183 rfl dX7_join_98 ?_
                  refine lv_iload (pc := 101) F.1 F.2.1 dX7_join_101 (lv_at hl 4 rfl) ?_
                  refine mm_iald (pc := 103) F hN ((show σi (rd 4 0) = mm_ari 1 0 24 (fun b9 => nI (mm_jo T a o2 i b9 0)) from mm_r4 (T := (T.w 4 (mm_jo T a o2 i))) hMi)) (j := i) (rfl) (by omega) (by decide) dX7_join_103 ?_
                  refine W.eq (g2 := F0 m 104 ls [.int (nI (T.ho i)), .int (nI i), .ref ((rd 4 0))]) (congrArg (fun q => F0 m 104 ls [Value.int (nI q), .int (nI i), .ref ((rd 4 0))]) (mm_jo_at)) ?_
                  refine mm_iast (pc := 104) F hN ((show σi (rd 4 0) = mm_ari 1 0 24 (fun b9 => nI (mm_jo T a o2 i b9 0)) from mm_r4 (T := (T.w 4 (mm_jo T a o2 i))) hMi)) (j := i) (rfl) (by omega) (by decide) dX7_join_104 (fun H locs hN => ?_)
                  have hN : mm_N b D s (mm_u σi (rd 4 0) (mm_ari 1 0 24 (va_up (fun b9 => nI (mm_jo T a o2 i b9 0)) i (nI (T.ho i))))) _ _ := hN
                  obtain ⟨σ5, eσ5⟩ : ∃ q, q = mm_u σi (rd 4 0) (mm_ari 1 0 24 (va_up (fun b9 => nI (mm_jo T a o2 i b9 0)) i (nI (T.ho i)))) := ⟨_, rfl⟩
                  rw [← eσ5] at hN
                  have hM5 : mm_M σ5 ((T.w 4 (mm_jo T a o2 i)).w 4 (mm_u2 ((T.w 4 (mm_jo T a o2 i)) 4) i 0 (T.ho i))) 0 rd := by rw [eσ5]; exact mm_Mw1 hMi (k := 4) rfl mm_va1
                  have hF5 : mm_Fr 1 σ σ5 := by rw [eσ5]; exact (hFi).tr (mm_Fr.u (mm_r4 hMi))
                  refine lv_iinc (pc := 105) (v := nI (i + 1)) (lv' := [(4, .int (nI (i + 1))), (3, .int (nI (mo + 0))), (0, .ref ((rd 0 0))), (1, .int (nI a)), (2, .int (nI o2))]) F.1 F.2.1 dX7_join_105 hl (k := 4) rfl (by rw [← nI_add]; rfl) (by decide) rfl (fun ls hl => ?_)
                  refine lv_goto (pc := 108) (tgt := 48) F.1 F.2.1 dX7_join_108 (by decide) ?_
                  have hT9 : ((T.w 4 (mm_jo T a o2 i)).w 4 (mm_u2 ((T.w 4 (mm_jo T a o2 i)) 4) i 0 (T.ho i))) = (T.w 4 (mm_jo T a o2 (i + 1))) := by rw [mm_ww]; exact congrArg (T.w 4) ((show mm_u2 (mm_jo T a o2 i) i 0 (T.ho i) = mm_jo T a o2 i from (congrArg (mm_u2 (mm_jo T a o2 i) i 0) (mm_jo_at (T := T) (a := a) (o2 := o2) (i := i)).symm).trans mm_u2_self).trans (mm_jon cz66))
                  exact ih48 (i + 1) (mo + 0) σ5 ls _ _ (by omega) (by omega) (by rw [hmo]; show _ = _ + (if T.ho i = o2 then 1 else 0); rw [if_neg cz66]) (by rw [← hT9]; exact hM5) (hF5) hN (lv_sub hl [2, 3, 4, 1, 0] rfl)
                ·
                  exact absurd cz90 cz66
              ·
                refine lv_iconst (pc := 69) (v := nI 1) F.1 F.2.1 dX7_join_69 (by decide) ?_
                refine lv_goto (pc := 70) (tgt := 74) F.1 F.2.1 dX7_join_70 (by decide) ?_
                refine mm_iadd (pc := 74) F (z := nI (mo + 1)) (nI_add _ _) dX7_join_74 ?_
                refine lv_istore_n (pc := 75) (lv' := [(3, .int (nI (mo + 1))), (0, .ref ((rd 0 0))), (1, .int (nI a)), (2, .int (nI o2)), (4, .int (nI i))]) F.1 F.2.1 dX7_join_75 rfl hl (by decide) rfl (fun ls hl => ?_)
                refine lv_aload_n (pc := 76) F.1 F.2.1 dX7_join_76 rfl (lv_at hl 1 rfl) ?_
                refine mm_get (pc := 77) F hN ((show σi (rd 0 0) = mm_obj 1 7 [.ref ((rd 1 0)), .ref ((rd 2 0)), .ref ((rd 3 0)), .int (nI T.nA), .ref ((rd 4 0)), .ref ((rd 5 0)), .ref ((rd 6 0)), .int (nI T.nP), .ref ((rd 7 0)), .ref ((rd 8 0)), .ref ((rd 9 0)), .ref ((rd 10 0)), .ref ((rd 11 0)), .int (nI T.nT), .int (nI T.pa), .ref ((rd 12 0)), .int (nI T.bo), .ref ((rd 13 0)), .ref ((rd 14 0)), .ref ((rd 15 0)), .ref ((rd 16 0)), .ref ((rd 17 0)), .ref ((rd 18 0)), .ref ((rd 19 0)), .int (nI T.nR), .int (nI 0)] from mm_r0 (T := (T.w 4 (mm_jo T a o2 i))) hMi)) (ci := 7) rfl 4 (by decide) mw_1183 rfl dX7_join_77 ?_
                refine lv_iload (pc := 80) F.1 F.2.1 dX7_join_80 (lv_at hl 4 rfl) ?_
                refine lv_aload_n (pc := 82) F.1 F.2.1 dX7_join_82 rfl (lv_at hl 1 rfl) ?_
                refine mm_get (pc := 83) F hN ((show σi (rd 0 0) = mm_obj 1 7 [.ref ((rd 1 0)), .ref ((rd 2 0)), .ref ((rd 3 0)), .int (nI T.nA), .ref ((rd 4 0)), .ref ((rd 5 0)), .ref ((rd 6 0)), .int (nI T.nP), .ref ((rd 7 0)), .ref ((rd 8 0)), .ref ((rd 9 0)), .ref ((rd 10 0)), .ref ((rd 11 0)), .int (nI T.nT), .int (nI T.pa), .ref ((rd 12 0)), .int (nI T.bo), .ref ((rd 13 0)), .ref ((rd 14 0)), .ref ((rd 15 0)), .ref ((rd 16 0)), .ref ((rd 17 0)), .ref ((rd 18 0)), .ref ((rd 19 0)), .int (nI T.nR), .int (nI 0)] from mm_r0 (T := (T.w 4 (mm_jo T a o2 i))) hMi)) (ci := 7) rfl 4 (by decide) mw_1183 rfl dX7_join_83 ?_
                refine lv_iload (pc := 86) F.1 F.2.1 dX7_join_86 (lv_at hl 4 rfl) ?_
                refine mm_iald (pc := 88) F hN ((show σi (rd 4 0) = mm_ari 1 0 24 (fun b9 => nI (mm_jo T a o2 i b9 0)) from mm_r4 (T := (T.w 4 (mm_jo T a o2 i))) hMi)) (j := i) (rfl) (by omega) (by decide) dX7_join_88 ?_
                refine W.eq (g2 := F0 m 89 ls [.int (nI (T.ho i)), .int (nI i), .ref ((rd 4 0))]) (congrArg (fun q => F0 m 89 ls [Value.int (nI q), .int (nI i), .ref ((rd 4 0))]) (mm_jo_at)) ?_
                refine lv_iload_n (pc := 89) F.1 F.2.1 dX7_join_89 rfl (lv_at hl 3 rfl) ?_
                refine mm_icmp_neB (pc := 90) F (x := T.ho i) (y := o2) (tgt := 97) (by omega) (by omega) dX7_join_90 (by decide) (fun cz90 => ?_) (fun cz90 => ?_)
                ·
                  exact absurd cz66 cz90
                ·
                  refine lv_iload_n (pc := 93) F.1 F.2.1 dX7_join_93 rfl (lv_at hl 2 rfl) ?_
                  refine lv_goto (pc := 94) (tgt := 104) F.1 F.2.1 dX7_join_94 (by decide) ?_
                  refine mm_iast (pc := 104) F hN ((show σi (rd 4 0) = mm_ari 1 0 24 (fun b9 => nI (mm_jo T a o2 i b9 0)) from mm_r4 (T := (T.w 4 (mm_jo T a o2 i))) hMi)) (j := i) (rfl) (by omega) (by decide) dX7_join_104 (fun H locs hN => ?_)
                  have hN : mm_N b D s (mm_u σi (rd 4 0) (mm_ari 1 0 24 (va_up (fun b9 => nI (mm_jo T a o2 i b9 0)) i (nI a)))) _ _ := hN
                  obtain ⟨σ6, eσ6⟩ : ∃ q, q = mm_u σi (rd 4 0) (mm_ari 1 0 24 (va_up (fun b9 => nI (mm_jo T a o2 i b9 0)) i (nI a))) := ⟨_, rfl⟩
                  rw [← eσ6] at hN
                  have hM6 : mm_M σ6 ((T.w 4 (mm_jo T a o2 i)).w 4 (mm_u2 ((T.w 4 (mm_jo T a o2 i)) 4) i 0 a)) 0 rd := by rw [eσ6]; exact mm_Mw1 hMi (k := 4) rfl mm_va1
                  have hF6 : mm_Fr 1 σ σ6 := by rw [eσ6]; exact (hFi).tr (mm_Fr.u (mm_r4 hMi))
                  refine lv_iinc (pc := 105) (v := nI (i + 1)) (lv' := [(4, .int (nI (i + 1))), (3, .int (nI (mo + 1))), (0, .ref ((rd 0 0))), (1, .int (nI a)), (2, .int (nI o2))]) F.1 F.2.1 dX7_join_105 hl (k := 4) rfl (by rw [← nI_add]; rfl) (by decide) rfl (fun ls hl => ?_)
                  refine lv_goto (pc := 108) (tgt := 48) F.1 F.2.1 dX7_join_108 (by decide) ?_
                  have hT9 : ((T.w 4 (mm_jo T a o2 i)).w 4 (mm_u2 ((T.w 4 (mm_jo T a o2 i)) 4) i 0 a)) = (T.w 4 (mm_jo T a o2 (i + 1))) := by rw [mm_ww]; exact congrArg (T.w 4) (mm_jo1 cz66)
                  exact ih48 (i + 1) (mo + 1) σ6 ls _ _ (by omega) (by omega) (by rw [hmo]; show _ = _ + (if T.ho i = o2 then 1 else 0); rw [if_pos cz66]) (by rw [← hT9]; exact hM6) (hF6) hN (lv_sub hl [2, 3, 4, 1, 0] rfl)
        exact lp48 (T.nP + 1) 0 0 σ2 ls _ _ (by omega) (by omega) (rfl) (by rw [mm_jo0]; exact hM2) (hF2) hN (lv_sub hl [2, 3, 4, 1, 0] rfl)
      ·
        refine lv_iconst (pc := 26) (v := nI 2) F.1 F.2.1 dX7_join_26 (by decide) ?_
        refine lv_goto (pc := 27) (tgt := 31) F.1 F.2.1 dX7_join_27 (by decide) ?_
        refine mm_put (pc := 31) F hN (mm_r0 hM) (ci := 7) rfl 25 (by decide) mw_1204 rfl (ty := .int) (by decide +kernel) (rfl) (rfl) (Nat.le_of_ble_eq_true rfl) dX7_join_31 (fun H locs hN => ?_)
        have hN : mm_N b D s (mm_u σ ((rd 0 0)) (mm_obj 1 7 [.ref ((rd 1 0)), .ref ((rd 2 0)), .ref ((rd 3 0)), .int (nI T.nA), .ref ((rd 4 0)), .ref ((rd 5 0)), .ref ((rd 6 0)), .int (nI T.nP), .ref ((rd 7 0)), .ref ((rd 8 0)), .ref ((rd 9 0)), .ref ((rd 10 0)), .ref ((rd 11 0)), .int (nI T.nT), .int (nI T.pa), .ref ((rd 12 0)), .int (nI T.bo), .ref ((rd 13 0)), .ref ((rd 14 0)), .ref ((rd 15 0)), .ref ((rd 16 0)), .ref ((rd 17 0)), .ref ((rd 18 0)), .ref ((rd 19 0)), .int (nI T.nR), .int (nI 2)])) _ _ := hN
        obtain ⟨σ7, eσ7⟩ : ∃ q, q = mm_u σ ((rd 0 0)) (mm_obj 1 7 [.ref ((rd 1 0)), .ref ((rd 2 0)), .ref ((rd 3 0)), .int (nI T.nA), .ref ((rd 4 0)), .ref ((rd 5 0)), .ref ((rd 6 0)), .int (nI T.nP), .ref ((rd 7 0)), .ref ((rd 8 0)), .ref ((rd 9 0)), .ref ((rd 10 0)), .ref ((rd 11 0)), .int (nI T.nT), .int (nI T.pa), .ref ((rd 12 0)), .int (nI T.bo), .ref ((rd 13 0)), .ref ((rd 14 0)), .ref ((rd 15 0)), .ref ((rd 16 0)), .ref ((rd 17 0)), .ref ((rd 18 0)), .ref ((rd 19 0)), .int (nI T.nR), .int (nI 2)]) := ⟨_, rfl⟩
        rw [← eσ7] at hN
        have hM7 : mm_M σ7 T 2 rd := by rw [eσ7]; exact mm_Mo hM (fun _ _ => rfl) rfl
        have hF7 : mm_Fr 1 σ σ7 := by rw [eσ7]; exact (mm_Fr.rf).tr (mm_Fr.u (mm_r0 hM))
        refine lv_aload_n (pc := 34) F.1 F.2.1 dX7_join_34 rfl (lv_at hl 0 rfl) ?_
        refine mm_get (pc := 35) F hN ((show σ7 (rd 0 0) = mm_obj 1 7 [.ref ((rd 1 0)), .ref ((rd 2 0)), .ref ((rd 3 0)), .int (nI T.nA), .ref ((rd 4 0)), .ref ((rd 5 0)), .ref ((rd 6 0)), .int (nI T.nP), .ref ((rd 7 0)), .ref ((rd 8 0)), .ref ((rd 9 0)), .ref ((rd 10 0)), .ref ((rd 11 0)), .int (nI T.nT), .int (nI T.pa), .ref ((rd 12 0)), .int (nI T.bo), .ref ((rd 13 0)), .ref ((rd 14 0)), .ref ((rd 15 0)), .ref ((rd 16 0)), .ref ((rd 17 0)), .ref ((rd 18 0)), .ref ((rd 19 0)), .int (nI T.nR), .int (nI 2)] from mm_r0 (T := T) hM7)) (ci := 7) rfl 25 (by decide) mw_1204 rfl dX7_join_35 ?_
        refine mm_if_le (pc := 38) F (tgt := 43) (by omega) dX7_join_38 (by decide) (fun h9 => absurd h9 (by decide)) (fun cz38 => ?_)
        refine lv_iconst (pc := 41) (v := nI 0) F.1 F.2.1 dX7_join_41 (by decide) ?_
        exact mm_iret (pc := 42) F hr hN (Or.inr ⟨by rw [show mm_q_join T a o2 = 2 from by show mm_q_join T a o2 = 2; unfold mm_q_join; (repeat' split) <;> omega]; decide, ⟨_, rfl⟩, by rw [show mm_q_join T a o2 = 2 from by show mm_q_join T a o2 = 2; unfold mm_q_join; (repeat' split) <;> omega]; exact hM7, hF7⟩) (Nat.le_of_ble_eq_true rfl) (Nat.le_of_ble_eq_true rfl) dX7_join_42
    ·
      refine W.eq (g2 := F0 m 14 ls [.int (nI 0), .ref ((rd 0 0))]) (by rw [if_neg hao2]) ?_
      refine mm_if_ne (pc := 14) F (tgt := 21) (by omega) dX7_join_14 (by decide) (fun h9 => absurd h9 (by decide)) (fun cz14 => ?_)
      refine lv_iconst (pc := 17) (v := nI 1) F.1 F.2.1 dX7_join_17 (by decide) ?_
      refine lv_goto (pc := 18) (tgt := 31) F.1 F.2.1 dX7_join_18 (by decide) ?_
      refine mm_put (pc := 31) F hN (mm_r0 hM) (ci := 7) rfl 25 (by decide) mw_1204 rfl (ty := .int) (by decide +kernel) (rfl) (rfl) (Nat.le_of_ble_eq_true rfl) dX7_join_31 (fun H locs hN => ?_)
      have hN : mm_N b D s (mm_u σ ((rd 0 0)) (mm_obj 1 7 [.ref ((rd 1 0)), .ref ((rd 2 0)), .ref ((rd 3 0)), .int (nI T.nA), .ref ((rd 4 0)), .ref ((rd 5 0)), .ref ((rd 6 0)), .int (nI T.nP), .ref ((rd 7 0)), .ref ((rd 8 0)), .ref ((rd 9 0)), .ref ((rd 10 0)), .ref ((rd 11 0)), .int (nI T.nT), .int (nI T.pa), .ref ((rd 12 0)), .int (nI T.bo), .ref ((rd 13 0)), .ref ((rd 14 0)), .ref ((rd 15 0)), .ref ((rd 16 0)), .ref ((rd 17 0)), .ref ((rd 18 0)), .ref ((rd 19 0)), .int (nI T.nR), .int (nI 1)])) _ _ := hN
      obtain ⟨σ8, eσ8⟩ : ∃ q, q = mm_u σ ((rd 0 0)) (mm_obj 1 7 [.ref ((rd 1 0)), .ref ((rd 2 0)), .ref ((rd 3 0)), .int (nI T.nA), .ref ((rd 4 0)), .ref ((rd 5 0)), .ref ((rd 6 0)), .int (nI T.nP), .ref ((rd 7 0)), .ref ((rd 8 0)), .ref ((rd 9 0)), .ref ((rd 10 0)), .ref ((rd 11 0)), .int (nI T.nT), .int (nI T.pa), .ref ((rd 12 0)), .int (nI T.bo), .ref ((rd 13 0)), .ref ((rd 14 0)), .ref ((rd 15 0)), .ref ((rd 16 0)), .ref ((rd 17 0)), .ref ((rd 18 0)), .ref ((rd 19 0)), .int (nI T.nR), .int (nI 1)]) := ⟨_, rfl⟩
      rw [← eσ8] at hN
      have hM8 : mm_M σ8 T 1 rd := by rw [eσ8]; exact mm_Mo hM (fun _ _ => rfl) rfl
      have hF8 : mm_Fr 1 σ σ8 := by rw [eσ8]; exact (mm_Fr.rf).tr (mm_Fr.u (mm_r0 hM))
      refine lv_aload_n (pc := 34) F.1 F.2.1 dX7_join_34 rfl (lv_at hl 0 rfl) ?_
      refine mm_get (pc := 35) F hN ((show σ8 (rd 0 0) = mm_obj 1 7 [.ref ((rd 1 0)), .ref ((rd 2 0)), .ref ((rd 3 0)), .int (nI T.nA), .ref ((rd 4 0)), .ref ((rd 5 0)), .ref ((rd 6 0)), .int (nI T.nP), .ref ((rd 7 0)), .ref ((rd 8 0)), .ref ((rd 9 0)), .ref ((rd 10 0)), .ref ((rd 11 0)), .int (nI T.nT), .int (nI T.pa), .ref ((rd 12 0)), .int (nI T.bo), .ref ((rd 13 0)), .ref ((rd 14 0)), .ref ((rd 15 0)), .ref ((rd 16 0)), .ref ((rd 17 0)), .ref ((rd 18 0)), .ref ((rd 19 0)), .int (nI T.nR), .int (nI 1)] from mm_r0 (T := T) hM8)) (ci := 7) rfl 25 (by decide) mw_1204 rfl dX7_join_35 ?_
      refine mm_if_le (pc := 38) F (tgt := 43) (by omega) dX7_join_38 (by decide) (fun h9 => absurd h9 (by decide)) (fun cz38 => ?_)
      refine lv_iconst (pc := 41) (v := nI 0) F.1 F.2.1 dX7_join_41 (by decide) ?_
      exact mm_iret (pc := 42) F hr hN (Or.inr ⟨by rw [show mm_q_join T a o2 = 1 from by show mm_q_join T a o2 = 1; unfold mm_q_join; (repeat' split) <;> omega]; decide, ⟨_, rfl⟩, by rw [show mm_q_join T a o2 = 1 from by show mm_q_join T a o2 = 1; unfold mm_q_join; (repeat' split) <;> omega]; exact hM8, hF8⟩) (Nat.le_of_ble_eq_true rfl) (Nat.le_of_ble_eq_true rfl) dX7_join_42
  ·
    refine W.eq (g2 := F0 m 6 ls [.int (nI 0), .ref ((rd 0 0))]) (by rw [if_neg haa]) ?_
    refine mm_if_eq (pc := 6) F (tgt := 17) (by omega) dX7_join_6 (by decide) (fun cz6 => ?_) (fun h9 => absurd h9 (by decide))
    refine lv_iconst (pc := 17) (v := nI 1) F.1 F.2.1 dX7_join_17 (by decide) ?_
    refine lv_goto (pc := 18) (tgt := 31) F.1 F.2.1 dX7_join_18 (by decide) ?_
    refine mm_put (pc := 31) F hN (mm_r0 hM) (ci := 7) rfl 25 (by decide) mw_1204 rfl (ty := .int) (by decide +kernel) (rfl) (rfl) (Nat.le_of_ble_eq_true rfl) dX7_join_31 (fun H locs hN => ?_)
    have hN : mm_N b D s (mm_u σ ((rd 0 0)) (mm_obj 1 7 [.ref ((rd 1 0)), .ref ((rd 2 0)), .ref ((rd 3 0)), .int (nI T.nA), .ref ((rd 4 0)), .ref ((rd 5 0)), .ref ((rd 6 0)), .int (nI T.nP), .ref ((rd 7 0)), .ref ((rd 8 0)), .ref ((rd 9 0)), .ref ((rd 10 0)), .ref ((rd 11 0)), .int (nI T.nT), .int (nI T.pa), .ref ((rd 12 0)), .int (nI T.bo), .ref ((rd 13 0)), .ref ((rd 14 0)), .ref ((rd 15 0)), .ref ((rd 16 0)), .ref ((rd 17 0)), .ref ((rd 18 0)), .ref ((rd 19 0)), .int (nI T.nR), .int (nI 1)])) _ _ := hN
    obtain ⟨σ9, eσ9⟩ : ∃ q, q = mm_u σ ((rd 0 0)) (mm_obj 1 7 [.ref ((rd 1 0)), .ref ((rd 2 0)), .ref ((rd 3 0)), .int (nI T.nA), .ref ((rd 4 0)), .ref ((rd 5 0)), .ref ((rd 6 0)), .int (nI T.nP), .ref ((rd 7 0)), .ref ((rd 8 0)), .ref ((rd 9 0)), .ref ((rd 10 0)), .ref ((rd 11 0)), .int (nI T.nT), .int (nI T.pa), .ref ((rd 12 0)), .int (nI T.bo), .ref ((rd 13 0)), .ref ((rd 14 0)), .ref ((rd 15 0)), .ref ((rd 16 0)), .ref ((rd 17 0)), .ref ((rd 18 0)), .ref ((rd 19 0)), .int (nI T.nR), .int (nI 1)]) := ⟨_, rfl⟩
    rw [← eσ9] at hN
    have hM9 : mm_M σ9 T 1 rd := by rw [eσ9]; exact mm_Mo hM (fun _ _ => rfl) rfl
    have hF9 : mm_Fr 1 σ σ9 := by rw [eσ9]; exact (mm_Fr.rf).tr (mm_Fr.u (mm_r0 hM))
    refine lv_aload_n (pc := 34) F.1 F.2.1 dX7_join_34 rfl (lv_at hl 0 rfl) ?_
    refine mm_get (pc := 35) F hN ((show σ9 (rd 0 0) = mm_obj 1 7 [.ref ((rd 1 0)), .ref ((rd 2 0)), .ref ((rd 3 0)), .int (nI T.nA), .ref ((rd 4 0)), .ref ((rd 5 0)), .ref ((rd 6 0)), .int (nI T.nP), .ref ((rd 7 0)), .ref ((rd 8 0)), .ref ((rd 9 0)), .ref ((rd 10 0)), .ref ((rd 11 0)), .int (nI T.nT), .int (nI T.pa), .ref ((rd 12 0)), .int (nI T.bo), .ref ((rd 13 0)), .ref ((rd 14 0)), .ref ((rd 15 0)), .ref ((rd 16 0)), .ref ((rd 17 0)), .ref ((rd 18 0)), .ref ((rd 19 0)), .int (nI T.nR), .int (nI 1)] from mm_r0 (T := T) hM9)) (ci := 7) rfl 25 (by decide) mw_1204 rfl dX7_join_35 ?_
    refine mm_if_le (pc := 38) F (tgt := 43) (by omega) dX7_join_38 (by decide) (fun h9 => absurd h9 (by decide)) (fun cz38 => ?_)
    refine lv_iconst (pc := 41) (v := nI 0) F.1 F.2.1 dX7_join_41 (by decide) ?_
    exact mm_iret (pc := 42) F hr hN (Or.inr ⟨by rw [show mm_q_join T a o2 = 1 from by show mm_q_join T a o2 = 1; unfold mm_q_join; (repeat' split) <;> omega]; decide, ⟨_, rfl⟩, by rw [show mm_q_join T a o2 = 1 from by show mm_q_join T a o2 = 1; unfold mm_q_join; (repeat' split) <;> omega]; exact hM9, hF9⟩) (Nat.le_of_ble_eq_true rfl) (Nat.le_of_ble_eq_true rfl) dX7_join_42

