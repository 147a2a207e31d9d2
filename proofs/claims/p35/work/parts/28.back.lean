theorem mm_F2 {T : mm_T} (h : mm_WF T) {i v : Nat} (hi : i < T.nA) : mm_WF (T.w 2 (mm_u2 (T 2) i 0 v)) :=
  ⟨h.hnA, h.hnP, h.hnT, h.hnR, h.hpa, h.hen, h.hbo, h.had, h.hpe, h.htp, h.hru, h.hb0, h.hb1, h.hb2, fun a ha => ⟨by have ha : T.nA ≤ a := ha; show (if a = i ∧ 0 = 0 then v else T.sk a) = 0; rw [if_neg (by omega)]; exact (h.hza a ha).1, (h.hza a ha).2⟩, h.hzt⟩
theorem mm_F3 {T : mm_T} (h : mm_WF T) {i v : Nat} (hi : i < T.nA) (hv : v < 2) : mm_WF (T.w 3 (mm_u2 (T 3) i 0 v)) :=
  ⟨h.hnA, h.hnP, h.hnT, h.hnR, h.hpa, h.hen, h.hbo, fun a ha => ⟨(h.had a ha).1, by show (if a = i ∧ 0 = 0 then v else T.go a) < 2; split; exact hv; exact (h.had a ha).2⟩, h.hpe, h.htp, h.hru, h.hb0, h.hb1, h.hb2, fun a ha => ⟨(h.hza a ha).1, by have ha : T.nA ≤ a := ha; show (if a = i ∧ 0 = 0 then v else T.go a) = 0; rw [if_neg (by omega)]; exact (h.hza a ha).2⟩, h.hzt⟩
theorem mm_F4 {T : mm_T} (h : mm_WF T) {i v : Nat} (hv : v < T.nA) : mm_WF (T.w 4 (mm_u2 (T 4) i 0 v)) :=
  ⟨h.hnA, h.hnP, h.hnT, h.hnR, h.hpa, h.hen, h.hbo, h.had, fun a ha => ⟨by show (if a = i ∧ 0 = 0 then v else T.ho a) < T.nA; split; exact hv; exact (h.hpe a ha).1, (h.hpe a ha).2⟩, h.htp, h.hru, h.hb0, h.hb1, h.hb2, h.hza, h.hzt⟩
theorem mm_F5 {T : mm_T} (h : mm_WF T) {i v : Nat} (hv : v < 8) : mm_WF (T.w 5 (mm_u2 (T 5) i 0 v)) :=
  ⟨h.hnA, h.hnP, h.hnT, h.hnR, h.hpa, h.hen, h.hbo, h.had, fun a ha => ⟨(h.hpe a ha).1, by show (if a = i ∧ 0 = 0 then v else T.fl a) < 8; split; exact hv; exact (h.hpe a ha).2.1, (h.hpe a ha).2.2⟩, h.htp, h.hru, h.hb0, h.hb1, h.hb2, h.hza, h.hzt⟩
theorem mm_F6 {T : mm_T} (h : mm_WF T) {i v : Nat} (hv : v < 65536) : mm_WF (T.w 6 (mm_u2 (T 6) i 0 v)) :=
  ⟨h.hnA, h.hnP, h.hnT, h.hnR, h.hpa, h.hen, h.hbo, h.had, fun a ha => ⟨(h.hpe a ha).1, (h.hpe a ha).2.1, by show (if a = i ∧ 0 = 0 then v else T.re a) < 65536; split; exact hv; exact (h.hpe a ha).2.2⟩, h.htp, h.hru, h.hb0, h.hb1, h.hb2, h.hza, h.hzt⟩
theorem mm_F19 {T : mm_T} (h : mm_WF T) {k i v : Nat} (hv : v < 2) (hl : T.oc k i = 108) : mm_WF (T.w 19 (mm_u2 (T 19) k i v)) :=
  ⟨h.hnA, h.hnP, h.hnT, h.hnR, h.hpa, h.hen, h.hbo, h.had, h.hpe, h.htp, fun r hr => ⟨(h.hru r hr).1, (h.hru r hr).2.1, (h.hru r hr).2.2.1, fun p hp => by
    obtain ⟨w1, w2, w3, w4, w5, w6, w7⟩ := (h.hru r hr).2.2.2 p hp
    refine ⟨w1, w2, w3, w4, ?_, ?_, w7⟩
    · show (if r = k ∧ p = i then v else T.bk r p) < 2
      split
      · exact hv
      · exact w5
    · show (if r = k ∧ p = i then v else T.bk r p) = 1 → T.oc r p = 108
      split
      · rename_i e; obtain ⟨rfl, rfl⟩ := e; exact fun _ => hl
      · exact w6⟩, h.hb0, h.hb1, h.hb2, h.hza, h.hzt⟩
theorem mm_F05 {T : mm_T} (h : mm_WF T) {v : Nat} (hv : 1 ≤ v ∧ v ≤ 24) : mm_WF (T.w 0 (mm_u2 (T 0) 5 0 v)) :=
  ⟨h.hnA, h.hnP, h.hnT, h.hnR, h.hpa, h.hen, hv, h.had, h.hpe, h.htp, h.hru, h.hb0, h.hb1, h.hb2, h.hza, h.hzt⟩
theorem mm_Fbp {T : mm_T} (h : mm_WF T) {n : Nat} (hv : T.pa + n ≤ 5000) : mm_WF ((T.w 0 (mm_u2 (T 0) 4 0 (T.pa + n))).w 0 (mm_u2 (mm_u2 (T 0) 4 0 (T.pa + n)) 6 0 (T.b0 + n))) :=
  ⟨h.hnA, h.hnP, h.hnT, h.hnR, hv, h.hen, h.hbo, h.had, h.hpe, h.htp, h.hru, by have := h.hb0; show T.b0 + n = T.pa + n + _; rw [this]; exact Nat.add_right_comm _ _ _, h.hb1, h.hb2, h.hza, h.hzt⟩
theorem mm_Fbe0 {T : mm_T} (h : mm_WF T) {n : Nat} (hv : T.en 0 + n ≤ 5000) : mm_WF ((T.w 12 (mm_u2 (T 12) 0 0 (T.en 0 + n))).w 0 (mm_u2 (T 0) 7 0 (T 0 7 0 + n))) :=
  ⟨h.hnA, h.hnP, h.hnT, h.hnR, h.hpa, fun k => by show (if k = 0 ∧ 0 = 0 then T.en 0 + n else T.en k) ≤ 5000; split; exact hv; exact h.hen k, h.hbo, h.had, h.hpe, h.htp, h.hru, h.hb0, by have := h.hb1; show T.b1 + n = T.en 0 + n + _; rw [this]; exact Nat.add_right_comm _ _ _, h.hb2, h.hza, h.hzt⟩
theorem mm_Fbe1 {T : mm_T} (h : mm_WF T) {n : Nat} (hv : T.en 1 + n ≤ 5000) : mm_WF ((T.w 12 (mm_u2 (T 12) 1 0 (T.en 1 + n))).w 0 (mm_u2 (T 0) 8 0 (T 0 8 0 + n))) :=
  ⟨h.hnA, h.hnP, h.hnT, h.hnR, h.hpa, fun k => by show (if k = 1 ∧ 0 = 0 then T.en 1 + n else T.en k) ≤ 5000; split; exact hv; exact h.hen k, h.hbo, h.had, h.hpe, h.htp, h.hru, h.hb0, h.hb1, by have := h.hb2; show T.b2 + n = T.en 1 + n + _; rw [this]; exact Nat.add_right_comm _ _ _, h.hza, h.hzt⟩
def mm_q_comesBack (T : mm_T) (k : Nat) (i : Nat) (ch : Nat) : Nat := if k < T.nR ∧ i < T.rp k then (if ch = 117 ∨ ch = 109 ∨ ch = 100 then (if T.oc k i = 108 ∧ T.bk k i = 0 then 0 else 3) else 2) else 1
set_option maxHeartbeats 4000000 in
set_option maxRecDepth 100000 in
theorem a_comesBack (l : Launch) (b : Nat) (D : mm_D) (hst : l.stackTraces = false) (T : mm_T) (z : mm_Z) (ad : Nat → Nat → Nat → Nat) (σ : mm_S) (hX : mm_X σ T z ad) (hW : mm_WF T) (k : Nat) (zk : k < 2 ^ 32) (i : Nat) (zi : i < 2 ^ 32) (ch : Nat) (zch : ch < 65536) : mm_K l b D yX6_comesBack (.code yX6_comesBack cX6_comesBack 5 (some .int)) ({ frames := 8, cells := 6, slots := 40, locals := 220 } : Room) [.ref ((ad 0 0 0)), .int (nI k), .int (nI i), .int (nI ch)] σ
    (fun v σ2 => mm_q_comesBack T k i ch = 0 ∧ v = some (.int (nI (mm_sm (mm_u2 (T 19) k i 1 k) (T.rp k)))) ∧ mm_Xt σ σ2 (if ch = 117 then (T.w 19 (mm_u2 (T 19) k i 1)).w 2 (mm_u2 (T 2) (T.ho i) 0 (T.sk (T.ho i) + 1)) else (T.w 19 (mm_u2 (T 19) k i 1)).w 6 (mm_u2 (T 6) i 0 ch)) (ad 0 0 0))
    (fun E σ2 => ((mm_q_comesBack T k i ch = 1 ∧ E = "java/lang/IndexOutOfBoundsException") ∨ (mm_q_comesBack T k i ch = 2 ∧ E = "java/lang/IllegalArgumentException") ∨ (mm_q_comesBack T k i ch = 3 ∧ E = "java/lang/IllegalStateException")) ∧ mm_Xt σ σ2 T (ad 0 0 0)) := by
  refine mm_of (cc := cX6_comesBack) (nL := 5) (ret := (some .int)) (by decide) rfl (Nat.le_of_ble_eq_true rfl) hst ?_
  intro p e s m args below meth c ls F ht hr hin hN hl
  have hl : lv_has ls 5 [(0, .ref ((ad 0 0 0))), (1, .int (nI k)), (2, .int (nI i)), (3, .int (nI ch))] := hl
  have wnA := hW.hnA
  have wnP := hW.hnP
  have wnT := hW.hnT
  have wnR := hW.hnR
  have wpa := hW.hpa
  have wbo := hW.hbo
  have wen0 := hW.hen 0
  have wen1 := hW.hen 1
  refine lv_aload_n (pc := 0) F.1 F.2.1 dX6_comesBack_0 rfl (lv_at hl 0 rfl) ?_
  refine lv_iload_n (pc := 1) F.1 F.2.1 dX6_comesBack_1 rfl (lv_at hl 1 rfl) ?_
  refine lv_iload_n (pc := 2) F.1 F.2.1 dX6_comesBack_2 rfl (lv_at hl 2 rfl) ?_
  refine mm_runV (pc := 3) (As := [.int (nI k), .int (nI i)]) (rest := []) F hN (c_entryAt l b D hst T z ad σ hX hW k i (by omega) (by omega)) mw_967 mw_969 mw_p19 mw_1 mw_970 ⟨pmX6_entryAt, (Nat.le_of_ble_eq_true rfl), (Nat.le_of_ble_eq_true rfl)⟩ (mm_recv F.2.2.2.2.2.1 hN (mm_X0 hX) rfl) hl.1 rfl (Nat.le_of_ble_eq_true rfl) ⟨(Nat.le_of_ble_eq_true rfl), (Nat.le_of_ble_eq_true rfl)⟩ dX6_comesBack_3
    (fun E9 σ9 H9 l9 q9 ce9 hp9 hN9 hq9 hv9 hcl9 => mm_out F ht hN9 (by obtain ⟨g1, g2, g3⟩ := hp9; exact ⟨Or.inl (⟨by unfold mm_q_comesBack; (repeat' split) <;> omega, g1⟩), mm_Xt.rf hX g3⟩) hq9 hv9 hcl9 (Nat.le_of_ble_eq_true rfl) (Nat.le_of_ble_eq_true rfl))
    (fun v9 σ9 H locs hp9 hN => ?_)
  obtain ⟨⟨hrn, hpn⟩, rfl, h9⟩ := hp9
  refine W.eq (g2 := F0 m 6 ls [.ref ((ad 7 k i))]) rfl ?_
  refine W.widen (k := 2) (n := 12) (Nat.le_of_ble_eq_true rfl) (Nat.le_of_ble_eq_true rfl) ?_
  rw [h9] at hN
  obtain ⟨wr1, wr2, wr3, wr4⟩ := hW.hru k hrn
  obtain ⟨wp1, wp2, wp3, wp4, wp5, wp6, wp7⟩ := wr4 i hpn
  obtain ⟨who, wfl, wre⟩ := hW.hpe i (by omega)
  refine lv_astore (pc := 6) (lv' := [(4, .ref ((ad 7 k i))), (0, .ref ((ad 0 0 0))), (1, .int (nI k)), (2, .int (nI i)), (3, .int (nI ch))]) F.1 F.2.1 dX6_comesBack_6 hl (by decide) rfl (fun ls hl => ?_)
  refine lv_iload_n (pc := 8) F.1 F.2.1 dX6_comesBack_8 rfl (lv_at hl 4 rfl) ?_
  refine lv_bipush (pc := 9) (v := nI 117) F.1 F.2.1 dX6_comesBack_9 (by decide) ?_
  refine mm_icmp_eq (pc := 11) F (x := ch) (y := 117) (tgt := 36) (by omega) (by omega) dX6_comesBack_11 (by decide) (fun cz11 => ?_) (fun cz11 => ?_)
  ·
    refine lv_aload (pc := 36) F.1 F.2.1 dX6_comesBack_36 (lv_at hl 0 rfl) ?_
    refine mm_runV (pc := 38) (As := []) (rest := []) F hN (c_isLet l b D hst 0 (ad 7 k i) (T.oc k i) (T.rc k i) (T.pg k i) (T.rt k i) (T.bk k i) _ _ σ (mm_XN hX hrn hpn) wp1) mw_978 mw_660 mw_661 mw_30 mw_662 ⟨pmX1_isLetter, (Nat.le_of_ble_eq_true rfl), (Nat.le_of_ble_eq_true rfl)⟩ (mm_recv F.2.2.2.2.2.1 hN (mm_XN hX hrn hpn) rfl) hl.1 rfl (Nat.le_of_ble_eq_true rfl) ⟨(Nat.le_of_ble_eq_true rfl), (Nat.le_of_ble_eq_true rfl)⟩ dX6_comesBack_38
      (fun _ _ _ _ _ _ h9 => False.elim h9)
      (fun v9 σ9 H locs hp9 hN => ?_)
    obtain ⟨rfl, h9⟩ := hp9
    rw [h9] at hN
    refine W.eq (g2 := F0 m 41 ls [.int (nI (if T.oc k i = 108 then 1 else 0))]) rfl ?_
    refine W.widen (k := 2) (n := 12) (Nat.le_of_ble_eq_true rfl) (Nat.le_of_ble_eq_true rfl) ?_
    by_cases hb41 : T.oc k i = 108
    ·
      refine W.eq (g2 := F0 m 41 ls [.int (nI 1)]) (by rw [if_pos hb41]) ?_
      refine mm_if_eq (pc := 41) F (tgt := 52) (by omega) dX6_comesBack_41 (by decide) (fun h9 => absurd h9 (by decide)) (fun cz41 => ?_)
      refine lv_aload (pc := 44) F.1 F.2.1 dX6_comesBack_44 (lv_at hl 0 rfl) ?_
      refine mm_get (pc := 46) F hN (mm_XN hX (i := k) (j := i) (by omega) (by omega)) (ci := 1) rfl 6 (by decide) mw_638 rfl dX6_comesBack_46 ?_
      refine mm_if_eq (pc := 49) F (tgt := 62) (by omega) dX6_comesBack_49 (by decide) (fun cz49 => ?_) (fun cz49 => ?_)
      ·
        refine lv_aload (pc := 62) F.1 F.2.1 dX6_comesBack_62 (lv_at hl 0 rfl) ?_
        refine lv_iconst (pc := 64) (v := nI 1) F.1 F.2.1 dX6_comesBack_64 (by decide) ?_
        refine mm_put (pc := 65) F hN (mm_XN hX (i := k) (j := i) (by omega) (by omega)) (ci := 1) rfl 6 (by decide) mw_638 rfl (ty := .boolean) (by decide +kernel) (mm_narZ (by decide)) (mm_fitZ (by decide)) (Nat.le_of_ble_eq_true rfl) dX6_comesBack_65 (fun H locs hN => ?_)
        have hN : mm_N b D s (mm_u σ ((ad 7 k i)) (mm_obj 0 1 [.int (nI i), .ref ((ad 2 i 0)), .int (nI (T.oc k i)), .int (nI (T.rc k i)), .int (nI (T.pg k i)), .int (nI (T.rt k i)), .int (nI 1)])) _ _ := hN
        have hX2 := mm_X_set hX (k := 7) (i := k) (j := i) ⟨hrn, hpn⟩ (T' := (T.w 19 (mm_u2 (T 19) k i 1))) (z' := z) rfl mm_w19 (x := mm_O 1 [.int (nI i), .ref ((ad 2 i 0)), .int (nI (T.oc k i)), .int (nI (T.rc k i)), .int (nI (T.pg k i)), .int (nI (T.rt k i)), .int (nI 1)]) (by rw [show mm_ct (T.w 19 (mm_u2 (T 19) k i 1)) z ad 7 k i = mm_O 1 [.int (nI i), .ref ((ad 2 i 0)), .int (nI (T.oc k i)), .int (nI (T.rc k i)), .int (nI (T.pg k i)), .int (nI (T.rt k i)), .int (nI (mm_u2 (T 19) k i 1 k i))] from rfl, mm_u2_at])
        have hF2 : mm_Fr 0 _ _ := mm_Fr.u (x := mm_obj 0 1 [.int (nI i), .ref ((ad 2 i 0)), .int (nI (T.oc k i)), .int (nI (T.rc k i)), .int (nI (T.pg k i)), .int (nI (T.rt k i)), .int (nI 1)]) (mm_XN hX hrn hpn)
        obtain ⟨σ2, eσ2⟩ : ∃ q, q = mm_u σ ((ad 7 k i)) (mm_obj 0 1 [.int (nI i), .ref ((ad 2 i 0)), .int (nI (T.oc k i)), .int (nI (T.rc k i)), .int (nI (T.pg k i)), .int (nI (T.rt k i)), .int (nI 1)]) := ⟨_, rfl⟩
        obtain ⟨T2, eT2⟩ : ∃ q, q = (T.w 19 (mm_u2 (T 19) k i 1)) := ⟨_, rfl⟩
        rw [← eσ2] at hN
        have hX2 : mm_X σ2 T2 z ad := by rw [eσ2, eT2]; exact hX2
        have hF2 : mm_Fr 0 σ σ2 := by rw [eσ2]; exact hF2
        have hqnA2 : T2.nA = T.nA := by rw [eT2]; rfl
        have hqnP2 : T2.nP = T.nP := by rw [eT2]; rfl
        have hqnT2 : T2.nT = T.nT := by rw [eT2]; rfl
        have hqnR2 : T2.nR = T.nR := by rw [eT2]; rfl
        have hqho : T2.ho i = T.ho i := by rw [eT2]; rfl
        have hqrp : T2.rp k = T.rp k := by rw [eT2]; rfl
        have hqre : T2.re i = T.re i := by rw [eT2]; rfl
        have hW2 : mm_WF T2 := by rw [eT2]; exact mm_F19 hW (by decide) hb41
        refine lv_iload_n (pc := 68) F.1 F.2.1 dX6_comesBack_68 rfl (lv_at hl 4 rfl) ?_
        refine lv_bipush (pc := 69) (v := nI 117) F.1 F.2.1 dX6_comesBack_69 (by decide) ?_
        refine mm_icmp_ne (pc := 71) F (x := ch) (y := 117) (tgt := 94) (by omega) (by omega) dX6_comesBack_71 (by decide) (fun cz71 => ?_) (fun cz71 => ?_)
        ·
          refine lv_aload (pc := 94) F.1 F.2.1 dX6_comesBack_94 (lv_at hl 0 rfl) ?_
          refine mm_get (pc := 96) F hN (mm_XN hX2 (i := k) (j := i) (by omega) (by omega)) (ci := 1) rfl 1 (by decide) mw_627 rfl dX6_comesBack_96 ?_
          refine lv_iload_n (pc := 99) F.1 F.2.1 dX6_comesBack_99 rfl (lv_at hl 4 rfl) ?_
          refine mm_put (pc := 100) F hN (mm_XP hX2 (i := i) (by omega)) (ci := 2) rfl 2 (by decide) mw_409 rfl (ty := .char) (by decide +kernel) (mm_narC zch) (mm_fitC zch) (Nat.le_of_ble_eq_true rfl) dX6_comesBack_100 (fun H locs hN => ?_)
          have hN : mm_N b D s (mm_u σ2 ((ad 2 i 0)) (mm_obj 0 2 [.ref ((ad 1 (T2.ho i) 0)), .int (nI (T2.fl i)), .int (nI ch), .int (nI (z.oc i))])) _ _ := hN
          have hX3 := mm_X_set hX2 (k := 2) (i := i) (j := 0) ⟨by omega, rfl⟩ (T' := (T2.w 6 (mm_u2 (T2 6) i 0 ch))) (z' := z) rfl mm_w6 (x := mm_O 2 [.ref ((ad 1 (T2.ho i) 0)), .int (nI (T2.fl i)), .int (nI ch), .int (nI (z.oc i))]) (by rw [show mm_ct (T2.w 6 (mm_u2 (T2 6) i 0 ch)) z ad 2 i 0 = mm_O 2 [.ref ((ad 1 (T2.ho i) 0)), .int (nI (T2.fl i)), .int (nI (mm_u2 (T2 6) i 0 ch i 0)), .int (nI (z.oc i))] from rfl, mm_u2_at])
          have hF3 : mm_Fr 0 _ _ := mm_Fr.u (x := mm_obj 0 2 [.ref ((ad 1 (T2.ho i) 0)), .int (nI (T2.fl i)), .int (nI ch), .int (nI (z.oc i))]) (mm_XP hX2 (i := i) (by omega))
          obtain ⟨σ3, eσ3⟩ : ∃ q, q = mm_u σ2 ((ad 2 i 0)) (mm_obj 0 2 [.ref ((ad 1 (T2.ho i) 0)), .int (nI (T2.fl i)), .int (nI ch), .int (nI (z.oc i))]) := ⟨_, rfl⟩
          obtain ⟨T3, eT3⟩ : ∃ q, q = (T2.w 6 (mm_u2 (T2 6) i 0 ch)) := ⟨_, rfl⟩
          rw [← eσ3] at hN
          have hX3 : mm_X σ3 T3 z ad := by rw [eσ3, eT3]; exact hX3
          have hF3 : mm_Fr 0 σ2 σ3 := by rw [eσ3]; exact hF3
          have hqnA3 : T3.nA = T2.nA := by rw [eT3]; rfl
          have hqnP3 : T3.nP = T2.nP := by rw [eT3]; rfl
          have hqnT3 : T3.nT = T2.nT := by rw [eT3]; rfl
          have hqnR3 : T3.nR = T2.nR := by rw [eT3]; rfl
          have hW3 : mm_WF T3 := by rw [eT3]; exact mm_F6 hW2 zch
          refine lv_aload_n (pc := 103) F.1 F.2.1 dX6_comesBack_103 rfl (lv_at hl 1 rfl) ?_
          refine lv_iload_n (pc := 104) F.1 F.2.1 dX6_comesBack_104 rfl (lv_at hl 2 rfl) ?_
          refine mm_runV (pc := 105) (As := [.int (nI k)]) (rest := []) F hN (c_runAt l b D hst T3 z ad σ3 hX3 hW3 k (by omega)) mw_971 mw_973 mw_p20 mw_1 mw_974 ⟨pmX6_runAt, (Nat.le_of_ble_eq_true rfl), (Nat.le_of_ble_eq_true rfl)⟩ (mm_recv F.2.2.2.2.2.1 hN (mm_X0 hX3) rfl) hl.1 rfl (Nat.le_of_ble_eq_true rfl) ⟨(Nat.le_of_ble_eq_true rfl), (Nat.le_of_ble_eq_true rfl)⟩ dX6_comesBack_105
            (fun E9 σ9 H9 l9 q9 ce9 hp9 hN9 hq9 hv9 hcl9 => mm_out F ht hN9 (absurd (show k < T3.nR by omega) hp9.2.1) hq9 hv9 hcl9 (Nat.le_of_ble_eq_true rfl) (Nat.le_of_ble_eq_true rfl))
            (fun v9 σ9 H locs hp9 hN => ?_)
          obtain ⟨hrn3, rfl, h9⟩ := hp9
          refine W.eq (g2 := F0 m 108 ls [.ref ((ad 5 k 0))]) rfl ?_
          refine W.widen (k := 3) (n := 18) (Nat.le_of_ble_eq_true rfl) (Nat.le_of_ble_eq_true rfl) ?_
          rw [h9] at hN
          have hcnt : mm_sm (fun c8 => mm_fa T3 ad k 6 ((mm_po (T3.oc k) (T3.rc k) (T3.rp k)).getD c8 0)) ((mm_po (T3.oc k) (T3.rc k) (T3.rp k)).map (fun p => ad 7 k p)).length = mm_sm (mm_u2 (T 19) k i 1 k) (T.rp k) := by
            rw [List.length_map, show T3.oc k = T.oc k from by rw [eT3, eT2]; rfl, show T3.rc k = T.rc k from by rw [eT3, eT2]; rfl, show T3.rp k = T.rp k from by rw [eT3, eT2]; rfl, show mm_fa T3 ad k 6 = mm_u2 (T 19) k i 1 k from by rw [eT3, eT2]; rfl, mm_po_sum (T.oc k) (T.rc k) (mm_u2 (T 19) k i 1 k)]
            refine mm_sm_congr (fun p hp => ?_)
            by_cases h : T.oc k p = 108
            · rw [if_pos h]
            · rw [if_neg h]
              obtain ⟨y1, y2, y3, y4, y5, y6, y7⟩ := wr4 p hp
              show 0 = (if k = k ∧ p = i then 1 else T.bk k p)
              rw [if_neg (fun q => h (by rw [q.2]; exact hb41))]
              have := mt y6 h
              omega
          refine mm_runV (pc := 108) (As := []) (rest := []) F hN (c_countBack l b D hst 0 (ad 5 k 0) (T3.rb k) (ad 6 k 0) (ad 6 k 1) (ad 6 k 2) ((mm_po (T3.oc k) (T3.rc k) (T3.rp k)).map (fun p => ad 7 k p)) (fun c9 c8 => mm_fa T3 ad k c9 ((mm_po (T3.oc k) (T3.rc k) (T3.rp k)).getD c8 0)) σ3 (mm_XR hX3 hrn3) (mm_XQ hX3 hrn3) (mm_X_po hX3 hW3 hrn3)) mw_980 mw_981 mw_982 mw_29 mw_983 ⟨pmX3_countBack, (Nat.le_of_ble_eq_true rfl), (Nat.le_of_ble_eq_true rfl)⟩ (mm_recv F.2.2.2.2.2.1 hN (mm_XR hX3 hrn3) rfl) hl.1 rfl (Nat.le_of_ble_eq_true rfl) ⟨(Nat.le_of_ble_eq_true rfl), (Nat.le_of_ble_eq_true rfl)⟩ dX6_comesBack_108
            (fun _ _ _ _ _ _ h9 => False.elim h9)
            (fun v9 σ9 H locs hp9 hN => ?_)
          obtain ⟨rfl, h9⟩ := hp9
          rw [h9] at hN
          refine W.eq (g2 := F0 m 111 ls [.int (nI (mm_sm (fun c8 => mm_fa T3 ad k 6 ((mm_po (T3.oc k) (T3.rc k) (T3.rp k)).getD c8 0)) ((mm_po (T3.oc k) (T3.rc k) (T3.rp k)).map (fun p => ad 7 k p)).length))]) rfl ?_
          refine W.widen (k := 3) (n := 18) (Nat.le_of_ble_eq_true rfl) (Nat.le_of_ble_eq_true rfl) ?_
          exact mm_iret (pc := 111) F hr hN (⟨by unfold mm_q_comesBack; (repeat' split) <;> omega, congrArg (fun q => some (Value.int (nI q))) hcnt, z, ad, mm_XeT hX3 (by rw [eT3, eT2, if_neg cz71]; rfl), rfl, hF2.tr hF3⟩) (Nat.le_of_ble_eq_true rfl) (Nat.le_of_ble_eq_true rfl) dX6_comesBack_111
        ·
          refine lv_aload (pc := 74) F.1 F.2.1 dX6_comesBack_74 (lv_at hl 0 rfl) ?_
          refine mm_get (pc := 76) F hN (mm_XN hX2 (i := k) (j := i) (by omega) (by omega)) (ci := 1) rfl 1 (by decide) mw_627 rfl dX6_comesBack_76 ?_
          refine mm_get (pc := 79) F hN (mm_XP hX2 (i := i) (by omega)) (ci := 2) rfl 0 (by decide) mw_403 rfl dX6_comesBack_79 ?_
          refine lv_dup (pc := 82) F.1 F.2.1 dX6_comesBack_82 rfl ?_
          refine mm_get (pc := 83) F hN (mm_XA hX2 (i := (T2.ho i)) (by omega)) (ci := 0) rfl 2 (by decide) mw_227 rfl dX6_comesBack_83 ?_
          refine lv_iconst (pc := 86) (v := nI 1) F.1 F.2.1 dX6_comesBack_86 (by decide) ?_
          refine mm_iadd (pc := 87) F (z := nI ((T2.sk (T2.ho i)) + 1)) (nI_add _ _) dX6_comesBack_87 ?_
          refine mm_put (pc := 88) F hN (mm_XA hX2 (i := (T2.ho i)) (by omega)) (ci := 0) rfl 2 (by decide) mw_227 rfl (ty := .int) (by decide +kernel) (rfl) (rfl) (Nat.le_of_ble_eq_true rfl) dX6_comesBack_88 (fun H locs hN => ?_)
          have hN : mm_N b D s (mm_u σ2 ((ad 1 (T2.ho i) 0)) (mm_obj 0 0 [.int (nI (T2.ho i)), .int (nI (T2.co (T2.ho i))), .int (nI ((T2.sk (T2.ho i)) + 1)), .int (nI (T2.go (T2.ho i))), .int (nI (z.sk (T2.ho i))), .int (nI (z.sv (T2.ho i)))])) _ _ := hN
          have hX3 := mm_X_set hX2 (k := 1) (i := T2.ho i) (j := 0) ⟨by omega, rfl⟩ (T' := (T2.w 2 (mm_u2 (T2 2) (T2.ho i) 0 (T2.sk (T2.ho i) + 1)))) (z' := z) rfl mm_w2 (x := mm_O 0 [.int (nI (T2.ho i)), .int (nI (T2.co (T2.ho i))), .int (nI ((T2.sk (T2.ho i)) + 1)), .int (nI (T2.go (T2.ho i))), .int (nI (z.sk (T2.ho i))), .int (nI (z.sv (T2.ho i)))]) (by rw [show mm_ct (T2.w 2 (mm_u2 (T2 2) (T2.ho i) 0 (T2.sk (T2.ho i) + 1))) z ad 1 (T2.ho i) 0 = mm_O 0 [.int (nI (T2.ho i)), .int (nI (T2.co (T2.ho i))), .int (nI (mm_u2 (T2 2) (T2.ho i) 0 (T2.sk (T2.ho i) + 1) (T2.ho i) 0)), .int (nI (T2.go (T2.ho i))), .int (nI (z.sk (T2.ho i))), .int (nI (z.sv (T2.ho i)))] from rfl, mm_u2_at])
          have hF3 : mm_Fr 0 _ _ := mm_Fr.u (x := mm_obj 0 0 [.int (nI (T2.ho i)), .int (nI (T2.co (T2.ho i))), .int (nI ((T2.sk (T2.ho i)) + 1)), .int (nI (T2.go (T2.ho i))), .int (nI (z.sk (T2.ho i))), .int (nI (z.sv (T2.ho i)))]) (mm_XA hX2 (i := T2.ho i) (by omega))
          obtain ⟨σ3, eσ3⟩ : ∃ q, q = mm_u σ2 ((ad 1 (T2.ho i) 0)) (mm_obj 0 0 [.int (nI (T2.ho i)), .int (nI (T2.co (T2.ho i))), .int (nI ((T2.sk (T2.ho i)) + 1)), .int (nI (T2.go (T2.ho i))), .int (nI (z.sk (T2.ho i))), .int (nI (z.sv (T2.ho i)))]) := ⟨_, rfl⟩
          obtain ⟨T3, eT3⟩ : ∃ q, q = (T2.w 2 (mm_u2 (T2 2) (T2.ho i) 0 (T2.sk (T2.ho i) + 1))) := ⟨_, rfl⟩
          rw [← eσ3] at hN
          have hX3 : mm_X σ3 T3 z ad := by rw [eσ3, eT3]; exact hX3
          have hF3 : mm_Fr 0 σ2 σ3 := by rw [eσ3]; exact hF3
          have hqnA3 : T3.nA = T2.nA := by rw [eT3]; rfl
          have hqnP3 : T3.nP = T2.nP := by rw [eT3]; rfl
          have hqnT3 : T3.nT = T2.nT := by rw [eT3]; rfl
          have hqnR3 : T3.nR = T2.nR := by rw [eT3]; rfl
          have hW3 : mm_WF T3 := by rw [eT3]; exact mm_F2 hW2 (by omega)
          refine lv_goto (pc := 91) (tgt := 103) F.1 F.2.1 dX6_comesBack_91 (by decide) ?_
          refine lv_aload_n (pc := 103) F.1 F.2.1 dX6_comesBack_103 rfl (lv_at hl 1 rfl) ?_
          refine lv_iload_n (pc := 104) F.1 F.2.1 dX6_comesBack_104 rfl (lv_at hl 2 rfl) ?_
          refine mm_runV (pc := 105) (As := [.int (nI k)]) (rest := []) F hN (c_runAt l b D hst T3 z ad σ3 hX3 hW3 k (by omega)) mw_971 mw_973 mw_p20 mw_1 mw_974 ⟨pmX6_runAt, (Nat.le_of_ble_eq_true rfl), (Nat.le_of_ble_eq_true rfl)⟩ (mm_recv F.2.2.2.2.2.1 hN (mm_X0 hX3) rfl) hl.1 rfl (Nat.le_of_ble_eq_true rfl) ⟨(Nat.le_of_ble_eq_true rfl), (Nat.le_of_ble_eq_true rfl)⟩ dX6_comesBack_105
            (fun E9 σ9 H9 l9 q9 ce9 hp9 hN9 hq9 hv9 hcl9 => mm_out F ht hN9 (absurd (show k < T3.nR by omega) hp9.2.1) hq9 hv9 hcl9 (Nat.le_of_ble_eq_true rfl) (Nat.le_of_ble_eq_true rfl))
            (fun v9 σ9 H locs hp9 hN => ?_)
          obtain ⟨hrn3, rfl, h9⟩ := hp9
          refine W.eq (g2 := F0 m 108 ls [.ref ((ad 5 k 0))]) rfl ?_
          refine W.widen (k := 3) (n := 18) (Nat.le_of_ble_eq_true rfl) (Nat.le_of_ble_eq_true rfl) ?_
          rw [h9] at hN
          have hcnt : mm_sm (fun c8 => mm_fa T3 ad k 6 ((mm_po (T3.oc k) (T3.rc k) (T3.rp k)).getD c8 0)) ((mm_po (T3.oc k) (T3.rc k) (T3.rp k)).map (fun p => ad 7 k p)).length = mm_sm (mm_u2 (T 19) k i 1 k) (T.rp k) := by
            rw [List.length_map, show T3.oc k = T.oc k from by rw [eT3, eT2]; rfl, show T3.rc k = T.rc k from by rw [eT3, eT2]; rfl, show T3.rp k = T.rp k from by rw [eT3, eT2]; rfl, show mm_fa T3 ad k 6 = mm_u2 (T 19) k i 1 k from by rw [eT3, eT2]; rfl, mm_po_sum (T.oc k) (T.rc k) (mm_u2 (T 19) k i 1 k)]
            refine mm_sm_congr (fun p hp => ?_)
            by_cases h : T.oc k p = 108
            · rw [if_pos h]
            · rw [if_neg h]
              obtain ⟨y1, y2, y3, y4, y5, y6, y7⟩ := wr4 p hp
              show 0 = (if k = k ∧ p = i then 1 else T.bk k p)
              rw [if_neg (fun q => h (by rw [q.2]; exact hb41))]
              have := mt y6 h
              omega
          refine mm_runV (pc := 108) (As := []) (rest := []) F hN (c_countBack l b D hst 0 (ad 5 k 0) (T3.rb k) (ad 6 k 0) (ad 6 k 1) (ad 6 k 2) ((mm_po (T3.oc k) (T3.rc k) (T3.rp k)).map (fun p => ad 7 k p)) (fun c9 c8 => mm_fa T3 ad k c9 ((mm_po (T3.oc k) (T3.rc k) (T3.rp k)).getD c8 0)) σ3 (mm_XR hX3 hrn3) (mm_XQ hX3 hrn3) (mm_X_po hX3 hW3 hrn3)) mw_980 mw_981 mw_982 mw_29 mw_983 ⟨pmX3_countBack, (Nat.le_of_ble_eq_true rfl), (Nat.le_of_ble_eq_true rfl)⟩ (mm_recv F.2.2.2.2.2.1 hN (mm_XR hX3 hrn3) rfl) hl.1 rfl (Nat.le_of_ble_eq_true rfl) ⟨(Nat.le_of_ble_eq_true rfl), (Nat.le_of_ble_eq_true rfl)⟩ dX6_comesBack_108
            (fun _ _ _ _ _ _ h9 => False.elim h9)
            (fun v9 σ9 H locs hp9 hN => ?_)
          obtain ⟨rfl, h9⟩ := hp9
          rw [h9] at hN
          refine W.eq (g2 := F0 m 111 ls [.int (nI (mm_sm (fun c8 => mm_fa T3 ad k 6 ((mm_po (T3.oc k) (T3.rc k) (T3.rp k)).getD c8 0)) ((mm_po (T3.oc k) (T3.rc k) (T3.rp k)).map (fun p => ad 7 k p)).length))]) rfl ?_
          refine W.widen (k := 3) (n := 18) (Nat.le_of_ble_eq_true rfl) (Nat.le_of_ble_eq_true rfl) ?_
          exact mm_iret (pc := 111) F hr hN (⟨by unfold mm_q_comesBack; (repeat' split) <;> omega, congrArg (fun q => some (Value.int (nI q))) hcnt, z, ad, mm_XeT hX3 (by rw [eT3, eT2, if_pos cz71]; rfl), rfl, hF2.tr hF3⟩) (Nat.le_of_ble_eq_true rfl) (Nat.le_of_ble_eq_true rfl) dX6_comesBack_111
      ·
        exact mm_throw F ht hN (by decide) (mm_tISE mw_210) mw_200 mw_20 (List.mem_of_getElem? (i := 20) rfl) hl.1 dX6_comesBack_52 dX6_comesBack_55 dX6_comesBack_56 dX6_comesBack_58 dX6_comesBack_61 ⟨(Nat.le_of_ble_eq_true rfl), (Nat.le_of_ble_eq_true rfl), (Nat.le_of_ble_eq_true rfl), (Nat.le_of_ble_eq_true rfl)⟩ (⟨Or.inr (Or.inr (⟨by unfold mm_q_comesBack; (repeat' split) <;> omega, rfl⟩)), mm_Xt.rf hX rfl⟩) (Nat.le_of_ble_eq_true rfl) (Nat.le_of_ble_eq_true rfl)
    ·
      refine W.eq (g2 := F0 m 41 ls [.int (nI 0)]) (by rw [if_neg hb41]) ?_
      refine mm_if_eq (pc := 41) F (tgt := 52) (by omega) dX6_comesBack_41 (by decide) (fun cz41 => ?_) (fun h9 => absurd h9 (by decide))
      exact mm_throw F ht hN (by decide) (mm_tISE mw_210) mw_200 mw_20 (List.mem_of_getElem? (i := 20) rfl) hl.1 dX6_comesBack_52 dX6_comesBack_55 dX6_comesBack_56 dX6_comesBack_58 dX6_comesBack_61 ⟨(Nat.le_of_ble_eq_true rfl), (Nat.le_of_ble_eq_true rfl), (Nat.le_of_ble_eq_true rfl), (Nat.le_of_ble_eq_true rfl)⟩ (⟨Or.inr (Or.inr (⟨by unfold mm_q_comesBack; (repeat' split) <;> omega, rfl⟩)), mm_Xt.rf hX rfl⟩) (Nat.le_of_ble_eq_true rfl) (Nat.le_of_ble_eq_true rfl)
  ·
    refine lv_iload_n (pc := 14) F.1 F.2.1 dX6_comesBack_14 rfl (lv_at hl 4 rfl) ?_
    refine lv_bipush (pc := 15) (v := nI 109) F.1 F.2.1 dX6_comesBack_15 (by decide) ?_
    refine mm_icmp_eq (pc := 17) F (x := ch) (y := 109) (tgt := 36) (by omega) (by omega) dX6_comesBack_17 (by decide) (fun cz17 => ?_) (fun cz17 => ?_)
    ·
      refine lv_aload (pc := 36) F.1 F.2.1 dX6_comesBack_36 (lv_at hl 0 rfl) ?_
      refine mm_runV (pc := 38) (As := []) (rest := []) F hN (c_isLet l b D hst 0 (ad 7 k i) (T.oc k i) (T.rc k i) (T.pg k i) (T.rt k i) (T.bk k i) _ _ σ (mm_XN hX hrn hpn) wp1) mw_978 mw_660 mw_661 mw_30 mw_662 ⟨pmX1_isLetter, (Nat.le_of_ble_eq_true rfl), (Nat.le_of_ble_eq_true rfl)⟩ (mm_recv F.2.2.2.2.2.1 hN (mm_XN hX hrn hpn) rfl) hl.1 rfl (Nat.le_of_ble_eq_true rfl) ⟨(Nat.le_of_ble_eq_true rfl), (Nat.le_of_ble_eq_true rfl)⟩ dX6_comesBack_38
        (fun _ _ _ _ _ _ h9 => False.elim h9)
        (fun v9 σ9 H locs hp9 hN => ?_)
      obtain ⟨rfl, h9⟩ := hp9
      rw [h9] at hN
      refine W.eq (g2 := F0 m 41 ls [.int (nI (if T.oc k i = 108 then 1 else 0))]) rfl ?_
      refine W.widen (k := 2) (n := 12) (Nat.le_of_ble_eq_true rfl) (Nat.le_of_ble_eq_true rfl) ?_
      by_cases hb41 : T.oc k i = 108
      ·
        refine W.eq (g2 := F0 m 41 ls [.int (nI 1)]) (by rw [if_pos hb41]) ?_
        refine mm_if_eq (pc := 41) F (tgt := 52) (by omega) dX6_comesBack_41 (by decide) (fun h9 => absurd h9 (by decide)) (fun cz41 => ?_)
        refine lv_aload (pc := 44) F.1 F.2.1 dX6_comesBack_44 (lv_at hl 0 rfl) ?_
        refine mm_get (pc := 46) F hN (mm_XN hX (i := k) (j := i) (by omega) (by omega)) (ci := 1) rfl 6 (by decide) mw_638 rfl dX6_comesBack_46 ?_
        refine mm_if_eq (pc := 49) F (tgt := 62) (by omega) dX6_comesBack_49 (by decide) (fun cz49 => ?_) (fun cz49 => ?_)
        ·
          refine lv_aload (pc := 62) F.1 F.2.1 dX6_comesBack_62 (lv_at hl 0 rfl) ?_
          refine lv_iconst (pc := 64) (v := nI 1) F.1 F.2.1 dX6_comesBack_64 (by decide) ?_
          refine mm_put (pc := 65) F hN (mm_XN hX (i := k) (j := i) (by omega) (by omega)) (ci := 1) rfl 6 (by decide) mw_638 rfl (ty := .boolean) (by decide +kernel) (mm_narZ (by decide)) (mm_fitZ (by decide)) (Nat.le_of_ble_eq_true rfl) dX6_comesBack_65 (fun H locs hN => ?_)
          have hN : mm_N b D s (mm_u σ ((ad 7 k i)) (mm_obj 0 1 [.int (nI i), .ref ((ad 2 i 0)), .int (nI (T.oc k i)), .int (nI (T.rc k i)), .int (nI (T.pg k i)), .int (nI (T.rt k i)), .int (nI 1)])) _ _ := hN
          have hX2 := mm_X_set hX (k := 7) (i := k) (j := i) ⟨hrn, hpn⟩ (T' := (T.w 19 (mm_u2 (T 19) k i 1))) (z' := z) rfl mm_w19 (x := mm_O 1 [.int (nI i), .ref ((ad 2 i 0)), .int (nI (T.oc k i)), .int (nI (T.rc k i)), .int (nI (T.pg k i)), .int (nI (T.rt k i)), .int (nI 1)]) (by rw [show mm_ct (T.w 19 (mm_u2 (T 19) k i 1)) z ad 7 k i = mm_O 1 [.int (nI i), .ref ((ad 2 i 0)), .int (nI (T.oc k i)), .int (nI (T.rc k i)), .int (nI (T.pg k i)), .int (nI (T.rt k i)), .int (nI (mm_u2 (T 19) k i 1 k i))] from rfl, mm_u2_at])
          have hF2 : mm_Fr 0 _ _ := mm_Fr.u (x := mm_obj 0 1 [.int (nI i), .ref ((ad 2 i 0)), .int (nI (T.oc k i)), .int (nI (T.rc k i)), .int (nI (T.pg k i)), .int (nI (T.rt k i)), .int (nI 1)]) (mm_XN hX hrn hpn)
          obtain ⟨σ2, eσ2⟩ : ∃ q, q = mm_u σ ((ad 7 k i)) (mm_obj 0 1 [.int (nI i), .ref ((ad 2 i 0)), .int (nI (T.oc k i)), .int (nI (T.rc k i)), .int (nI (T.pg k i)), .int (nI (T.rt k i)), .int (nI 1)]) := ⟨_, rfl⟩
          obtain ⟨T2, eT2⟩ : ∃ q, q = (T.w 19 (mm_u2 (T 19) k i 1)) := ⟨_, rfl⟩
          rw [← eσ2] at hN
          have hX2 : mm_X σ2 T2 z ad := by rw [eσ2, eT2]; exact hX2
          have hF2 : mm_Fr 0 σ σ2 := by rw [eσ2]; exact hF2
          have hqnA2 : T2.nA = T.nA := by rw [eT2]; rfl
          have hqnP2 : T2.nP = T.nP := by rw [eT2]; rfl
          have hqnT2 : T2.nT = T.nT := by rw [eT2]; rfl
          have hqnR2 : T2.nR = T.nR := by rw [eT2]; rfl
          have hqho : T2.ho i = T.ho i := by rw [eT2]; rfl
          have hqrp : T2.rp k = T.rp k := by rw [eT2]; rfl
          have hqre : T2.re i = T.re i := by rw [eT2]; rfl
          have hW2 : mm_WF T2 := by rw [eT2]; exact mm_F19 hW (by decide) hb41
          refine lv_iload_n (pc := 68) F.1 F.2.1 dX6_comesBack_68 rfl (lv_at hl 4 rfl) ?_
          refine lv_bipush (pc := 69) (v := nI 117) F.1 F.2.1 dX6_comesBack_69 (by decide) ?_
          refine mm_icmp_ne (pc := 71) F (x := ch) (y := 117) (tgt := 94) (by omega) (by omega) dX6_comesBack_71 (by decide) (fun cz71 => ?_) (fun cz71 => ?_)
          ·
            refine lv_aload (pc := 94) F.1 F.2.1 dX6_comesBack_94 (lv_at hl 0 rfl) ?_
            refine mm_get (pc := 96) F hN (mm_XN hX2 (i := k) (j := i) (by omega) (by omega)) (ci := 1) rfl 1 (by decide) mw_627 rfl dX6_comesBack_96 ?_
            refine lv_iload_n (pc := 99) F.1 F.2.1 dX6_comesBack_99 rfl (lv_at hl 4 rfl) ?_
            refine mm_put (pc := 100) F hN (mm_XP hX2 (i := i) (by omega)) (ci := 2) rfl 2 (by decide) mw_409 rfl (ty := .char) (by decide +kernel) (mm_narC zch) (mm_fitC zch) (Nat.le_of_ble_eq_true rfl) dX6_comesBack_100 (fun H locs hN => ?_)
            have hN : mm_N b D s (mm_u σ2 ((ad 2 i 0)) (mm_obj 0 2 [.ref ((ad 1 (T2.ho i) 0)), .int (nI (T2.fl i)), .int (nI ch), .int (nI (z.oc i))])) _ _ := hN
            have hX3 := mm_X_set hX2 (k := 2) (i := i) (j := 0) ⟨by omega, rfl⟩ (T' := (T2.w 6 (mm_u2 (T2 6) i 0 ch))) (z' := z) rfl mm_w6 (x := mm_O 2 [.ref ((ad 1 (T2.ho i) 0)), .int (nI (T2.fl i)), .int (nI ch), .int (nI (z.oc i))]) (by rw [show mm_ct (T2.w 6 (mm_u2 (T2 6) i 0 ch)) z ad 2 i 0 = mm_O 2 [.ref ((ad 1 (T2.ho i) 0)), .int (nI (T2.fl i)), .int (nI (mm_u2 (T2 6) i 0 ch i 0)), .int (nI (z.oc i))] from rfl, mm_u2_at])
            have hF3 : mm_Fr 0 _ _ := mm_Fr.u (x := mm_obj 0 2 [.ref ((ad 1 (T2.ho i) 0)), .int (nI (T2.fl i)), .int (nI ch), .int (nI (z.oc i))]) (mm_XP hX2 (i := i) (by omega))
            obtain ⟨σ3, eσ3⟩ : ∃ q, q = mm_u σ2 ((ad 2 i 0)) (mm_obj 0 2 [.ref ((ad 1 (T2.ho i) 0)), .int (nI (T2.fl i)), .int (nI ch), .int (nI (z.oc i))]) := ⟨_, rfl⟩
            obtain ⟨T3, eT3⟩ : ∃ q, q = (T2.w 6 (mm_u2 (T2 6) i 0 ch)) := ⟨_, rfl⟩
            rw [← eσ3] at hN
            have hX3 : mm_X σ3 T3 z ad := by rw [eσ3, eT3]; exact hX3
            have hF3 : mm_Fr 0 σ2 σ3 := by rw [eσ3]; exact hF3
            have hqnA3 : T3.nA = T2.nA := by rw [eT3]; rfl
            have hqnP3 : T3.nP = T2.nP := by rw [eT3]; rfl
            have hqnT3 : T3.nT = T2.nT := by rw [eT3]; rfl
            have hqnR3 : T3.nR = T2.nR := by rw [eT3]; rfl
            have hW3 : mm_WF T3 := by rw [eT3]; exact mm_F6 hW2 zch
            refine lv_aload_n (pc := 103) F.1 F.2.1 dX6_comesBack_103 rfl (lv_at hl 1 rfl) ?_
            refine lv_iload_n (pc := 104) F.1 F.2.1 dX6_comesBack_104 rfl (lv_at hl 2 rfl) ?_
            refine mm_runV (pc := 105) (As := [.int (nI k)]) (rest := []) F hN (c_runAt l b D hst T3 z ad σ3 hX3 hW3 k (by omega)) mw_971 mw_973 mw_p20 mw_1 mw_974 ⟨pmX6_runAt, (Nat.le_of_ble_eq_true rfl), (Nat.le_of_ble_eq_true rfl)⟩ (mm_recv F.2.2.2.2.2.1 hN (mm_X0 hX3) rfl) hl.1 rfl (Nat.le_of_ble_eq_true rfl) ⟨(Nat.le_of_ble_eq_true rfl), (Nat.le_of_ble_eq_true rfl)⟩ dX6_comesBack_105
              (fun E9 σ9 H9 l9 q9 ce9 hp9 hN9 hq9 hv9 hcl9 => mm_out F ht hN9 (absurd (show k < T3.nR by omega) hp9.2.1) hq9 hv9 hcl9 (Nat.le_of_ble_eq_true rfl) (Nat.le_of_ble_eq_true rfl))
              (fun v9 σ9 H locs hp9 hN => ?_)
            obtain ⟨hrn3, rfl, h9⟩ := hp9
            refine W.eq (g2 := F0 m 108 ls [.ref ((ad 5 k 0))]) rfl ?_
            refine W.widen (k := 3) (n := 18) (Nat.le_of_ble_eq_true rfl) (Nat.le_of_ble_eq_true rfl) ?_
            rw [h9] at hN
            have hcnt : mm_sm (fun c8 => mm_fa T3 ad k 6 ((mm_po (T3.oc k) (T3.rc k) (T3.rp k)).getD c8 0)) ((mm_po (T3.oc k) (T3.rc k) (T3.rp k)).map (fun p => ad 7 k p)).length = mm_sm (mm_u2 (T 19) k i 1 k) (T.rp k) := by
              rw [List.length_map, show T3.oc k = T.oc k from by rw [eT3, eT2]; rfl, show T3.rc k = T.rc k from by rw [eT3, eT2]; rfl, show T3.rp k = T.rp k from by rw [eT3, eT2]; rfl, show mm_fa T3 ad k 6 = mm_u2 (T 19) k i 1 k from by rw [eT3, eT2]; rfl, mm_po_sum (T.oc k) (T.rc k) (mm_u2 (T 19) k i 1 k)]
              refine mm_sm_congr (fun p hp => ?_)
              by_cases h : T.oc k p = 108
              · rw [if_pos h]
              · rw [if_neg h]
                obtain ⟨y1, y2, y3, y4, y5, y6, y7⟩ := wr4 p hp
                show 0 = (if k = k ∧ p = i then 1 else T.bk k p)
                rw [if_neg (fun q => h (by rw [q.2]; exact hb41))]
                have := mt y6 h
                omega
            refine mm_runV (pc := 108) (As := []) (rest := []) F hN (c_countBack l b D hst 0 (ad 5 k 0) (T3.rb k) (ad 6 k 0) (ad 6 k 1) (ad 6 k 2) ((mm_po (T3.oc k) (T3.rc k) (T3.rp k)).map (fun p => ad 7 k p)) (fun c9 c8 => mm_fa T3 ad k c9 ((mm_po (T3.oc k) (T3.rc k) (T3.rp k)).getD c8 0)) σ3 (mm_XR hX3 hrn3) (mm_XQ hX3 hrn3) (mm_X_po hX3 hW3 hrn3)) mw_980 mw_981 mw_982 mw_29 mw_983 ⟨pmX3_countBack, (Nat.le_of_ble_eq_true rfl), (Nat.le_of_ble_eq_true rfl)⟩ (mm_recv F.2.2.2.2.2.1 hN (mm_XR hX3 hrn3) rfl) hl.1 rfl (Nat.le_of_ble_eq_true rfl) ⟨(Nat.le_of_ble_eq_true rfl), (Nat.le_of_ble_eq_true rfl)⟩ dX6_comesBack_108
              (fun _ _ _ _ _ _ h9 => False.elim h9)
              (fun v9 σ9 H locs hp9 hN => ?_)
            obtain ⟨rfl, h9⟩ := hp9
            rw [h9] at hN
            refine W.eq (g2 := F0 m 111 ls [.int (nI (mm_sm (fun c8 => mm_fa T3 ad k 6 ((mm_po (T3.oc k) (T3.rc k) (T3.rp k)).getD c8 0)) ((mm_po (T3.oc k) (T3.rc k) (T3.rp k)).map (fun p => ad 7 k p)).length))]) rfl ?_
            refine W.widen (k := 3) (n := 18) (Nat.le_of_ble_eq_true rfl) (Nat.le_of_ble_eq_true rfl) ?_
            exact mm_iret (pc := 111) F hr hN (⟨by unfold mm_q_comesBack; (repeat' split) <;> omega, congrArg (fun q => some (Value.int (nI q))) hcnt, z, ad, mm_XeT hX3 (by rw [eT3, eT2, if_neg cz71]; rfl), rfl, hF2.tr hF3⟩) (Nat.le_of_ble_eq_true rfl) (Nat.le_of_ble_eq_true rfl) dX6_comesBack_111
          ·
            refine lv_aload (pc := 74) F.1 F.2.1 dX6_comesBack_74 (lv_at hl 0 rfl) ?_
            refine mm_get (pc := 76) F hN (mm_XN hX2 (i := k) (j := i) (by omega) (by omega)) (ci := 1) rfl 1 (by decide) mw_627 rfl dX6_comesBack_76 ?_
            refine mm_get (pc := 79) F hN (mm_XP hX2 (i := i) (by omega)) (ci := 2) rfl 0 (by decide) mw_403 rfl dX6_comesBack_79 ?_
            refine lv_dup (pc := 82) F.1 F.2.1 dX6_comesBack_82 rfl ?_
            refine mm_get (pc := 83) F hN (mm_XA hX2 (i := (T2.ho i)) (by omega)) (ci := 0) rfl 2 (by decide) mw_227 rfl dX6_comesBack_83 ?_
            refine lv_iconst (pc := 86) (v := nI 1) F.1 F.2.1 dX6_comesBack_86 (by decide) ?_
            refine mm_iadd (pc := 87) F (z := nI ((T2.sk (T2.ho i)) + 1)) (nI_add _ _) dX6_comesBack_87 ?_
            refine mm_put (pc := 88) F hN (mm_XA hX2 (i := (T2.ho i)) (by omega)) (ci := 0) rfl 2 (by decide) mw_227 rfl (ty := .int) (by decide +kernel) (rfl) (rfl) (Nat.le_of_ble_eq_true rfl) dX6_comesBack_88 (fun H locs hN => ?_)
            have hN : mm_N b D s (mm_u σ2 ((ad 1 (T2.ho i) 0)) (mm_obj 0 0 [.int (nI (T2.ho i)), .int (nI (T2.co (T2.ho i))), .int (nI ((T2.sk (T2.ho i)) + 1)), .int (nI (T2.go (T2.ho i))), .int (nI (z.sk (T2.ho i))), .int (nI (z.sv (T2.ho i)))])) _ _ := hN
            have hX3 := mm_X_set hX2 (k := 1) (i := T2.ho i) (j := 0) ⟨by omega, rfl⟩ (T' := (T2.w 2 (mm_u2 (T2 2) (T2.ho i) 0 (T2.sk (T2.ho i) + 1)))) (z' := z) rfl mm_w2 (x := mm_O 0 [.int (nI (T2.ho i)), .int (nI (T2.co (T2.ho i))), .int (nI ((T2.sk (T2.ho i)) + 1)), .int (nI (T2.go (T2.ho i))), .int (nI (z.sk (T2.ho i))), .int (nI (z.sv (T2.ho i)))]) (by rw [show mm_ct (T2.w 2 (mm_u2 (T2 2) (T2.ho i) 0 (T2.sk (T2.ho i) + 1))) z ad 1 (T2.ho i) 0 = mm_O 0 [.int (nI (T2.ho i)), .int (nI (T2.co (T2.ho i))), .int (nI (mm_u2 (T2 2) (T2.ho i) 0 (T2.sk (T2.ho i) + 1) (T2.ho i) 0)), .int (nI (T2.go (T2.ho i))), .int (nI (z.sk (T2.ho i))), .int (nI (z.sv (T2.ho i)))] from rfl, mm_u2_at])
            have hF3 : mm_Fr 0 _ _ := mm_Fr.u (x := mm_obj 0 0 [.int (nI (T2.ho i)), .int (nI (T2.co (T2.ho i))), .int (nI ((T2.sk (T2.ho i)) + 1)), .int (nI (T2.go (T2.ho i))), .int (nI (z.sk (T2.ho i))), .int (nI (z.sv (T2.ho i)))]) (mm_XA hX2 (i := T2.ho i) (by omega))
            obtain ⟨σ3, eσ3⟩ : ∃ q, q = mm_u σ2 ((ad 1 (T2.ho i) 0)) (mm_obj 0 0 [.int (nI (T2.ho i)), .int (nI (T2.co (T2.ho i))), .int (nI ((T2.sk (T2.ho i)) + 1)), .int (nI (T2.go (T2.ho i))), .int (nI (z.sk (T2.ho i))), .int (nI (z.sv (T2.ho i)))]) := ⟨_, rfl⟩
            obtain ⟨T3, eT3⟩ : ∃ q, q = (T2.w 2 (mm_u2 (T2 2) (T2.ho i) 0 (T2.sk (T2.ho i) + 1))) := ⟨_, rfl⟩
            rw [← eσ3] at hN
            have hX3 : mm_X σ3 T3 z ad := by rw [eσ3, eT3]; exact hX3
            have hF3 : mm_Fr 0 σ2 σ3 := by rw [eσ3]; exact hF3
            have hqnA3 : T3.nA = T2.nA := by rw [eT3]; rfl
            have hqnP3 : T3.nP = T2.nP := by rw [eT3]; rfl
            have hqnT3 : T3.nT = T2.nT := by rw [eT3]; rfl
            have hqnR3 : T3.nR = T2.nR := by rw [eT3]; rfl
            have hW3 : mm_WF T3 := by rw [eT3]; exact mm_F2 hW2 (by omega)
            refine lv_goto (pc := 91) (tgt := 103) F.1 F.2.1 dX6_comesBack_91 (by decide) ?_
            refine lv_aload_n (pc := 103) F.1 F.2.1 dX6_comesBack_103 rfl (lv_at hl 1 rfl) ?_
            refine lv_iload_n (pc := 104) F.1 F.2.1 dX6_comesBack_104 rfl (lv_at hl 2 rfl) ?_
            refine mm_runV (pc := 105) (As := [.int (nI k)]) (rest := []) F hN (c_runAt l b D hst T3 z ad σ3 hX3 hW3 k (by omega)) mw_971 mw_973 mw_p20 mw_1 mw_974 ⟨pmX6_runAt, (Nat.le_of_ble_eq_true rfl), (Nat.le_of_ble_eq_true rfl)⟩ (mm_recv F.2.2.2.2.2.1 hN (mm_X0 hX3) rfl) hl.1 rfl (Nat.le_of_ble_eq_true rfl) ⟨(Nat.le_of_ble_eq_true rfl), (Nat.le_of_ble_eq_true rfl)⟩ dX6_comesBack_105
              (fun E9 σ9 H9 l9 q9 ce9 hp9 hN9 hq9 hv9 hcl9 => mm_out F ht hN9 (absurd (show k < T3.nR by omega) hp9.2.1) hq9 hv9 hcl9 (Nat.le_of_ble_eq_true rfl) (Nat.le_of_ble_eq_true rfl))
              (fun v9 σ9 H locs hp9 hN => ?_)
            obtain ⟨hrn3, rfl, h9⟩ := hp9
            refine W.eq (g2 := F0 m 108 ls [.ref ((ad 5 k 0))]) rfl ?_
            refine W.widen (k := 3) (n := 18) (Nat.le_of_ble_eq_true rfl) (Nat.le_of_ble_eq_true rfl) ?_
            rw [h9] at hN
            have hcnt : mm_sm (fun c8 => mm_fa T3 ad k 6 ((mm_po (T3.oc k) (T3.rc k) (T3.rp k)).getD c8 0)) ((mm_po (T3.oc k) (T3.rc k) (T3.rp k)).map (fun p => ad 7 k p)).length = mm_sm (mm_u2 (T 19) k i 1 k) (T.rp k) := by
              rw [List.length_map, show T3.oc k = T.oc k from by rw [eT3, eT2]; rfl, show T3.rc k = T.rc k from by rw [eT3, eT2]; rfl, show T3.rp k = T.rp k from by rw [eT3, eT2]; rfl, show mm_fa T3 ad k 6 = mm_u2 (T 19) k i 1 k from by rw [eT3, eT2]; rfl, mm_po_sum (T.oc k) (T.rc k) (mm_u2 (T 19) k i 1 k)]
              refine mm_sm_congr (fun p hp => ?_)
              by_cases h : T.oc k p = 108
              · rw [if_pos h]
              · rw [if_neg h]
                obtain ⟨y1, y2, y3, y4, y5, y6, y7⟩ := wr4 p hp
                show 0 = (if k = k ∧ p = i then 1 else T.bk k p)
                rw [if_neg (fun q => h (by rw [q.2]; exact hb41))]
                have := mt y6 h
                omega
            refine mm_runV (pc := 108) (As := []) (rest := []) F hN (c_countBack l b D hst 0 (ad 5 k 0) (T3.rb k) (ad 6 k 0) (ad 6 k 1) (ad 6 k 2) ((mm_po (T3.oc k) (T3.rc k) (T3.rp k)).map (fun p => ad 7 k p)) (fun c9 c8 => mm_fa T3 ad k c9 ((mm_po (T3.oc k) (T3.rc k) (T3.rp k)).getD c8 0)) σ3 (mm_XR hX3 hrn3) (mm_XQ hX3 hrn3) (mm_X_po hX3 hW3 hrn3)) mw_980 mw_981 mw_982 mw_29 mw_983 ⟨pmX3_countBack, (Nat.le_of_ble_eq_true rfl), (Nat.le_of_ble_eq_true rfl)⟩ (mm_recv F.2.2.2.2.2.1 hN (mm_XR hX3 hrn3) rfl) hl.1 rfl (Nat.le_of_ble_eq_true rfl) ⟨(Nat.le_of_ble_eq_true rfl), (Nat.le_of_ble_eq_true rfl)⟩ dX6_comesBack_108
              (fun _ _ _ _ _ _ h9 => False.elim h9)
              (fun v9 σ9 H locs hp9 hN => ?_)
            obtain ⟨rfl, h9⟩ := hp9
            rw [h9] at hN
            refine W.eq (g2 := F0 m 111 ls [.int (nI (mm_sm (fun c8 => mm_fa T3 ad k 6 ((mm_po (T3.oc k) (T3.rc k) (T3.rp k)).getD c8 0)) ((mm_po (T3.oc k) (T3.rc k) (T3.rp k)).map (fun p => ad 7 k p)).length))]) rfl ?_
            refine W.widen (k := 3) (n := 18) (Nat.le_of_ble_eq_true rfl) (Nat.le_of_ble_eq_true rfl) ?_
            exact mm_iret (pc := 111) F hr hN (⟨by unfold mm_q_comesBack; (repeat' split) <;> omega, congrArg (fun q => some (Value.int (nI q))) hcnt, z, ad, mm_XeT hX3 (by rw [eT3, eT2, if_pos cz71]; rfl), rfl, hF2.tr hF3⟩) (Nat.le_of_ble_eq_true rfl) (Nat.le_of_ble_eq_true rfl) dX6_comesBack_111
        ·
          exact mm_throw F ht hN (by decide) (mm_tISE mw_210) mw_200 mw_20 (List.mem_of_getElem? (i := 20) rfl) hl.1 dX6_comesBack_52 dX6_comesBack_55 dX6_comesBack_56 dX6_comesBack_58 dX6_comesBack_61 ⟨(Nat.le_of_ble_eq_true rfl), (Nat.le_of_ble_eq_true rfl), (Nat.le_of_ble_eq_true rfl), (Nat.le_of_ble_eq_true rfl)⟩ (⟨Or.inr (Or.inr (⟨by unfold mm_q_comesBack; (repeat' split) <;> omega, rfl⟩)), mm_Xt.rf hX rfl⟩) (Nat.le_of_ble_eq_true rfl) (Nat.le_of_ble_eq_true rfl)
      ·
        refine W.eq (g2 := F0 m 41 ls [.int (nI 0)]) (by rw [if_neg hb41]) ?_
        refine mm_if_eq (pc := 41) F (tgt := 52) (by omega) dX6_comesBack_41 (by decide) (fun cz41 => ?_) (fun h9 => absurd h9 (by decide))
        exact mm_throw F ht hN (by decide) (mm_tISE mw_210) mw_200 mw_20 (List.mem_of_getElem? (i := 20) rfl) hl.1 dX6_comesBack_52 dX6_comesBack_55 dX6_comesBack_56 dX6_comesBack_58 dX6_comesBack_61 ⟨(Nat.le_of_ble_eq_true rfl), (Nat.le_of_ble_eq_true rfl), (Nat.le_of_ble_eq_true rfl), (Nat.le_of_ble_eq_true rfl)⟩ (⟨Or.inr (Or.inr (⟨by unfold mm_q_comesBack; (repeat' split) <;> omega, rfl⟩)), mm_Xt.rf hX rfl⟩) (Nat.le_of_ble_eq_true rfl) (Nat.le_of_ble_eq_true rfl)
    ·
      refine lv_iload_n (pc := 20) F.1 F.2.1 dX6_comesBack_20 rfl (lv_at hl 4 rfl) ?_
      refine lv_bipush (pc := 21) (v := nI 100) F.1 F.2.1 dX6_comesBack_21 (by decide) ?_
      refine mm_icmp_eq (pc := 23) F (x := ch) (y := 100) (tgt := 36) (by omega) (by omega) dX6_comesBack_23 (by decide) (fun cz23 => ?_) (fun cz23 => ?_)
      ·
        refine lv_aload (pc := 36) F.1 F.2.1 dX6_comesBack_36 (lv_at hl 0 rfl) ?_
        refine mm_runV (pc := 38) (As := []) (rest := []) F hN (c_isLet l b D hst 0 (ad 7 k i) (T.oc k i) (T.rc k i) (T.pg k i) (T.rt k i) (T.bk k i) _ _ σ (mm_XN hX hrn hpn) wp1) mw_978 mw_660 mw_661 mw_30 mw_662 ⟨pmX1_isLetter, (Nat.le_of_ble_eq_true rfl), (Nat.le_of_ble_eq_true rfl)⟩ (mm_recv F.2.2.2.2.2.1 hN (mm_XN hX hrn hpn) rfl) hl.1 rfl (Nat.le_of_ble_eq_true rfl) ⟨(Nat.le_of_ble_eq_true rfl), (Nat.le_of_ble_eq_true rfl)⟩ dX6_comesBack_38
          (fun _ _ _ _ _ _ h9 => False.elim h9)
          (fun v9 σ9 H locs hp9 hN => ?_)
        obtain ⟨rfl, h9⟩ := hp9
        rw [h9] at hN
        refine W.eq (g2 := F0 m 41 ls [.int (nI (if T.oc k i = 108 then 1 else 0))]) rfl ?_
        refine W.widen (k := 2) (n := 12) (Nat.le_of_ble_eq_true rfl) (Nat.le_of_ble_eq_true rfl) ?_
        by_cases hb41 : T.oc k i = 108
        ·
          refine W.eq (g2 := F0 m 41 ls [.int (nI 1)]) (by rw [if_pos hb41]) ?_
          refine mm_if_eq (pc := 41) F (tgt := 52) (by omega) dX6_comesBack_41 (by decide) (fun h9 => absurd h9 (by decide)) (fun cz41 => ?_)
          refine lv_aload (pc := 44) F.1 F.2.1 dX6_comesBack_44 (lv_at hl 0 rfl) ?_
          refine mm_get (pc := 46) F hN (mm_XN hX (i := k) (j := i) (by omega) (by omega)) (ci := 1) rfl 6 (by decide) mw_638 rfl dX6_comesBack_46 ?_
          refine mm_if_eq (pc := 49) F (tgt := 62) (by omega) dX6_comesBack_49 (by decide) (fun cz49 => ?_) (fun cz49 => ?_)
          ·
            refine lv_aload (pc := 62) F.1 F.2.1 dX6_comesBack_62 (lv_at hl 0 rfl) ?_
            refine lv_iconst (pc := 64) (v := nI 1) F.1 F.2.1 dX6_comesBack_64 (by decide) ?_
            refine mm_put (pc := 65) F hN (mm_XN hX (i := k) (j := i) (by omega) (by omega)) (ci := 1) rfl 6 (by decide) mw_638 rfl (ty := .boolean) (by decide +kernel) (mm_narZ (by decide)) (mm_fitZ (by decide)) (Nat.le_of_ble_eq_true rfl) dX6_comesBack_65 (fun H locs hN => ?_)
            have hN : mm_N b D s (mm_u σ ((ad 7 k i)) (mm_obj 0 1 [.int (nI i), .ref ((ad 2 i 0)), .int (nI (T.oc k i)), .int (nI (T.rc k i)), .int (nI (T.pg k i)), .int (nI (T.rt k i)), .int (nI 1)])) _ _ := hN
            have hX2 := mm_X_set hX (k := 7) (i := k) (j := i) ⟨hrn, hpn⟩ (T' := (T.w 19 (mm_u2 (T 19) k i 1))) (z' := z) rfl mm_w19 (x := mm_O 1 [.int (nI i), .ref ((ad 2 i 0)), .int (nI (T.oc k i)), .int (nI (T.rc k i)), .int (nI (T.pg k i)), .int (nI (T.rt k i)), .int (nI 1)]) (by rw [show mm_ct (T.w 19 (mm_u2 (T 19) k i 1)) z ad 7 k i = mm_O 1 [.int (nI i), .ref ((ad 2 i 0)), .int (nI (T.oc k i)), .int (nI (T.rc k i)), .int (nI (T.pg k i)), .int (nI (T.rt k i)), .int (nI (mm_u2 (T 19) k i 1 k i))] from rfl, mm_u2_at])
            have hF2 : mm_Fr 0 _ _ := mm_Fr.u (x := mm_obj 0 1 [.int (nI i), .ref ((ad 2 i 0)), .int (nI (T.oc k i)), .int (nI (T.rc k i)), .int (nI (T.pg k i)), .int (nI (T.rt k i)), .int (nI 1)]) (mm_XN hX hrn hpn)
            obtain ⟨σ2, eσ2⟩ : ∃ q, q = mm_u σ ((ad 7 k i)) (mm_obj 0 1 [.int (nI i), .ref ((ad 2 i 0)), .int (nI (T.oc k i)), .int (nI (T.rc k i)), .int (nI (T.pg k i)), .int (nI (T.rt k i)), .int (nI 1)]) := ⟨_, rfl⟩
            obtain ⟨T2, eT2⟩ : ∃ q, q = (T.w 19 (mm_u2 (T 19) k i 1)) := ⟨_, rfl⟩
            rw [← eσ2] at hN
            have hX2 : mm_X σ2 T2 z ad := by rw [eσ2, eT2]; exact hX2
            have hF2 : mm_Fr 0 σ σ2 := by rw [eσ2]; exact hF2
            have hqnA2 : T2.nA = T.nA := by rw [eT2]; rfl
            have hqnP2 : T2.nP = T.nP := by rw [eT2]; rfl
            have hqnT2 : T2.nT = T.nT := by rw [eT2]; rfl
            have hqnR2 : T2.nR = T.nR := by rw [eT2]; rfl
            have hqho : T2.ho i = T.ho i := by rw [eT2]; rfl
            have hqrp : T2.rp k = T.rp k := by rw [eT2]; rfl
            have hqre : T2.re i = T.re i := by rw [eT2]; rfl
            have hW2 : mm_WF T2 := by rw [eT2]; exact mm_F19 hW (by decide) hb41
            refine lv_iload_n (pc := 68) F.1 F.2.1 dX6_comesBack_68 rfl (lv_at hl 4 rfl) ?_
            refine lv_bipush (pc := 69) (v := nI 117) F.1 F.2.1 dX6_comesBack_69 (by decide) ?_
            refine mm_icmp_ne (pc := 71) F (x := ch) (y := 117) (tgt := 94) (by omega) (by omega) dX6_comesBack_71 (by decide) (fun cz71 => ?_) (fun cz71 => ?_)
            ·
              refine lv_aload (pc := 94) F.1 F.2.1 dX6_comesBack_94 (lv_at hl 0 rfl) ?_
              refine mm_get (pc := 96) F hN (mm_XN hX2 (i := k) (j := i) (by omega) (by omega)) (ci := 1) rfl 1 (by decide) mw_627 rfl dX6_comesBack_96 ?_
              refine lv_iload_n (pc := 99) F.1 F.2.1 dX6_comesBack_99 rfl (lv_at hl 4 rfl) ?_
              refine mm_put (pc := 100) F hN (mm_XP hX2 (i := i) (by omega)) (ci := 2) rfl 2 (by decide) mw_409 rfl (ty := .char) (by decide +kernel) (mm_narC zch) (mm_fitC zch) (Nat.le_of_ble_eq_true rfl) dX6_comesBack_100 (fun H locs hN => ?_)
              have hN : mm_N b D s (mm_u σ2 ((ad 2 i 0)) (mm_obj 0 2 [.ref ((ad 1 (T2.ho i) 0)), .int (nI (T2.fl i)), .int (nI ch), .int (nI (z.oc i))])) _ _ := hN
              have hX3 := mm_X_set hX2 (k := 2) (i := i) (j := 0) ⟨by omega, rfl⟩ (T' := (T2.w 6 (mm_u2 (T2 6) i 0 ch))) (z' := z) rfl mm_w6 (x := mm_O 2 [.ref ((ad 1 (T2.ho i) 0)), .int (nI (T2.fl i)), .int (nI ch), .int (nI (z.oc i))]) (by rw [show mm_ct (T2.w 6 (mm_u2 (T2 6) i 0 ch)) z ad 2 i 0 = mm_O 2 [.ref ((ad 1 (T2.ho i) 0)), .int (nI (T2.fl i)), .int (nI (mm_u2 (T2 6) i 0 ch i 0)), .int (nI (z.oc i))] from rfl, mm_u2_at])
              have hF3 : mm_Fr 0 _ _ := mm_Fr.u (x := mm_obj 0 2 [.ref ((ad 1 (T2.ho i) 0)), .int (nI (T2.fl i)), .int (nI ch), .int (nI (z.oc i))]) (mm_XP hX2 (i := i) (by omega))
              obtain ⟨σ3, eσ3⟩ : ∃ q, q = mm_u σ2 ((ad 2 i 0)) (mm_obj 0 2 [.ref ((ad 1 (T2.ho i) 0)), .int (nI (T2.fl i)), .int (nI ch), .int (nI (z.oc i))]) := ⟨_, rfl⟩
              obtain ⟨T3, eT3⟩ : ∃ q, q = (T2.w 6 (mm_u2 (T2 6) i 0 ch)) := ⟨_, rfl⟩
              rw [← eσ3] at hN
              have hX3 : mm_X σ3 T3 z ad := by rw [eσ3, eT3]; exact hX3
              have hF3 : mm_Fr 0 σ2 σ3 := by rw [eσ3]; exact hF3
              have hqnA3 : T3.nA = T2.nA := by rw [eT3]; rfl
              have hqnP3 : T3.nP = T2.nP := by rw [eT3]; rfl
              have hqnT3 : T3.nT = T2.nT := by rw [eT3]; rfl
              have hqnR3 : T3.nR = T2.nR := by rw [eT3]; rfl
              have hW3 : mm_WF T3 := by rw [eT3]; exact mm_F6 hW2 zch
              refine lv_aload_n (pc := 103) F.1 F.2.1 dX6_comesBack_103 rfl (lv_at hl 1 rfl) ?_
              refine lv_iload_n (pc := 104) F.1 F.2.1 dX6_comesBack_104 rfl (lv_at hl 2 rfl) ?_
              refine mm_runV (pc := 105) (As := [.int (nI k)]) (rest := []) F hN (c_runAt l b D hst T3 z ad σ3 hX3 hW3 k (by omega)) mw_971 mw_973 mw_p20 mw_1 mw_974 ⟨pmX6_runAt, (Nat.le_of_ble_eq_true rfl), (Nat.le_of_ble_eq_true rfl)⟩ (mm_recv F.2.2.2.2.2.1 hN (mm_X0 hX3) rfl) hl.1 rfl (Nat.le_of_ble_eq_true rfl) ⟨(Nat.le_of_ble_eq_true rfl), (Nat.le_of_ble_eq_true rfl)⟩ dX6_comesBack_105
                (fun E9 σ9 H9 l9 q9 ce9 hp9 hN9 hq9 hv9 hcl9 => mm_out F ht hN9 (absurd (show k < T3.nR by omega) hp9.2.1) hq9 hv9 hcl9 (Nat.le_of_ble_eq_true rfl) (Nat.le_of_ble_eq_true rfl))
                (fun v9 σ9 H locs hp9 hN => ?_)
              obtain ⟨hrn3, rfl, h9⟩ := hp9
              refine W.eq (g2 := F0 m 108 ls [.ref ((ad 5 k 0))]) rfl ?_
              refine W.widen (k := 3) (n := 18) (Nat.le_of_ble_eq_true rfl) (Nat.le_of_ble_eq_true rfl) ?_
              rw [h9] at hN
              have hcnt : mm_sm (fun c8 => mm_fa T3 ad k 6 ((mm_po (T3.oc k) (T3.rc k) (T3.rp k)).getD c8 0)) ((mm_po (T3.oc k) (T3.rc k) (T3.rp k)).map (fun p => ad 7 k p)).length = mm_sm (mm_u2 (T 19) k i 1 k) (T.rp k) := by
                rw [List.length_map, show T3.oc k = T.oc k from by rw [eT3, eT2]; rfl, show T3.rc k = T.rc k from by rw [eT3, eT2]; rfl, show T3.rp k = T.rp k from by rw [eT3, eT2]; rfl, show mm_fa T3 ad k 6 = mm_u2 (T 19) k i 1 k from by rw [eT3, eT2]; rfl, mm_po_sum (T.oc k) (T.rc k) (mm_u2 (T 19) k i 1 k)]
                refine mm_sm_congr (fun p hp => ?_)
                by_cases h : T.oc k p = 108
                · rw [if_pos h]
                · rw [if_neg h]
                  obtain ⟨y1, y2, y3, y4, y5, y6, y7⟩ := wr4 p hp
                  show 0 = (if k = k ∧ p = i then 1 else T.bk k p)
                  rw [if_neg (fun q => h (by rw [q.2]; exact hb41))]
                  have := mt y6 h
                  omega
              refine mm_runV (pc := 108) (As := []) (rest := []) F hN (c_countBack l b D hst 0 (ad 5 k 0) (T3.rb k) (ad 6 k 0) (ad 6 k 1) (ad 6 k 2) ((mm_po (T3.oc k) (T3.rc k) (T3.rp k)).map (fun p => ad 7 k p)) (fun c9 c8 => mm_fa T3 ad k c9 ((mm_po (T3.oc k) (T3.rc k) (T3.rp k)).getD c8 0)) σ3 (mm_XR hX3 hrn3) (mm_XQ hX3 hrn3) (mm_X_po hX3 hW3 hrn3)) mw_980 mw_981 mw_982 mw_29 mw_983 ⟨pmX3_countBack, (Nat.le_of_ble_eq_true rfl), (Nat.le_of_ble_eq_true rfl)⟩ (mm_recv F.2.2.2.2.2.1 hN (mm_XR hX3 hrn3) rfl) hl.1 rfl (Nat.le_of_ble_eq_true rfl) ⟨(Nat.le_of_ble_eq_true rfl), (Nat.le_of_ble_eq_true rfl)⟩ dX6_comesBack_108
                (fun _ _ _ _ _ _ h9 => False.elim h9)
                (fun v9 σ9 H locs hp9 hN => ?_)
              obtain ⟨rfl, h9⟩ := hp9
              rw [h9] at hN
              refine W.eq (g2 := F0 m 111 ls [.int (nI (mm_sm (fun c8 => mm_fa T3 ad k 6 ((mm_po (T3.oc k) (T3.rc k) (T3.rp k)).getD c8 0)) ((mm_po (T3.oc k) (T3.rc k) (T3.rp k)).map (fun p => ad 7 k p)).length))]) rfl ?_
              refine W.widen (k := 3) (n := 18) (Nat.le_of_ble_eq_true rfl) (Nat.le_of_ble_eq_true rfl) ?_
              exact mm_iret (pc := 111) F hr hN (⟨by unfold mm_q_comesBack; (repeat' split) <;> omega, congrArg (fun q => some (Value.int (nI q))) hcnt, z, ad, mm_XeT hX3 (by rw [eT3, eT2, if_neg cz71]; rfl), rfl, hF2.tr hF3⟩) (Nat.le_of_ble_eq_true rfl) (Nat.le_of_ble_eq_true rfl) dX6_comesBack_111
            ·
              refine lv_aload (pc := 74) F.1 F.2.1 dX6_comesBack_74 (lv_at hl 0 rfl) ?_
              refine mm_get (pc := 76) F hN (mm_XN hX2 (i := k) (j := i) (by omega) (by omega)) (ci := 1) rfl 1 (by decide) mw_627 rfl dX6_comesBack_76 ?_
              refine mm_get (pc := 79) F hN (mm_XP hX2 (i := i) (by omega)) (ci := 2) rfl 0 (by decide) mw_403 rfl dX6_comesBack_79 ?_
              refine lv_dup (pc := 82) F.1 F.2.1 dX6_comesBack_82 rfl ?_
              refine mm_get (pc := 83) F hN (mm_XA hX2 (i := (T2.ho i)) (by omega)) (ci := 0) rfl 2 (by decide) mw_227 rfl dX6_comesBack_83 ?_
              refine lv_iconst (pc := 86) (v := nI 1) F.1 F.2.1 dX6_comesBack_86 (by decide) ?_
              refine mm_iadd (pc := 87) F (z := nI ((T2.sk (T2.ho i)) + 1)) (nI_add _ _) dX6_comesBack_87 ?_
              refine mm_put (pc := 88) F hN (mm_XA hX2 (i := (T2.ho i)) (by omega)) (ci := 0) rfl 2 (by decide) mw_227 rfl (ty := .int) (by decide +kernel) (rfl) (rfl) (Nat.le_of_ble_eq_true rfl) dX6_comesBack_88 (fun H locs hN => ?_)
              have hN : mm_N b D s (mm_u σ2 ((ad 1 (T2.ho i) 0)) (mm_obj 0 0 [.int (nI (T2.ho i)), .int (nI (T2.co (T2.ho i))), .int (nI ((T2.sk (T2.ho i)) + 1)), .int (nI (T2.go (T2.ho i))), .int (nI (z.sk (T2.ho i))), .int (nI (z.sv (T2.ho i)))])) _ _ := hN
              have hX3 := mm_X_set hX2 (k := 1) (i := T2.ho i) (j := 0) ⟨by omega, rfl⟩ (T' := (T2.w 2 (mm_u2 (T2 2) (T2.ho i) 0 (T2.sk (T2.ho i) + 1)))) (z' := z) rfl mm_w2 (x := mm_O 0 [.int (nI (T2.ho i)), .int (nI (T2.co (T2.ho i))), .int (nI ((T2.sk (T2.ho i)) + 1)), .int (nI (T2.go (T2.ho i))), .int (nI (z.sk (T2.ho i))), .int (nI (z.sv (T2.ho i)))]) (by rw [show mm_ct (T2.w 2 (mm_u2 (T2 2) (T2.ho i) 0 (T2.sk (T2.ho i) + 1))) z ad 1 (T2.ho i) 0 = mm_O 0 [.int (nI (T2.ho i)), .int (nI (T2.co (T2.ho i))), .int (nI (mm_u2 (T2 2) (T2.ho i) 0 (T2.sk (T2.ho i) + 1) (T2.ho i) 0)), .int (nI (T2.go (T2.ho i))), .int (nI (z.sk (T2.ho i))), .int (nI (z.sv (T2.ho i)))] from rfl, mm_u2_at])
              have hF3 : mm_Fr 0 _ _ := mm_Fr.u (x := mm_obj 0 0 [.int (nI (T2.ho i)), .int (nI (T2.co (T2.ho i))), .int (nI ((T2.sk (T2.ho i)) + 1)), .int (nI (T2.go (T2.ho i))), .int (nI (z.sk (T2.ho i))), .int (nI (z.sv (T2.ho i)))]) (mm_XA hX2 (i := T2.ho i) (by omega))
              obtain ⟨σ3, eσ3⟩ : ∃ q, q = mm_u σ2 ((ad 1 (T2.ho i) 0)) (mm_obj 0 0 [.int (nI (T2.ho i)), .int (nI (T2.co (T2.ho i))), .int (nI ((T2.sk (T2.ho i)) + 1)), .int (nI (T2.go (T2.ho i))), .int (nI (z.sk (T2.ho i))), .int (nI (z.sv (T2.ho i)))]) := ⟨_, rfl⟩
              obtain ⟨T3, eT3⟩ : ∃ q, q = (T2.w 2 (mm_u2 (T2 2) (T2.ho i) 0 (T2.sk (T2.ho i) + 1))) := ⟨_, rfl⟩
              rw [← eσ3] at hN
              have hX3 : mm_X σ3 T3 z ad := by rw [eσ3, eT3]; exact hX3
              have hF3 : mm_Fr 0 σ2 σ3 := by rw [eσ3]; exact hF3
              have hqnA3 : T3.nA = T2.nA := by rw [eT3]; rfl
              have hqnP3 : T3.nP = T2.nP := by rw [eT3]; rfl
              have hqnT3 : T3.nT = T2.nT := by rw [eT3]; rfl
              have hqnR3 : T3.nR = T2.nR := by rw [eT3]; rfl
              have hW3 : mm_WF T3 := by rw [eT3]; exact mm_F2 hW2 (by omega)
              refine lv_goto (pc := 91) (tgt := 103) F.1 F.2.1 dX6_comesBack_91 (by decide) ?_
              refine lv_aload_n (pc := 103) F.1 F.2.1 dX6_comesBack_103 rfl (lv_at hl 1 rfl) ?_
              refine lv_iload_n (pc := 104) F.1 F.2.1 dX6_comesBack_104 rfl (lv_at hl 2 rfl) ?_
              refine mm_runV (pc := 105) (As := [.int (nI k)]) (rest := []) F hN (c_runAt l b D hst T3 z ad σ3 hX3 hW3 k (by omega)) mw_971 mw_973 mw_p20 mw_1 mw_974 ⟨pmX6_runAt, (Nat.le_of_ble_eq_true rfl), (Nat.le_of_ble_eq_true rfl)⟩ (mm_recv F.2.2.2.2.2.1 hN (mm_X0 hX3) rfl) hl.1 rfl (Nat.le_of_ble_eq_true rfl) ⟨(Nat.le_of_ble_eq_true rfl), (Nat.le_of_ble_eq_true rfl)⟩ dX6_comesBack_105
                (fun E9 σ9 H9 l9 q9 ce9 hp9 hN9 hq9 hv9 hcl9 => mm_out F ht hN9 (absurd (show k < T3.nR by omega) hp9.2.1) hq9 hv9 hcl9 (Nat.le_of_ble_eq_true rfl) (Nat.le_of_ble_eq_true rfl))
                (fun v9 σ9 H locs hp9 hN => ?_)
              obtain ⟨hrn3, rfl, h9⟩ := hp9
              refine W.eq (g2 := F0 m 108 ls [.ref ((ad 5 k 0))]) rfl ?_
              refine W.widen (k := 3) (n := 18) (Nat.le_of_ble_eq_true rfl) (Nat.le_of_ble_eq_true rfl) ?_
              rw [h9] at hN
              have hcnt : mm_sm (fun c8 => mm_fa T3 ad k 6 ((mm_po (T3.oc k) (T3.rc k) (T3.rp k)).getD c8 0)) ((mm_po (T3.oc k) (T3.rc k) (T3.rp k)).map (fun p => ad 7 k p)).length = mm_sm (mm_u2 (T 19) k i 1 k) (T.rp k) := by
                rw [List.length_map, show T3.oc k = T.oc k from by rw [eT3, eT2]; rfl, show T3.rc k = T.rc k from by rw [eT3, eT2]; rfl, show T3.rp k = T.rp k from by rw [eT3, eT2]; rfl, show mm_fa T3 ad k 6 = mm_u2 (T 19) k i 1 k from by rw [eT3, eT2]; rfl, mm_po_sum (T.oc k) (T.rc k) (mm_u2 (T 19) k i 1 k)]
                refine mm_sm_congr (fun p hp => ?_)
                by_cases h : T.oc k p = 108
                · rw [if_pos h]
                · rw [if_neg h]
                  obtain ⟨y1, y2, y3, y4, y5, y6, y7⟩ := wr4 p hp
                  show 0 = (if k = k ∧ p = i then 1 else T.bk k p)
                  rw [if_neg (fun q => h (by rw [q.2]; exact hb41))]
                  have := mt y6 h
                  omega
              refine mm_runV (pc := 108) (As := []) (rest := []) F hN (c_countBack l b D hst 0 (ad 5 k 0) (T3.rb k) (ad 6 k 0) (ad 6 k 1) (ad 6 k 2) ((mm_po (T3.oc k) (T3.rc k) (T3.rp k)).map (fun p => ad 7 k p)) (fun c9 c8 => mm_fa T3 ad k c9 ((mm_po (T3.oc k) (T3.rc k) (T3.rp k)).getD c8 0)) σ3 (mm_XR hX3 hrn3) (mm_XQ hX3 hrn3) (mm_X_po hX3 hW3 hrn3)) mw_980 mw_981 mw_982 mw_29 mw_983 ⟨pmX3_countBack, (Nat.le_of_ble_eq_true rfl), (Nat.le_of_ble_eq_true rfl)⟩ (mm_recv F.2.2.2.2.2.1 hN (mm_XR hX3 hrn3) rfl) hl.1 rfl (Nat.le_of_ble_eq_true rfl) ⟨(Nat.le_of_ble_eq_true rfl), (Nat.le_of_ble_eq_true rfl)⟩ dX6_comesBack_108
                (fun _ _ _ _ _ _ h9 => False.elim h9)
                (fun v9 σ9 H locs hp9 hN => ?_)
              obtain ⟨rfl, h9⟩ := hp9
              rw [h9] at hN
              refine W.eq (g2 := F0 m 111 ls [.int (nI (mm_sm (fun c8 => mm_fa T3 ad k 6 ((mm_po (T3.oc k) (T3.rc k) (T3.rp k)).getD c8 0)) ((mm_po (T3.oc k) (T3.rc k) (T3.rp k)).map (fun p => ad 7 k p)).length))]) rfl ?_
              refine W.widen (k := 3) (n := 18) (Nat.le_of_ble_eq_true rfl) (Nat.le_of_ble_eq_true rfl) ?_
              exact mm_iret (pc := 111) F hr hN (⟨by unfold mm_q_comesBack; (repeat' split) <;> omega, congrArg (fun q => some (Value.int (nI q))) hcnt, z, ad, mm_XeT hX3 (by rw [eT3, eT2, if_pos cz71]; rfl), rfl, hF2.tr hF3⟩) (Nat.le_of_ble_eq_true rfl) (Nat.le_of_ble_eq_true rfl) dX6_comesBack_111
          ·
            exact mm_throw F ht hN (by decide) (mm_tISE mw_210) mw_200 mw_20 (List.mem_of_getElem? (i := 20) rfl) hl.1 dX6_comesBack_52 dX6_comesBack_55 dX6_comesBack_56 dX6_comesBack_58 dX6_comesBack_61 ⟨(Nat.le_of_ble_eq_true rfl), (Nat.le_of_ble_eq_true rfl), (Nat.le_of_ble_eq_true rfl), (Nat.le_of_ble_eq_true rfl)⟩ (⟨Or.inr (Or.inr (⟨by unfold mm_q_comesBack; (repeat' split) <;> omega, rfl⟩)), mm_Xt.rf hX rfl⟩) (Nat.le_of_ble_eq_true rfl) (Nat.le_of_ble_eq_true rfl)
        ·
          refine W.eq (g2 := F0 m 41 ls [.int (nI 0)]) (by rw [if_neg hb41]) ?_
          refine mm_if_eq (pc := 41) F (tgt := 52) (by omega) dX6_comesBack_41 (by decide) (fun cz41 => ?_) (fun h9 => absurd h9 (by decide))
          exact mm_throw F ht hN (by decide) (mm_tISE mw_210) mw_200 mw_20 (List.mem_of_getElem? (i := 20) rfl) hl.1 dX6_comesBack_52 dX6_comesBack_55 dX6_comesBack_56 dX6_comesBack_58 dX6_comesBack_61 ⟨(Nat.le_of_ble_eq_true rfl), (Nat.le_of_ble_eq_true rfl), (Nat.le_of_ble_eq_true rfl), (Nat.le_of_ble_eq_true rfl)⟩ (⟨Or.inr (Or.inr (⟨by unfold mm_q_comesBack; (repeat' split) <;> omega, rfl⟩)), mm_Xt.rf hX rfl⟩) (Nat.le_of_ble_eq_true rfl) (Nat.le_of_ble_eq_true rfl)
      ·
        exact mm_throw F ht hN (by decide) (mm_tIAE mw_170) mw_125 mw_15 (List.mem_of_getElem? (i := 19) rfl) hl.1 dX6_comesBack_26 dX6_comesBack_29 dX6_comesBack_30 dX6_comesBack_32 dX6_comesBack_35 ⟨(Nat.le_of_ble_eq_true rfl), (Nat.le_of_ble_eq_true rfl), (Nat.le_of_ble_eq_true rfl), (Nat.le_of_ble_eq_true rfl)⟩ (⟨Or.inr (Or.inl (⟨by unfold mm_q_comesBack; (repeat' split) <;> omega, rfl⟩)), mm_Xt.rf hX rfl⟩) (Nat.le_of_ble_eq_true rfl) (Nat.le_of_ble_eq_true rfl)

