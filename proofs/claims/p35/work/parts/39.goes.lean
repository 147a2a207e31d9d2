theorem mm_oc_lt (T : mm_T) (t hh p : Nat) : mm_oc T t hh p < 65536 := by
  unfold mm_oc mm_obs
  repeat' split
  all_goals first | decide | (exfalso; simp_all; done)
set_option maxHeartbeats 4000000 in
set_option maxRecDepth 100000 in
theorem c_goes (l : Launch) (b : Nat) (D : mm_D) (hst : l.stackTraces = false) (T : mm_T) (z : mm_Z) (ad : Nat → Nat → Nat → Nat) (σ : mm_S) (hX : mm_X σ T z ad) (hW : mm_WF T) (t hh : Nat) (ht2 : t < T.nT) (hh2 : hh < 2) : mm_K l b D yX6_goThroughPeople (.code yX6_goThroughPeople cX6_goThroughPeople 5 none) ({ frames := 5, cells := 0, slots := 0, locals := 130 } : Room) [.ref ((ad 0 0 0)), .ref ((ad 3 t 0)), .int (nI hh)] σ
    (fun v σ2 => v = none ∧ ∃ z2 : mm_Z, mm_X σ2 T z2 ad ∧ mm_Fr 0 σ σ2 ∧ mm_dI T t hh T.nP z2 ∧ ∀ p, p < T.nP → z2 3 p = mm_oc T t hh p)
    (fun _ _ => False) := by
  refine mm_of (cc := cX6_goThroughPeople) (nL := 5) (ret := none) (by decide) rfl (Nat.le_of_ble_eq_true rfl) hst ?_
  intro p e s m args below meth c ls F ht hr hin hN hl
  have hl : lv_has ls 5 [(0, .ref ((ad 0 0 0))), (1, .ref ((ad 3 t 0))), (2, .int (nI hh))] := hl
  have wnA := hW.hnA
  have wnP := hW.hnP
  have wnT := hW.hnT
  have wnR := hW.hnR
  have wpa := hW.hpa
  have wbo := hW.hbo
  have wen0 := hW.hen 0
  have wen1 := hW.hen 1
  refine lv_aload_n (pc := 0) F.1 F.2.1 dX6_goThroughPeople_0 rfl (lv_at hl 0 rfl) ?_
  refine mm_runV (pc := 1) (As := []) (rest := []) F hN (c_drafts l b D hst T z ad σ hX hW) mw_559 mw_561 mw_p9 mw_1 mw_562 ⟨pmX6_beginDrafts, (Nat.le_of_ble_eq_true rfl), (Nat.le_of_ble_eq_true rfl)⟩ (mm_recv F.2.2.2.2.2.1 hN (mm_X0 hX) rfl) hl.1 rfl (Nat.le_of_ble_eq_true rfl) ⟨(Nat.le_of_ble_eq_true rfl), (Nat.le_of_ble_eq_true rfl)⟩ dX6_goThroughPeople_1
    (fun _ _ _ _ _ _ h9 => False.elim h9)
    (fun v9 σb H locs hp9 hN => ?_)
  obtain ⟨rfl, zb, hXb, hFb, hzb, hz0, hz1, hz2⟩ := hp9
  refine W.eq (g2 := F0 m 4 ls []) rfl ?_
  refine W.widen (k := 0) (n := 0) (Nat.le_of_ble_eq_true rfl) (Nat.le_of_ble_eq_true rfl) ?_
  have hIb : mm_dI T t hh 0 zb := ⟨fun a ha => (hzb a ha).1, fun a ha => (hzb a ha).2, hz0, hz1, hz2⟩
  refine lv_iconst (pc := 4) (v := nI 0) F.1 F.2.1 dX6_goThroughPeople_4 (by decide) ?_
  refine lv_istore_n (pc := 5) (lv' := [(3, .int (nI 0)), (0, .ref ((ad 0 0 0))), (1, .ref ((ad 3 t 0))), (2, .int (nI hh))]) F.1 F.2.1 dX6_goThroughPeople_5 rfl hl (by decide) rfl (fun ls hl => ?_)
  have lp6 : ∀ (k6 i : Nat) (σi : mm_S) (zi : mm_Z) (ls : Array Slot) (H : Heap) (locs : List Loc), T.nP < i + k6 → i ≤ T.nP → (mm_X σi T zi ad) → (mm_Fr 0 σ σi) → (mm_dI T t hh i zi) → (∀ p, p < i → zi 3 p = mm_oc T t hh p) → mm_N b D s σi H locs → lv_has ls 5 [(0, .ref ((ad 0 0 0))), (1, .ref ((ad 3 t 0))), (2, .int (nI hh)), (3, .int (nI i))] →
      W p l e ({ frames := 5, cells := 0, slots := 0, locals := 130 } : Room) s m args below meth c H locs (0) (0) (mm_Q b D (fun v σ2 => v = none ∧ ∃ z2 : mm_Z, mm_X σ2 T z2 ad ∧ mm_Fr 0 σ σ2 ∧ mm_dI T t hh T.nP z2 ∧ ∀ p, p < T.nP → z2 3 p = mm_oc T t hh p) (fun _ _ => False) below args s ({ frames := 5, cells := 0, slots := 0, locals := 130 } : Room)) (F0 m 6 ls []) := by
    intro k6
    induction k6 with
    | zero => intro i σi zi ls H locs hk6 hi6 hXi hFi hIi hoi hN hl; omega
    | succ k6 ih6 =>
      intro i σi zi ls H locs hk6 hi6 hXi hFi hIi hoi hN hl
      refine lv_iload_n (pc := 6) F.1 F.2.1 dX6_goThroughPeople_6 rfl (lv_at hl 3 rfl) ?_
      refine lv_aload_n (pc := 7) F.1 F.2.1 dX6_goThroughPeople_7 rfl (lv_at hl 0 rfl) ?_
      refine mm_get (pc := 8) F hN (mm_X0 hXi) (ci := 6) rfl 1 (by decide) mw_86 rfl dX6_goThroughPeople_8 ?_
      refine mm_runV (pc := 11) (As := []) (rest := [.int (nI i)]) F hN (c_sz l b D hst 0 _ T.nP _ _ (mm_XL2 hXi) mm_rgl) mw_196 mw_197 mw_198 mw_4 mw_199 ⟨pmJx4a65c_size_8abf5, (Nat.le_of_ble_eq_true rfl), (Nat.le_of_ble_eq_true rfl)⟩ (mm_recvL F.2.2.2.2.2.1 hN (mm_XL2 hXi)) hl.1 rfl (Nat.le_of_ble_eq_true rfl) ⟨(Nat.le_of_ble_eq_true rfl), (Nat.le_of_ble_eq_true rfl)⟩ dX6_goThroughPeople_11
        (fun _ _ _ _ _ _ h9 => False.elim h9)
        (fun v9 σ9 H locs hp9 hN => ?_)
      obtain ⟨rfl, h9⟩ := hp9
      rw [h9] at hN
      refine W.eq (g2 := F0 m 14 ls [.int (nI T.nP), .int (nI i)]) rfl ?_
      refine W.widen (k := 0) (n := 0) (Nat.le_of_ble_eq_true rfl) (Nat.le_of_ble_eq_true rfl) ?_
      refine mm_icmp_ge (pc := 14) F (x := i) (y := T.nP) (tgt := 49) (by omega) (by omega) dX6_goThroughPeople_14 (by decide) (fun cz14 => ?_) (fun cz14 => ?_)
      ·
        exact mm_vret (pc := 49) F hr hN (⟨rfl, zi, hXi, hFi, by rw [← show i = T.nP from by omega]; exact hIi, fun p hp => hoi p (by omega)⟩) (Nat.le_of_ble_eq_true rfl) (Nat.le_of_ble_eq_true rfl) dX6_goThroughPeople_49
      ·
        refine lv_aload_n (pc := 17) F.1 F.2.1 dX6_goThroughPeople_17 rfl (lv_at hl 0 rfl) ?_
        refine mm_get (pc := 18) F hN (mm_X0 hXi) (ci := 6) rfl 1 (by decide) mw_86 rfl dX6_goThroughPeople_18 ?_
        refine lv_iload_n (pc := 21) F.1 F.2.1 dX6_goThroughPeople_21 rfl (lv_at hl 3 rfl) ?_
        refine mm_runV (pc := 22) (As := [.int (nI i)]) (rest := []) F hN (c_ALget l b D hst 0 _ (i) (ad 2 i 0) _ _ (mm_XL2 hXi) (mm_rg (by omega))) mw_357 mw_358 mw_359 mw_4 mw_360 ⟨pmJx4a65c_get_915e3, (Nat.le_of_ble_eq_true rfl), (Nat.le_of_ble_eq_true rfl)⟩ (mm_recvL F.2.2.2.2.2.1 hN (mm_XL2 hXi)) hl.1 rfl (Nat.le_of_ble_eq_true rfl) ⟨(Nat.le_of_ble_eq_true rfl), (Nat.le_of_ble_eq_true rfl)⟩ dX6_goThroughPeople_22
          (fun _ _ _ _ _ _ h9 => False.elim h9)
          (fun v9 σ9 H locs hp9 hN => ?_)
        obtain ⟨rfl, h9⟩ := hp9
        rw [h9] at hN
        refine W.eq (g2 := F0 m 25 ls [.ref ((ad 2 i 0))]) rfl ?_
        refine W.widen (k := 0) (n := 0) (Nat.le_of_ble_eq_true rfl) (Nat.le_of_ble_eq_true rfl) ?_
        refine mm_cast (pc := 25) F hN (mm_XP hXi (i := i) (by omega)) (ci := 2) rfl mw_373 dX6_goThroughPeople_25 ?_
        refine lv_astore (pc := 28) (lv' := [(4, .ref ((ad 2 i 0))), (0, .ref ((ad 0 0 0))), (1, .ref ((ad 3 t 0))), (2, .int (nI hh)), (3, .int (nI i))]) F.1 F.2.1 dX6_goThroughPeople_28 hl (by decide) rfl (fun ls hl => ?_)
        refine lv_aload (pc := 30) F.1 F.2.1 dX6_goThroughPeople_30 (lv_at hl 0 rfl) ?_
        refine lv_aload_n (pc := 32) F.1 F.2.1 dX6_goThroughPeople_32 rfl (lv_at hl 1 rfl) ?_
        refine lv_aload (pc := 33) F.1 F.2.1 dX6_goThroughPeople_33 (lv_at hl 0 rfl) ?_
        refine lv_aload_n (pc := 35) F.1 F.2.1 dX6_goThroughPeople_35 rfl (lv_at hl 2 rfl) ?_
        refine lv_iload_n (pc := 36) F.1 F.2.1 dX6_goThroughPeople_36 rfl (lv_at hl 3 rfl) ?_
        refine mm_runV (pc := 37) (As := [.ref ((ad 2 i 0)), .ref ((ad 3 t 0)), .int (nI hh)]) (rest := [.ref ((ad 2 i 0))]) F hN (c_next l b D hst T zi ad σi hXi hW t i hh ht2 (by omega) hh2 hIi) mw_577 mw_579 mw_p10 mw_1 mw_580 ⟨pmX6_nextOutcome, (Nat.le_of_ble_eq_true rfl), (Nat.le_of_ble_eq_true rfl)⟩ (mm_recv F.2.2.2.2.2.1 hN (mm_X0 hXi) rfl) hl.1 rfl (Nat.le_of_ble_eq_true rfl) ⟨(Nat.le_of_ble_eq_true rfl), (Nat.le_of_ble_eq_true rfl)⟩ dX6_goThroughPeople_37
          (fun _ _ _ _ _ _ h9 => False.elim h9)
          (fun v9 σc H locs hp9 hN => ?_)
        obtain ⟨rfl, zc, hXc, hFc, hIc, hoc⟩ := hp9
        refine W.eq (g2 := F0 m 40 ls [.int (nI (mm_oc T t hh i)), .ref ((ad 2 i 0))]) rfl ?_
        refine W.widen (k := 0) (n := 0) (Nat.le_of_ble_eq_true rfl) (Nat.le_of_ble_eq_true rfl) ?_
        refine mm_put (pc := 40) F hN (mm_XP hXc (i := i) (by omega)) (ci := 2) rfl 3 (by decide) mw_411 rfl (ty := .char) (by decide +kernel) (mm_narC (mm_oc_lt T t hh i)) (mm_fitC (mm_oc_lt T t hh i)) (Nat.le_of_ble_eq_true rfl) dX6_goThroughPeople_40 (fun H locs hN => ?_)
        have hN : mm_N b D s (mm_u σc ((ad 2 i 0)) (mm_obj 0 2 [.ref ((ad 1 (T.ho i) 0)), .int (nI (T.fl i)), .int (nI (T.re i)), .int (nI (mm_oc T t hh i))])) _ _ := hN
        have hXd := mm_Xz3 (v := mm_oc T t hh i) hXc (i := i) (by omega)
        have hFd := mm_Fr.u (x := mm_obj 0 2 [.ref ((ad 1 (T.ho i) 0)), .int (nI (T.fl i)), .int (nI (T.re i)), .int (nI (mm_oc T t hh i))]) (mm_XP hXc (i := i) (by omega))
        obtain ⟨σd, eσd⟩ : ∃ q, q = mm_u σc ((ad 2 i 0)) (mm_obj 0 2 [.ref ((ad 1 (T.ho i) 0)), .int (nI (T.fl i)), .int (nI (T.re i)), .int (nI (mm_oc T t hh i))]) := ⟨_, rfl⟩
        rw [← eσd] at hN
        have hXd : mm_X σd T (mm_zw zc 3 i (mm_oc T t hh i)) ad := by rw [eσd]; exact hXd
        have hFd : mm_Fr 0 σc σd := by rw [eσd]; exact hFd
        refine lv_iinc (pc := 43) (v := nI (i + 1)) (lv' := [(3, .int (nI (i + 1))), (4, .ref ((ad 2 i 0))), (0, .ref ((ad 0 0 0))), (1, .ref ((ad 3 t 0))), (2, .int (nI hh))]) F.1 F.2.1 dX6_goThroughPeople_43 hl (k := 4) rfl (by rw [← nI_add]; rfl) (by decide) rfl (fun ls hl => ?_)
        refine lv_goto (pc := 46) (tgt := 6) F.1 F.2.1 dX6_goThroughPeople_46 (by decide) ?_
        exact ih6 (i + 1) σd (mm_zw zc 3 i (mm_oc T t hh i)) ls _ _ (by omega) (by omega) (hXd) ((hFi.tr hFc).tr hFd) (hIc) (by
            intro p hp
            by_cases e : p = i
            · rw [e, mm_zw_at]
            · rw [mm_zw_ne (fun q => e q.2), hoc]; exact hoi p (by omega)) hN (lv_sub hl [2, 3, 4, 0] rfl)
  exact lp6 (T.nP + 1) 0 σb zb ls _ _ (by omega) (by omega) (hXb) (hFb) (hIb) (fun p hp => absurd hp (Nat.not_lt_zero _)) hN (lv_sub hl [1, 2, 3, 0] rfl)

