set_option maxHeartbeats 4000000 in
set_option maxRecDepth 100000 in
theorem c_drafts (l : Launch) (b : Nat) (D : mm_D) (hst : l.stackTraces = false) (T : mm_T) (z : mm_Z) (ad : Nat → Nat → Nat → Nat) (σ : mm_S) (hX : mm_X σ T z ad) (hW : mm_WF T) : mm_K l b D yX6_beginDrafts (.code yX6_beginDrafts cX6_beginDrafts 4 none) ({ frames := 3, cells := 0, slots := 0, locals := 100 } : Room) [.ref ((ad 0 0 0))] σ
    (fun v σ2 => v = none ∧ ∃ z2 : mm_Z, mm_X σ2 T z2 ad ∧ mm_Fr 0 σ σ2 ∧ (∀ a, a < T.nA → z2 1 a = (if mm_ends T a = true then 0 else T.sk a) ∧ z2 2 a = 0) ∧ z2 0 0 = T.pa ∧ z2 0 1 = T.en 0 ∧ z2 0 2 = T.en 1)
    (fun _ _ => False) := by
  refine mm_of (cc := cX6_beginDrafts) (nL := 4) (ret := none) (by decide) rfl (Nat.le_of_ble_eq_true rfl) hst ?_
  intro p e s m args below meth c ls F ht hr hin hN hl
  have hl : lv_has ls 4 [(0, .ref ((ad 0 0 0)))] := hl
  have wnA := hW.hnA
  have wnP := hW.hnP
  have wnT := hW.hnT
  have wnR := hW.hnR
  have wpa := hW.hpa
  have wbo := hW.hbo
  have wen0 := hW.hen 0
  have wen1 := hW.hen 1
  refine lv_iconst (pc := 0) (v := nI 0) F.1 F.2.1 dX6_beginDrafts_0 (by decide) ?_
  refine lv_istore_n (pc := 1) (lv' := [(1, .int (nI 0)), (0, .ref ((ad 0 0 0)))]) F.1 F.2.1 dX6_beginDrafts_1 rfl hl (by decide) rfl (fun ls hl => ?_)
  have lp2 : ∀ (k2 i : Nat) (σi : mm_S) (zi : mm_Z) (ls : Array Slot) (H : Heap) (locs : List Loc), T.nA < i + k2 → i ≤ T.nA → (mm_X σi T zi ad) → (mm_Fr 0 σ σi) → (∀ a, a < i → zi 1 a = T.sk a ∧ zi 2 a = 0) → mm_N b D s σi H locs → lv_has ls 4 [(0, .ref ((ad 0 0 0))), (1, .int (nI i))] →
      W p l e ({ frames := 3, cells := 0, slots := 0, locals := 100 } : Room) s m args below meth c H locs (0) (0) (mm_Q b D (fun v σ2 => v = none ∧ ∃ z2 : mm_Z, mm_X σ2 T z2 ad ∧ mm_Fr 0 σ σ2 ∧ (∀ a, a < T.nA → z2 1 a = (if mm_ends T a = true then 0 else T.sk a) ∧ z2 2 a = 0) ∧ z2 0 0 = T.pa ∧ z2 0 1 = T.en 0 ∧ z2 0 2 = T.en 1) (fun _ _ => False) below args s ({ frames := 3, cells := 0, slots := 0, locals := 100 } : Room)) (F0 m 2 ls []) := by
    intro k2
    induction k2 with
    | zero => intro i σi zi ls H locs hk2 hi2 hXi hFi hzi hN hl; omega
    | succ k2 ih2 =>
      intro i σi zi ls H locs hk2 hi2 hXi hFi hzi hN hl
      refine lv_iload_n (pc := 2) F.1 F.2.1 dX6_beginDrafts_2 rfl (lv_at hl 1 rfl) ?_
      refine lv_aload_n (pc := 3) F.1 F.2.1 dX6_beginDrafts_3 rfl (lv_at hl 0 rfl) ?_
      refine mm_get (pc := 4) F hN (mm_X0 hXi) (ci := 6) rfl 0 (by decide) mw_85 rfl dX6_beginDrafts_4 ?_
      refine mm_runV (pc := 7) (As := []) (rest := [.int (nI i)]) F hN (c_sz l b D hst 0 _ T.nA _ _ (mm_XL1 hXi) mm_rgl) mw_196 mw_197 mw_198 mw_4 mw_199 ⟨pmJx4a65c_size_8abf5, (Nat.le_of_ble_eq_true rfl), (Nat.le_of_ble_eq_true rfl)⟩ (mm_recvL F.2.2.2.2.2.1 hN (mm_XL1 hXi)) hl.1 rfl (Nat.le_of_ble_eq_true rfl) ⟨(Nat.le_of_ble_eq_true rfl), (Nat.le_of_ble_eq_true rfl)⟩ dX6_beginDrafts_7
        (fun _ _ _ _ _ _ h9 => False.elim h9)
        (fun v9 σ9 H locs hp9 hN => ?_)
      obtain ⟨rfl, h9⟩ := hp9
      rw [h9] at hN
      refine W.eq (g2 := F0 m 10 ls [.int (nI T.nA), .int (nI i)]) rfl ?_
      refine W.widen (k := 0) (n := 0) (Nat.le_of_ble_eq_true rfl) (Nat.le_of_ble_eq_true rfl) ?_
      refine mm_icmp_ge (pc := 10) F (x := i) (y := T.nA) (tgt := 33) (by omega) (by omega) dX6_beginDrafts_10 (by decide) (fun cz10 => ?_) (fun cz10 => ?_)
      ·
        have hzA : ∀ a, a < T.nA → zi 1 a = T.sk a ∧ zi 2 a = 0 := fun a ha => hzi a (by omega)
        refine lv_aload_n (pc := 33) F.1 F.2.1 dX6_beginDrafts_33 rfl (lv_at hl 0 rfl) ?_
        refine mm_get (pc := 34) F hN (mm_X0 hXi) (ci := 6) rfl 3 (by decide) mw_88 rfl dX6_beginDrafts_34 ?_
        refine mm_runV (pc := 37) (As := []) (rest := []) F hN (c_ALisEmpty l b D hst 0 _ _ _ (mm_XL4 hXi)) mw_567 mw_568 mw_569 mw_4 mw_570 ⟨pmJx4a65c_isEmpty_aae02, (Nat.le_of_ble_eq_true rfl), (Nat.le_of_ble_eq_true rfl)⟩ (mm_recvL F.2.2.2.2.2.1 hN (mm_XL4 hXi)) hl.1 rfl (Nat.le_of_ble_eq_true rfl) ⟨(Nat.le_of_ble_eq_true rfl), (Nat.le_of_ble_eq_true rfl)⟩ dX6_beginDrafts_37
          (fun _ _ _ _ _ _ h9 => False.elim h9)
          (fun v9 σ9 H locs hp9 hN => ?_)
        obtain ⟨rfl, h9⟩ := hp9
        rw [h9] at hN
        refine W.eq (g2 := F0 m 40 ls [.int (if ((List.range T.nR).map (fun q => ad 5 q 0)).length = 0 then nI 1 else nI 0)]) rfl ?_
        refine W.widen (k := 0) (n := 0) (Nat.le_of_ble_eq_true rfl) (Nat.le_of_ble_eq_true rfl) ?_
        by_cases hnr : T.nR = 0
        ·
          refine W.eq (g2 := F0 m 40 ls [.int (nI 1)]) (by rw [mm_rgl, if_pos hnr]) ?_
          have hzB : ∀ a, a < T.nA → zi 1 a = (if mm_ends T a = true then 0 else T.sk a) ∧ zi 2 a = 0 := fun a ha => ⟨by rw [if_neg (by rw [mm_ends, decide_eq_false (by omega), Bool.false_and]; decide)]; exact (hzA a ha).1, (hzA a ha).2⟩
          refine mm_if_ne (pc := 40) F (tgt := 109) (by omega) dX6_beginDrafts_40 (by decide) (fun cz40 => ?_) (fun h9 => absurd h9 (by decide))
          refine lv_aload_n (pc := 109) F.1 F.2.1 dX6_beginDrafts_109 rfl (lv_at hl 0 rfl) ?_
          refine mm_get (pc := 110) F hN (mm_X0 hXi) (ci := 6) rfl 6 (by decide) mw_91 rfl dX6_beginDrafts_110 ?_
          refine lv_aload_n (pc := 113) F.1 F.2.1 dX6_beginDrafts_113 rfl (lv_at hl 0 rfl) ?_
          refine mm_get (pc := 114) F hN (mm_X0 hXi) (ci := 6) rfl 4 (by decide) mw_89 rfl dX6_beginDrafts_114 ?_
          refine mm_runV (pc := 117) (As := [.ref ((ad 0 5 0))]) (rest := []) F hN (c_copyS l b D hst 0 (ad 0 7 0) (ad 0 5 0) (zi.l0) (zi.l1) (zi.l2) (T.pa) (T.en 0) (T.en 1) _ (mm_X7 hXi) (mm_X5 hXi) (mm_X_ne (k := 0) (i := 5) (j := 0) (k' := 0) (i' := 7) (j' := 0) hXi ⟨by decide, rfl⟩ ⟨by decide, rfl⟩ (by decide))) mw_573 mw_574 mw_575 mw_5 mw_576 ⟨pmX4_copyFrom, (Nat.le_of_ble_eq_true rfl), (Nat.le_of_ble_eq_true rfl)⟩ (mm_recv F.2.2.2.2.2.1 hN (mm_X7 hXi) rfl) hl.1 rfl (Nat.le_of_ble_eq_true rfl) ⟨(Nat.le_of_ble_eq_true rfl), (Nat.le_of_ble_eq_true rfl)⟩ dX6_beginDrafts_117
            (fun _ _ _ _ _ _ h9 => False.elim h9)
            (fun v9 σ9 H locs hp9 hN => ?_)
          obtain ⟨rfl, hσ9⟩ := hp9
          refine W.eq (g2 := F0 m 120 ls []) rfl ?_
          refine W.widen (k := 0) (n := 0) (Nat.le_of_ble_eq_true rfl) (Nat.le_of_ble_eq_true rfl) ?_
          have hX5 := mm_Xz0 hXi (a := T.pa) (c := T.en 0) (e := T.en 1)
          rw [← hσ9] at hX5
          have hF5 : mm_Fr 0 σi σ9 := by rw [hσ9]; exact mm_Fr.u (mm_X7 hXi)
          exact mm_vret (pc := 120) F hr hN (⟨rfl, mm_zl zi (T.pa) (T.en 0) (T.en 1), hX5, hFi.tr hF5, hzB, rfl, rfl, rfl⟩) (Nat.le_of_ble_eq_true rfl) (Nat.le_of_ble_eq_true rfl) dX6_beginDrafts_120
        ·
          refine W.eq (g2 := F0 m 40 ls [.int (nI 0)]) (by rw [mm_rgl, if_neg hnr]) ?_
          refine mm_if_ne (pc := 40) F (tgt := 109) (by omega) dX6_beginDrafts_40 (by decide) (fun h9 => absurd h9 (by decide)) (fun cz40 => ?_)
          refine lv_aload_n (pc := 43) F.1 F.2.1 dX6_beginDrafts_43 rfl (lv_at hl 0 rfl) ?_
          refine mm_get (pc := 44) F hN (mm_X0 hXi) (ci := 6) rfl 3 (by decide) mw_88 rfl dX6_beginDrafts_44 ?_
          refine lv_aload_n (pc := 47) F.1 F.2.1 dX6_beginDrafts_47 rfl (lv_at hl 0 rfl) ?_
          refine mm_get (pc := 48) F hN (mm_X0 hXi) (ci := 6) rfl 3 (by decide) mw_88 rfl dX6_beginDrafts_48 ?_
          refine mm_runV (pc := 51) (As := []) (rest := [.ref ((ad 0 4 0))]) F hN (c_sz l b D hst 0 _ T.nR _ _ (mm_XL4 hXi) mm_rgl) mw_196 mw_197 mw_198 mw_4 mw_199 ⟨pmJx4a65c_size_8abf5, (Nat.le_of_ble_eq_true rfl), (Nat.le_of_ble_eq_true rfl)⟩ (mm_recvL F.2.2.2.2.2.1 hN (mm_XL4 hXi)) hl.1 rfl (Nat.le_of_ble_eq_true rfl) ⟨(Nat.le_of_ble_eq_true rfl), (Nat.le_of_ble_eq_true rfl)⟩ dX6_beginDrafts_51
            (fun _ _ _ _ _ _ h9 => False.elim h9)
            (fun v9 σ9 H locs hp9 hN => ?_)
          obtain ⟨rfl, h9⟩ := hp9
          rw [h9] at hN
          refine W.eq (g2 := F0 m 54 ls [.int (nI T.nR), .ref ((ad 0 4 0))]) rfl ?_
          refine W.widen (k := 0) (n := 0) (Nat.le_of_ble_eq_true rfl) (Nat.le_of_ble_eq_true rfl) ?_
          refine lv_iconst (pc := 54) (v := nI 1) F.1 F.2.1 dX6_beginDrafts_54 (by decide) ?_
          refine mm_isub (pc := 55) F (z := nI (T.nR - 1)) (pk_sub (by omega)) dX6_beginDrafts_55 ?_
          refine mm_runV (pc := 56) (As := [.int (nI (T.nR - 1))]) (rest := []) F hN (c_ALget l b D hst 0 _ (T.nR - 1) (ad 5 (T.nR - 1) 0) _ _ (mm_XL4 hXi) (mm_rg (by omega))) mw_357 mw_358 mw_359 mw_4 mw_360 ⟨pmJx4a65c_get_915e3, (Nat.le_of_ble_eq_true rfl), (Nat.le_of_ble_eq_true rfl)⟩ (mm_recvL F.2.2.2.2.2.1 hN (mm_XL4 hXi)) hl.1 rfl (Nat.le_of_ble_eq_true rfl) ⟨(Nat.le_of_ble_eq_true rfl), (Nat.le_of_ble_eq_true rfl)⟩ dX6_beginDrafts_56
            (fun _ _ _ _ _ _ h9 => False.elim h9)
            (fun v9 σ9 H locs hp9 hN => ?_)
          obtain ⟨rfl, h9⟩ := hp9
          rw [h9] at hN
          refine W.eq (g2 := F0 m 59 ls [.ref ((ad 5 (T.nR - 1) 0))]) rfl ?_
          refine W.widen (k := 0) (n := 0) (Nat.le_of_ble_eq_true rfl) (Nat.le_of_ble_eq_true rfl) ?_
          refine mm_cast (pc := 59) F hN (mm_XR hXi (i := (T.nR - 1)) (by omega)) (ci := 3) rfl mw_571 dX6_beginDrafts_59 ?_
          refine mm_get (pc := 62) F hN (mm_XR hXi (i := (T.nR - 1)) (by omega)) (ci := 3) rfl 2 (by decide) mw_601 rfl dX6_beginDrafts_62 ?_
          refine lv_astore_n (pc := 65) (lv' := [(1, .ref ((ad 6 (T.nR - 1) 1))), (0, .ref ((ad 0 0 0)))]) F.1 F.2.1 dX6_beginDrafts_65 rfl hl (by decide) rfl (fun ls hl => ?_)
          refine lv_iconst (pc := 66) (v := nI 0) F.1 F.2.1 dX6_beginDrafts_66 (by decide) ?_
          refine lv_istore_n (pc := 67) (lv' := [(2, .int (nI 0)), (1, .ref ((ad 6 (T.nR - 1) 1))), (0, .ref ((ad 0 0 0)))]) F.1 F.2.1 dX6_beginDrafts_67 rfl hl (by decide) rfl (fun ls hl => ?_)
          have hrn : T.nR - 1 < T.nR := by omega
          obtain ⟨wr1, wr2, wr3, wr4⟩ := hW.hru (T.nR - 1) hrn
          have hpol := mm_po_len (T.oc (T.nR - 1)) (T.rc (T.nR - 1)) (T.rp (T.nR - 1))
          have lp68 : ∀ (k68 j : Nat) (σj : mm_S) (zj : mm_Z) (ls : Array Slot) (H : Heap) (locs : List Loc), (mm_po (T.oc (T.nR - 1)) (T.rc (T.nR - 1)) (T.rp (T.nR - 1))).length < j + k68 → j ≤ (mm_po (T.oc (T.nR - 1)) (T.rc (T.nR - 1)) (T.rp (T.nR - 1))).length → (mm_X σj T zj ad) → (mm_Fr 0 σ σj) → (∀ a, a < T.nA → zj 1 a = (if mm_ex (fun c8 => decide (T.bk (T.nR - 1) ((mm_po (T.oc (T.nR - 1)) (T.rc (T.nR - 1)) (T.rp (T.nR - 1))).getD c8 0) = 0 ∧ T.ho ((mm_po (T.oc (T.nR - 1)) (T.rc (T.nR - 1)) (T.rp (T.nR - 1))).getD c8 0) = a)) j = true then 0 else T.sk a) ∧ zj 2 a = 0) → mm_N b D s σj H locs → lv_has ls 4 [(0, .ref ((ad 0 0 0))), (1, .ref ((ad 6 (T.nR - 1) 1))), (2, .int (nI j))] →
              W p l e ({ frames := 3, cells := 0, slots := 0, locals := 100 } : Room) s m args below meth c H locs (0) (0) (mm_Q b D (fun v σ2 => v = none ∧ ∃ z2 : mm_Z, mm_X σ2 T z2 ad ∧ mm_Fr 0 σ σ2 ∧ (∀ a, a < T.nA → z2 1 a = (if mm_ends T a = true then 0 else T.sk a) ∧ z2 2 a = 0) ∧ z2 0 0 = T.pa ∧ z2 0 1 = T.en 0 ∧ z2 0 2 = T.en 1) (fun _ _ => False) below args s ({ frames := 3, cells := 0, slots := 0, locals := 100 } : Room)) (F0 m 68 ls []) := by
            intro k68
            induction k68 with
            | zero => intro j σj zj ls H locs hk68 hi68 hXj hFj hzj hN hl; omega
            | succ k68 ih68 =>
              intro j σj zj ls H locs hk68 hi68 hXj hFj hzj hN hl
              refine lv_iload_n (pc := 68) F.1 F.2.1 dX6_beginDrafts_68 rfl (lv_at hl 2 rfl) ?_
              refine lv_aload_n (pc := 69) F.1 F.2.1 dX6_beginDrafts_69 rfl (lv_at hl 1 rfl) ?_
              refine mm_runV (pc := 70) (As := []) (rest := [.int (nI j)]) F hN (c_sz l b D hst 0 _ ((mm_po (T.oc (T.nR - 1)) (T.rc (T.nR - 1)) (T.rp (T.nR - 1))).length) _ _ (mm_XQ hXj (i := (T.nR - 1)) (by omega)) (List.length_map ..)) mw_196 mw_197 mw_198 mw_4 mw_199 ⟨pmJx4a65c_size_8abf5, (Nat.le_of_ble_eq_true rfl), (Nat.le_of_ble_eq_true rfl)⟩ (mm_recvL F.2.2.2.2.2.1 hN (mm_XQ hXj (i := (T.nR - 1)) (by omega))) hl.1 rfl (Nat.le_of_ble_eq_true rfl) ⟨(Nat.le_of_ble_eq_true rfl), (Nat.le_of_ble_eq_true rfl)⟩ dX6_beginDrafts_70
                (fun _ _ _ _ _ _ h9 => False.elim h9)
                (fun v9 σ9 H locs hp9 hN => ?_)
              obtain ⟨rfl, h9⟩ := hp9
              rw [h9] at hN
              refine W.eq (g2 := F0 m 73 ls [.int (nI ((mm_po (T.oc (T.nR - 1)) (T.rc (T.nR - 1)) (T.rp (T.nR - 1))).length)), .int (nI j)]) rfl ?_
              refine W.widen (k := 0) (n := 0) (Nat.le_of_ble_eq_true rfl) (Nat.le_of_ble_eq_true rfl) ?_
              refine mm_icmp_ge (pc := 73) F (x := j) (y := (mm_po (T.oc (T.nR - 1)) (T.rc (T.nR - 1)) (T.rp (T.nR - 1))).length) (tgt := 109) (by omega) (by omega) dX6_beginDrafts_73 (by decide) (fun cz73 => ?_) (fun cz73 => ?_)
              ·
                have hj9 : j = (mm_po (T.oc (T.nR - 1)) (T.rc (T.nR - 1)) (T.rp (T.nR - 1))).length := by omega
                have hzB : ∀ a, a < T.nA → zj 1 a = (if mm_ends T a = true then 0 else T.sk a) ∧ zj 2 a = 0 := fun a ha => by
                  rw [show mm_ends T a = mm_ex (fun c8 => decide (T.bk (T.nR - 1) ((mm_po (T.oc (T.nR - 1)) (T.rc (T.nR - 1)) (T.rp (T.nR - 1))).getD c8 0) = 0 ∧ T.ho ((mm_po (T.oc (T.nR - 1)) (T.rc (T.nR - 1)) (T.rp (T.nR - 1))).getD c8 0) = a)) j from by
                    rw [mm_ends, decide_eq_true (show 0 < T.nR by omega), Bool.true_and, hj9, mm_po_ex (T.oc (T.nR - 1)) (T.rc (T.nR - 1)) (fun p => decide (T.bk (T.nR - 1) p = 0 ∧ T.ho p = a))]
                    refine congrArg (fun P => mm_ex P (T.rp (T.nR - 1))) (funext fun p => ?_)
                    rw [Bool.eq_iff_iff, Bool.and_eq_true, decide_eq_true_iff, decide_eq_true_iff, decide_eq_true_iff]]
                  exact hzj a ha
                refine lv_aload_n (pc := 109) F.1 F.2.1 dX6_beginDrafts_109 rfl (lv_at hl 0 rfl) ?_
                refine mm_get (pc := 110) F hN (mm_X0 hXj) (ci := 6) rfl 6 (by decide) mw_91 rfl dX6_beginDrafts_110 ?_
                refine lv_aload_n (pc := 113) F.1 F.2.1 dX6_beginDrafts_113 rfl (lv_at hl 0 rfl) ?_
                refine mm_get (pc := 114) F hN (mm_X0 hXj) (ci := 6) rfl 4 (by decide) mw_89 rfl dX6_beginDrafts_114 ?_
                refine mm_runV (pc := 117) (As := [.ref ((ad 0 5 0))]) (rest := []) F hN (c_copyS l b D hst 0 (ad 0 7 0) (ad 0 5 0) (zj.l0) (zj.l1) (zj.l2) (T.pa) (T.en 0) (T.en 1) _ (mm_X7 hXj) (mm_X5 hXj) (mm_X_ne (k := 0) (i := 5) (j := 0) (k' := 0) (i' := 7) (j' := 0) hXj ⟨by decide, rfl⟩ ⟨by decide, rfl⟩ (by decide))) mw_573 mw_574 mw_575 mw_5 mw_576 ⟨pmX4_copyFrom, (Nat.le_of_ble_eq_true rfl), (Nat.le_of_ble_eq_true rfl)⟩ (mm_recv F.2.2.2.2.2.1 hN (mm_X7 hXj) rfl) hl.1 rfl (Nat.le_of_ble_eq_true rfl) ⟨(Nat.le_of_ble_eq_true rfl), (Nat.le_of_ble_eq_true rfl)⟩ dX6_beginDrafts_117
                  (fun _ _ _ _ _ _ h9 => False.elim h9)
                  (fun v9 σ9 H locs hp9 hN => ?_)
                obtain ⟨rfl, hσ9⟩ := hp9
                refine W.eq (g2 := F0 m 120 ls []) rfl ?_
                refine W.widen (k := 0) (n := 0) (Nat.le_of_ble_eq_true rfl) (Nat.le_of_ble_eq_true rfl) ?_
                have hX5 := mm_Xz0 hXj (a := T.pa) (c := T.en 0) (e := T.en 1)
                rw [← hσ9] at hX5
                have hF5 : mm_Fr 0 σj σ9 := by rw [hσ9]; exact mm_Fr.u (mm_X7 hXj)
                exact mm_vret (pc := 120) F hr hN (⟨rfl, mm_zl zj (T.pa) (T.en 0) (T.en 1), hX5, hFj.tr hF5, hzB, rfl, rfl, rfl⟩) (Nat.le_of_ble_eq_true rfl) (Nat.le_of_ble_eq_true rfl) dX6_beginDrafts_120
              ·
                obtain ⟨hpl, hpo⟩ := mm_po_lt (T.oc (T.nR - 1)) (T.rc (T.nR - 1)) (T.rp (T.nR - 1)) _ (mm_gmem (i := j) (by omega))
                obtain ⟨wp1, wp2, wp3, wp4, wp5, wp6, wp7⟩ := wr4 _ hpl
                obtain ⟨who, wfl, wre⟩ := hW.hpe ((mm_po (T.oc (T.nR - 1)) (T.rc (T.nR - 1)) (T.rp (T.nR - 1))).getD j 0) (by omega)
                refine lv_aload_n (pc := 76) F.1 F.2.1 dX6_beginDrafts_76 rfl (lv_at hl 1 rfl) ?_
                refine lv_iload_n (pc := 77) F.1 F.2.1 dX6_beginDrafts_77 rfl (lv_at hl 2 rfl) ?_
                refine mm_runV (pc := 78) (As := [.int (nI j)]) (rest := []) F hN (c_ALget l b D hst 0 _ (j) (ad 7 (T.nR - 1) ((mm_po (T.oc (T.nR - 1)) (T.rc (T.nR - 1)) (T.rp (T.nR - 1))).getD j 0)) _ _ (mm_XQ hXj (i := (T.nR - 1)) (by omega)) (mm_mg (by omega))) mw_357 mw_358 mw_359 mw_4 mw_360 ⟨pmJx4a65c_get_915e3, (Nat.le_of_ble_eq_true rfl), (Nat.le_of_ble_eq_true rfl)⟩ (mm_recvL F.2.2.2.2.2.1 hN (mm_XQ hXj (i := (T.nR - 1)) (by omega))) hl.1 rfl (Nat.le_of_ble_eq_true rfl) ⟨(Nat.le_of_ble_eq_true rfl), (Nat.le_of_ble_eq_true rfl)⟩ dX6_beginDrafts_78
                  (fun _ _ _ _ _ _ h9 => False.elim h9)
                  (fun v9 σ9 H locs hp9 hN => ?_)
                obtain ⟨rfl, h9⟩ := hp9
                rw [h9] at hN
                refine W.eq (g2 := F0 m 81 ls [.ref ((ad 7 (T.nR - 1) ((mm_po (T.oc (T.nR - 1)) (T.rc (T.nR - 1)) (T.rp (T.nR - 1))).getD j 0)))]) rfl ?_
                refine W.widen (k := 0) (n := 0) (Nat.le_of_ble_eq_true rfl) (Nat.le_of_ble_eq_true rfl) ?_
                refine mm_cast (pc := 81) F hN (mm_XN hXj (i := (T.nR - 1)) (j := ((mm_po (T.oc (T.nR - 1)) (T.rc (T.nR - 1)) (T.rp (T.nR - 1))).getD j 0)) (by omega) (by omega)) (ci := 1) rfl mw_572 dX6_beginDrafts_81 ?_
                refine lv_astore_n (pc := 84) (lv' := [(3, .ref ((ad 7 (T.nR - 1) ((mm_po (T.oc (T.nR - 1)) (T.rc (T.nR - 1)) (T.rp (T.nR - 1))).getD j 0)))), (0, .ref ((ad 0 0 0))), (1, .ref ((ad 6 (T.nR - 1) 1))), (2, .int (nI j))]) F.1 F.2.1 dX6_beginDrafts_84 rfl hl (by decide) rfl (fun ls hl => ?_)
                refine lv_aload_n (pc := 85) F.1 F.2.1 dX6_beginDrafts_85 rfl (lv_at hl 0 rfl) ?_
                refine mm_get (pc := 86) F hN (mm_XN hXj (i := (T.nR - 1)) (j := ((mm_po (T.oc (T.nR - 1)) (T.rc (T.nR - 1)) (T.rp (T.nR - 1))).getD j 0)) (by omega) (by omega)) (ci := 1) rfl 6 (by decide) mw_638 rfl dX6_beginDrafts_86 ?_
                refine mm_if_ne (pc := 89) F (tgt := 103) (by omega) dX6_beginDrafts_89 (by decide) (fun cz89 => ?_) (fun cz89 => ?_)
                ·
                  refine lv_iinc (pc := 103) (v := nI (j + 1)) (lv' := [(2, .int (nI (j + 1))), (3, .ref ((ad 7 (T.nR - 1) ((mm_po (T.oc (T.nR - 1)) (T.rc (T.nR - 1)) (T.rp (T.nR - 1))).getD j 0)))), (0, .ref ((ad 0 0 0))), (1, .ref ((ad 6 (T.nR - 1) 1)))]) F.1 F.2.1 dX6_beginDrafts_103 hl (k := 3) rfl (by rw [← nI_add]; rfl) (by decide) rfl (fun ls hl => ?_)
                  refine lv_goto (pc := 106) (tgt := 68) F.1 F.2.1 dX6_beginDrafts_106 (by decide) ?_
                  exact ih68 (j + 1) σj zj ls _ _ (by omega) (by omega) (hXj) (hFj) (by
                      intro a ha
                      rw [(show mm_ex (fun c8 => decide (T.bk (T.nR - 1) ((mm_po (T.oc (T.nR - 1)) (T.rc (T.nR - 1)) (T.rp (T.nR - 1))).getD c8 0) = 0 ∧ T.ho ((mm_po (T.oc (T.nR - 1)) (T.rc (T.nR - 1)) (T.rp (T.nR - 1))).getD c8 0) = a)) (j + 1) = (mm_ex (fun c8 => decide (T.bk (T.nR - 1) ((mm_po (T.oc (T.nR - 1)) (T.rc (T.nR - 1)) (T.rp (T.nR - 1))).getD c8 0) = 0 ∧ T.ho ((mm_po (T.oc (T.nR - 1)) (T.rc (T.nR - 1)) (T.rp (T.nR - 1))).getD c8 0) = a)) j || decide (T.bk (T.nR - 1) ((mm_po (T.oc (T.nR - 1)) (T.rc (T.nR - 1)) (T.rp (T.nR - 1))).getD j 0) = 0 ∧ T.ho ((mm_po (T.oc (T.nR - 1)) (T.rc (T.nR - 1)) (T.rp (T.nR - 1))).getD j 0) = a)) from rfl), decide_eq_false (fun q => cz89 q.1), Bool.or_false]
                      exact hzj a ha) hN (lv_sub hl [2, 3, 0] rfl)
                ·
                  refine lv_aload_n (pc := 92) F.1 F.2.1 dX6_beginDrafts_92 rfl (lv_at hl 0 rfl) ?_
                  refine mm_get (pc := 93) F hN (mm_XN hXj (i := (T.nR - 1)) (j := ((mm_po (T.oc (T.nR - 1)) (T.rc (T.nR - 1)) (T.rp (T.nR - 1))).getD j 0)) (by omega) (by omega)) (ci := 1) rfl 1 (by decide) mw_627 rfl dX6_beginDrafts_93 ?_
                  refine mm_get (pc := 96) F hN (mm_XP hXj (i := ((mm_po (T.oc (T.nR - 1)) (T.rc (T.nR - 1)) (T.rp (T.nR - 1))).getD j 0)) (by omega)) (ci := 2) rfl 0 (by decide) mw_403 rfl dX6_beginDrafts_96 ?_
                  refine lv_iconst (pc := 99) (v := nI 0) F.1 F.2.1 dX6_beginDrafts_99 (by decide) ?_
                  refine mm_put (pc := 100) F hN (mm_XA hXj (i := (T.ho ((mm_po (T.oc (T.nR - 1)) (T.rc (T.nR - 1)) (T.rp (T.nR - 1))).getD j 0))) (by omega)) (ci := 0) rfl 4 (by decide) mw_230 rfl (ty := .int) (by decide +kernel) (rfl) (rfl) (Nat.le_of_ble_eq_true rfl) dX6_beginDrafts_100 (fun H locs hN => ?_)
                  have hN : mm_N b D s (mm_u σj ((ad 1 (T.ho ((mm_po (T.oc (T.nR - 1)) (T.rc (T.nR - 1)) (T.rp (T.nR - 1))).getD j 0)) 0)) (mm_obj 0 0 [.int (nI (T.ho ((mm_po (T.oc (T.nR - 1)) (T.rc (T.nR - 1)) (T.rp (T.nR - 1))).getD j 0))), .int (nI (T.co (T.ho ((mm_po (T.oc (T.nR - 1)) (T.rc (T.nR - 1)) (T.rp (T.nR - 1))).getD j 0)))), .int (nI (T.sk (T.ho ((mm_po (T.oc (T.nR - 1)) (T.rc (T.nR - 1)) (T.rp (T.nR - 1))).getD j 0)))), .int (nI (T.go (T.ho ((mm_po (T.oc (T.nR - 1)) (T.rc (T.nR - 1)) (T.rp (T.nR - 1))).getD j 0)))), .int (nI 0), .int (nI (zj.sv (T.ho ((mm_po (T.oc (T.nR - 1)) (T.rc (T.nR - 1)) (T.rp (T.nR - 1))).getD j 0))))])) _ _ := hN
                  have hX3 := mm_Xz1 (v := 0) (w := zj 2 (T.ho ((mm_po (T.oc (T.nR - 1)) (T.rc (T.nR - 1)) (T.rp (T.nR - 1))).getD j 0))) hXj (i := T.ho ((mm_po (T.oc (T.nR - 1)) (T.rc (T.nR - 1)) (T.rp (T.nR - 1))).getD j 0)) who
                  have hF3 := mm_Fr.u (x := mm_obj 0 0 [.int (nI (T.ho ((mm_po (T.oc (T.nR - 1)) (T.rc (T.nR - 1)) (T.rp (T.nR - 1))).getD j 0))), .int (nI (T.co (T.ho ((mm_po (T.oc (T.nR - 1)) (T.rc (T.nR - 1)) (T.rp (T.nR - 1))).getD j 0)))), .int (nI (T.sk (T.ho ((mm_po (T.oc (T.nR - 1)) (T.rc (T.nR - 1)) (T.rp (T.nR - 1))).getD j 0)))), .int (nI (T.go (T.ho ((mm_po (T.oc (T.nR - 1)) (T.rc (T.nR - 1)) (T.rp (T.nR - 1))).getD j 0)))), .int (nI 0), .int (nI (zj.sv (T.ho ((mm_po (T.oc (T.nR - 1)) (T.rc (T.nR - 1)) (T.rp (T.nR - 1))).getD j 0))))]) (mm_XA hXj (i := T.ho ((mm_po (T.oc (T.nR - 1)) (T.rc (T.nR - 1)) (T.rp (T.nR - 1))).getD j 0)) who)
                  obtain ⟨σ3, eσ3⟩ : ∃ q, q = mm_u σj ((ad 1 (T.ho ((mm_po (T.oc (T.nR - 1)) (T.rc (T.nR - 1)) (T.rp (T.nR - 1))).getD j 0)) 0)) (mm_obj 0 0 [.int (nI (T.ho ((mm_po (T.oc (T.nR - 1)) (T.rc (T.nR - 1)) (T.rp (T.nR - 1))).getD j 0))), .int (nI (T.co (T.ho ((mm_po (T.oc (T.nR - 1)) (T.rc (T.nR - 1)) (T.rp (T.nR - 1))).getD j 0)))), .int (nI (T.sk (T.ho ((mm_po (T.oc (T.nR - 1)) (T.rc (T.nR - 1)) (T.rp (T.nR - 1))).getD j 0)))), .int (nI (T.go (T.ho ((mm_po (T.oc (T.nR - 1)) (T.rc (T.nR - 1)) (T.rp (T.nR - 1))).getD j 0)))), .int (nI 0), .int (nI (zj.sv (T.ho ((mm_po (T.oc (T.nR - 1)) (T.rc (T.nR - 1)) (T.rp (T.nR - 1))).getD j 0))))]) := ⟨_, rfl⟩
                  rw [← eσ3] at hN
                  have hX3 : mm_X σ3 T (mm_zw (mm_zw zj 1 (T.ho ((mm_po (T.oc (T.nR - 1)) (T.rc (T.nR - 1)) (T.rp (T.nR - 1))).getD j 0)) 0) 2 (T.ho ((mm_po (T.oc (T.nR - 1)) (T.rc (T.nR - 1)) (T.rp (T.nR - 1))).getD j 0)) (zj 2 (T.ho ((mm_po (T.oc (T.nR - 1)) (T.rc (T.nR - 1)) (T.rp (T.nR - 1))).getD j 0)))) ad := by rw [eσ3]; exact hX3
                  have hF3 : mm_Fr 0 σj σ3 := by rw [eσ3]; exact hF3
                  refine lv_iinc (pc := 103) (v := nI (j + 1)) (lv' := [(2, .int (nI (j + 1))), (3, .ref ((ad 7 (T.nR - 1) ((mm_po (T.oc (T.nR - 1)) (T.rc (T.nR - 1)) (T.rp (T.nR - 1))).getD j 0)))), (0, .ref ((ad 0 0 0))), (1, .ref ((ad 6 (T.nR - 1) 1)))]) F.1 F.2.1 dX6_beginDrafts_103 hl (k := 3) rfl (by rw [← nI_add]; rfl) (by decide) rfl (fun ls hl => ?_)
                  refine lv_goto (pc := 106) (tgt := 68) F.1 F.2.1 dX6_beginDrafts_106 (by decide) ?_
                  exact ih68 (j + 1) σ3 (mm_zw (mm_zw zj 1 (T.ho ((mm_po (T.oc (T.nR - 1)) (T.rc (T.nR - 1)) (T.rp (T.nR - 1))).getD j 0)) 0) 2 (T.ho ((mm_po (T.oc (T.nR - 1)) (T.rc (T.nR - 1)) (T.rp (T.nR - 1))).getD j 0)) (zj 2 (T.ho ((mm_po (T.oc (T.nR - 1)) (T.rc (T.nR - 1)) (T.rp (T.nR - 1))).getD j 0)))) ls _ _ (by omega) (by omega) (hX3) (hFj.tr hF3) (by
                      intro a ha
                      rw [(show mm_ex (fun c8 => decide (T.bk (T.nR - 1) ((mm_po (T.oc (T.nR - 1)) (T.rc (T.nR - 1)) (T.rp (T.nR - 1))).getD c8 0) = 0 ∧ T.ho ((mm_po (T.oc (T.nR - 1)) (T.rc (T.nR - 1)) (T.rp (T.nR - 1))).getD c8 0) = a)) (j + 1) = (mm_ex (fun c8 => decide (T.bk (T.nR - 1) ((mm_po (T.oc (T.nR - 1)) (T.rc (T.nR - 1)) (T.rp (T.nR - 1))).getD c8 0) = 0 ∧ T.ho ((mm_po (T.oc (T.nR - 1)) (T.rc (T.nR - 1)) (T.rp (T.nR - 1))).getD c8 0) = a)) j || decide (T.bk (T.nR - 1) ((mm_po (T.oc (T.nR - 1)) (T.rc (T.nR - 1)) (T.rp (T.nR - 1))).getD j 0) = 0 ∧ T.ho ((mm_po (T.oc (T.nR - 1)) (T.rc (T.nR - 1)) (T.rp (T.nR - 1))).getD j 0) = a)) from rfl)]
                      by_cases e : a = T.ho ((mm_po (T.oc (T.nR - 1)) (T.rc (T.nR - 1)) (T.rp (T.nR - 1))).getD j 0)
                      · rw [decide_eq_true ⟨cz89, e.symm⟩, Bool.or_true, if_pos rfl, mm_zw_ne (fun q => absurd q.1 (by decide)), e, mm_zw_at, mm_zw_at]
                        exact ⟨rfl, (hzj _ who).2⟩
                      · rw [decide_eq_false (fun q => e q.2.symm), Bool.or_false, mm_zw_ne (fun q => absurd q.1 (by decide)), mm_zw_ne (fun q => e q.2), mm_zw_ne (fun q => e q.2), mm_zw_ne (fun q => absurd q.1 (by decide))]
                        exact hzj a ha) hN (lv_sub hl [2, 3, 0] rfl)
          exact lp68 (((mm_po (T.oc (T.nR - 1)) (T.rc (T.nR - 1)) (T.rp (T.nR - 1))).length) + 1) 0 σi zi ls _ _ (by omega) (by omega) (hXi) (hFi) (fun a ha => ⟨(hzA a ha).1, (hzA a ha).2⟩) hN (lv_sub hl [2, 1, 0] rfl)
      ·
        refine lv_aload_n (pc := 13) F.1 F.2.1 dX6_beginDrafts_13 rfl (lv_at hl 0 rfl) ?_
        refine mm_get (pc := 14) F hN (mm_X0 hXi) (ci := 6) rfl 0 (by decide) mw_85 rfl dX6_beginDrafts_14 ?_
        refine lv_iload_n (pc := 17) F.1 F.2.1 dX6_beginDrafts_17 rfl (lv_at hl 1 rfl) ?_
        refine mm_runV (pc := 18) (As := [.int (nI i)]) (rest := []) F hN (c_ALget l b D hst 0 _ (i) (ad 1 i 0) _ _ (mm_XL1 hXi) (mm_rg (by omega))) mw_357 mw_358 mw_359 mw_4 mw_360 ⟨pmJx4a65c_get_915e3, (Nat.le_of_ble_eq_true rfl), (Nat.le_of_ble_eq_true rfl)⟩ (mm_recvL F.2.2.2.2.2.1 hN (mm_XL1 hXi)) hl.1 rfl (Nat.le_of_ble_eq_true rfl) ⟨(Nat.le_of_ble_eq_true rfl), (Nat.le_of_ble_eq_true rfl)⟩ dX6_beginDrafts_18
          (fun _ _ _ _ _ _ h9 => False.elim h9)
          (fun v9 σ9 H locs hp9 hN => ?_)
        obtain ⟨rfl, h9⟩ := hp9
        rw [h9] at hN
        refine W.eq (g2 := F0 m 21 ls [.ref ((ad 1 i 0))]) rfl ?_
        refine W.widen (k := 0) (n := 0) (Nat.le_of_ble_eq_true rfl) (Nat.le_of_ble_eq_true rfl) ?_
        refine mm_cast (pc := 21) F hN (mm_XA hXi (i := i) (by omega)) (ci := 0) rfl mw_216 dX6_beginDrafts_21 ?_
        refine mm_runV (pc := 24) (As := []) (rest := []) F hN (c_begD l b D hst 0 (ad 1 i 0) (nI i) (nI (T.co i)) (nI (T.sk i)) (nI (T.go i)) (nI (zi 1 i)) (nI (zi 2 i)) _ (mm_XA hXi (i := i) (by omega))) mw_563 mw_564 mw_565 mw_21 mw_566 ⟨pmX0_beginDraft, (Nat.le_of_ble_eq_true rfl), (Nat.le_of_ble_eq_true rfl)⟩ (mm_recv F.2.2.2.2.2.1 hN (mm_XA hXi (i := i) (by omega)) rfl) hl.1 rfl (Nat.le_of_ble_eq_true rfl) ⟨(Nat.le_of_ble_eq_true rfl), (Nat.le_of_ble_eq_true rfl)⟩ dX6_beginDrafts_24
          (fun _ _ _ _ _ _ h9 => False.elim h9)
          (fun v9 σ9 H locs hp9 hN => ?_)
        obtain ⟨rfl, hσ9⟩ := hp9
        refine W.eq (g2 := F0 m 27 ls []) rfl ?_
        refine W.widen (k := 0) (n := 0) (Nat.le_of_ble_eq_true rfl) (Nat.le_of_ble_eq_true rfl) ?_
        have hX2 := mm_Xz1 (v := T.sk i) (w := 0) hXi (i := i) (by omega)
        rw [← hσ9] at hX2
        have hF2 : mm_Fr 0 σi σ9 := by rw [hσ9]; exact mm_Fr.u (mm_XA hXi (i := i) (by omega))
        refine lv_iinc (pc := 27) (v := nI (i + 1)) (lv' := [(1, .int (nI (i + 1))), (0, .ref ((ad 0 0 0)))]) F.1 F.2.1 dX6_beginDrafts_27 hl (k := 1) rfl (by rw [← nI_add]; rfl) (by decide) rfl (fun ls hl => ?_)
        refine lv_goto (pc := 30) (tgt := 2) F.1 F.2.1 dX6_beginDrafts_30 (by decide) ?_
        exact ih2 (i + 1) σ9 (mm_zw (mm_zw zi 1 i (T.sk i)) 2 i 0) ls _ _ (by omega) (by omega) (hX2) (hFi.tr hF2) (by
            intro a ha
            by_cases e : a = i
            · subst e; rw [mm_zw_at, mm_zw_ne (fun e => absurd e.1 (by decide)), mm_zw_at]; exact ⟨rfl, rfl⟩
            · rw [mm_zw_ne (fun e => absurd e.1 (by decide)), mm_zw_ne (fun q => e q.2), mm_zw_ne (fun q => e q.2), mm_zw_ne (fun e => absurd e.1 (by decide))]; exact hzi a (by omega)) hN (lv_sub hl [1, 0] rfl)
  exact lp2 (T.nA + 1) 0 σ z ls _ _ (by omega) (by omega) (hX) (mm_Fr.rf) (fun a ha => absurd ha (Nat.not_lt_zero _)) hN (lv_sub hl [1, 0] rfl)

