theorem mm_un {σ : mm_S} {a y : Nat} {q : Nat × mm_e} (h : mm_u σ a (some q) y = none) : σ y = none := by
  by_cases e : y = a
  · rw [e, mm_u_eq] at h
    cases h
  · rw [mm_u_ne e] at h
    exact h
theorem mm_pts_lt {T : mm_T} (hW : mm_WF T) {t x : Nat} (ht : t < T.nT) : mm_pts T t x < 256 := by
  have h : ∀ k, mm_ptF (T.ne t) (T.fo t) x k < 2 ^ k := by
    intro k
    induction k with
    | zero => exact Nat.one_pos
    | succ k ih =>
      have h1 : mm_ptF (T.ne t) (T.fo t) x k < 2 ^ (k + 1) := Nat.lt_trans ih (Nat.pow_lt_pow_right (by decide) (Nat.lt_succ_self k))
      show (if _ then mm_ptF (T.ne t) (T.fo t) x k ||| 2 ^ k else mm_ptF (T.ne t) (T.fo t) x k) < 2 ^ (k + 1)
      split
      · exact Nat.or_lt_two_pow h1 (Nat.pow_lt_pow_right (by decide) (Nat.lt_succ_self k))
      · exact h1
  exact Nat.lt_of_lt_of_le (h (T.pc t)) (Nat.pow_le_pow_right (by decide) (hW.htp t ht).1)
theorem mm_R_en2 {σ : mm_S} {T' : mm_T} {ad : Nat → Nat → Nat → Nat} {r i : Nat} {en : Nat → Nat} (h : ∀ p, p < i → σ (en p) = mm_eo 0 (mm_fa T' ad r) p) (hB : ∀ p, p < i → T'.oc r p < 65536 ∧ T'.rc r p < 100 ∧ T'.pg r p ≤ 8 ∧ T'.rt r p < 256 ∧ T'.bk r p < 2) (hn : i ≤ 24) :
    mm_en σ 0 ((List.range i).map en) (mm_fa T' ad r) := by
  refine ⟨by rw [mm_rgl]; exact hn, fun c hc => ?_⟩
  rw [mm_rgl] at hc
  obtain ⟨w1, w2, w3, w4, w5⟩ := hB _ hc
  rw [List.getD_eq_getElem?_getD, mm_rg hc]
  exact ⟨h _ hc, w1, w2, Nat.lt_of_le_of_lt w3 (by decide), w4, w5⟩
theorem mm_pl_map {f : Nat → Nat → Nat} {n : Nat} {en : Nat → Nat} : (mm_pl f ((List.range n).map en).length 8).map (fun p => ((List.range n).map en).getD p 0) = (mm_pl f n 8).map en := by
  rw [mm_rgl]
  refine List.map_congr_left (fun p hp => ?_)
  rw [List.getD_eq_getElem?_getD, mm_rg (mm_pl_lt 8 p hp)]
  rfl
theorem mm_run_B {T : mm_T} (hW : mm_WF T) {t hh : Nat} (ht : t < T.nT) : ∀ p, p < T.nP → (mm_t_run T t hh).oc T.nR p < 65536 ∧ (mm_t_run T t hh).rc T.nR p < 100 ∧ (mm_t_run T t hh).pg T.nR p ≤ 8 ∧ (mm_t_run T t hh).rt T.nR p < 256 ∧ (mm_t_run T t hh).bk T.nR p < 2 := fun p hp => by
  obtain ⟨e1, e2, e3, e4, e5, e6⟩ := mm_tr_n (t := t) (hh := hh) hp
  rw [e1, e2, e3, e4, e5]
  exact ⟨mm_oc_lt T t hh p, (hW.had _ (hW.hpe p hp).1).1, mm_pgs_le hW ht, mm_pts_lt hW ht, by decide⟩
def mm_q_run (T : mm_T) (t : Nat) (hh : Nat) : Nat := if t < T.nT then (if T.nR < 10 then 0 else 2) else 0 * hh + 1
set_option maxHeartbeats 4000000 in
set_option maxRecDepth 100000 in
theorem a_run (l : Launch) (b : Nat) (D : mm_D) (hst : l.stackTraces = false) (T : mm_T) (z : mm_Z) (ad : Nat → Nat → Nat → Nat) (σ : mm_S) (hX : mm_X σ T z ad) (hW : mm_WF T) (t : Nat) (zt : t < 2 ^ 32) (hh : Nat) (zhh : hh < 2) : mm_K l b D yX6_run (.code yX6_run cX6_run 6 (some .int)) ({ frames := 9, cells := 100, slots := 9000, locals := 260 } : Room) [.ref ((ad 0 0 0)), .int (nI t), .int (nI hh)] σ
    (fun v σ2 => mm_q_run T t hh = 0 ∧ v = some (.int (nI (T.nR))) ∧ mm_Xt σ σ2 (mm_t_run T t hh) (ad 0 0 0))
    (fun E σ2 => ((mm_q_run T t hh = 1 ∧ E = "java/lang/IndexOutOfBoundsException") ∨ (mm_q_run T t hh = 2 ∧ E = "java/lang/IllegalStateException")) ∧ mm_Xt σ σ2 T (ad 0 0 0)) := by
  refine mm_of (cc := cX6_run) (nL := 6) (ret := (some .int)) (by decide) rfl (Nat.le_of_ble_eq_true rfl) hst ?_
  intro p e s m args below meth c ls F ht hr hin hN hl
  have hl : lv_has ls 6 [(0, .ref ((ad 0 0 0))), (1, .int (nI t)), (2, .int (nI hh))] := hl
  have wnA := hW.hnA
  have wnP := hW.hnP
  have wnT := hW.hnT
  have wnR := hW.hnR
  have wpa := hW.hpa
  have wbo := hW.hbo
  have wen0 := hW.hen 0
  have wen1 := hW.hen 1
  refine lv_aload_n (pc := 0) F.1 F.2.1 dX6_run_0 rfl (lv_at hl 0 rfl) ?_
  refine lv_iload_n (pc := 1) F.1 F.2.1 dX6_run_1 rfl (lv_at hl 1 rfl) ?_
  refine mm_runV (pc := 2) (As := [.int (nI t)]) (rest := []) F hN (c_templateAt l b D hst T z ad σ hX hW t (by omega)) mw_492 mw_494 mw_p6 mw_1 mw_495 ⟨pmX6_templateAt, (Nat.le_of_ble_eq_true rfl), (Nat.le_of_ble_eq_true rfl)⟩ (mm_recv F.2.2.2.2.2.1 hN (mm_X0 hX) rfl) hl.1 rfl (Nat.le_of_ble_eq_true rfl) ⟨(Nat.le_of_ble_eq_true rfl), (Nat.le_of_ble_eq_true rfl)⟩ dX6_run_2
    (fun E9 σ9 H9 l9 q9 ce9 hp9 hN9 hq9 hv9 hcl9 => mm_out F ht hN9 (by obtain ⟨g1, g2, g3⟩ := hp9; exact ⟨Or.inl (⟨by unfold mm_q_run; (repeat' split) <;> omega, g1⟩), mm_Xt.rf hX g3⟩) hq9 hv9 hcl9 (Nat.le_of_ble_eq_true rfl) (Nat.le_of_ble_eq_true rfl))
    (fun v9 σ9 H locs hp9 hN => ?_)
  obtain ⟨htn, rfl, h9⟩ := hp9
  refine W.eq (g2 := F0 m 5 ls [.ref ((ad 3 t 0))]) rfl ?_
  refine W.widen (k := 1) (n := 6) (Nat.le_of_ble_eq_true rfl) (Nat.le_of_ble_eq_true rfl) ?_
  rw [h9] at hN
  refine lv_astore_n (pc := 5) (lv' := [(3, .ref ((ad 3 t 0))), (0, .ref ((ad 0 0 0))), (1, .int (nI t)), (2, .int (nI hh))]) F.1 F.2.1 dX6_run_5 rfl hl (by decide) rfl (fun ls hl => ?_)
  refine lv_aload_n (pc := 6) F.1 F.2.1 dX6_run_6 rfl (lv_at hl 1 rfl) ?_
  refine mm_get (pc := 7) F hN (mm_X0 hX) (ci := 6) rfl 3 (by decide) mw_88 rfl dX6_run_7 ?_
  refine mm_runV (pc := 10) (As := []) (rest := []) F hN (c_sz l b D hst 0 _ T.nR _ _ (mm_XL4 hX) mm_rgl) mw_196 mw_197 mw_198 mw_4 mw_199 ⟨pmJx4a65c_size_8abf5, (Nat.le_of_ble_eq_true rfl), (Nat.le_of_ble_eq_true rfl)⟩ (mm_recvL F.2.2.2.2.2.1 hN (mm_XL4 hX)) hl.1 rfl (Nat.le_of_ble_eq_true rfl) ⟨(Nat.le_of_ble_eq_true rfl), (Nat.le_of_ble_eq_true rfl)⟩ dX6_run_10
    (fun _ _ _ _ _ _ h9 => False.elim h9)
    (fun v9 σ9 H locs hp9 hN => ?_)
  obtain ⟨rfl, h9⟩ := hp9
  rw [h9] at hN
  refine W.eq (g2 := F0 m 13 ls [.int (nI T.nR)]) rfl ?_
  refine W.widen (k := 1) (n := 6) (Nat.le_of_ble_eq_true rfl) (Nat.le_of_ble_eq_true rfl) ?_
  refine lv_bipush (pc := 13) (v := nI 10) F.1 F.2.1 dX6_run_13 (by decide) ?_
  refine mm_icmp_lt (pc := 15) F (x := T.nR) (y := 10) (tgt := 28) (by omega) (by omega) dX6_run_15 (by decide) (fun cz15 => ?_) (fun cz15 => ?_)
  ·
    refine lv_aload_n (pc := 28) F.1 F.2.1 dX6_run_28 rfl (lv_at hl 1 rfl) ?_
    refine lv_aload_n (pc := 29) F.1 F.2.1 dX6_run_29 rfl (lv_at hl 0 rfl) ?_
    refine lv_iload_n (pc := 30) F.1 F.2.1 dX6_run_30 rfl (lv_at hl 3 rfl) ?_
    refine mm_runV (pc := 31) (As := [.ref ((ad 3 t 0)), .int (nI hh)]) (rest := []) F hN (c_goes l b D hst T z ad σ hX hW t hh htn zhh) mw_555 mw_557 mw_p8 mw_1 mw_558 ⟨pmX6_goThroughPeople, (Nat.le_of_ble_eq_true rfl), (Nat.le_of_ble_eq_true rfl)⟩ (mm_recv F.2.2.2.2.2.1 hN (mm_X0 hX) rfl) hl.1 rfl (Nat.le_of_ble_eq_true rfl) ⟨(Nat.le_of_ble_eq_true rfl), (Nat.le_of_ble_eq_true rfl)⟩ dX6_run_31
      (fun _ _ _ _ _ _ h9 => False.elim h9)
      (fun v9 σb H locs hp9 hN => ?_)
    obtain ⟨rfl, zb, hXb, hFb, hIb, hob⟩ := hp9
    refine W.eq (g2 := F0 m 34 ls []) rfl ?_
    refine W.widen (k := 1) (n := 6) (Nat.le_of_ble_eq_true rfl) (Nat.le_of_ble_eq_true rfl) ?_
    refine mm_new (pc := 34) F hN 0 (ci := 3) (fs := [.int (nI 0), .null, .null, .null]) rfl tyX3 tyX3_ok (fun j9 h9 => by rcases (show j9 = 0 ∨ j9 = 1 ∨ j9 = 2 ∨ j9 = 3 by omega) with rfl | rfl | rfl | rfl <;> rfl) mw_571 mw_590 mw_29 (Nat.le_of_ble_eq_true rfl) (Nat.le_of_ble_eq_true rfl) dX6_run_34 (fun q1 H hq1 hN => ?_)
    have hN : mm_N b D s (mm_u σb q1 (mm_obj 0 3 [.int (nI 0), .null, .null, .null])) _ _ := hN
    obtain ⟨q0, eq0⟩ : ∃ x, x = q1 := ⟨_, rfl⟩
    rw [← eq0]
    rw [← eq0] at hN hq1
    have hX1 : mm_X (mm_u σb q0 (mm_obj 0 3 [.int (nI 0), .null, .null, .null])) T zb ad := mm_X_new hXb hq1
    have b0 : σb q0 = none := hq1
    refine lv_dup (pc := 37) F.1 F.2.1 dX6_run_37 rfl ?_
    refine lv_aload_n (pc := 38) F.1 F.2.1 dX6_run_38 rfl (lv_at hl 1 rfl) ?_
    refine mm_get (pc := 39) F hN (mm_X0 hX1) (ci := 6) rfl 7 (by decide) mw_92 rfl dX6_run_39 ?_
    refine mm_runI (pc := 42) (As := [.int (nI T.bo)]) (rest := [.ref q0]) F hN (c_Run l b D hst 0 q0 (T.bo) _ mm_u_eq) rfl mw_591 mw_592 mw_29 mw_593 ⟨pmX3_init, (Nat.le_of_ble_eq_true rfl), (Nat.le_of_ble_eq_true rfl)⟩ hl.1 rfl (Nat.le_of_ble_eq_true rfl) ⟨(Nat.le_of_ble_eq_true rfl), (Nat.le_of_ble_eq_true rfl)⟩ dX6_run_42
      (fun _ _ _ _ _ _ h9 => False.elim h9)
      (fun v9 σ9 H locs hp9 hN => ?_)
    obtain ⟨rfl, eL, pL, qL, y1, y2, y3, n1, n2, n3, n4, n5, n6, hσ9⟩ := hp9
    refine W.eq (g2 := F0 m 45 ls [.ref q0]) rfl ?_
    refine W.widen (k := 5) (n := 19) (Nat.le_of_ble_eq_true rfl) (Nat.le_of_ble_eq_true rfl) ?_
    rw [hσ9, mm_uu] at hN
    have b1 : σb eL = none := (mm_u_ne n4).symm.trans y1
    have b2 : σb pL = none := (mm_u_ne n5).symm.trans y2
    have b3 : σb qL = none := (mm_u_ne n6).symm.trans y3
    obtain ⟨σr, eσr⟩ : ∃ x, x = (mm_u (mm_u (mm_u (mm_u σb q0 (mm_obj 0 3 [.int (nI T.bo), .ref eL, .ref pL, .ref qL])) eL (mm_lst 0 [])) pL (mm_lst 0 [])) qL (mm_lst 0 [])) := ⟨_, rfl⟩
    rw [← eσr] at hN
    have hXr : mm_X σr T zb ad := by rw [eσr]; exact mm_X_fr hXb rfl (mm_X_fr hXb rfl (mm_X_fr hXb rfl (mm_X_fr hXb rfl hXb b0) b1) b2) b3
    have hFr : mm_Fr 0 σ σr := by rw [eσr]; exact (((hFb.tr (mm_Fr.new b0)).tr (mm_Fr.new ((mm_u_ne n4).trans b1))).tr (mm_Fr.new ((mm_u_ne n1).trans ((mm_u_ne n5).trans b2)))).tr (mm_Fr.new ((mm_u_ne n3).trans ((mm_u_ne n2).trans ((mm_u_ne n6).trans b3))))
    have hmr : ∀ x, σr x = none → σb x = none := fun x hx => by rw [eσr] at hx; exact mm_un (mm_un (mm_un (mm_un hx)))
    have hRr : mm_R σr (mm_t_run T t hh) ad T.nR q0 eL pL qL [] (fun _ => 0) 0 := by rw [eσr]; exact ⟨by rw [mm_u_ne (Ne.symm n6), mm_u_ne (Ne.symm n5), mm_u_ne (Ne.symm n4), mm_u_eq, mm_tr_r.2], by rw [mm_u_ne (Ne.symm n2), mm_u_ne (Ne.symm n1), mm_u_eq]; rfl, by rw [mm_u_ne (Ne.symm n3), mm_u_eq]; rfl, mm_u_eq, fun p hp => absurd hp (Nat.not_lt_zero _)⟩
    have hBn := mm_run_B (hh := hh) hW htn
    refine lv_astore (pc := 45) (lv' := [(4, .ref q0), (3, .ref ((ad 3 t 0))), (0, .ref ((ad 0 0 0))), (1, .int (nI t)), (2, .int (nI hh))]) F.1 F.2.1 dX6_run_45 hl (by decide) rfl (fun ls hl => ?_)
    refine lv_iconst (pc := 47) (v := nI 0) F.1 F.2.1 dX6_run_47 (by decide) ?_
    refine lv_istore (pc := 48) (lv' := [(5, .int (nI 0)), (4, .ref q0), (3, .ref ((ad 3 t 0))), (0, .ref ((ad 0 0 0))), (1, .int (nI t)), (2, .int (nI hh))]) F.1 F.2.1 dX6_run_48 hl (by decide) rfl (fun ls hl => ?_)
    have lp50 : ∀ (k50 i : Nat) (σi : mm_S) (en : Nat → Nat) (ls : Array Slot) (H : Heap) (locs : List Loc), T.nP < i + k50 → i ≤ T.nP → (mm_X σi T zb ad) → (mm_Fr 0 σ σi) → (∀ x, σi x = none → σb x = none) → (mm_R σi (mm_t_run T t hh) ad T.nR q0 eL pL qL [] en i) → (∀ p, p < i → σb (en p) = none) → mm_N b D s σi H locs → lv_has ls 6 [(0, .ref ((ad 0 0 0))), (3, .ref ((ad 3 t 0))), (4, .ref q0), (5, .int (nI i))] →
        W p l e ({ frames := 9, cells := 100, slots := 9000, locals := 260 } : Room) s m args below meth c H locs (5 + 3 * i) (19 + 307 * i) (mm_Q b D (fun v σ2 => mm_q_run T t hh = 0 ∧ v = some (.int (nI (T.nR))) ∧ mm_Xt σ σ2 (mm_t_run T t hh) (ad 0 0 0)) (fun E σ2 => ((mm_q_run T t hh = 1 ∧ E = "java/lang/IndexOutOfBoundsException") ∨ (mm_q_run T t hh = 2 ∧ E = "java/lang/IllegalStateException")) ∧ mm_Xt σ σ2 T (ad 0 0 0)) below args s ({ frames := 9, cells := 100, slots := 9000, locals := 260 } : Room)) (F0 m 50 ls []) := by
      intro k50
      induction k50 with
      | zero => intro i σi en ls H locs hk50 hi50 hXi hFi hmi hRi hei hN hl; omega
      | succ k50 ih50 =>
        intro i σi en ls H locs hk50 hi50 hXi hFi hmi hRi hei hN hl
        refine lv_iload (pc := 50) F.1 F.2.1 dX6_run_50 (lv_at hl 3 rfl) ?_
        refine lv_aload_n (pc := 52) F.1 F.2.1 dX6_run_52 rfl (lv_at hl 0 rfl) ?_
        refine mm_get (pc := 53) F hN (mm_X0 hXi) (ci := 6) rfl 1 (by decide) mw_86 rfl dX6_run_53 ?_
        refine mm_runV (pc := 56) (As := []) (rest := [.int (nI i)]) F hN (c_sz l b D hst 0 _ T.nP _ _ (mm_XL2 hXi) mm_rgl) mw_196 mw_197 mw_198 mw_4 mw_199 ⟨pmJx4a65c_size_8abf5, (Nat.le_of_ble_eq_true rfl), (Nat.le_of_ble_eq_true rfl)⟩ (mm_recvL F.2.2.2.2.2.1 hN (mm_XL2 hXi)) hl.1 rfl (Nat.le_of_ble_eq_true rfl) ⟨by show (5 + 3 * i) + 0 ≤ 100; omega, by show (19 + 307 * i) + 0 ≤ 9000; omega⟩ dX6_run_56
          (fun _ _ _ _ _ _ h9 => False.elim h9)
          (fun v9 σ9 H locs hp9 hN => ?_)
        obtain ⟨rfl, h9⟩ := hp9
        rw [h9] at hN
        refine W.eq (g2 := F0 m 59 ls [.int (nI T.nP), .int (nI i)]) rfl ?_
        refine W.widen (k := 5 + 3 * i) (n := 19 + 307 * i) (Nat.le_refl _) (Nat.le_refl _) ?_
        refine mm_icmp_ge (pc := 59) F (x := i) (y := T.nP) (tgt := 95) (by omega) (by omega) dX6_run_59 (by decide) (fun cz59 => ?_) (fun cz59 => ?_)
        ·
          have hin9 : i = T.nP := by omega
          rw [hin9] at hRi hei
          obtain ⟨r1, r2, r3, r4, r5⟩ := hRi
          refine lv_aload (pc := 95) F.1 F.2.1 dX6_run_95 (lv_at hl 2 rfl) ?_
          refine mm_runV (pc := 97) (As := []) (rest := []) F hN (c_choose l b D hst 0 q0 ((mm_t_run T t hh).rb T.nR) eL pL qL ((List.range T.nP).map en) (mm_fa (mm_t_run T t hh) ad T.nR) σi r1 r2 (mm_R_en2 r5 hBn wnP) r4 n2) mw_911 mw_912 mw_913 mw_29 mw_914 ⟨pmX3_chooseProof, (Nat.le_of_ble_eq_true rfl), (Nat.le_of_ble_eq_true rfl)⟩ (mm_recv F.2.2.2.2.2.1 hN r1 rfl) hl.1 rfl (Nat.le_of_ble_eq_true rfl) ⟨by show (5 + 3 * i) + 8 ≤ 100; omega, by show (19 + 307 * i) + 1200 ≤ 9000; omega⟩ dX6_run_97
            (fun _ _ _ _ _ _ h9 => False.elim h9)
            (fun v9 σc H locs hp9 hN => ?_)
          obtain ⟨rfl, hσc⟩ := hp9
          refine W.eq (g2 := F0 m 100 ls []) rfl ?_
          refine W.widen (k := 5 + 3 * i + 8) (n := 19 + 307 * i + 1200) (Nat.le_refl _) (Nat.le_refl _) ?_
          rw [mm_pl_map] at hσc
          have hRc : mm_R σc (mm_t_run T t hh) ad T.nR q0 eL pL qL ((mm_pl (mm_fa (mm_t_run T t hh) ad T.nR) T.nP 8).map en) en T.nP := by
            rw [hσc]
            refine ⟨?_, ?_, ?_, mm_u_eq, fun p hp => ?_⟩
            · exact (mm_u_ne (fun e => by rw [e, r4] at r1; cases r1)).trans r1
            · exact (mm_u_ne (Ne.symm n2)).trans r2
            · exact (mm_u_ne (Ne.symm n3)).trans r3
            · exact (mm_u_ne (fun e => by have := r5 p hp; rw [e, r4] at this; cases this)).trans (r5 p hp)
          have hXc : mm_X σc T zb ad := by rw [hσc]; exact mm_X_fr hXb rfl hXi b3
          have hFc : mm_Fr 0 σ σc := by rw [hσc]; exact hFi.tr (mm_Fr.u r4)
          refine lv_iconst (pc := 100) (v := nI 0) F.1 F.2.1 dX6_run_100 (by decide) ?_
          refine lv_istore (pc := 101) (lv' := [(5, .int (nI 0)), (0, .ref ((ad 0 0 0))), (3, .ref ((ad 3 t 0))), (4, .ref q0)]) F.1 F.2.1 dX6_run_101 hl (by decide) rfl (fun ls hl => ?_)
          have lp103 : ∀ (k103 j : Nat) (σj : mm_S) (ls : Array Slot) (H : Heap) (locs : List Loc), T.nA < j + k103 → j ≤ T.nA → (mm_X σj (T.w 2 (mm_ke T j)) zb ad) → (mm_Fr 0 σ σj) → (∀ x, σb x = none → σj x = σc x) → mm_N b D s σj H locs → lv_has ls 6 [(0, .ref ((ad 0 0 0))), (3, .ref ((ad 3 t 0))), (4, .ref q0), (5, .int (nI j))] →
              W p l e ({ frames := 9, cells := 100, slots := 9000, locals := 260 } : Room) s m args below meth c H locs (5 + 3 * i + 8) (19 + 307 * i + 1200) (mm_Q b D (fun v σ2 => mm_q_run T t hh = 0 ∧ v = some (.int (nI (T.nR))) ∧ mm_Xt σ σ2 (mm_t_run T t hh) (ad 0 0 0)) (fun E σ2 => ((mm_q_run T t hh = 1 ∧ E = "java/lang/IndexOutOfBoundsException") ∨ (mm_q_run T t hh = 2 ∧ E = "java/lang/IllegalStateException")) ∧ mm_Xt σ σ2 T (ad 0 0 0)) below args s ({ frames := 9, cells := 100, slots := 9000, locals := 260 } : Room)) (F0 m 103 ls []) := by
            intro k103
            induction k103 with
            | zero => intro j σj ls H locs hk103 hi103 hXj hFj hkj hN hl; omega
            | succ k103 ih103 =>
              intro j σj ls H locs hk103 hi103 hXj hFj hkj hN hl
              refine lv_iload (pc := 103) F.1 F.2.1 dX6_run_103 (lv_at hl 3 rfl) ?_
              refine lv_aload_n (pc := 105) F.1 F.2.1 dX6_run_105 rfl (lv_at hl 0 rfl) ?_
              refine mm_get (pc := 106) F hN (mm_tq1_0 hXj) (ci := 6) rfl 0 (by decide) mw_85 rfl dX6_run_106 ?_
              refine mm_runV (pc := 109) (As := []) (rest := [.int (nI j)]) F hN (c_sz l b D hst 0 _ (T.nA) _ _ (mm_tq1_L1 hXj) mm_rgl) mw_196 mw_197 mw_198 mw_4 mw_199 ⟨pmJx4a65c_size_8abf5, (Nat.le_of_ble_eq_true rfl), (Nat.le_of_ble_eq_true rfl)⟩ (mm_recvL F.2.2.2.2.2.1 hN (mm_tq1_L1 hXj)) hl.1 rfl (Nat.le_of_ble_eq_true rfl) ⟨by show (5 + 3 * i + 8) + 0 ≤ 100; omega, by show (19 + 307 * i + 1200) + 0 ≤ 9000; omega⟩ dX6_run_109
                (fun _ _ _ _ _ _ h9 => False.elim h9)
                (fun v9 σ9 H locs hp9 hN => ?_)
              obtain ⟨rfl, h9⟩ := hp9
              rw [h9] at hN
              refine W.eq (g2 := F0 m 112 ls [.int (nI T.nA), .int (nI j)]) rfl ?_
              refine W.widen (k := 5 + 3 * i + 8) (n := 19 + 307 * i + 1200) (Nat.le_refl _) (Nat.le_refl _) ?_
              refine mm_icmp_ge (pc := 112) F (x := j) (y := T.nA) (tgt := 136) (by omega) (by omega) dX6_run_112 (by decide) (fun cz112 => ?_) (fun cz112 => ?_)
              ·
                have hj9 : j = T.nA := by omega
                rw [hj9] at hXj
                obtain ⟨i1, i2, i3, i4, i5⟩ := hIb
                refine lv_aload_n (pc := 136) F.1 F.2.1 dX6_run_136 rfl (lv_at hl 0 rfl) ?_
                refine mm_get (pc := 137) F hN (mm_tq1_0 hXj) (ci := 6) rfl 4 (by decide) mw_89 rfl dX6_run_137 ?_
                refine lv_aload_n (pc := 140) F.1 F.2.1 dX6_run_140 rfl (lv_at hl 0 rfl) ?_
                refine mm_get (pc := 141) F hN (mm_tq1_0 hXj) (ci := 6) rfl 6 (by decide) mw_91 rfl dX6_run_141 ?_
                refine mm_runV (pc := 144) (As := [.ref ((ad 0 7 0))]) (rest := []) F hN (c_copyS l b D hst 0 (ad 0 5 0) (ad 0 7 0) (T.pa) (T.en 0) (T.en 1) (zb.l0) (zb.l1) (zb.l2) σj (mm_tq1_5 hXj) (mm_tq1_7 hXj) (mm_X_ne (k := 0) (i := 7) (j := 0) (k' := 0) (i' := 5) (j' := 0) hXj ⟨by decide, rfl⟩ ⟨by decide, rfl⟩ (by decide))) mw_573 mw_574 mw_575 mw_5 mw_576 ⟨pmX4_copyFrom, (Nat.le_of_ble_eq_true rfl), (Nat.le_of_ble_eq_true rfl)⟩ (mm_recv F.2.2.2.2.2.1 hN (mm_tq1_5 hXj) rfl) hl.1 rfl (Nat.le_of_ble_eq_true rfl) ⟨by show (5 + 3 * i + 8) + 0 ≤ 100; omega, by show (19 + 307 * i + 1200) + 0 ≤ 9000; omega⟩ dX6_run_144
                  (fun _ _ _ _ _ _ h9 => False.elim h9)
                  (fun v9 σ6 H locs hp9 hN => ?_)
                obtain ⟨rfl, hσ6⟩ := hp9
                refine W.eq (g2 := F0 m 147 ls []) rfl ?_
                refine W.widen (k := 5 + 3 * i + 8) (n := 19 + 307 * i + 1200) (Nat.le_refl _) (Nat.le_refl _) ?_
                have hX6 : mm_X σ6 (mm_tq2 (mm_tq1 T) (zb.l0) (zb.l1) (zb.l2)) zb ad := by
                  rw [hσ6]
                  exact mm_X_stk hXj
                have hF6 : mm_Fr 0 σj σ6 := by rw [hσ6]; exact mm_Fr.u (mm_tq1_5 hXj)
                have hk6 : ∀ x, σb x = none → σ6 x = σc x := fun x hx => by
                  rw [hσ6, mm_u_ne (fun e => by have := hXb.1 0 5 0 ⟨by decide, rfl⟩; rw [← e, hx] at this; cases this)]
                  exact hkj x hx
                refine lv_aload_n (pc := 147) F.1 F.2.1 dX6_run_147 rfl (lv_at hl 1 rfl) ?_
                refine lv_iconst (pc := 148) (v := nI 1) F.1 F.2.1 dX6_run_148 (by decide) ?_
                refine mm_put (pc := 149) F hN (mm_tq_3 hX6 htn) (ci := 5) rfl 4 (by decide) mw_472 rfl (ty := .boolean) (by decide +kernel) (mm_narZ (by decide)) (mm_fitZ (by decide)) (Nat.le_of_ble_eq_true rfl) dX6_run_149 (fun H locs hN => ?_)
                have hN : mm_N b D s (mm_u σ6 ((ad 3 t 0)) (mm_obj 0 5 [.ref ((ad 4 t 0)), .ref ((ad 4 t 1)), .ref ((ad 4 t 2)), .int (nI (T.pc t)), .int (nI 1)])) _ _ := hN
                obtain ⟨σ7, eσ7⟩ : ∃ q, q = mm_u σ6 ((ad 3 t 0)) (mm_obj 0 5 [.ref ((ad 4 t 0)), .ref ((ad 4 t 1)), .ref ((ad 4 t 2)), .int (nI (T.pc t)), .int (nI 1)]) := ⟨_, rfl⟩
                rw [← eσ7] at hN
                have hX7 : mm_X σ7 (mm_tqA T t hh) zb ad := by
                  have h9 := mm_XeT (mm_X_us (v := 1) hX6 (t := t) htn) (mm_tqA_eq i3 i4 i5)
                  rw [eσ7]
                  exact h9
                have hF7 : mm_Fr 0 σ6 σ7 := by rw [eσ7]; exact mm_Fr.u (x := mm_obj 0 5 [.ref ((ad 4 t 0)), .ref ((ad 4 t 1)), .ref ((ad 4 t 2)), .int (nI (T.pc t)), .int (nI 1)]) (mm_tq_3 hX6 htn)
                have hk7 : ∀ x, σb x = none → σ7 x = σc x := fun x hx => by
                  rw [eσ7, mm_u_ne (fun e => by have := hXb.1 3 t 0 ⟨htn, rfl⟩; rw [← e, hx] at this; cases this)]
                  exact hk6 x hx
                have hR7 : mm_R σ7 (mm_t_run T t hh) ad T.nR q0 eL pL qL ((mm_pl (mm_fa (mm_t_run T t hh) ad T.nR) T.nP 8).map en) en T.nP := ⟨(hk7 _ b0).trans hRc.1, (hk7 _ b1).trans hRc.2.1, (hk7 _ b2).trans hRc.2.2.1, (hk7 _ b3).trans hRc.2.2.2.1, fun p hp => (hk7 _ (hei p hp)).trans (hRc.2.2.2.2 p hp)⟩
                have hob7 : mm_ob σ7 q0 := ⟨0, 3, _, hR7.1, by decide⟩
                refine lv_aload_n (pc := 152) F.1 F.2.1 dX6_run_152 rfl (lv_at hl 0 rfl) ?_
                refine mm_get (pc := 153) F hN (mm_tqA_0 hX7) (ci := 6) rfl 3 (by decide) mw_88 rfl dX6_run_153 ?_
                refine lv_aload (pc := 156) F.1 F.2.1 dX6_run_156 (lv_at hl 2 rfl) ?_
                refine mm_runV (pc := 158) (As := [.ref q0]) (rest := []) F hN (c_ALadd l b D hst 0 (ad 0 4 0) q0 _ _ (mm_tqA_L4 hX7) hob7 (by rw [mm_rgl]; omega)) mw_246 mw_247 mw_248 mw_4 mw_249 ⟨pmJx4a65c_add_9ea2d, (Nat.le_of_ble_eq_true rfl), (Nat.le_of_ble_eq_true rfl)⟩ (mm_recvL F.2.2.2.2.2.1 hN (mm_tqA_L4 hX7)) hl.1 rfl (Nat.le_of_ble_eq_true rfl) ⟨by show (5 + 3 * i + 8) + 1 ≤ 100; omega, by show (19 + 307 * i + 1200) + 150 ≤ 9000; omega⟩ dX6_run_158
                  (fun _ _ _ _ _ _ h9 => False.elim h9)
                  (fun v9 σ5 H locs hp9 hN => ?_)
                obtain ⟨rfl, hσ5⟩ := hp9
                refine W.eq (g2 := F0 m 161 ls [.int (nI 1)]) rfl ?_
                refine W.widen (k := 5 + 3 * i + 8 + 1) (n := 19 + 307 * i + 1200 + 150) (Nat.le_refl _) (Nat.le_refl _) ?_
                have hX5 : mm_X σ5 (mm_t_run T t hh) zb (mm_aR ad T.nR q0 eL pL qL en) := by
                  rw [hσ5]
                  exact mm_Xrun hXb hX7 hR7 b0 b1 b2 b3 hei n1 n2 n3 wnP
                have hL5 : σ5 (ad 0 4 0) = mm_lst 0 ((List.range T.nR).map (fun q => ad 5 q 0) ++ [q0]) := by rw [hσ5]; exact mm_u_eq
                have h05 : σ5 (ad 0 0 0) = mm_obj 0 6 [.ref ((ad 0 1 0)), .ref ((ad 0 2 0)), .ref ((ad 0 3 0)), .ref ((ad 0 4 0)), .ref ((ad 0 5 0)), .ref ((ad 0 6 0)), .ref ((ad 0 7 0)), .int (nI T.bo)] := by rw [hσ5]; exact (mm_u_ne (mm_X_ne (k := 0) (i := 0) (j := 0) (k' := 0) (i' := 4) (j' := 0) hX7 ⟨by decide, rfl⟩ ⟨by decide, rfl⟩ (by decide))).trans (mm_tqA_0 hX7)
                have hF5 : mm_Fr 0 σ σ5 := by rw [hσ5]; exact ((hFj.tr hF6).tr hF7).tr (mm_Fr.u (mm_tqA_L4 hX7))
                refine lv_pop (pc := 161) F.1 F.2.1 dX6_run_161 rfl ?_
                refine lv_aload_n (pc := 162) F.1 F.2.1 dX6_run_162 rfl (lv_at hl 0 rfl) ?_
                refine mm_get (pc := 163) F hN (h05) (ci := 6) rfl 3 (by decide) mw_88 rfl dX6_run_163 ?_
                refine mm_runV (pc := 166) (As := []) (rest := []) F hN (c_sz l b D hst 0 _ (T.nR + 1) _ _ hL5 (by rw [List.length_append, mm_rgl]; rfl)) mw_196 mw_197 mw_198 mw_4 mw_199 ⟨pmJx4a65c_size_8abf5, (Nat.le_of_ble_eq_true rfl), (Nat.le_of_ble_eq_true rfl)⟩ (mm_recvL F.2.2.2.2.2.1 hN hL5) hl.1 rfl (Nat.le_of_ble_eq_true rfl) ⟨by show (5 + 3 * i + 8 + 1) + 0 ≤ 100; omega, by show (19 + 307 * i + 1200 + 150) + 0 ≤ 9000; omega⟩ dX6_run_166
                  (fun _ _ _ _ _ _ h9 => False.elim h9)
                  (fun v9 σ9 H locs hp9 hN => ?_)
                obtain ⟨rfl, h9⟩ := hp9
                rw [h9] at hN
                refine W.eq (g2 := F0 m 169 ls [.int (nI (T.nR + 1))]) rfl ?_
                refine W.widen (k := 5 + 3 * i + 8 + 1) (n := 19 + 307 * i + 1200 + 150) (Nat.le_refl _) (Nat.le_refl _) ?_
                refine lv_iconst (pc := 169) (v := nI 1) F.1 F.2.1 dX6_run_169 (by decide) ?_
                refine mm_isub (pc := 170) F (z := nI ((T.nR + 1) - 1)) (pk_sub (by omega)) dX6_run_170 ?_
                exact mm_iret (pc := 171) F hr hN (⟨by unfold mm_q_run; (repeat' split) <;> omega, by rw [Nat.add_sub_cancel], zb, _, hX5, rfl, hF5⟩) (by show 5 + 3 * i + 8 + 1 ≤ 100; omega) (by show 19 + 307 * i + 1200 + 150 ≤ 9000; omega) dX6_run_171
              ·
                refine lv_aload_n (pc := 115) F.1 F.2.1 dX6_run_115 rfl (lv_at hl 0 rfl) ?_
                refine mm_get (pc := 116) F hN (mm_tq1_0 hXj) (ci := 6) rfl 0 (by decide) mw_85 rfl dX6_run_116 ?_
                refine lv_iload (pc := 119) F.1 F.2.1 dX6_run_119 (lv_at hl 3 rfl) ?_
                refine mm_runV (pc := 121) (As := [.int (nI j)]) (rest := []) F hN (c_ALget l b D hst 0 _ j (ad 1 j 0) _ _ (mm_tq1_L1 hXj) (mm_rg (show j < T.nA by omega))) mw_357 mw_358 mw_359 mw_4 mw_360 ⟨pmJx4a65c_get_915e3, (Nat.le_of_ble_eq_true rfl), (Nat.le_of_ble_eq_true rfl)⟩ (mm_recvL F.2.2.2.2.2.1 hN (mm_tq1_L1 hXj)) hl.1 rfl (Nat.le_of_ble_eq_true rfl) ⟨by show (5 + 3 * i + 8) + 0 ≤ 100; omega, by show (19 + 307 * i + 1200) + 0 ≤ 9000; omega⟩ dX6_run_121
                  (fun _ _ _ _ _ _ h9 => False.elim h9)
                  (fun v9 σ9 H locs hp9 hN => ?_)
                obtain ⟨rfl, h9⟩ := hp9
                rw [h9] at hN
                refine W.eq (g2 := F0 m 124 ls [.ref ((ad 1 j 0))]) rfl ?_
                refine W.widen (k := 5 + 3 * i + 8) (n := 19 + 307 * i + 1200) (Nat.le_refl _) (Nat.le_refl _) ?_
                refine mm_cast (pc := 124) F hN (mm_tq1_A hXj (show j < T.nA by omega)) (ci := 0) rfl mw_216 dX6_run_124 ?_
                refine mm_runV (pc := 127) (As := []) (rest := []) F hN (c_keepD l b D hst 0 (ad 1 j 0) _ _ _ _ _ _ σj (mm_tq1_A hXj (show j < T.nA by omega))) mw_925 mw_926 mw_927 mw_21 mw_928 ⟨pmX0_keepDraft, (Nat.le_of_ble_eq_true rfl), (Nat.le_of_ble_eq_true rfl)⟩ (mm_recv F.2.2.2.2.2.1 hN (mm_tq1_A hXj (show j < T.nA by omega)) rfl) hl.1 rfl (Nat.le_of_ble_eq_true rfl) ⟨by show (5 + 3 * i + 8) + 0 ≤ 100; omega, by show (19 + 307 * i + 1200) + 0 ≤ 9000; omega⟩ dX6_run_127
                  (fun _ _ _ _ _ _ h9 => False.elim h9)
                  (fun v9 σ9 H locs hp9 hN => ?_)
                obtain ⟨rfl, hσ9⟩ := hp9
                refine W.eq (g2 := F0 m 130 ls []) rfl ?_
                refine W.widen (k := 5 + 3 * i + 8) (n := 19 + 307 * i + 1200) (Nat.le_refl _) (Nat.le_refl _) ?_
                have hjA : j < T.nA := by omega
                have hX9 : mm_X σ9 (T.w 2 (mm_ke T (j + 1))) zb ad := by rw [hσ9]; exact mm_X_kp hXj hjA (hIb.1 j hjA)
                have hF9 : mm_Fr 0 σj σ9 := by rw [hσ9]; exact mm_Fr.u (mm_tq1_A hXj hjA)
                have hk9 : ∀ x, σb x = none → σ9 x = σc x := fun x hx => by
                  rw [hσ9, mm_u_ne (fun e => by have := hXb.1 1 j 0 ⟨hjA, rfl⟩; rw [← e, hx] at this; cases this)]
                  exact hkj x hx
                refine lv_iinc (pc := 130) (v := nI (j + 1)) (lv' := [(5, .int (nI (j + 1))), (0, .ref ((ad 0 0 0))), (3, .ref ((ad 3 t 0))), (4, .ref q0)]) F.1 F.2.1 dX6_run_130 hl (k := 3) rfl (by rw [← nI_add]; rfl) (by decide) rfl (fun ls hl => ?_)
                refine lv_goto (pc := 133) (tgt := 103) F.1 F.2.1 dX6_run_133 (by decide) ?_
                refine W.widen (k := 5 + 3 * i + 8) (n := 19 + 307 * i + 1200) (by omega) (by omega) ?_
                exact ih103 (j + 1) σ9 ls _ _ (by omega) (by omega) (hX9) (hFj.tr hF9) (hk9) hN (lv_sub hl [1, 2, 3, 0] rfl)
          exact lp103 (T.nA + 1) 0 σc ls _ _ (by omega) (by omega) (by rw [mm_ke0]; exact hXc) (hFc) (fun _ _ => rfl) hN (lv_sub hl [1, 2, 3, 0] rfl)
        ·
          have hi2 : i < T.nP := by omega
          obtain ⟨who, wfl, wre⟩ := hW.hpe i hi2
          obtain ⟨e1, e2, e3, e4, e5, e6⟩ := mm_tr_n (t := t) (hh := hh) hi2
          obtain ⟨r1, r2, r3, r4, r5⟩ := hRi
          refine lv_aload (pc := 62) F.1 F.2.1 dX6_run_62 (lv_at hl 2 rfl) ?_
          refine mm_new (pc := 64) F hN 0 (ci := 1) (fs := [.int (nI 0), .null, .int (nI 0), .int (nI 0), .int (nI 0), .int (nI 0), .int (nI 0)]) rfl tyX1 tyX1_ok (fun j9 h9 => by rcases (show j9 = 0 ∨ j9 = 1 ∨ j9 = 2 ∨ j9 = 3 ∨ j9 = 4 ∨ j9 = 5 ∨ j9 = 6 by omega) with rfl | rfl | rfl | rfl | rfl | rfl | rfl <;> rfl) mw_572 mw_613 mw_30 (by show 5 + 3 * i + 1 ≤ 100; omega) (by show 19 + 307 * i + 7 ≤ 9000; omega) dX6_run_64 (fun q2 H hq2 hN => ?_)
          have hN : mm_N b D s (mm_u σi q2 (mm_obj 0 1 [.int (nI 0), .null, .int (nI 0), .int (nI 0), .int (nI 0), .int (nI 0), .int (nI 0)])) _ _ := hN
          obtain ⟨y, ey⟩ : ∃ x, x = q2 := ⟨_, rfl⟩
          rw [← ey]
          rw [← ey] at hN hq2
          have hyn : σi y = none := hq2
          have hXy : mm_X (mm_u σi y (mm_obj 0 1 [.int (nI 0), .null, .int (nI 0), .int (nI 0), .int (nI 0), .int (nI 0), .int (nI 0)])) T zb ad := mm_X_new hXi hyn
          refine lv_dup (pc := 67) F.1 F.2.1 dX6_run_67 rfl ?_
          refine lv_iload (pc := 68) F.1 F.2.1 dX6_run_68 (lv_at hl 3 rfl) ?_
          refine lv_aload_n (pc := 70) F.1 F.2.1 dX6_run_70 rfl (lv_at hl 0 rfl) ?_
          refine mm_get (pc := 71) F hN (mm_X0 hXy) (ci := 6) rfl 1 (by decide) mw_86 rfl dX6_run_71 ?_
          refine lv_iload (pc := 74) F.1 F.2.1 dX6_run_74 (lv_at hl 3 rfl) ?_
          refine mm_runV (pc := 76) (As := [.int (nI i)]) (rest := [.int (nI i), .ref y, .ref y, .ref q0]) F hN (c_ALget l b D hst 0 _ (i) (ad 2 i 0) _ _ (mm_XL2 hXy) (mm_rg (by omega))) mw_357 mw_358 mw_359 mw_4 mw_360 ⟨pmJx4a65c_get_915e3, (Nat.le_of_ble_eq_true rfl), (Nat.le_of_ble_eq_true rfl)⟩ (mm_recvL F.2.2.2.2.2.1 hN (mm_XL2 hXy)) hl.1 rfl (Nat.le_of_ble_eq_true rfl) ⟨by show (5 + 3 * i + 1) + 0 ≤ 100; omega, by show (19 + 307 * i + 7) + 0 ≤ 9000; omega⟩ dX6_run_76
            (fun _ _ _ _ _ _ h9 => False.elim h9)
            (fun v9 σ9 H locs hp9 hN => ?_)
          obtain ⟨rfl, h9⟩ := hp9
          rw [h9] at hN
          refine W.eq (g2 := F0 m 79 ls [.ref ((ad 2 i 0)), .int (nI i), .ref y, .ref y, .ref q0]) rfl ?_
          refine W.widen (k := 5 + 3 * i + 1) (n := 19 + 307 * i + 7) (Nat.le_refl _) (Nat.le_refl _) ?_
          refine mm_cast (pc := 79) F hN (mm_XP hXy (i := i) (by omega)) (ci := 2) rfl mw_373 dX6_run_79 ?_
          refine lv_aload_n (pc := 82) F.1 F.2.1 dX6_run_82 rfl (lv_at hl 1 rfl) ?_
          refine mm_runI (pc := 83) (As := [.int (nI i), .ref ((ad 2 i 0)), .ref ((ad 3 t 0))]) (rest := [.ref y, .ref q0]) F hN (c_Ent l b D hst 0 y (ad 2 i 0) (ad 1 (T.ho i) 0) (ad 3 t 0) (ad 4 t 0) (ad 4 t 1) (ad 4 t 2) (T.pc t) (T.us t) i (T.fl i) (zb.oc i) (T.co (T.ho i)) _ _ _ _ _ _ (fun x => if x < 8 then mm_pgs T t x else 0) (fun x => if x < 8 then mm_pts T t x else 0) wfl (by show zb 3 i < _; rw [hob i hi2]; exact mm_oc_lt T t hh i) _ mm_u_eq (mm_XP hXy hi2) (mm_XA hXy who) (mm_XT hXy htn) (mm_XTp hXy htn) (mm_XTa hXy htn)) rfl mw_614 mw_615 mw_30 mw_616 ⟨pmX1_init, (Nat.le_of_ble_eq_true rfl), (Nat.le_of_ble_eq_true rfl)⟩ hl.1 rfl (Nat.le_of_ble_eq_true rfl) ⟨by show (5 + 3 * i + 1) + 0 ≤ 100; omega, by show (19 + 307 * i + 7) + 0 ≤ 9000; omega⟩ dX6_run_83
            (fun _ _ _ _ _ _ h9 => False.elim h9)
            (fun v9 σ9 H locs hp9 hN => ?_)
          obtain ⟨rfl, hσ9⟩ := hp9
          refine W.eq (g2 := F0 m 86 ls [.ref y, .ref q0]) rfl ?_
          refine W.widen (k := 5 + 3 * i + 1) (n := 19 + 307 * i + 7) (Nat.le_refl _) (Nat.le_refl _) ?_
          rw [hσ9, mm_uu] at hN
          have hEo : mm_obj 0 1 [.int (nI i), .ref (ad 2 i 0), .int (nI (zb.oc i)), .int (nI (T.co (T.ho i))), .int (nI ((fun x => if x < 8 then mm_pgs T t x else 0) (T.fl i))), .int (nI ((fun x => if x < 8 then mm_pts T t x else 0) (T.fl i))), .int (nI 0)] = mm_eo 0 (mm_fa (mm_t_run T t hh) ad T.nR) i := by
            show _ = mm_obj 0 1 [.int (nI i), .ref (ad 2 i 0), .int (nI ((mm_t_run T t hh).oc T.nR i)), .int (nI ((mm_t_run T t hh).rc T.nR i)), .int (nI ((mm_t_run T t hh).pg T.nR i)), .int (nI ((mm_t_run T t hh).rt T.nR i)), .int (nI ((mm_t_run T t hh).bk T.nR i))]
            rw [e1, e2, e3, e4, e5, ← hob i hi2]
            show mm_obj 0 1 [_, _, _, _, .int (nI (if T.fl i < 8 then mm_pgs T t (T.fl i) else 0)), .int (nI (if T.fl i < 8 then mm_pts T t (T.fl i) else 0)), _] = _
            rw [if_pos wfl, if_pos wfl]
          rw [hEo] at hN
          obtain ⟨σy, eσy⟩ : ∃ x, x = mm_u σi y (mm_eo 0 (mm_fa (mm_t_run T t hh) ad T.nR) i) := ⟨_, rfl⟩
          rw [← eσy] at hN
          have y1 : q0 ≠ y := fun e => by rw [e, hyn] at r1; cases r1
          have y2 : eL ≠ y := fun e => by rw [e, hyn] at r2; cases r2
          have y3 : pL ≠ y := fun e => by rw [e, hyn] at r3; cases r3
          have hR1 := (mm_u_ne (x := mm_eo 0 (mm_fa (mm_t_run T t hh) ad T.nR) i) y1).trans r1
          rw [← eσy] at hR1
          have hLe := (mm_u_ne (x := mm_eo 0 (mm_fa (mm_t_run T t hh) ad T.nR) i) y2).trans r2
          rw [← eσy] at hLe
          have hLp := (mm_u_ne (x := mm_eo 0 (mm_fa (mm_t_run T t hh) ad T.nR) i) y3).trans r3
          rw [← eσy] at hLp
          have hY9 : σy y = mm_eo 0 (mm_fa (mm_t_run T t hh) ad T.nR) i := by rw [eσy]; exact mm_u_eq
          have hen9 : mm_en σy 0 ((mm_po ((mm_t_run T t hh).oc T.nR) ((mm_t_run T t hh).rc T.nR) i).map en) (fun k c => (mm_fa (mm_t_run T t hh) ad T.nR) k ((mm_po ((mm_t_run T t hh).oc T.nR) ((mm_t_run T t hh).rc T.nR) i).getD c 0)) := mm_R_en (i := i) (fun p hp => by rw [eσy]; exact (mm_u_ne (fun e => by have := r5 p hp; rw [e, hyn] at this; cases this)).trans (r5 p hp)) (fun p hp => hBn p (by omega)) (fun p hp => (mm_po_lt _ _ _ p hp).1) (by have := mm_po_len ((mm_t_run T t hh).oc T.nR) ((mm_t_run T t hh).rc T.nR) i; omega)
          have hXy9 : mm_X σy T zb ad := by rw [eσy]; exact mm_X_new hXi hyn
          refine mm_runV (pc := 86) (As := [.ref y]) (rest := []) F hN (c_enter l b D hst 0 q0 ((mm_t_run T t hh).rb T.nR) eL pL qL y ((mm_t_run T t hh).oc T.nR i) ((mm_t_run T t hh).rc T.nR i) ((mm_t_run T t hh).pg T.nR i) ((mm_t_run T t hh).rt T.nR i) ((mm_t_run T t hh).bk T.nR i) _ _ _ _ (fun k c => (mm_fa (mm_t_run T t hh) ad T.nR) k ((mm_po ((mm_t_run T t hh).oc T.nR) ((mm_t_run T t hh).rc T.nR) i).getD c 0)) σy hR1 hLe hLp hen9 hY9 (hBn i hi2).1 (hBn i hi2).2.1 (by rw [mm_rgl]; omega) n1) mw_654 mw_655 mw_656 mw_29 mw_657 ⟨pmX3_enter, (Nat.le_of_ble_eq_true rfl), (Nat.le_of_ble_eq_true rfl)⟩ (mm_recv F.2.2.2.2.2.1 hN hR1 rfl) hl.1 rfl (Nat.le_of_ble_eq_true rfl) ⟨by show (5 + 3 * i + 1) + 2 ≤ 100; omega, by show (19 + 307 * i + 7) + 300 ≤ 9000; omega⟩ dX6_run_86
            (fun _ _ _ _ _ _ h9 => False.elim h9)
            (fun v9 σ8 H locs hp9 hN => ?_)
          obtain ⟨rfl, hσ8⟩ := hp9
          refine W.eq (g2 := F0 m 89 ls []) rfl ?_
          refine W.widen (k := 5 + 3 * i + 1 + 2) (n := 19 + 307 * i + 7 + 300) (Nat.le_refl _) (Nat.le_refl _) ?_
          rw [eσy] at hσ8
          have hR8 : mm_R σ8 (mm_t_run T t hh) ad T.nR q0 eL pL qL [] (mm_up en i y) (i + 1) := by rw [hσ8]; exact mm_R_step ⟨r1, r2, r3, r4, r5⟩ hyn n1 n2 n3
          have hX8 : mm_X σ8 T zb ad := by
            rw [hσ8]
            split
            · exact mm_X_fr hXb rfl (mm_X_fr hXb rfl (mm_X_new hXi hyn) b1) b2
            · exact mm_X_fr hXb rfl (mm_X_new hXi hyn) b1
          have hF8 : mm_Fr 0 σ σ8 := by
            rw [hσ8]
            split
            · exact ((hFi.tr (mm_Fr.new hyn)).tr (mm_Fr.u ((mm_u_ne y2).trans r2))).tr (mm_Fr.u ((mm_u_ne n1).trans ((mm_u_ne y3).trans r3)))
            · exact (hFi.tr (mm_Fr.new hyn)).tr (mm_Fr.u ((mm_u_ne y2).trans r2))
          have hm8 : ∀ x, σ8 x = none → σb x = none := by
            intro x hx
            rw [hσ8] at hx
            split at hx
            · exact hmi x (mm_un (mm_un (mm_un hx)))
            · exact hmi x (mm_un (mm_un hx))
          have he8 : ∀ p, p < i + 1 → σb (mm_up en i y p) = none := by
            intro p hp
            by_cases e : p = i
            · rw [e, show mm_up en i y i = y from if_pos rfl]; exact hmi y hyn
            · rw [show mm_up en i y p = en p from if_neg e]; exact hei p (by omega)
          refine lv_iinc (pc := 89) (v := nI (i + 1)) (lv' := [(5, .int (nI (i + 1))), (0, .ref ((ad 0 0 0))), (3, .ref ((ad 3 t 0))), (4, .ref q0)]) F.1 F.2.1 dX6_run_89 hl (k := 3) rfl (by rw [← nI_add]; rfl) (by decide) rfl (fun ls hl => ?_)
          refine lv_goto (pc := 92) (tgt := 50) F.1 F.2.1 dX6_run_92 (by decide) ?_
          refine W.widen (k := 5 + 3 * (i + 1)) (n := 19 + 307 * (i + 1)) (by omega) (by omega) ?_
          exact ih50 (i + 1) σ8 ((mm_up en i y)) ls _ _ (by omega) (by omega) (hX8) (hF8) (hm8) (hR8) (he8) hN (lv_sub hl [1, 2, 3, 0] rfl)
    exact lp50 (T.nP + 1) 0 σr ((fun _ => 0)) ls _ _ (by omega) (by omega) (hXr) (hFr) (hmr) (hRr) (fun p hp => absurd hp (Nat.not_lt_zero _)) hN (lv_sub hl [3, 2, 1, 0] rfl)
  ·
    exact mm_throw F ht hN (by decide) (mm_tISE mw_210) mw_200 mw_20 (List.mem_of_getElem? (i := 16) rfl) hl.1 dX6_run_18 dX6_run_21 dX6_run_22 dX6_run_24 dX6_run_27 ⟨(Nat.le_of_ble_eq_true rfl), (Nat.le_of_ble_eq_true rfl), (Nat.le_of_ble_eq_true rfl), (Nat.le_of_ble_eq_true rfl)⟩ (⟨Or.inr (⟨by unfold mm_q_run; (repeat' split) <;> omega, rfl⟩), mm_Xt.rf hX rfl⟩) (Nat.le_of_ble_eq_true rfl) (Nat.le_of_ble_eq_true rfl)

