section MML
variable {p : Program} {l : Launch} {e : Env} {R : Room} {s : State} {m : MethodId} {args : Array Value} {below : List Frame} {meth : Method} {c : Code} {H : Heap} {locs : List Loc} {cells slots : Nat} {Q : State → Prop}
variable {cc : ByteArray} {pc : Nat} {ls : Array Slot} {rest : List Value}
theorem mm_lcmpE (hexec : p.tables.exec = Jvm.exec) (hb : c.code = cc) {x : Int64} (hdg : decode cc pc = .ok (.lcmp, 1))
    (k : W p l e R s m args below meth c H locs cells slots Q (F0 m (pc + 1) ls (.int (nI 0) :: rest))) : W p l e R s m args below meth c H locs cells slots Q (F0 m pc ls (.long x :: .long x :: rest)) := by
  intro T hT X
  obtain ⟨t, a, b⟩ := k T hT X
  refine ⟨t, ?_, b⟩
  have h1 : ¬ x < x := Int64.lt_irrefl
  jvm_step X.here [X.here.top, hexec, hb, hdg, h1]
  exact a
end MML
theorem lq_ocn {T : mm_T} (hW : mm_WF T) {r u : Nat} (hr : r < T.nR) (h : ¬ (u < T.rp r ∧ T.oc r u = 108)) : ¬ lq_i (mm_q_outcome T r u) (T.oc r u) = nI 108 := by
  unfold mm_q_outcome
  by_cases h1 : u < T.rp r
  · rw [if_pos ⟨hr, h1⟩, lq_i0 rfl]
    have h2 := ((hW.hru r hr).2.2.2 u h1).1
    exact fun e => h ⟨h1, (nI_eq (a := T.oc r u) (b := 108) (by omega) (by decide)).mp e⟩
  · rw [if_neg (fun q => h1 q.2), lq_i1 rfl]
    decide
theorem lq_pnl {T : mm_T} {r : Nat} : (mm_po (T.oc r) (T.rc r) (T.rp r)).length = mm_nl T r := lq_po_l
theorem lq_plt {T : mm_T} {r kk : Nat} (h : kk < mm_nl T r) : (mm_po (T.oc r) (T.rc r) (T.rp r)).getD kk 0 < T.rp r ∧ T.oc r ((mm_po (T.oc r) (T.rc r) (T.rp r)).getD kk 0) = 108 := mm_po_lt (T.oc r) (T.rc r) (T.rp r) _ (mm_gmem (by rw [lq_pnl]; exact h))
set_option maxHeartbeats 4000000 in
set_option maxRecDepth 100000 in
theorem e_sound (l : Launch) (b : Nat) (D : mm_D) (hst : l.stackTraces = false) (T : mm_T) (x0 : Nat) (σ : mm_S) (hV : lq_V σ T x0) (hW : mm_WF T) (hI : lq_I T) : mm_K l b D yL_isSound (.code yL_isSound cL_isSound 12 (some .boolean)) ({ frames := 11, cells := 25000, slots := 220000, locals := 500 } : Room) [.ref x0] σ
    (fun v σ2 => v = some (.int (nI 1)) ∧ mm_Xt σ σ2 T x0)
    (fun _ _ => False) := by
  refine mm_of (cc := cL_isSound) (nL := 12) (ret := (some .boolean)) (by decide) rfl (Nat.le_of_ble_eq_true rfl) hst ?_
  intro p e s m args below meth c ls F ht hr hin hN hl
  have hl : lv_has ls 12 [(0, .ref x0)] := hl
  have wnA := hW.hnA
  have wnP := hW.hnP
  have wnT := hW.hnT
  have wnR := hW.hnR
  have wpa := hW.hpa
  have wen0 := hW.hen 0
  have wen1 := hW.hen 1
  refine lv_aload_n (pc := 0) F.1 F.2.1 dL_isSound_0 rfl (lv_at hl 0 rfl) ?_
  refine lv_iconst (pc := 1) (v := nI 0) F.1 F.2.1 dL_isSound_1 (by decide) ?_
  refine mm_runS (pc := 2) (As := [.ref x0, .int (nI 0)]) (rest := []) F hN (e_many0 l b D hst T x0 σ hV hW) mw_1105 mw_1106 mw_0 mw_1107 ⟨pmL_many, (Nat.le_of_ble_eq_true rfl), (Nat.le_of_ble_eq_true rfl)⟩ hl.1 rfl (Nat.le_of_ble_eq_true rfl) ⟨(Nat.le_of_ble_eq_true rfl), (Nat.le_of_ble_eq_true rfl)⟩ dL_isSound_2
    (fun _ _ _ _ _ _ h9 => False.elim h9) (fun v9 σ1 H locs hp9 hN => ?_)
  obtain ⟨rfl, hx1⟩ := hp9
  refine W.eq (g2 := F0 m 5 ls [.int (nI T.nP)]) rfl ?_
  refine W.widen (k := 150) (n := 1000) (Nat.le_of_ble_eq_true rfl) (Nat.le_of_ble_eq_true rfl) ?_
  have hV1 := hx1.v
  have hF1 := mm_Fr.tr mm_Fr.rf hx1.fr
  refine lv_istore_n (pc := 5) (lv' := [(1, .int (nI T.nP)), (0, .ref x0)]) F.1 F.2.1 dL_isSound_5 rfl hl (by decide) rfl (fun ls hl => ?_)
  refine lv_aload_n (pc := 6) F.1 F.2.1 dL_isSound_6 rfl (lv_at hl 1 rfl) ?_
  refine lv_iconst (pc := 7) (v := nI 1) F.1 F.2.1 dL_isSound_7 (by decide) ?_
  refine mm_runS (pc := 8) (As := [.ref x0, .int (nI 1)]) (rest := []) F hN (e_many1 l b D hst T x0 σ1 hV1 hW) mw_1105 mw_1106 mw_0 mw_1107 ⟨pmL_many, (Nat.le_of_ble_eq_true rfl), (Nat.le_of_ble_eq_true rfl)⟩ hl.1 rfl (Nat.le_of_ble_eq_true rfl) ⟨(Nat.le_of_ble_eq_true rfl), (Nat.le_of_ble_eq_true rfl)⟩ dL_isSound_8
    (fun _ _ _ _ _ _ h9 => False.elim h9) (fun v9 σ2 H locs hp9 hN => ?_)
  obtain ⟨rfl, hx2⟩ := hp9
  refine W.eq (g2 := F0 m 11 ls [.int (nI T.nR)]) rfl ?_
  refine W.widen (k := 300) (n := 2000) (Nat.le_of_ble_eq_true rfl) (Nat.le_of_ble_eq_true rfl) ?_
  have hV2 := hx2.v
  have hF2 := mm_Fr.tr hF1 hx2.fr
  refine lv_istore_n (pc := 11) (lv' := [(2, .int (nI T.nR)), (1, .int (nI T.nP)), (0, .ref x0)]) F.1 F.2.1 dL_isSound_11 rfl hl (by decide) rfl (fun ls hl => ?_)
  refine lv_iconst (pc := 12) (v := nI 0) F.1 F.2.1 dL_isSound_12 (by decide) ?_
  refine lv_istore_n (pc := 13) (lv' := [(3, .int (nI 0)), (2, .int (nI T.nR)), (1, .int (nI T.nP)), (0, .ref x0)]) F.1 F.2.1 dL_isSound_13 rfl hl (by decide) rfl (fun ls hl => ?_)
  refine W.widen (k := 300 + 2000 * 0) (n := 2000 + 16000 * 0) (by omega) (by omega) ?_
  have lp14 : ∀ (k14 nn : Nat) (σnn : mm_S) (ls : Array Slot) (H : Heap) (locs : List Loc), T.nT < nn + k14 → nn ≤ T.nT → (lq_V σnn T x0) → (mm_Fr 0 σ σnn) → mm_N b D s σnn H locs → lv_has ls 12 [(0, .ref x0), (1, .int (nI T.nP)), (2, .int (nI T.nR)), (3, .int (nI nn))] →
      W p l e ({ frames := 11, cells := 25000, slots := 220000, locals := 500 } : Room) s m args below meth c H locs (300 + 2000 * nn) (2000 + 16000 * nn) (mm_Q b D (fun v σ2 => v = some (.int (nI 1)) ∧ mm_Xt σ σ2 T x0) (fun _ _ => False) below args s ({ frames := 11, cells := 25000, slots := 220000, locals := 500 } : Room)) (F0 m 14 ls []) := by
    intro k14
    induction k14 with
    | zero => intro nn σnn ls H locs hk14 hi14 hVnn hFnn hN hl; omega
    | succ k14 ih14 =>
      intro nn σnn ls H locs hk14 hi14 hVnn hFnn hN hl
      refine lv_iload_n (pc := 14) F.1 F.2.1 dL_isSound_14 rfl (lv_at hl 3 rfl) ?_
      refine lv_aload_n (pc := 15) F.1 F.2.1 dL_isSound_15 rfl (lv_at hl 0 rfl) ?_
      refine lv_iconst (pc := 16) (v := nI 2) F.1 F.2.1 dL_isSound_16 (by decide) ?_
      refine mm_runS (pc := 17) (As := [.ref x0, .int (nI 2)]) (rest := [.int (nI nn)]) F hN (e_many2 l b D hst T x0 σnn hVnn hW) mw_1105 mw_1106 mw_0 mw_1107 ⟨pmL_many, (Nat.le_of_ble_eq_true rfl), (Nat.le_of_ble_eq_true rfl)⟩ hl.1 rfl (Nat.le_of_ble_eq_true rfl) ⟨by show (300 + 2000 * nn) + 150 ≤ 25000; omega, by show (2000 + 16000 * nn) + 1000 ≤ 220000; omega⟩ dL_isSound_17
        (fun _ _ _ _ _ _ h9 => False.elim h9) (fun v9 σ3 H locs hp9 hN => ?_)
      obtain ⟨rfl, hx3⟩ := hp9
      refine W.eq (g2 := F0 m 20 ls [.int (nI T.nT), .int (nI nn)]) rfl ?_
      refine W.widen (k := 300 + 2000 * nn + 150) (n := 2000 + 16000 * nn + 1000) (Nat.le_refl _) (Nat.le_refl _) ?_
      have hV3 := hx3.v
      have hF3 := mm_Fr.tr hFnn hx3.fr
      refine mm_icmp_ge (pc := 20) F (x := nn) (y := T.nT) (tgt := 149) (by omega) (by omega) dL_isSound_20 (by decide) (fun cz20 => ?_) (fun cz20 => ?_)
      ·
        refine lv_iconst (pc := 149) (v := nI 0) F.1 F.2.1 dL_isSound_149 (by decide) ?_
        refine lv_istore_n (pc := 150) (lv' := [(3, .int (nI 0)), (0, .ref x0), (1, .int (nI T.nP)), (2, .int (nI T.nR))]) F.1 F.2.1 dL_isSound_150 rfl hl (by decide) rfl (fun ls hl => ?_)
        refine W.widen (k := 9000 + 1500 * 0) (n := 72000 + 12000 * 0) (by omega) (by omega) ?_
        have lp151 : ∀ (k151 r : Nat) (σr : mm_S) (ls : Array Slot) (H : Heap) (locs : List Loc), T.nR < r + k151 → r ≤ T.nR → (lq_V σr T x0) → (mm_Fr 0 σ σr) → mm_N b D s σr H locs → lv_has ls 12 [(0, .ref x0), (1, .int (nI T.nP)), (2, .int (nI T.nR)), (3, .int (nI r))] →
            W p l e ({ frames := 11, cells := 25000, slots := 220000, locals := 500 } : Room) s m args below meth c H locs (9000 + 1500 * r) (72000 + 12000 * r) (mm_Q b D (fun v σ2 => v = some (.int (nI 1)) ∧ mm_Xt σ σ2 T x0) (fun _ _ => False) below args s ({ frames := 11, cells := 25000, slots := 220000, locals := 500 } : Room)) (F0 m 151 ls []) := by
          intro k151
          induction k151 with
          | zero => intro r σr ls H locs hk151 hi151 hVr hFr hN hl; omega
          | succ k151 ih151 =>
            intro r σr ls H locs hk151 hi151 hVr hFr hN hl
            refine lv_iload_n (pc := 151) F.1 F.2.1 dL_isSound_151 rfl (lv_at hl 3 rfl) ?_
            refine lv_iload_n (pc := 152) F.1 F.2.1 dL_isSound_152 rfl (lv_at hl 2 rfl) ?_
            refine mm_icmp_ge (pc := 153) F (x := r) (y := T.nR) (tgt := 492) (by omega) (by omega) dL_isSound_153 (by decide) (fun cz153 => ?_) (fun cz153 => ?_)
            ·
              refine lv_aload_n (pc := 492) F.1 F.2.1 dL_isSound_492 rfl (lv_at hl 0 rfl) ?_
              refine mm_runSX (pc := 493) (As := [.ref x0]) (rest := []) F hN (e_share l b D hst T x0 σr hVr hW) mw_1064 mw_1065 mw_0 mw_1066 ⟨pmL_share, (Nat.le_of_ble_eq_true rfl), (Nat.le_of_ble_eq_true rfl)⟩ hl.1 rfl (Nat.le_of_ble_eq_true rfl) ⟨by show (9000 + 1500 * r) + 6 ≤ 25000; omega, by show (72000 + 12000 * r) + 40 ≤ 220000; omega⟩ dL_isSound_493
                (fun _ _ _ _ _ _ h9 => False.elim h9) (fun v9 σ4 H locs hp9 hN => ?_)
              obtain ⟨rfl, hx4⟩ := hp9
              refine W.eq (g2 := F0 m 496 ls [.float ((if mm_q_returnShare T = 0 then FP.fdiv (FP.i2f (nI (mm_sm (mm_nb9 T) T.nR))) (FP.i2f (nI (mm_sm (mm_nl T) T.nR))) else 3212836864))]) rfl ?_
              refine W.widen (k := 9000 + 1500 * r + 6) (n := 72000 + 12000 * r + 40) (Nat.le_refl _) (Nat.le_refl _) ?_
              have hV4 := hx4.v
              have hF4 := mm_Fr.tr hFr hx4.fr
              refine W.eq (g2 := F0 m 496 ls [.float (lq_sh T)]) (by rfl) ?_
              refine lv_fconst1 (pc := 496) F.1 F.2.1 dL_isSound_496 ?_
              refine lv_fcmp (pc := 497) F.1 F.2.1 dL_isSound_497 ?_
              refine lv_if_gt (pc := 498) (tgt := 546) F.1 F.2.1 dL_isSound_498 (by decide) (fun cz498 => ?_) (fun cz498 => ?_)
              ·
                exact absurd cz498 (lq_share_le hW)
              ·
                refine lv_aload_n (pc := 501) F.1 F.2.1 dL_isSound_501 rfl (lv_at hl 0 rfl) ?_
                refine mm_runSX (pc := 502) (As := [.ref x0]) (rest := []) F hN (e_mean l b D hst T x0 σ4 hV4 hW) mw_1093 mw_1094 mw_0 mw_1095 ⟨pmL_mean, (Nat.le_of_ble_eq_true rfl), (Nat.le_of_ble_eq_true rfl)⟩ hl.1 rfl (Nat.le_of_ble_eq_true rfl) ⟨by show (9000 + 1500 * r + 6) + 6 ≤ 25000; omega, by show (72000 + 12000 * r + 40) + 40 ≤ 220000; omega⟩ dL_isSound_502
                  (fun _ _ _ _ _ _ h9 => False.elim h9) (fun v9 σ5 H locs hp9 hN => ?_)
                obtain ⟨rfl, hx5⟩ := hp9
                refine W.eq (g2 := F0 m 505 ls [.double ((if mm_q_meanPages T = 0 then FP.ddiv (FP.i2d (nI (mm_sm (mm_s0 T) T.nR))) (FP.i2d (nI (mm_sm (mm_nl T) T.nR))) else 13830554455654793216))]) rfl ?_
                refine W.widen (k := 9000 + 1500 * r + 6 + 6) (n := 72000 + 12000 * r + 40 + 40) (Nat.le_refl _) (Nat.le_refl _) ?_
                have hV5 := hx5.v
                have hF5 := mm_Fr.tr hF4 hx5.fr
                refine W.eq (g2 := F0 m 505 ls [.double (lq_me T)]) (by rfl) ?_
                refine lv_ldc2d (pc := 505) (v := (4620693217682128896)) F.1 F.2.1 F.2.2.2.1 (F.2.2.2.2.1 _ mw_1137) dL_isSound_505 ?_
                refine lv_dcmp (pc := 508) F.1 F.2.1 dL_isSound_508 ?_
                refine lv_if_gt (pc := 509) (tgt := 546) F.1 F.2.1 dL_isSound_509 (by decide) (fun cz509 => ?_) (fun cz509 => ?_)
                ·
                  exact absurd cz509 (lq_mean_le hW)
                ·
                  refine lv_aload_n (pc := 512) F.1 F.2.1 dL_isSound_512 rfl (lv_at hl 0 rfl) ?_
                  refine mm_runV (pc := 513) (As := []) (rest := []) F hN (e_pap l b D hst T x0 σ5 hV5 hW) mw_1111 mw_1112 mw_1113 mw_1 mw_1114 ⟨pmX6_paper, (Nat.le_of_ble_eq_true rfl), (Nat.le_of_ble_eq_true rfl)⟩ (hV5.o.elim fun fs9 ho9 => mm_recv F.2.2.2.2.2.1 hN ho9 rfl) hl.1 rfl (Nat.le_of_ble_eq_true rfl) ⟨by show (9000 + 1500 * r + 6 + 6) + 6 ≤ 25000; omega, by show (72000 + 12000 * r + 40 + 40) + 40 ≤ 220000; omega⟩ dL_isSound_513
                    (fun _ _ _ _ _ _ h9 => False.elim h9) (fun v9 σ6 H locs hp9 hN => ?_)
                  obtain ⟨-, rfl, hx6⟩ := hp9
                  refine W.eq (g2 := F0 m 516 ls [.int (nI T.pa)]) rfl ?_
                  refine W.widen (k := 9000 + 1500 * r + 6 + 6 + 6) (n := 72000 + 12000 * r + 40 + 40 + 40) (Nat.le_refl _) (Nat.le_refl _) ?_
                  have hV6 := hx6.v
                  have hF6 := mm_Fr.tr hF5 hx6.fr
                  refine mm_if_lt (pc := 516) F (tgt := 546) (by omega) dL_isSound_516 (by decide) ?_
                  refine lv_aload_n (pc := 519) F.1 F.2.1 dL_isSound_519 rfl (lv_at hl 0 rfl) ?_
                  refine lv_iconst (pc := 520) (v := nI 0) F.1 F.2.1 dL_isSound_520 (by decide) ?_
                  refine mm_runV (pc := 521) (As := [.int (nI 0)]) (rest := []) F hN (e_env l b D hst T x0 σ6 hV6 hW 0 (by decide)) mw_1116 mw_1117 mw_1118 mw_1 mw_1119 ⟨pmX6_envelopes, (Nat.le_of_ble_eq_true rfl), (Nat.le_of_ble_eq_true rfl)⟩ (hV6.o.elim fun fs9 ho9 => mm_recv F.2.2.2.2.2.1 hN ho9 rfl) hl.1 rfl (Nat.le_of_ble_eq_true rfl) ⟨by show (9000 + 1500 * r + 6 + 6 + 6) + 6 ≤ 25000; omega, by show (72000 + 12000 * r + 40 + 40 + 40) + 40 ≤ 220000; omega⟩ dL_isSound_521
                    (fun _ _ _ _ _ _ h9 => False.elim h9) (fun v9 σ7 H locs hp9 hN => ?_)
                  obtain ⟨-, rfl, hx7⟩ := hp9
                  refine W.eq (g2 := F0 m 524 ls [.int (nI (T.en 0))]) rfl ?_
                  refine W.widen (k := 9000 + 1500 * r + 6 + 6 + 6 + 6) (n := 72000 + 12000 * r + 40 + 40 + 40 + 40) (Nat.le_refl _) (Nat.le_refl _) ?_
                  have hV7 := hx7.v
                  have hF7 := mm_Fr.tr hF6 hx7.fr
                  refine mm_if_lt (pc := 524) F (tgt := 546) (by omega) dL_isSound_524 (by decide) ?_
                  refine lv_aload_n (pc := 527) F.1 F.2.1 dL_isSound_527 rfl (lv_at hl 0 rfl) ?_
                  refine lv_iconst (pc := 528) (v := nI 1) F.1 F.2.1 dL_isSound_528 (by decide) ?_
                  refine mm_runV (pc := 529) (As := [.int (nI 1)]) (rest := []) F hN (e_env l b D hst T x0 σ7 hV7 hW 1 (by decide)) mw_1116 mw_1117 mw_1118 mw_1 mw_1119 ⟨pmX6_envelopes, (Nat.le_of_ble_eq_true rfl), (Nat.le_of_ble_eq_true rfl)⟩ (hV7.o.elim fun fs9 ho9 => mm_recv F.2.2.2.2.2.1 hN ho9 rfl) hl.1 rfl (Nat.le_of_ble_eq_true rfl) ⟨by show (9000 + 1500 * r + 6 + 6 + 6 + 6) + 6 ≤ 25000; omega, by show (72000 + 12000 * r + 40 + 40 + 40 + 40) + 40 ≤ 220000; omega⟩ dL_isSound_529
                    (fun _ _ _ _ _ _ h9 => False.elim h9) (fun v9 σ8 H locs hp9 hN => ?_)
                  obtain ⟨-, rfl, hx8⟩ := hp9
                  refine W.eq (g2 := F0 m 532 ls [.int (nI (T.en 1))]) rfl ?_
                  refine W.widen (k := 9000 + 1500 * r + 6 + 6 + 6 + 6 + 6) (n := 72000 + 12000 * r + 40 + 40 + 40 + 40 + 40) (Nat.le_refl _) (Nat.le_refl _) ?_
                  have hV8 := hx8.v
                  have hF8 := mm_Fr.tr hF7 hx8.fr
                  refine mm_if_lt (pc := 532) F (tgt := 546) (by omega) dL_isSound_532 (by decide) ?_
                  refine lv_aload_n (pc := 535) F.1 F.2.1 dL_isSound_535 rfl (lv_at hl 0 rfl) ?_
                  refine mm_runV (pc := 536) (As := []) (rest := []) F hN (e_sou l b D hst T x0 σ8 hV8 hW) mw_1138 mw_1139 mw_1140 mw_1 mw_1141 ⟨pmX6_isSound, (Nat.le_of_ble_eq_true rfl), (Nat.le_of_ble_eq_true rfl)⟩ (hV8.o.elim fun fs9 ho9 => mm_recv F.2.2.2.2.2.1 hN ho9 rfl) hl.1 rfl (Nat.le_of_ble_eq_true rfl) ⟨by show (9000 + 1500 * r + 6 + 6 + 6 + 6 + 6) + 6 ≤ 25000; omega, by show (72000 + 12000 * r + 40 + 40 + 40 + 40 + 40) + 40 ≤ 220000; omega⟩ dL_isSound_536
                    (fun _ _ _ _ _ _ h9 => False.elim h9) (fun v9 σ9 H locs hp9 hN => ?_)
                  obtain ⟨-, rfl, hx9⟩ := hp9
                  refine W.eq (g2 := F0 m 539 ls [.int (nI 1)]) rfl ?_
                  refine W.widen (k := 9000 + 1500 * r + 6 + 6 + 6 + 6 + 6 + 6) (n := 72000 + 12000 * r + 40 + 40 + 40 + 40 + 40 + 40) (Nat.le_refl _) (Nat.le_refl _) ?_
                  have hV9 := hx9.v
                  have hF9 := mm_Fr.tr hF8 hx9.fr
                  refine mm_if_eq (pc := 539) F (tgt := 546) (by omega) dL_isSound_539 (by decide) (fun h9 => absurd h9 (by decide)) (fun cz539 => ?_)
                  refine lv_iconst (pc := 542) (v := nI 1) F.1 F.2.1 dL_isSound_542 (by decide) ?_
                  refine lv_goto (pc := 543) (tgt := 547) F.1 F.2.1 dL_isSound_543 (by decide) ?_
                  exact mm_zret (pc := 547) F (ty := .boolean) hr hN (by decide) (⟨rfl, mm_Xt.of hV9 hF9⟩) (by show 9000 + 1500 * r + 6 + 6 + 6 + 6 + 6 + 6 ≤ 25000; omega) (by show 72000 + 12000 * r + 40 + 40 + 40 + 40 + 40 + 40 ≤ 220000; omega) dL_isSound_547
            ·
              have cz153x : r < T.nR := by omega
              obtain ⟨wr1, wr2, wr3, wr4⟩ := hW.hru r cz153x
              have hnl := lq_nl_le hW cz153x
              have hpo := lq_pnl (T := T) (r := r)
              obtain ⟨hpr1, hpr2, hpr3, hpr4⟩ := lq_proof hW hI cz153x
              refine lv_aload_n (pc := 156) F.1 F.2.1 dL_isSound_156 rfl (lv_at hl 0 rfl) ?_
              refine lv_iload_n (pc := 157) F.1 F.2.1 dL_isSound_157 rfl (lv_at hl 3 rfl) ?_
              refine lv_iconst (pc := 158) (v := nI 0) F.1 F.2.1 dL_isSound_158 (by decide) ?_
              refine lv_iconst (pc := 159) (v := nI 1) F.1 F.2.1 dL_isSound_159 (by decide) ?_
              refine mm_runSX (pc := 160) (As := [.ref x0, .int (nI r), .int (nI 0), .int (nI 1)]) (rest := []) F hN (e_lett l b D hst T x0 σr hVr hW r (by omega) 0) mw_984 mw_985 mw_0 mw_986 ⟨pmL_told, (Nat.le_of_ble_eq_true rfl), (Nat.le_of_ble_eq_true rfl)⟩ hl.1 rfl (Nat.le_of_ble_eq_true rfl) ⟨by show (9000 + 1500 * r) + 6 ≤ 25000; omega, by show (72000 + 12000 * r) + 40 ≤ 220000; omega⟩ dL_isSound_160
                (fun _ _ _ _ _ _ h9 => False.elim h9) (fun v9 σ10 H locs hp9 hN => ?_)
              obtain ⟨rfl, hx10⟩ := hp9
              refine W.eq (g2 := F0 m 163 ls [.int (lq_i (mm_q_letters T r) (mm_sm (fun p => if T.oc r p = 108 then 1 else 0) (T.rp r)))]) rfl ?_
              refine W.widen (k := 9000 + 1500 * r + 6) (n := 72000 + 12000 * r + 40) (Nat.le_refl _) (Nat.le_refl _) ?_
              have hV10 := hx10.v
              have hF10 := mm_Fr.tr hFr hx10.fr
              refine W.eq (g2 := F0 m 163 ls [.int (nI ((mm_sm (fun p => if T.oc r p = 108 then 1 else 0) (T.rp r))))]) (by rw [lq_i0 (by unfold mm_q_letters; (repeat' split) <;> omega)]) ?_
              refine W.eq (g2 := F0 m 163 ls [.int (nI (mm_nl T r))]) (by rfl) ?_
              refine lv_istore (pc := 163) (lv' := [(4, .int (nI (mm_nl T r))), (0, .ref x0), (1, .int (nI T.nP)), (2, .int (nI T.nR)), (3, .int (nI r))]) F.1 F.2.1 dL_isSound_163 hl (by decide) rfl (fun ls hl => ?_)
              refine lv_iconst (pc := 165) (v := nI 0) F.1 F.2.1 dL_isSound_165 (by decide) ?_
              refine lv_istore (pc := 166) (lv' := [(5, .int (nI 0)), (4, .int (nI (mm_nl T r))), (0, .ref x0), (1, .int (nI T.nP)), (2, .int (nI T.nR)), (3, .int (nI r))]) F.1 F.2.1 dL_isSound_166 hl (by decide) rfl (fun ls hl => ?_)
              refine lv_iconst (pc := 168) (v := nI 0) F.1 F.2.1 dL_isSound_168 (by decide) ?_
              refine lv_istore (pc := 169) (lv' := [(6, .int (nI 0)), (5, .int (nI 0)), (4, .int (nI (mm_nl T r))), (0, .ref x0), (1, .int (nI T.nP)), (2, .int (nI T.nR)), (3, .int (nI r))]) F.1 F.2.1 dL_isSound_169 hl (by decide) rfl (fun ls hl => ?_)
              refine lv_lconst (pc := 171) (v := lN 0) F.1 F.2.1 dL_isSound_171 (by decide) ?_
              refine lv_lstore (pc := 172) (lv' := [(7, .long (lN 0)), (6, .int (nI 0)), (5, .int (nI 0)), (4, .int (nI (mm_nl T r))), (0, .ref x0), (1, .int (nI T.nP)), (2, .int (nI T.nR)), (3, .int (nI r))]) F.1 F.2.1 dL_isSound_172 hl (by decide) rfl (fun ls hl => ?_)
              refine lv_iconst (pc := 174) (v := nI 0) F.1 F.2.1 dL_isSound_174 (by decide) ?_
              refine lv_istore (pc := 175) (lv' := [(9, .int (nI 0)), (7, .long (lN 0)), (6, .int (nI 0)), (5, .int (nI 0)), (4, .int (nI (mm_nl T r))), (0, .ref x0), (1, .int (nI T.nP)), (2, .int (nI T.nR)), (3, .int (nI r))]) F.1 F.2.1 dL_isSound_175 hl (by decide) rfl (fun ls hl => ?_)
              refine W.widen (k := 9006 + 1500 * r + 18 * 0) (n := 72050 + 12000 * r + 120 * 0) (by omega) (by omega) ?_
              have lp177 : ∀ (k177 u : Nat) (σu : mm_S) (ma : Nat) (co : Nat) (ls : Array Slot) (H : Heap) (locs : List Loc), T.nP < u + k177 → u ≤ T.nP → (lq_V σu T x0) → (mm_Fr 0 σ σu) → (ma = mm_sm (fun p => if p < T.rp r ∧ T.oc r p = 108 then 1 else 0) u) → (co = mm_sm (fun p => if p < T.rp r ∧ T.oc r p = 108 then T.ps r p else 0) u) → mm_N b D s σu H locs → lv_has ls 12 [(0, .ref x0), (1, .int (nI T.nP)), (2, .int (nI T.nR)), (3, .int (nI r)), (4, .int (nI (mm_nl T r))), (5, .int (nI ma)), (6, .int (nI 0)), (7, .long (lN co)), (9, .int (nI u))] →
                  W p l e ({ frames := 11, cells := 25000, slots := 220000, locals := 500 } : Room) s m args below meth c H locs (9006 + 1500 * r + 18 * u) (72050 + 12000 * r + 120 * u) (mm_Q b D (fun v σ2 => v = some (.int (nI 1)) ∧ mm_Xt σ σ2 T x0) (fun _ _ => False) below args s ({ frames := 11, cells := 25000, slots := 220000, locals := 500 } : Room)) (F0 m 177 ls []) := by
                intro k177
                induction k177 with
                | zero => intro u σu ma co ls H locs hk177 hi177 hVu hFu hma hco hN hl; omega
                | succ k177 ih177 =>
                  intro u σu ma co ls H locs hk177 hi177 hVu hFu hma hco hN hl
                  refine lv_iload (pc := 177) F.1 F.2.1 dL_isSound_177 (lv_at hl 8 rfl) ?_
                  refine lv_iload_n (pc := 179) F.1 F.2.1 dL_isSound_179 rfl (lv_at hl 1 rfl) ?_
                  refine mm_icmp_ge (pc := 180) F (x := u) (y := T.nP) (tgt := 270) (by omega) (by omega) dL_isSound_180 (by decide) (fun cz180 => ?_) (fun cz180 => ?_)
                  ·
                    refine lv_iconst (pc := 270) (v := nI 0) F.1 F.2.1 dL_isSound_270 (by decide) ?_
                    refine lv_istore (pc := 271) (lv' := [(9, .int (nI 0)), (0, .ref x0), (1, .int (nI T.nP)), (2, .int (nI T.nR)), (3, .int (nI r)), (4, .int (nI (mm_nl T r))), (5, .int (nI ma)), (6, .int (nI 0)), (7, .long (lN co))]) F.1 F.2.1 dL_isSound_271 hl (by decide) rfl (fun ls hl => ?_)
                    have hm9 : ma = mm_nl T r := by rw [hma, show u = T.nP from by omega]; exact lq_sm_cut (P := fun p => T.oc r p = 108) (g := fun _ => 1) wr1
                    have hc9 : co = mm_sm (fun p => if T.oc r p = 108 then T.ps r p else 0) (T.rp r) := by rw [hco, show u = T.nP from by omega]; exact lq_sm_cut (P := fun p => T.oc r p = 108) (g := fun p => T.ps r p) wr1
                    refine W.widen (k := 9450 + 1500 * r + 6 * 0) (n := 75000 + 12000 * r + 40 * 0) (by omega) (by omega) ?_
                    have lp273 : ∀ (k273 te : Nat) (σte : mm_S) (ro : Nat) (ls : Array Slot) (H : Heap) (locs : List Loc), 10 < te + k273 → te ≤ 10 → (lq_V σte T x0) → (mm_Fr 0 σ σte) → (ro = mm_sm (fun te => mm_sm (fun p => if T.oc r p = 108 ∧ T.rc r p / 10 = te then 1 else 0) (T.rp r)) te) → mm_N b D s σte H locs → lv_has ls 12 [(0, .ref x0), (1, .int (nI T.nP)), (2, .int (nI T.nR)), (3, .int (nI r)), (4, .int (nI (mm_nl T r))), (5, .int (nI ma)), (6, .int (nI ro)), (7, .long (lN co)), (9, .int (nI te))] →
                        W p l e ({ frames := 11, cells := 25000, slots := 220000, locals := 500 } : Room) s m args below meth c H locs (9450 + 1500 * r + 6 * te) (75000 + 12000 * r + 40 * te) (mm_Q b D (fun v σ2 => v = some (.int (nI 1)) ∧ mm_Xt σ σ2 T x0) (fun _ _ => False) below args s ({ frames := 11, cells := 25000, slots := 220000, locals := 500 } : Room)) (F0 m 273 ls []) := by
                      intro k273
                      induction k273 with
                      | zero => intro te σte ro ls H locs hk273 hi273 hVte hFte hro hN hl; omega
                      | succ k273 ih273 =>
                        intro te σte ro ls H locs hk273 hi273 hVte hFte hro hN hl
                        refine lv_iload (pc := 273) F.1 F.2.1 dL_isSound_273 (lv_at hl 8 rfl) ?_
                        refine lv_bipush (pc := 275) (v := nI 10) F.1 F.2.1 dL_isSound_275 (by decide) ?_
                        refine mm_icmp_ge (pc := 277) F (x := te) (y := 10) (tgt := 299) (by omega) (by omega) dL_isSound_277 (by decide) (fun cz277 => ?_) (fun cz277 => ?_)
                        ·
                          refine lv_bipush (pc := 299) (v := nI 24) F.1 F.2.1 dL_isSound_299 (by decide) ?_
                          have hr9 : ro = mm_nl T r := by rw [hro, show te = 10 from by omega]; exact lq_routes hW cz153x
                          refine mm_newa (pc := 301) F hN 2 4 (24) (x := (24, .inl (fun _ => 0))) (atype := .boolean) rfl (by omega) mw_1158 rfl (by intro C h; cases h) (by decide) (rfl) (by show 9450 + 1500 * r + 6 * te + 1 ≤ 25000; omega) (by show 75000 + 12000 * r + 40 * te + 24 ≤ 220000; omega) dL_isSound_301 (fun q11 H hq11 hN => ?_)
                          have hN : mm_N b D s (mm_u σte q11 (mm_arr 2 4 (24, .inl (fun _ => 0)))) _ _ := hN
                          obtain ⟨σ12, eσ12⟩ : ∃ z9, z9 = mm_u σte q11 (mm_arr 2 4 (24, .inl (fun _ => 0))) := ⟨_, rfl⟩
                          rw [← eσ12] at hN
                          have hA12 : σ12 q11 = mm_ari 2 4 24 (fun j9 => nI (lq_in (mm_po (T.oc r) (T.rc r) (T.rp r)) 0 j9)) := by rw [eσ12]; exact mm_u_eq
                          have hV12 : lq_V σ12 T x0 := hVte.kept (fun a9 e9 he => by rw [eσ12, mm_u_ne (fun z9 => by rw [z9, hq11] at he; cases he)]; exact he)
                          have hz9 : ∀ o9 e9, o9 ≠ 0 → ¬ σ q11 = some (o9, e9) := fun o9 e9 ho9 he9 => by
                            have h8 := hFte q11 o9 e9 ho9 he9
                            rw [hq11] at h8
                            cases h8
                          have hF12 : mm_Fr 0 σ σ12 := mm_Fr.tr hFte (by rw [eσ12]; exact mm_Fr.new hq11)
                          refine lv_astore (pc := 303) (lv' := [(9, .ref q11), (0, .ref x0), (1, .int (nI T.nP)), (2, .int (nI T.nR)), (3, .int (nI r)), (4, .int (nI (mm_nl T r))), (5, .int (nI ma)), (6, .int (nI ro)), (7, .long (lN co))]) F.1 F.2.1 dL_isSound_303 hl (by decide) rfl (fun ls hl => ?_)
                          refine lv_iconst (pc := 305) (v := nI 0) F.1 F.2.1 dL_isSound_305 (by decide) ?_
                          refine lv_istore (pc := 306) (lv' := [(10, .int (nI 0)), (9, .ref q11), (0, .ref x0), (1, .int (nI T.nP)), (2, .int (nI T.nR)), (3, .int (nI r)), (4, .int (nI (mm_nl T r))), (5, .int (nI ma)), (6, .int (nI ro)), (7, .long (lN co))]) F.1 F.2.1 dL_isSound_306 hl (by decide) rfl (fun ls hl => ?_)
                          refine W.widen (k := 9520 + 1500 * r + 12 * 0) (n := 75500 + 12000 * r + 80 * 0) (by omega) (by omega) ?_
                          have lp308 : ∀ (k308 kk : Nat) (σkk : mm_S) (ls : Array Slot) (H : Heap) (locs : List Loc), mm_nl T r < kk + k308 → kk ≤ mm_nl T r → (lq_V σkk T x0) → (mm_Fr 0 σ σkk) → (σkk q11 = mm_ari 2 4 24 (fun j9 => nI (lq_in (mm_po (T.oc r) (T.rc r) (T.rp r)) kk j9))) → mm_N b D s σkk H locs → lv_has ls 12 [(0, .ref x0), (1, .int (nI T.nP)), (2, .int (nI T.nR)), (3, .int (nI r)), (4, .int (nI (mm_nl T r))), (5, .int (nI ma)), (6, .int (nI ro)), (7, .long (lN co)), (9, .ref q11), (10, .int (nI kk))] →
                              W p l e ({ frames := 11, cells := 25000, slots := 220000, locals := 500 } : Room) s m args below meth c H locs (9520 + 1500 * r + 12 * kk) (75500 + 12000 * r + 80 * kk) (mm_Q b D (fun v σ2 => v = some (.int (nI 1)) ∧ mm_Xt σ σ2 T x0) (fun _ _ => False) below args s ({ frames := 11, cells := 25000, slots := 220000, locals := 500 } : Room)) (F0 m 308 ls []) := by
                            intro k308
                            induction k308 with
                            | zero => intro kk σkk ls H locs hk308 hi308 hVkk hFkk hAk hN hl; omega
                            | succ k308 ih308 =>
                              intro kk σkk ls H locs hk308 hi308 hVkk hFkk hAk hN hl
                              refine lv_iload (pc := 308) F.1 F.2.1 dL_isSound_308 (lv_at hl 9 rfl) ?_
                              refine lv_iload (pc := 310) F.1 F.2.1 dL_isSound_310 (lv_at hl 4 rfl) ?_
                              refine mm_icmp_ge (pc := 312) F (x := kk) (y := mm_nl T r) (tgt := 365) (by omega) (by omega) dL_isSound_312 (by decide) (fun cz312 => ?_) (fun cz312 => ?_)
                              ·
                                refine lv_iconst (pc := 365) (v := nI 0) F.1 F.2.1 dL_isSound_365 (by decide) ?_
                                refine lv_istore (pc := 366) (lv' := [(10, .int (nI 0)), (0, .ref x0), (1, .int (nI T.nP)), (2, .int (nI T.nR)), (3, .int (nI r)), (4, .int (nI (mm_nl T r))), (5, .int (nI ma)), (6, .int (nI ro)), (7, .long (lN co)), (9, .ref q11)]) F.1 F.2.1 dL_isSound_366 hl (by decide) rfl (fun ls hl => ?_)
                                have hkl : kk = (mm_po (T.oc r) (T.rc r) (T.rp r)).length := by omega
                                rw [hkl] at hAk
                                refine W.widen (k := 9820 + 1500 * r + 12 * 0) (n := 77500 + 12000 * r + 80 * 0) (by omega) (by omega) ?_
                                have lp368 : ∀ (k368 jj : Nat) (σjj : mm_S) (ls : Array Slot) (H : Heap) (locs : List Loc), (mm_pl (mm_fr T r) (T.rp r) 8).length < jj + k368 → jj ≤ (mm_pl (mm_fr T r) (T.rp r) 8).length → (lq_V σjj T x0) → (mm_Fr 0 σ σjj) → (σjj q11 = mm_ari 2 4 24 (fun j9 => nI (lq_in (mm_po (T.oc r) (T.rc r) (T.rp r)) (mm_po (T.oc r) (T.rc r) (T.rp r)).length j9))) → mm_N b D s σjj H locs → lv_has ls 12 [(0, .ref x0), (1, .int (nI T.nP)), (2, .int (nI T.nR)), (3, .int (nI r)), (4, .int (nI (mm_nl T r))), (5, .int (nI ma)), (6, .int (nI ro)), (7, .long (lN co)), (9, .ref q11), (10, .int (nI jj))] →
                                    W p l e ({ frames := 11, cells := 25000, slots := 220000, locals := 500 } : Room) s m args below meth c H locs (9820 + 1500 * r + 12 * jj) (77500 + 12000 * r + 80 * jj) (mm_Q b D (fun v σ2 => v = some (.int (nI 1)) ∧ mm_Xt σ σ2 T x0) (fun _ _ => False) below args s ({ frames := 11, cells := 25000, slots := 220000, locals := 500 } : Room)) (F0 m 368 ls []) := by
                                  intro k368
                                  induction k368 with
                                  | zero => intro jj σjj ls H locs hk368 hi368 hVjj hFjj hAj hN hl; omega
                                  | succ k368 ih368 =>
                                    intro jj σjj ls H locs hk368 hi368 hVjj hFjj hAj hN hl
                                    refine lv_iload (pc := 368) F.1 F.2.1 dL_isSound_368 (lv_at hl 9 rfl) ?_
                                    refine lv_bipush (pc := 370) (v := nI 9) F.1 F.2.1 dL_isSound_370 (by decide) ?_
                                    refine mm_icmp_ge (pc := 372) F (x := jj) (y := 9) (tgt := 408) (by omega) (by omega) dL_isSound_372 (by decide) (fun cz372 => ?_) (fun cz372 => ?_)
                                    ·
                                      omega
                                    ·
                                      refine lv_aload_n (pc := 375) F.1 F.2.1 dL_isSound_375 rfl (lv_at hl 0 rfl) ?_
                                      refine lv_iload_n (pc := 376) F.1 F.2.1 dL_isSound_376 rfl (lv_at hl 3 rfl) ?_
                                      refine lv_iload (pc := 377) F.1 F.2.1 dL_isSound_377 (lv_at hl 9 rfl) ?_
                                      refine lv_iconst (pc := 379) (v := nI 5) F.1 F.2.1 dL_isSound_379 (by decide) ?_
                                      refine mm_runSX (pc := 380) (As := [.ref x0, .int (nI r), .int (nI jj), .int (nI 5)]) (rest := []) F hN (e_proof l b D hst T x0 σjj hVjj hW r (by omega) jj (by omega)) mw_984 mw_985 mw_0 mw_986 ⟨pmL_told, (Nat.le_of_ble_eq_true rfl), (Nat.le_of_ble_eq_true rfl)⟩ hl.1 rfl (Nat.le_of_ble_eq_true rfl) ⟨by show (9820 + 1500 * r + 12 * jj) + 6 ≤ 25000; omega, by show (77500 + 12000 * r + 80 * jj) + 40 ≤ 220000; omega⟩ dL_isSound_380
                                        (fun _ _ _ _ _ _ h9 => False.elim h9) (fun v9 σ13 H locs hp9 hN => ?_)
                                      obtain ⟨rfl, hx13⟩ := hp9
                                      refine W.eq (g2 := F0 m 383 ls [.int (lq_i (mm_q_proofAt T r jj) ((mm_pl (mm_fr T r) (T.rp r) 8).getD jj 0))]) rfl ?_
                                      refine W.widen (k := 9820 + 1500 * r + 12 * jj + 6) (n := 77500 + 12000 * r + 80 * jj + 40) (Nat.le_refl _) (Nat.le_refl _) ?_
                                      have hV13 := hx13.v
                                      have hF13 := mm_Fr.tr hFjj hx13.fr
                                      have hA13 := hx13.fr q11 2 _ (by decide) hAj
                                      by_cases hjl : jj < (mm_pl (mm_fr T r) (T.rp r) 8).length
                                      ·
                                        obtain ⟨hj1, hj2⟩ := hpr4 jj hjl
                                        refine W.eq (g2 := F0 m 383 ls [.int (nI (((mm_pl (mm_fr T r) (T.rp r) 8).getD jj 0)))]) (by rw [lq_i0 (by unfold mm_q_proofAt; (repeat' split) <;> omega)]) ?_
                                        refine mm_if_lt (pc := 383) F (tgt := 408) (by omega) dL_isSound_383 (by decide) ?_
                                        refine lv_aload (pc := 386) F.1 F.2.1 dL_isSound_386 (lv_at hl 8 rfl) ?_
                                        refine lv_aload_n (pc := 388) F.1 F.2.1 dL_isSound_388 rfl (lv_at hl 0 rfl) ?_
                                        refine lv_iload_n (pc := 389) F.1 F.2.1 dL_isSound_389 rfl (lv_at hl 3 rfl) ?_
                                        refine lv_iload (pc := 390) F.1 F.2.1 dL_isSound_390 (lv_at hl 9 rfl) ?_
                                        refine lv_iconst (pc := 392) (v := nI 5) F.1 F.2.1 dL_isSound_392 (by decide) ?_
                                        refine mm_runSX (pc := 393) (As := [.ref x0, .int (nI r), .int (nI jj), .int (nI 5)]) (rest := [.ref q11]) F hN (e_proof l b D hst T x0 σ13 hV13 hW r (by omega) jj (by omega)) mw_984 mw_985 mw_0 mw_986 ⟨pmL_told, (Nat.le_of_ble_eq_true rfl), (Nat.le_of_ble_eq_true rfl)⟩ hl.1 rfl (Nat.le_of_ble_eq_true rfl) ⟨by show (9820 + 1500 * r + 12 * jj + 6) + 6 ≤ 25000; omega, by show (77500 + 12000 * r + 80 * jj + 40) + 40 ≤ 220000; omega⟩ dL_isSound_393
                                          (fun _ _ _ _ _ _ h9 => False.elim h9) (fun v9 σ14 H locs hp9 hN => ?_)
                                        obtain ⟨rfl, hx14⟩ := hp9
                                        refine W.eq (g2 := F0 m 396 ls [.int (lq_i (mm_q_proofAt T r jj) ((mm_pl (mm_fr T r) (T.rp r) 8).getD jj 0)), .ref q11]) rfl ?_
                                        refine W.widen (k := 9820 + 1500 * r + 12 * jj + 6 + 6) (n := 77500 + 12000 * r + 80 * jj + 40 + 40) (Nat.le_refl _) (Nat.le_refl _) ?_
                                        have hV14 := hx14.v
                                        have hF14 := mm_Fr.tr hF13 hx14.fr
                                        have hA14 := hx14.fr q11 2 _ (by decide) hA13
                                        refine W.eq (g2 := F0 m 396 ls [.int (nI (((mm_pl (mm_fr T r) (T.rp r) 8).getD jj 0))), .ref q11]) (by rw [lq_i0 (by unfold mm_q_proofAt; (repeat' split) <;> omega)]) ?_
                                        refine mm_zald (pc := 396) F hN (hA14) (j := ((mm_pl (mm_fr T r) (T.rp r) 8).getD jj 0)) (rfl) (by omega) (by decide) dL_isSound_396 ?_
                                        refine W.eq (g2 := F0 m 397 ls [.int (nI 1)]) (by rw [lq_in_all hj1 hj2]) ?_
                                        refine mm_if_ne (pc := 397) F (tgt := 402) (by omega) dL_isSound_397 (by decide) (fun cz397 => ?_) (fun h9 => absurd h9 (by decide))
                                        refine lv_iinc (pc := 402) (v := nI (jj + 1)) (lv' := [(10, .int (nI (jj + 1))), (0, .ref x0), (1, .int (nI T.nP)), (2, .int (nI T.nR)), (3, .int (nI r)), (4, .int (nI (mm_nl T r))), (5, .int (nI ma)), (6, .int (nI ro)), (7, .long (lN co)), (9, .ref q11)]) F.1 F.2.1 dL_isSound_402 hl (k := 9) rfl (by rw [← nI_add]; rfl) (by decide) rfl (fun ls hl => ?_)
                                        refine lv_goto (pc := 405) (tgt := 368) F.1 F.2.1 dL_isSound_405 (by decide) ?_
                                        refine W.widen (k := 9820 + 1500 * r + 12 * (jj + 1)) (n := 77500 + 12000 * r + 80 * (jj + 1)) (by omega) (by omega) ?_
                                        exact ih368 (jj + 1) σ14 ls _ _ (by omega) (by omega) (hV14) (hF14) (hA14) hN (lv_sub hl [1, 2, 3, 4, 5, 6, 7, 8, 9, 0] rfl)
                                      ·
                                        refine W.eq (g2 := F0 m 383 ls [.int ((-1002))]) (by rw [lq_i2 (by unfold mm_q_proofAt; (repeat' split) <;> omega)]) ?_
                                        refine lv_if_lt (pc := 383) (tgt := 408) F.1 F.2.1 dL_isSound_383 (by decide) (fun cz383 => ?_) (fun h9 => absurd h9 (by decide))
                                        refine lv_iload (pc := 408) F.1 F.2.1 dL_isSound_408 (lv_at hl 5 rfl) ?_
                                        refine lv_iload (pc := 410) F.1 F.2.1 dL_isSound_410 (lv_at hl 4 rfl) ?_
                                        refine mm_icmp_ne (pc := 412) F (x := ma) (y := mm_nl T r) (tgt := 484) (by omega) (by omega) dL_isSound_412 (by decide) (fun cz412 => ?_) (fun cz412 => ?_)
                                        ·
                                          exact absurd hm9 cz412
                                        ·
                                          refine lv_iload (pc := 415) F.1 F.2.1 dL_isSound_415 (lv_at hl 6 rfl) ?_
                                          refine lv_iload (pc := 417) F.1 F.2.1 dL_isSound_417 (lv_at hl 4 rfl) ?_
                                          refine mm_icmp_ne (pc := 419) F (x := ro) (y := mm_nl T r) (tgt := 484) (by omega) (by omega) dL_isSound_419 (by decide) (fun cz419 => ?_) (fun cz419 => ?_)
                                          ·
                                            exact absurd hr9 cz419
                                          ·
                                            refine lv_aload_n (pc := 422) F.1 F.2.1 dL_isSound_422 rfl (lv_at hl 0 rfl) ?_
                                            refine lv_iload_n (pc := 423) F.1 F.2.1 dL_isSound_423 rfl (lv_at hl 3 rfl) ?_
                                            refine mm_runSX (pc := 424) (As := [.ref x0, .int (nI r)]) (rest := []) F hN (e_cost l b D hst T x0 σ13 hV13 hW r (by omega)) mw_1051 mw_1052 mw_0 mw_1053 ⟨pmL_cost, (Nat.le_of_ble_eq_true rfl), (Nat.le_of_ble_eq_true rfl)⟩ hl.1 rfl (Nat.le_of_ble_eq_true rfl) ⟨by show (9820 + 1500 * r + 12 * jj + 6) + 6 ≤ 25000; omega, by show (77500 + 12000 * r + 80 * jj + 40) + 40 ≤ 220000; omega⟩ dL_isSound_424
                                              (fun _ _ _ _ _ _ h9 => False.elim h9) (fun v9 σ15 H locs hp9 hN => ?_)
                                            obtain ⟨rfl, hx15⟩ := hp9
                                            refine W.eq (g2 := F0 m 427 ls [.long ((if mm_q_costOf T r = 0 then lN (mm_sm (fun p => if T.oc r p = 108 then T.ps r p else 0) (T.rp r)) else (-1001)))]) rfl ?_
                                            refine W.widen (k := 9820 + 1500 * r + 12 * jj + 6 + 6) (n := 77500 + 12000 * r + 80 * jj + 40 + 40) (Nat.le_refl _) (Nat.le_refl _) ?_
                                            have hV15 := hx15.v
                                            have hF15 := mm_Fr.tr hF13 hx15.fr
                                            refine W.eq (g2 := F0 m 427 ls [.long (lN (mm_sm (fun p => if T.oc r p = 108 then T.ps r p else 0) (T.rp r)))]) (by rw [if_pos (by unfold mm_q_costOf; (repeat' split) <;> omega)]) ?_
                                            refine lv_lload (pc := 427) F.1 F.2.1 dL_isSound_427 (lv_at hl 7 rfl) ?_
                                            refine W.eq (g2 := F0 m 429 ls [.long (lN (mm_sm (fun p => if T.oc r p = 108 then T.ps r p else 0) (T.rp r))), .long (lN (mm_sm (fun p => if T.oc r p = 108 then T.ps r p else 0) (T.rp r)))]) (by rw [hc9]) ?_
                                            refine mm_lcmpE (pc := 429) F.1 F.2.1 dL_isSound_429 ?_
                                            refine mm_if_ne (pc := 430) F (tgt := 484) (by omega) dL_isSound_430 (by decide) (fun h9 => absurd h9 (by decide)) (fun cz430 => ?_)
                                            refine lv_aload_n (pc := 433) F.1 F.2.1 dL_isSound_433 rfl (lv_at hl 0 rfl) ?_
                                            refine lv_iload_n (pc := 434) F.1 F.2.1 dL_isSound_434 rfl (lv_at hl 3 rfl) ?_
                                            refine lv_iload (pc := 435) F.1 F.2.1 dL_isSound_435 (lv_at hl 4 rfl) ?_
                                            refine lv_iconst (pc := 437) (v := nI 2) F.1 F.2.1 dL_isSound_437 (by decide) ?_
                                            refine mm_runSX (pc := 438) (As := [.ref x0, .int (nI r), .int (nI (mm_nl T r)), .int (nI 2)]) (rest := []) F hN (e_post l b D hst T x0 σ15 hV15 hW r (by omega) (mm_nl T r) (by omega)) mw_984 mw_985 mw_0 mw_986 ⟨pmL_told, (Nat.le_of_ble_eq_true rfl), (Nat.le_of_ble_eq_true rfl)⟩ hl.1 rfl (Nat.le_of_ble_eq_true rfl) ⟨by show (9820 + 1500 * r + 12 * jj + 6 + 6) + 6 ≤ 25000; omega, by show (77500 + 12000 * r + 80 * jj + 40 + 40) + 40 ≤ 220000; omega⟩ dL_isSound_438
                                              (fun _ _ _ _ _ _ h9 => False.elim h9) (fun v9 σ16 H locs hp9 hN => ?_)
                                            obtain ⟨rfl, hx16⟩ := hp9
                                            refine W.eq (g2 := F0 m 441 ls [.int (lq_i (mm_q_postedAt T r (mm_nl T r)) ((mm_po (T.oc r) (T.rc r) (T.rp r)).getD (mm_nl T r) 0))]) rfl ?_
                                            refine W.widen (k := 9820 + 1500 * r + 12 * jj + 6 + 6 + 6) (n := 77500 + 12000 * r + 80 * jj + 40 + 40 + 40) (Nat.le_refl _) (Nat.le_refl _) ?_
                                            have hV16 := hx16.v
                                            have hF16 := mm_Fr.tr hF15 hx16.fr
                                            refine W.eq (g2 := F0 m 441 ls [.int ((-1002))]) (by rw [lq_i2 (by unfold mm_q_postedAt; (repeat' split) <;> omega)]) ?_
                                            refine lv_sipush (pc := 441) (v := (-1002)) F.1 F.2.1 dL_isSound_441 (by decide) ?_
                                            refine lv_icmp_ne (pc := 444) (tgt := 484) F.1 F.2.1 dL_isSound_444 (by decide) (fun h9 => absurd h9 (by decide)) (fun cz444 => ?_)
                                            have hjn : jj = (mm_pl (mm_fr T r) (T.rp r) 8).length := by omega
                                            refine lv_iload (pc := 447) F.1 F.2.1 dL_isSound_447 (lv_at hl 9 rfl) ?_
                                            refine lv_bipush (pc := 449) (v := nI 8) F.1 F.2.1 dL_isSound_449 (by decide) ?_
                                            refine mm_icmp_gt (pc := 451) F (x := jj) (y := 8) (tgt := 484) (by omega) (by omega) dL_isSound_451 (by decide) (fun cz451 => ?_) (fun cz451 => ?_)
                                            ·
                                              omega
                                            ·
                                              refine lv_iload (pc := 454) F.1 F.2.1 dL_isSound_454 (lv_at hl 9 rfl) ?_
                                              refine lv_iload (pc := 456) F.1 F.2.1 dL_isSound_456 (lv_at hl 4 rfl) ?_
                                              refine mm_icmp_gt (pc := 458) F (x := jj) (y := mm_nl T r) (tgt := 484) (by omega) (by omega) dL_isSound_458 (by decide) (fun cz458 => ?_) (fun cz458 => ?_)
                                              ·
                                                omega
                                              ·
                                                refine lv_iload (pc := 461) F.1 F.2.1 dL_isSound_461 (lv_at hl 9 rfl) ?_
                                                refine mm_if_ne (pc := 463) F (tgt := 470) (by omega) dL_isSound_463 (by decide) (fun cz463 => ?_) (fun cz463 => ?_)
                                                ·
                                                  refine lv_iconst (pc := 470) (v := nI 0) F.1 F.2.1 dL_isSound_470 (by decide) ?_
                                                  refine lv_iload (pc := 471) F.1 F.2.1 dL_isSound_471 (lv_at hl 4 rfl) ?_
                                                  refine mm_if_ne (pc := 473) F (tgt := 480) (by omega) dL_isSound_473 (by decide) (fun cz473 => ?_) (fun cz473 => ?_)
                                                  ·
                                                    refine lv_iconst (pc := 480) (v := nI 0) F.1 F.2.1 dL_isSound_480 (by decide) ?_
                                                    refine mm_icmp_eq (pc := 481) F (x := 0) (y := 0) (tgt := 486) (by omega) (by omega) dL_isSound_481 (by decide) (fun cz481 => ?_) (fun h9 => absurd h9 (by decide))
                                                    refine lv_iinc (pc := 486) (v := nI (r + 1)) (lv' := [(3, .int (nI (r + 1))), (0, .ref x0), (1, .int (nI T.nP)), (2, .int (nI T.nR)), (4, .int (nI (mm_nl T r))), (5, .int (nI ma)), (6, .int (nI ro)), (7, .long (lN co)), (9, .ref q11), (10, .int (nI jj))]) F.1 F.2.1 dL_isSound_486 hl (k := 3) rfl (by rw [← nI_add]; rfl) (by decide) rfl (fun ls hl => ?_)
                                                    refine lv_goto (pc := 489) (tgt := 151) F.1 F.2.1 dL_isSound_489 (by decide) ?_
                                                    refine W.widen (k := 9000 + 1500 * (r + 1)) (n := 72000 + 12000 * (r + 1)) (by omega) (by omega) ?_
                                                    exact ih151 (r + 1) σ16 ls _ _ (by omega) (by omega) (hV16) (hF16) hN (lv_sub hl [1, 2, 3, 0] rfl)
                                                  ·
                                                    exact absurd (hjn.trans (hpr3.mpr cz473)) cz463
                                                ·
                                                  refine lv_iconst (pc := 466) (v := nI 1) F.1 F.2.1 dL_isSound_466 (by decide) ?_
                                                  refine lv_goto (pc := 467) (tgt := 471) F.1 F.2.1 dL_isSound_467 (by decide) ?_
                                                  refine lv_iload (pc := 471) F.1 F.2.1 dL_isSound_471 (lv_at hl 4 rfl) ?_
                                                  refine mm_if_ne (pc := 473) F (tgt := 480) (by omega) dL_isSound_473 (by decide) (fun cz473 => ?_) (fun cz473 => ?_)
                                                  ·
                                                    exact absurd (hpr3.mp (by omega)) cz473
                                                  ·
                                                    refine lv_iconst (pc := 476) (v := nI 1) F.1 F.2.1 dL_isSound_476 (by decide) ?_
                                                    refine lv_goto (pc := 477) (tgt := 481) F.1 F.2.1 dL_isSound_477 (by decide) ?_
                                                    refine mm_icmp_eq (pc := 481) F (x := 1) (y := 1) (tgt := 486) (by omega) (by omega) dL_isSound_481 (by decide) (fun cz481 => ?_) (fun h9 => absurd h9 (by decide))
                                                    refine lv_iinc (pc := 486) (v := nI (r + 1)) (lv' := [(3, .int (nI (r + 1))), (0, .ref x0), (1, .int (nI T.nP)), (2, .int (nI T.nR)), (4, .int (nI (mm_nl T r))), (5, .int (nI ma)), (6, .int (nI ro)), (7, .long (lN co)), (9, .ref q11), (10, .int (nI jj))]) F.1 F.2.1 dL_isSound_486 hl (k := 3) rfl (by rw [← nI_add]; rfl) (by decide) rfl (fun ls hl => ?_)
                                                    refine lv_goto (pc := 489) (tgt := 151) F.1 F.2.1 dL_isSound_489 (by decide) ?_
                                                    refine W.widen (k := 9000 + 1500 * (r + 1)) (n := 72000 + 12000 * (r + 1)) (by omega) (by omega) ?_
                                                    exact ih151 (r + 1) σ16 ls _ _ (by omega) (by omega) (hV16) (hF16) hN (lv_sub hl [1, 2, 3, 0] rfl)
                                exact lp368 (((mm_pl (mm_fr T r) (T.rp r) 8).length) + 1) 0 σkk ls _ _ (by omega) (by omega) (hVkk) (hFkk) (hAk) hN (lv_sub hl [1, 2, 3, 4, 5, 6, 7, 8, 9, 0] rfl)
                              ·
                                obtain ⟨hp1, hp2⟩ := lq_plt (T := T) (r := r) (kk := kk) (by omega)
                                refine lv_aload_n (pc := 315) F.1 F.2.1 dL_isSound_315 rfl (lv_at hl 0 rfl) ?_
                                refine lv_iload_n (pc := 316) F.1 F.2.1 dL_isSound_316 rfl (lv_at hl 3 rfl) ?_
                                refine lv_iload (pc := 317) F.1 F.2.1 dL_isSound_317 (lv_at hl 9 rfl) ?_
                                refine lv_iconst (pc := 319) (v := nI 2) F.1 F.2.1 dL_isSound_319 (by decide) ?_
                                refine mm_runSX (pc := 320) (As := [.ref x0, .int (nI r), .int (nI kk), .int (nI 2)]) (rest := []) F hN (e_post l b D hst T x0 σkk hVkk hW r (by omega) kk (by omega)) mw_984 mw_985 mw_0 mw_986 ⟨pmL_told, (Nat.le_of_ble_eq_true rfl), (Nat.le_of_ble_eq_true rfl)⟩ hl.1 rfl (Nat.le_of_ble_eq_true rfl) ⟨by show (9520 + 1500 * r + 12 * kk) + 6 ≤ 25000; omega, by show (75500 + 12000 * r + 80 * kk) + 40 ≤ 220000; omega⟩ dL_isSound_320
                                  (fun _ _ _ _ _ _ h9 => False.elim h9) (fun v9 σ17 H locs hp9 hN => ?_)
                                obtain ⟨rfl, hx17⟩ := hp9
                                refine W.eq (g2 := F0 m 323 ls [.int (lq_i (mm_q_postedAt T r kk) ((mm_po (T.oc r) (T.rc r) (T.rp r)).getD kk 0))]) rfl ?_
                                refine W.widen (k := 9520 + 1500 * r + 12 * kk + 6) (n := 75500 + 12000 * r + 80 * kk + 40) (Nat.le_refl _) (Nat.le_refl _) ?_
                                have hV17 := hx17.v
                                have hF17 := mm_Fr.tr hFkk hx17.fr
                                have hA17 := hx17.fr q11 2 _ (by decide) hAk
                                refine W.eq (g2 := F0 m 323 ls [.int (nI (((mm_po (T.oc r) (T.rc r) (T.rp r)).getD kk 0)))]) (by rw [lq_i0 (by unfold mm_q_postedAt; (repeat' split) <;> omega)]) ?_
                                refine lv_istore (pc := 323) (lv' := [(11, .int (nI (((mm_po (T.oc r) (T.rc r) (T.rp r)).getD kk 0)))), (0, .ref x0), (1, .int (nI T.nP)), (2, .int (nI T.nR)), (3, .int (nI r)), (4, .int (nI (mm_nl T r))), (5, .int (nI ma)), (6, .int (nI ro)), (7, .long (lN co)), (9, .ref q11), (10, .int (nI kk))]) F.1 F.2.1 dL_isSound_323 hl (by decide) rfl (fun ls hl => ?_)
                                refine lv_iload (pc := 325) F.1 F.2.1 dL_isSound_325 (lv_at hl 0 rfl) ?_
                                refine mm_if_lt (pc := 327) F (tgt := 351) (by omega) dL_isSound_327 (by decide) ?_
                                refine lv_aload (pc := 330) F.1 F.2.1 dL_isSound_330 (lv_at hl 9 rfl) ?_
                                refine lv_iload (pc := 332) F.1 F.2.1 dL_isSound_332 (lv_at hl 0 rfl) ?_
                                refine mm_zald (pc := 334) F hN (hA17) (j := ((mm_po (T.oc r) (T.rc r) (T.rp r)).getD kk 0)) (rfl) (by omega) (by decide) dL_isSound_334 ?_
                                refine W.eq (g2 := F0 m 335 ls [.int (nI 0)]) (by rw [lq_in_new (lq_po_nd _ _ _) (by omega)]) ?_
                                refine mm_if_ne (pc := 335) F (tgt := 351) (by omega) dL_isSound_335 (by decide) (fun h9 => absurd h9 (by decide)) (fun cz335 => ?_)
                                refine lv_aload_n (pc := 338) F.1 F.2.1 dL_isSound_338 rfl (lv_at hl 1 rfl) ?_
                                refine lv_iload_n (pc := 339) F.1 F.2.1 dL_isSound_339 rfl (lv_at hl 4 rfl) ?_
                                refine lv_iload (pc := 340) F.1 F.2.1 dL_isSound_340 (lv_at hl 0 rfl) ?_
                                refine lv_iconst (pc := 342) (v := nI 0) F.1 F.2.1 dL_isSound_342 (by decide) ?_
                                refine mm_runSX (pc := 343) (As := [.ref x0, .int (nI r), .int (nI (((mm_po (T.oc r) (T.rc r) (T.rp r)).getD kk 0))), .int (nI 0)]) (rest := []) F hN (e_outc l b D hst T x0 σ17 hV17 hW r (by omega) (((mm_po (T.oc r) (T.rc r) (T.rp r)).getD kk 0)) (by omega)) mw_984 mw_985 mw_0 mw_986 ⟨pmL_told, (Nat.le_of_ble_eq_true rfl), (Nat.le_of_ble_eq_true rfl)⟩ hl.1 rfl (Nat.le_of_ble_eq_true rfl) ⟨by show (9520 + 1500 * r + 12 * kk + 6) + 6 ≤ 25000; omega, by show (75500 + 12000 * r + 80 * kk + 40) + 40 ≤ 220000; omega⟩ dL_isSound_343
                                  (fun _ _ _ _ _ _ h9 => False.elim h9) (fun v9 σ18 H locs hp9 hN => ?_)
                                obtain ⟨rfl, hx18⟩ := hp9
                                refine W.eq (g2 := F0 m 346 ls [.int (lq_i (mm_q_outcome T r (((mm_po (T.oc r) (T.rc r) (T.rp r)).getD kk 0))) (T.oc r (((mm_po (T.oc r) (T.rc r) (T.rp r)).getD kk 0))))]) rfl ?_
                                refine W.widen (k := 9520 + 1500 * r + 12 * kk + 6 + 6) (n := 75500 + 12000 * r + 80 * kk + 40 + 40) (Nat.le_refl _) (Nat.le_refl _) ?_
                                have hV18 := hx18.v
                                have hF18 := mm_Fr.tr hF17 hx18.fr
                                have hA18 := hx18.fr q11 2 _ (by decide) hA17
                                refine W.eq (g2 := F0 m 346 ls [.int (nI 108)]) (by rw [lq_i0 (by unfold mm_q_outcome; rw [if_pos ⟨cz153x, hp1⟩]), hp2]) ?_
                                refine lv_bipush (pc := 346) (v := nI 108) F.1 F.2.1 dL_isSound_346 (by decide) ?_
                                refine mm_icmp_eq (pc := 348) F (x := 108) (y := 108) (tgt := 353) (by omega) (by omega) dL_isSound_348 (by decide) (fun cz348 => ?_) (fun h9 => absurd h9 (by decide))
                                refine lv_aload (pc := 353) F.1 F.2.1 dL_isSound_353 (lv_at hl 9 rfl) ?_
                                refine lv_iload (pc := 355) F.1 F.2.1 dL_isSound_355 (lv_at hl 0 rfl) ?_
                                refine lv_iconst (pc := 357) (v := nI 1) F.1 F.2.1 dL_isSound_357 (by decide) ?_
                                refine mm_zast (pc := 358) F hN (hA18) (j := ((mm_po (T.oc r) (T.rc r) (T.rp r)).getD kk 0)) (rfl) (by omega) (by decide) (by decide) dL_isSound_358 (fun H locs hN => ?_)
                                rw [lq_in_succ] at hN
                                obtain ⟨σ19, eσ19⟩ : ∃ z9, z9 = mm_u σ18 q11 (mm_ari 2 4 24 (fun j9 => nI (lq_in (mm_po (T.oc r) (T.rc r) (T.rp r)) (kk + 1) j9))) := ⟨_, rfl⟩
                                rw [← eσ19] at hN
                                have hA19 : σ19 q11 = mm_ari 2 4 24 (fun j9 => nI (lq_in (mm_po (T.oc r) (T.rc r) (T.rp r)) (kk + 1) j9)) := by rw [eσ19]; exact mm_u_eq
                                have hV19 : lq_V σ19 T x0 := hV18.kept (fun a9 e9 he => by rw [eσ19, mm_u_ne (fun z9 => by rw [z9, hA18] at he; cases he)]; exact he)
                                have hF19 : mm_Fr 0 σ σ19 := fun a9 o9 e9 ho9 he9 => by
                                  rw [eσ19, mm_u_ne (fun z9 => ?_)]
                                  · exact hF18 a9 o9 e9 ho9 he9
                                  · rw [z9] at he9
                                    exact absurd he9 (hz9 o9 e9 ho9)
                                refine lv_iinc (pc := 359) (v := nI (kk + 1)) (lv' := [(10, .int (nI (kk + 1))), (11, .int (nI (((mm_po (T.oc r) (T.rc r) (T.rp r)).getD kk 0)))), (0, .ref x0), (1, .int (nI T.nP)), (2, .int (nI T.nR)), (3, .int (nI r)), (4, .int (nI (mm_nl T r))), (5, .int (nI ma)), (6, .int (nI ro)), (7, .long (lN co)), (9, .ref q11)]) F.1 F.2.1 dL_isSound_359 hl (k := 10) rfl (by rw [← nI_add]; rfl) (by decide) rfl (fun ls hl => ?_)
                                refine lv_goto (pc := 362) (tgt := 308) F.1 F.2.1 dL_isSound_362 (by decide) ?_
                                refine W.widen (k := 9520 + 1500 * r + 12 * (kk + 1)) (n := 75500 + 12000 * r + 80 * (kk + 1)) (by omega) (by omega) ?_
                                exact ih308 (kk + 1) σ19 ls _ _ (by omega) (by omega) (hV19) (hF19) (hA19) hN (lv_sub hl [2, 3, 4, 5, 6, 7, 8, 9, 10, 0] rfl)
                          exact lp308 ((mm_nl T r) + 1) 0 σ12 ls _ _ (by omega) (by omega) (hV12) (hF12) (hA12) hN (lv_sub hl [2, 3, 4, 5, 6, 7, 8, 9, 1, 0] rfl)
                        ·
                          refine lv_iload (pc := 280) F.1 F.2.1 dL_isSound_280 (lv_at hl 6 rfl) ?_
                          refine lv_aload_n (pc := 282) F.1 F.2.1 dL_isSound_282 rfl (lv_at hl 0 rfl) ?_
                          refine lv_iload_n (pc := 283) F.1 F.2.1 dL_isSound_283 rfl (lv_at hl 3 rfl) ?_
                          refine lv_iload (pc := 284) F.1 F.2.1 dL_isSound_284 (lv_at hl 8 rfl) ?_
                          refine lv_iconst (pc := 286) (v := nI 3) F.1 F.2.1 dL_isSound_286 (by decide) ?_
                          refine mm_runSX (pc := 287) (As := [.ref x0, .int (nI r), .int (nI te), .int (nI 3)]) (rest := [.int (nI ro)]) F hN (e_route l b D hst T x0 σte hVte hW r (by omega) te (by omega)) mw_984 mw_985 mw_0 mw_986 ⟨pmL_told, (Nat.le_of_ble_eq_true rfl), (Nat.le_of_ble_eq_true rfl)⟩ hl.1 rfl (Nat.le_of_ble_eq_true rfl) ⟨by show (9450 + 1500 * r + 6 * te) + 6 ≤ 25000; omega, by show (75000 + 12000 * r + 40 * te) + 40 ≤ 220000; omega⟩ dL_isSound_287
                            (fun _ _ _ _ _ _ h9 => False.elim h9) (fun v9 σ20 H locs hp9 hN => ?_)
                          obtain ⟨rfl, hx20⟩ := hp9
                          refine W.eq (g2 := F0 m 290 ls [.int (lq_i (mm_q_onRoute T r te) (mm_sm (fun p => if T.oc r p = 108 ∧ T.rc r p / 10 = te then 1 else 0) (T.rp r))), .int (nI ro)]) rfl ?_
                          refine W.widen (k := 9450 + 1500 * r + 6 * te + 6) (n := 75000 + 12000 * r + 40 * te + 40) (Nat.le_refl _) (Nat.le_refl _) ?_
                          have hV20 := hx20.v
                          have hF20 := mm_Fr.tr hFte hx20.fr
                          refine W.eq (g2 := F0 m 290 ls [.int (nI ((mm_sm (fun p => if T.oc r p = 108 ∧ T.rc r p / 10 = te then 1 else 0) (T.rp r)))), .int (nI ro)]) (by rw [lq_i0 (by unfold mm_q_onRoute; (repeat' split) <;> omega)]) ?_
                          refine mm_iadd (pc := 290) F (z := nI (ro + ((mm_sm (fun p => if T.oc r p = 108 ∧ T.rc r p / 10 = te then 1 else 0) (T.rp r))))) (nI_add _ _) dL_isSound_290 ?_
                          refine lv_istore (pc := 291) (lv' := [(6, .int (nI (ro + ((mm_sm (fun p => if T.oc r p = 108 ∧ T.rc r p / 10 = te then 1 else 0) (T.rp r)))))), (0, .ref x0), (1, .int (nI T.nP)), (2, .int (nI T.nR)), (3, .int (nI r)), (4, .int (nI (mm_nl T r))), (5, .int (nI ma)), (7, .long (lN co)), (9, .int (nI te))]) F.1 F.2.1 dL_isSound_291 hl (by decide) rfl (fun ls hl => ?_)
                          refine lv_iinc (pc := 293) (v := nI (te + 1)) (lv' := [(9, .int (nI (te + 1))), (6, .int (nI (ro + ((mm_sm (fun p => if T.oc r p = 108 ∧ T.rc r p / 10 = te then 1 else 0) (T.rp r)))))), (0, .ref x0), (1, .int (nI T.nP)), (2, .int (nI T.nR)), (3, .int (nI r)), (4, .int (nI (mm_nl T r))), (5, .int (nI ma)), (7, .long (lN co))]) F.1 F.2.1 dL_isSound_293 hl (k := 8) rfl (by rw [← nI_add]; rfl) (by decide) rfl (fun ls hl => ?_)
                          refine lv_goto (pc := 296) (tgt := 273) F.1 F.2.1 dL_isSound_296 (by decide) ?_
                          refine W.widen (k := 9450 + 1500 * r + 6 * (te + 1)) (n := 75000 + 12000 * r + 40 * (te + 1)) (by omega) (by omega) ?_
                          exact ih273 (te + 1) σ20 (ro + ((mm_sm (fun p => if T.oc r p = 108 ∧ T.rc r p / 10 = te then 1 else 0) (T.rp r)))) ls _ _ (by omega) (by omega) (hV20) (hF20) (by rw [hro]; rfl) hN (lv_sub hl [2, 3, 4, 5, 6, 7, 1, 8, 0] rfl)
                    exact lp273 (10 + 1) 0 σu 0 ls _ _ (by omega) (by omega) (hVu) (hFu) (rfl) hN (lv_sub hl [1, 2, 3, 4, 5, 6, 7, 8, 0] rfl)
                  ·
                    refine lv_aload_n (pc := 183) F.1 F.2.1 dL_isSound_183 rfl (lv_at hl 0 rfl) ?_
                    refine lv_iload_n (pc := 184) F.1 F.2.1 dL_isSound_184 rfl (lv_at hl 3 rfl) ?_
                    refine lv_iload (pc := 185) F.1 F.2.1 dL_isSound_185 (lv_at hl 8 rfl) ?_
                    refine lv_iconst (pc := 187) (v := nI 0) F.1 F.2.1 dL_isSound_187 (by decide) ?_
                    refine mm_runSX (pc := 188) (As := [.ref x0, .int (nI r), .int (nI u), .int (nI 0)]) (rest := []) F hN (e_outc l b D hst T x0 σu hVu hW r (by omega) u (by omega)) mw_984 mw_985 mw_0 mw_986 ⟨pmL_told, (Nat.le_of_ble_eq_true rfl), (Nat.le_of_ble_eq_true rfl)⟩ hl.1 rfl (Nat.le_of_ble_eq_true rfl) ⟨by show (9006 + 1500 * r + 18 * u) + 6 ≤ 25000; omega, by show (72050 + 12000 * r + 120 * u) + 40 ≤ 220000; omega⟩ dL_isSound_188
                      (fun _ _ _ _ _ _ h9 => False.elim h9) (fun v9 σ21 H locs hp9 hN => ?_)
                    obtain ⟨rfl, hx21⟩ := hp9
                    refine W.eq (g2 := F0 m 191 ls [.int (lq_i (mm_q_outcome T r u) (T.oc r u))]) rfl ?_
                    refine W.widen (k := 9006 + 1500 * r + 18 * u + 6) (n := 72050 + 12000 * r + 120 * u + 40) (Nat.le_refl _) (Nat.le_refl _) ?_
                    have hV21 := hx21.v
                    have hF21 := mm_Fr.tr hFu hx21.fr
                    by_cases hlt : u < T.rp r ∧ T.oc r u = 108
                    ·
                      have hps := lq_ps_le hW cz153x hlt.1 hlt.2
                      refine W.eq (g2 := F0 m 191 ls [.int (nI 108)]) (by rw [lq_i0 (by unfold mm_q_outcome; rw [if_pos ⟨cz153x, hlt.1⟩]), hlt.2]) ?_
                      refine lv_bipush (pc := 191) (v := nI 108) F.1 F.2.1 dL_isSound_191 (by decide) ?_
                      refine mm_icmp_ne (pc := 193) F (x := 108) (y := 108) (tgt := 200) (by omega) (by omega) dL_isSound_193 (by decide) (fun h9 => absurd h9 (by decide)) (fun cz193 => ?_)
                      refine lv_iconst (pc := 196) (v := nI 1) F.1 F.2.1 dL_isSound_196 (by decide) ?_
                      refine lv_goto (pc := 197) (tgt := 201) F.1 F.2.1 dL_isSound_197 (by decide) ?_
                      refine lv_istore (pc := 201) (lv' := [(10, .int (nI 1)), (0, .ref x0), (1, .int (nI T.nP)), (2, .int (nI T.nR)), (3, .int (nI r)), (4, .int (nI (mm_nl T r))), (5, .int (nI ma)), (6, .int (nI 0)), (7, .long (lN co)), (9, .int (nI u))]) F.1 F.2.1 dL_isSound_201 hl (by decide) rfl (fun ls hl => ?_)
                      refine lv_iload (pc := 203) F.1 F.2.1 dL_isSound_203 (lv_at hl 6 rfl) ?_
                      refine lv_iload (pc := 205) F.1 F.2.1 dL_isSound_205 (lv_at hl 0 rfl) ?_
                      refine mm_if_eq (pc := 207) F (tgt := 214) (by omega) dL_isSound_207 (by decide) (fun h9 => absurd h9 (by decide)) (fun cz207 => ?_)
                      refine lv_iconst (pc := 210) (v := nI 1) F.1 F.2.1 dL_isSound_210 (by decide) ?_
                      refine lv_goto (pc := 211) (tgt := 215) F.1 F.2.1 dL_isSound_211 (by decide) ?_
                      refine mm_iadd (pc := 215) F (z := nI (ma + 1)) (nI_add _ _) dL_isSound_215 ?_
                      refine lv_istore (pc := 216) (lv' := [(5, .int (nI (ma + 1))), (10, .int (nI 1)), (0, .ref x0), (1, .int (nI T.nP)), (2, .int (nI T.nR)), (3, .int (nI r)), (4, .int (nI (mm_nl T r))), (6, .int (nI 0)), (7, .long (lN co)), (9, .int (nI u))]) F.1 F.2.1 dL_isSound_216 hl (by decide) rfl (fun ls hl => ?_)
                      refine lv_lload (pc := 218) F.1 F.2.1 dL_isSound_218 (lv_at hl 8 rfl) ?_
                      refine lv_iload (pc := 220) F.1 F.2.1 dL_isSound_220 (lv_at hl 1 rfl) ?_
                      refine mm_if_eq (pc := 222) F (tgt := 237) (by omega) dL_isSound_222 (by decide) (fun h9 => absurd h9 (by decide)) (fun cz222 => ?_)
                      refine lv_aload_n (pc := 225) F.1 F.2.1 dL_isSound_225 rfl (lv_at hl 2 rfl) ?_
                      refine lv_iload_n (pc := 226) F.1 F.2.1 dL_isSound_226 rfl (lv_at hl 5 rfl) ?_
                      refine lv_iload (pc := 227) F.1 F.2.1 dL_isSound_227 (lv_at hl 9 rfl) ?_
                      refine lv_iconst (pc := 229) (v := nI 4) F.1 F.2.1 dL_isSound_229 (by decide) ?_
                      refine mm_runSX (pc := 230) (As := [.ref x0, .int (nI r), .int (nI u), .int (nI 4)]) (rest := [.long (lN co)]) F hN (e_stamp l b D hst T x0 σ21 hV21 hW r (by omega) u (by omega)) mw_984 mw_985 mw_0 mw_986 ⟨pmL_told, (Nat.le_of_ble_eq_true rfl), (Nat.le_of_ble_eq_true rfl)⟩ hl.1 rfl (Nat.le_of_ble_eq_true rfl) ⟨by show (9006 + 1500 * r + 18 * u + 6) + 6 ≤ 25000; omega, by show (72050 + 12000 * r + 120 * u + 40) + 40 ≤ 220000; omega⟩ dL_isSound_230
                        (fun _ _ _ _ _ _ h9 => False.elim h9) (fun v9 σ22 H locs hp9 hN => ?_)
                      obtain ⟨rfl, hx22⟩ := hp9
                      refine W.eq (g2 := F0 m 233 ls [.int (lq_i (mm_q_postage T r u) (T.ps r u)), .long (lN co)]) rfl ?_
                      refine W.widen (k := 9006 + 1500 * r + 18 * u + 6 + 6) (n := 72050 + 12000 * r + 120 * u + 40 + 40) (Nat.le_refl _) (Nat.le_refl _) ?_
                      have hV22 := hx22.v
                      have hF22 := mm_Fr.tr hF21 hx22.fr
                      obtain ⟨hlt1, hlt2⟩ := id hlt
                      refine W.eq (g2 := F0 m 233 ls [.int (nI ((T.ps r u))), .long (lN co)]) (by rw [lq_i0 (by unfold mm_q_postage; (repeat' split) <;> omega)]) ?_
                      refine lv_i2l (pc := 233) (v := lN ((T.ps r u))) F.1 F.2.1 dL_isSound_233 (nI_l (by omega)) ?_
                      refine lv_goto (pc := 234) (tgt := 238) F.1 F.2.1 dL_isSound_234 (by decide) ?_
                      refine lv_ladd (pc := 238) F.1 F.2.1 dL_isSound_238 ?_
                      refine W.eq (g2 := F0 m 239 ls [.long (lN (co + ((T.ps r u))))]) (by rw [lN_add]) ?_
                      refine lv_lstore (pc := 239) (lv' := [(7, .long (lN (co + ((T.ps r u))))), (5, .int (nI (ma + 1))), (10, .int (nI 1)), (0, .ref x0), (1, .int (nI T.nP)), (2, .int (nI T.nR)), (3, .int (nI r)), (4, .int (nI (mm_nl T r))), (6, .int (nI 0)), (9, .int (nI u))]) F.1 F.2.1 dL_isSound_239 hl (by decide) rfl (fun ls hl => ?_)
                      refine lv_iload (pc := 241) F.1 F.2.1 dL_isSound_241 (lv_at hl 2 rfl) ?_
                      refine lv_aload_n (pc := 243) F.1 F.2.1 dL_isSound_243 rfl (lv_at hl 3 rfl) ?_
                      refine lv_iload_n (pc := 244) F.1 F.2.1 dL_isSound_244 rfl (lv_at hl 6 rfl) ?_
                      refine lv_iload (pc := 245) F.1 F.2.1 dL_isSound_245 (lv_at hl 9 rfl) ?_
                      refine lv_iconst (pc := 247) (v := nI 4) F.1 F.2.1 dL_isSound_247 (by decide) ?_
                      refine mm_runSX (pc := 248) (As := [.ref x0, .int (nI r), .int (nI u), .int (nI 4)]) (rest := [.int (nI 1)]) F hN (e_stamp l b D hst T x0 σ22 hV22 hW r (by omega) u (by omega)) mw_984 mw_985 mw_0 mw_986 ⟨pmL_told, (Nat.le_of_ble_eq_true rfl), (Nat.le_of_ble_eq_true rfl)⟩ hl.1 rfl (Nat.le_of_ble_eq_true rfl) ⟨by show (9006 + 1500 * r + 18 * u + 6 + 6) + 6 ≤ 25000; omega, by show (72050 + 12000 * r + 120 * u + 40 + 40) + 40 ≤ 220000; omega⟩ dL_isSound_248
                        (fun _ _ _ _ _ _ h9 => False.elim h9) (fun v9 σ23 H locs hp9 hN => ?_)
                      obtain ⟨rfl, hx23⟩ := hp9
                      refine W.eq (g2 := F0 m 251 ls [.int (lq_i (mm_q_postage T r u) (T.ps r u)), .int (nI 1)]) rfl ?_
                      refine W.widen (k := 9006 + 1500 * r + 18 * u + 6 + 6 + 6) (n := 72050 + 12000 * r + 120 * u + 40 + 40 + 40) (Nat.le_refl _) (Nat.le_refl _) ?_
                      have hV23 := hx23.v
                      have hF23 := mm_Fr.tr hF22 hx23.fr
                      obtain ⟨hlt1, hlt2⟩ := id hlt
                      refine W.eq (g2 := F0 m 251 ls [.int (nI ((T.ps r u))), .int (nI 1)]) (by rw [lq_i0 (by unfold mm_q_postage; (repeat' split) <;> omega)]) ?_
                      refine mm_if_lt (pc := 251) F (tgt := 258) (by omega) dL_isSound_251 (by decide) ?_
                      refine lv_iconst (pc := 254) (v := nI 1) F.1 F.2.1 dL_isSound_254 (by decide) ?_
                      refine lv_goto (pc := 255) (tgt := 259) F.1 F.2.1 dL_isSound_255 (by decide) ?_
                      refine mm_icmp_eq (pc := 259) F (x := 1) (y := 1) (tgt := 264) (by omega) (by omega) dL_isSound_259 (by decide) (fun cz259 => ?_) (fun h9 => absurd h9 (by decide))
                      refine lv_iinc (pc := 264) (v := nI (u + 1)) (lv' := [(9, .int (nI (u + 1))), (7, .long (lN (co + ((T.ps r u))))), (5, .int (nI (ma + 1))), (10, .int (nI 1)), (0, .ref x0), (1, .int (nI T.nP)), (2, .int (nI T.nR)), (3, .int (nI r)), (4, .int (nI (mm_nl T r))), (6, .int (nI 0))]) F.1 F.2.1 dL_isSound_264 hl (k := 9) rfl (by rw [← nI_add]; rfl) (by decide) rfl (fun ls hl => ?_)
                      refine lv_goto (pc := 267) (tgt := 177) F.1 F.2.1 dL_isSound_267 (by decide) ?_
                      refine W.widen (k := 9006 + 1500 * r + 18 * (u + 1)) (n := 72050 + 12000 * r + 120 * (u + 1)) (by omega) (by omega) ?_
                      exact ih177 (u + 1) σ23 (ma + 1) (co + ((T.ps r u))) ls _ _ (by omega) (by omega) (hV23) (hF23) (by rw [hma]; show _ = mm_sm (fun p => if p < T.rp r ∧ T.oc r p = 108 then 1 else 0) u + (if u < T.rp r ∧ T.oc r u = 108 then 1 else 0); rw [if_pos hlt]) (by rw [hco]; show _ = mm_sm (fun p => if p < T.rp r ∧ T.oc r p = 108 then T.ps r p else 0) u + (if u < T.rp r ∧ T.oc r u = 108 then T.ps r u else 0); rw [if_pos hlt]) hN (lv_sub hl [4, 5, 6, 7, 8, 2, 9, 1, 0] rfl)
                    ·
                      refine lv_bipush (pc := 191) (v := nI 108) F.1 F.2.1 dL_isSound_191 (by decide) ?_
                      refine lv_icmp_ne (pc := 193) (tgt := 200) F.1 F.2.1 dL_isSound_193 (by decide) (fun cz193 => ?_) (fun cz193 => ?_)
                      ·
                        refine lv_iconst (pc := 200) (v := nI 0) F.1 F.2.1 dL_isSound_200 (by decide) ?_
                        refine lv_istore (pc := 201) (lv' := [(10, .int (nI 0)), (0, .ref x0), (1, .int (nI T.nP)), (2, .int (nI T.nR)), (3, .int (nI r)), (4, .int (nI (mm_nl T r))), (5, .int (nI ma)), (6, .int (nI 0)), (7, .long (lN co)), (9, .int (nI u))]) F.1 F.2.1 dL_isSound_201 hl (by decide) rfl (fun ls hl => ?_)
                        refine lv_iload (pc := 203) F.1 F.2.1 dL_isSound_203 (lv_at hl 6 rfl) ?_
                        refine lv_iload (pc := 205) F.1 F.2.1 dL_isSound_205 (lv_at hl 0 rfl) ?_
                        refine mm_if_eq (pc := 207) F (tgt := 214) (by omega) dL_isSound_207 (by decide) (fun cz207 => ?_) (fun h9 => absurd h9 (by decide))
                        refine lv_iconst (pc := 214) (v := nI 0) F.1 F.2.1 dL_isSound_214 (by decide) ?_
                        refine mm_iadd (pc := 215) F (z := nI (ma + 0)) (nI_add _ _) dL_isSound_215 ?_
                        refine lv_istore (pc := 216) (lv' := [(5, .int (nI (ma + 0))), (10, .int (nI 0)), (0, .ref x0), (1, .int (nI T.nP)), (2, .int (nI T.nR)), (3, .int (nI r)), (4, .int (nI (mm_nl T r))), (6, .int (nI 0)), (7, .long (lN co)), (9, .int (nI u))]) F.1 F.2.1 dL_isSound_216 hl (by decide) rfl (fun ls hl => ?_)
                        refine lv_lload (pc := 218) F.1 F.2.1 dL_isSound_218 (lv_at hl 8 rfl) ?_
                        refine lv_iload (pc := 220) F.1 F.2.1 dL_isSound_220 (lv_at hl 1 rfl) ?_
                        refine mm_if_eq (pc := 222) F (tgt := 237) (by omega) dL_isSound_222 (by decide) (fun cz222 => ?_) (fun h9 => absurd h9 (by decide))
                        refine lv_lconst (pc := 237) (v := lN 0) F.1 F.2.1 dL_isSound_237 (by decide) ?_
                        refine lv_ladd (pc := 238) F.1 F.2.1 dL_isSound_238 ?_
                        refine W.eq (g2 := F0 m 239 ls [.long (lN (co + 0))]) (by rw [lN_add]) ?_
                        refine lv_lstore (pc := 239) (lv' := [(7, .long (lN (co + 0))), (5, .int (nI (ma + 0))), (10, .int (nI 0)), (0, .ref x0), (1, .int (nI T.nP)), (2, .int (nI T.nR)), (3, .int (nI r)), (4, .int (nI (mm_nl T r))), (6, .int (nI 0)), (9, .int (nI u))]) F.1 F.2.1 dL_isSound_239 hl (by decide) rfl (fun ls hl => ?_)
                        refine lv_iload (pc := 241) F.1 F.2.1 dL_isSound_241 (lv_at hl 2 rfl) ?_
                        refine lv_aload_n (pc := 243) F.1 F.2.1 dL_isSound_243 rfl (lv_at hl 3 rfl) ?_
                        refine lv_iload_n (pc := 244) F.1 F.2.1 dL_isSound_244 rfl (lv_at hl 6 rfl) ?_
                        refine lv_iload (pc := 245) F.1 F.2.1 dL_isSound_245 (lv_at hl 9 rfl) ?_
                        refine lv_iconst (pc := 247) (v := nI 4) F.1 F.2.1 dL_isSound_247 (by decide) ?_
                        refine mm_runSX (pc := 248) (As := [.ref x0, .int (nI r), .int (nI u), .int (nI 4)]) (rest := [.int (nI 0)]) F hN (e_stamp l b D hst T x0 σ21 hV21 hW r (by omega) u (by omega)) mw_984 mw_985 mw_0 mw_986 ⟨pmL_told, (Nat.le_of_ble_eq_true rfl), (Nat.le_of_ble_eq_true rfl)⟩ hl.1 rfl (Nat.le_of_ble_eq_true rfl) ⟨by show (9006 + 1500 * r + 18 * u + 6) + 6 ≤ 25000; omega, by show (72050 + 12000 * r + 120 * u + 40) + 40 ≤ 220000; omega⟩ dL_isSound_248
                          (fun _ _ _ _ _ _ h9 => False.elim h9) (fun v9 σ24 H locs hp9 hN => ?_)
                        obtain ⟨rfl, hx24⟩ := hp9
                        refine W.eq (g2 := F0 m 251 ls [.int (lq_i (mm_q_postage T r u) (T.ps r u)), .int (nI 0)]) rfl ?_
                        refine W.widen (k := 9006 + 1500 * r + 18 * u + 6 + 6) (n := 72050 + 12000 * r + 120 * u + 40 + 40) (Nat.le_refl _) (Nat.le_refl _) ?_
                        have hV24 := hx24.v
                        have hF24 := mm_Fr.tr hF21 hx24.fr
                        refine W.eq (g2 := F0 m 251 ls [.int (lq_e (mm_q_postage T r u)), .int (nI 0)]) (by rw [lq_iz (by unfold mm_q_postage; (repeat' split) <;> omega)]) ?_
                        refine lv_if_lt (pc := 251) (tgt := 258) F.1 F.2.1 dL_isSound_251 (by decide) (fun cz251 => ?_) (fun cz251 => ?_)
                        ·
                          refine lv_iconst (pc := 258) (v := nI 0) F.1 F.2.1 dL_isSound_258 (by decide) ?_
                          refine mm_icmp_eq (pc := 259) F (x := 0) (y := 0) (tgt := 264) (by omega) (by omega) dL_isSound_259 (by decide) (fun cz259 => ?_) (fun h9 => absurd h9 (by decide))
                          refine lv_iinc (pc := 264) (v := nI (u + 1)) (lv' := [(9, .int (nI (u + 1))), (7, .long (lN (co + 0))), (5, .int (nI (ma + 0))), (10, .int (nI 0)), (0, .ref x0), (1, .int (nI T.nP)), (2, .int (nI T.nR)), (3, .int (nI r)), (4, .int (nI (mm_nl T r))), (6, .int (nI 0))]) F.1 F.2.1 dL_isSound_264 hl (k := 9) rfl (by rw [← nI_add]; rfl) (by decide) rfl (fun ls hl => ?_)
                          refine lv_goto (pc := 267) (tgt := 177) F.1 F.2.1 dL_isSound_267 (by decide) ?_
                          refine W.widen (k := 9006 + 1500 * r + 18 * (u + 1)) (n := 72050 + 12000 * r + 120 * (u + 1)) (by omega) (by omega) ?_
                          exact ih177 (u + 1) σ24 (ma + 0) (co + 0) ls _ _ (by omega) (by omega) (hV24) (hF24) (by rw [hma]; show _ = mm_sm (fun p => if p < T.rp r ∧ T.oc r p = 108 then 1 else 0) u + (if u < T.rp r ∧ T.oc r u = 108 then 1 else 0); rw [if_neg hlt]) (by rw [hco]; show _ = mm_sm (fun p => if p < T.rp r ∧ T.oc r p = 108 then T.ps r p else 0) u + (if u < T.rp r ∧ T.oc r u = 108 then T.ps r u else 0); rw [if_neg hlt]) hN (lv_sub hl [4, 5, 6, 7, 8, 2, 9, 1, 0] rfl)
                        ·
                          exact absurd (lq_elt _) cz251
                      ·
                        exact absurd cz193 (lq_ocn hW cz153x hlt)
              exact lp177 (T.nP + 1) 0 σ10 0 0 ls _ _ (by omega) (by omega) (hV10) (hF10) (rfl) (rfl) hN (lv_sub hl [5, 6, 7, 8, 4, 3, 2, 1, 0] rfl)
        exact lp151 (T.nR + 1) 0 σ3 ls _ _ (by omega) (by omega) (hV3) (hF3) hN (lv_sub hl [1, 2, 3, 0] rfl)
      ·
        refine lv_iconst (pc := 23) (v := nI 0) F.1 F.2.1 dL_isSound_23 (by decide) ?_
        refine lv_istore (pc := 24) (lv' := [(4, .int (nI 0)), (0, .ref x0), (1, .int (nI T.nP)), (2, .int (nI T.nR)), (3, .int (nI nn))]) F.1 F.2.1 dL_isSound_24 hl (by decide) rfl (fun ls hl => ?_)
        refine W.widen (k := 460 + 2000 * nn + 18 * 0) (n := 3000 + 16000 * nn + 120 * 0) (by omega) (by omega) ?_
        have lp26 : ∀ (k26 u : Nat) (σu : mm_S) (ls : Array Slot) (H : Heap) (locs : List Loc), T.nP < u + k26 → u ≤ T.nP → (lq_V σu T x0) → (mm_Fr 0 σ σu) → mm_N b D s σu H locs → lv_has ls 12 [(0, .ref x0), (1, .int (nI T.nP)), (2, .int (nI T.nR)), (3, .int (nI nn)), (4, .int (nI u))] →
            W p l e ({ frames := 11, cells := 25000, slots := 220000, locals := 500 } : Room) s m args below meth c H locs (460 + 2000 * nn + 18 * u) (3000 + 16000 * nn + 120 * u) (mm_Q b D (fun v σ2 => v = some (.int (nI 1)) ∧ mm_Xt σ σ2 T x0) (fun _ _ => False) below args s ({ frames := 11, cells := 25000, slots := 220000, locals := 500 } : Room)) (F0 m 26 ls []) := by
          intro k26
          induction k26 with
          | zero => intro u σu ls H locs hk26 hi26 hVu hFu hN hl; omega
          | succ k26 ih26 =>
            intro u σu ls H locs hk26 hi26 hVu hFu hN hl
            refine lv_iload (pc := 26) F.1 F.2.1 dL_isSound_26 (lv_at hl 4 rfl) ?_
            refine lv_iload_n (pc := 28) F.1 F.2.1 dL_isSound_28 rfl (lv_at hl 1 rfl) ?_
            refine mm_icmp_ge (pc := 29) F (x := u) (y := T.nP) (tgt := 143) (by omega) (by omega) dL_isSound_29 (by decide) (fun cz29 => ?_) (fun cz29 => ?_)
            ·
              refine lv_iinc (pc := 143) (v := nI (nn + 1)) (lv' := [(3, .int (nI (nn + 1))), (0, .ref x0), (1, .int (nI T.nP)), (2, .int (nI T.nR)), (4, .int (nI u))]) F.1 F.2.1 dL_isSound_143 hl (k := 3) rfl (by rw [← nI_add]; rfl) (by decide) rfl (fun ls hl => ?_)
              refine lv_goto (pc := 146) (tgt := 14) F.1 F.2.1 dL_isSound_146 (by decide) ?_
              refine W.widen (k := 300 + 2000 * (nn + 1)) (n := 2000 + 16000 * (nn + 1)) (by omega) (by omega) ?_
              exact ih14 (nn + 1) σu ls _ _ (by omega) (by omega) (hVu) (hFu) hN (lv_sub hl [1, 2, 3, 0] rfl)
            ·
              refine lv_aload_n (pc := 32) F.1 F.2.1 dL_isSound_32 rfl (lv_at hl 0 rfl) ?_
              refine lv_iload_n (pc := 33) F.1 F.2.1 dL_isSound_33 rfl (lv_at hl 3 rfl) ?_
              refine lv_iload (pc := 34) F.1 F.2.1 dL_isSound_34 (lv_at hl 4 rfl) ?_
              refine lv_iconst (pc := 36) (v := nI 2) F.1 F.2.1 dL_isSound_36 (by decide) ?_
              refine mm_irem (pc := 37) F (z := nI (u % 2)) (lq_mod (by omega) (by omega) (by omega)) (lq_ne0 (by omega) (by omega)) dL_isSound_37 ?_
              refine mm_if_ne (pc := 38) F (tgt := 45) (by omega) dL_isSound_38 (by decide) (fun cz38 => ?_) (fun cz38 => ?_)
              ·
                refine lv_iconst (pc := 45) (v := nI 0) F.1 F.2.1 dL_isSound_45 (by decide) ?_
                refine lv_iload (pc := 46) F.1 F.2.1 dL_isSound_46 (lv_at hl 4 rfl) ?_
                refine lv_iconst (pc := 48) (v := nI 0) F.1 F.2.1 dL_isSound_48 (by decide) ?_
                refine mm_runSX (pc := 49) (As := [.ref x0, .int (nI nn), .int (nI 0), .int (nI u), .int (nI 0)]) (rest := []) F hN (e_prev l b D hst T x0 σu hVu hW nn (by omega) 0 (by decide) u (by omega)) mw_929 mw_930 mw_0 mw_931 ⟨pmL_preview, (Nat.le_of_ble_eq_true rfl), (Nat.le_of_ble_eq_true rfl)⟩ hl.1 rfl (Nat.le_of_ble_eq_true rfl) ⟨by show (460 + 2000 * nn + 18 * u) + 6 ≤ 25000; omega, by show (3000 + 16000 * nn + 120 * u) + 40 ≤ 220000; omega⟩ dL_isSound_49
                  (fun _ _ _ _ _ _ h9 => False.elim h9) (fun v9 σ25 H locs hp9 hN => ?_)
                obtain ⟨rfl, hx25⟩ := hp9
                refine W.eq (g2 := F0 m 52 ls [.int (lq_i (mm_q_preview T nn 0 u) (mm_oc T nn 0 u))]) rfl ?_
                refine W.widen (k := 460 + 2000 * nn + 18 * u + 6) (n := 3000 + 16000 * nn + 120 * u + 40) (Nat.le_refl _) (Nat.le_refl _) ?_
                have hV25 := hx25.v
                have hF25 := mm_Fr.tr hFu hx25.fr
                refine W.eq (g2 := F0 m 52 ls [.int (nI ((mm_oc T nn 0 u)))]) (by rw [lq_i0 (by unfold mm_q_preview; (repeat' split) <;> omega)]) ?_
                have hoc := mm_oc_lt T nn 0 u
                refine lv_istore (pc := 52) (lv' := [(5, .int (nI ((mm_oc T nn 0 u)))), (0, .ref x0), (1, .int (nI T.nP)), (2, .int (nI T.nR)), (3, .int (nI nn)), (4, .int (nI u))]) F.1 F.2.1 dL_isSound_52 hl (by decide) rfl (fun ls hl => ?_)
                refine lv_aload_n (pc := 54) F.1 F.2.1 dL_isSound_54 rfl (lv_at hl 1 rfl) ?_
                refine lv_iload (pc := 55) F.1 F.2.1 dL_isSound_55 (lv_at hl 5 rfl) ?_
                refine lv_iconst (pc := 57) (v := nI 1) F.1 F.2.1 dL_isSound_57 (by decide) ?_
                refine mm_runSX (pc := 58) (As := [.ref x0, .int (nI u), .int (nI 1)]) (rest := []) F hN (e_reason l b D hst T x0 σ25 hV25 hW u (by omega)) mw_438 mw_439 mw_0 mw_440 ⟨pmL_of, (Nat.le_of_ble_eq_true rfl), (Nat.le_of_ble_eq_true rfl)⟩ hl.1 rfl (Nat.le_of_ble_eq_true rfl) ⟨by show (460 + 2000 * nn + 18 * u + 6) + 6 ≤ 25000; omega, by show (3000 + 16000 * nn + 120 * u + 40) + 40 ≤ 220000; omega⟩ dL_isSound_58
                  (fun _ _ _ _ _ _ h9 => False.elim h9) (fun v9 σ26 H locs hp9 hN => ?_)
                obtain ⟨rfl, hx26⟩ := hp9
                refine W.eq (g2 := F0 m 61 ls [.int (lq_i (mm_q_reasonOf T u) (T.re u))]) rfl ?_
                refine W.widen (k := 460 + 2000 * nn + 18 * u + 6 + 6) (n := 3000 + 16000 * nn + 120 * u + 40 + 40) (Nat.le_refl _) (Nat.le_refl _) ?_
                have hV26 := hx26.v
                have hF26 := mm_Fr.tr hF25 hx26.fr
                obtain ⟨who, wfl, wre⟩ := hW.hpe u (by omega)
                refine W.eq (g2 := F0 m 61 ls [.int (nI ((T.re u)))]) (by rw [lq_i0 (by unfold mm_q_reasonOf; (repeat' split) <;> omega)]) ?_
                refine lv_bipush (pc := 61) (v := nI 45) F.1 F.2.1 dL_isSound_61 (by decide) ?_
                refine mm_icmp_eq (pc := 63) F (x := (T.re u)) (y := 45) (tgt := 70) (by omega) (by omega) dL_isSound_63 (by decide) (fun cz63 => ?_) (fun cz63 => ?_)
                ·
                  refine lv_iconst (pc := 70) (v := nI 0) F.1 F.2.1 dL_isSound_70 (by decide) ?_
                  refine lv_istore (pc := 71) (lv' := [(6, .int (nI 0)), (5, .int (nI ((mm_oc T nn 0 u)))), (0, .ref x0), (1, .int (nI T.nP)), (2, .int (nI T.nR)), (3, .int (nI nn)), (4, .int (nI u))]) F.1 F.2.1 dL_isSound_71 hl (by decide) rfl (fun ls hl => ?_)
                  refine lv_iload (pc := 73) F.1 F.2.1 dL_isSound_73 (lv_at hl 1 rfl) ?_
                  refine lv_aload_n (pc := 75) F.1 F.2.1 dL_isSound_75 rfl (lv_at hl 2 rfl) ?_
                  refine lv_iload_n (pc := 76) F.1 F.2.1 dL_isSound_76 rfl (lv_at hl 5 rfl) ?_
                  refine lv_iload (pc := 77) F.1 F.2.1 dL_isSound_77 (lv_at hl 6 rfl) ?_
                  refine lv_iconst (pc := 79) (v := nI 2) F.1 F.2.1 dL_isSound_79 (by decide) ?_
                  refine mm_irem (pc := 80) F (z := nI (u % 2)) (lq_mod (by omega) (by omega) (by omega)) (lq_ne0 (by omega) (by omega)) dL_isSound_80 ?_
                  refine mm_if_ne (pc := 81) F (tgt := 88) (by omega) dL_isSound_81 (by decide) (fun cz81 => ?_) (fun cz81 => ?_)
                  ·
                    refine lv_iconst (pc := 88) (v := nI 0) F.1 F.2.1 dL_isSound_88 (by decide) ?_
                    refine lv_iload (pc := 89) F.1 F.2.1 dL_isSound_89 (lv_at hl 6 rfl) ?_
                    refine lv_iconst (pc := 91) (v := nI 1) F.1 F.2.1 dL_isSound_91 (by decide) ?_
                    refine mm_runSX (pc := 92) (As := [.ref x0, .int (nI nn), .int (nI 0), .int (nI u), .int (nI 1)]) (rest := [.int (nI ((mm_oc T nn 0 u)))]) F hN (e_prevA l b D hst T x0 σ26 hV26 hW nn (by omega) 0 (by decide) u (by omega)) mw_929 mw_930 mw_0 mw_931 ⟨pmL_preview, (Nat.le_of_ble_eq_true rfl), (Nat.le_of_ble_eq_true rfl)⟩ hl.1 rfl (Nat.le_of_ble_eq_true rfl) ⟨by show (460 + 2000 * nn + 18 * u + 6 + 6) + 6 ≤ 25000; omega, by show (3000 + 16000 * nn + 120 * u + 40 + 40) + 40 ≤ 220000; omega⟩ dL_isSound_92
                      (fun _ _ _ _ _ _ h9 => False.elim h9) (fun v9 σ27 H locs hp9 hN => ?_)
                    obtain ⟨rfl, hx27⟩ := hp9
                    refine W.eq (g2 := F0 m 95 ls [.int (lq_i (mm_q_previewAlone T nn 0 u) (mm_oc T nn 0 u)), .int (nI ((mm_oc T nn 0 u)))]) rfl ?_
                    refine W.widen (k := 460 + 2000 * nn + 18 * u + 6 + 6 + 6) (n := 3000 + 16000 * nn + 120 * u + 40 + 40 + 40) (Nat.le_refl _) (Nat.le_refl _) ?_
                    have hV27 := hx27.v
                    have hF27 := mm_Fr.tr hF26 hx27.fr
                    refine W.eq (g2 := F0 m 95 ls [.int (nI ((mm_oc T nn 0 u))), .int (nI ((mm_oc T nn 0 u)))]) (by rw [lq_i0 (by unfold mm_q_previewAlone; (repeat' split) <;> omega)]) ?_
                    refine mm_icmp_ne (pc := 95) F (x := (mm_oc T nn 0 u)) (y := (mm_oc T nn 0 u)) (tgt := 135) (by omega) (by omega) dL_isSound_95 (by decide) (fun cz95 => ?_) (fun cz95 => ?_)
                    ·
                      exact absurd rfl cz95
                    ·
                      refine lv_iload (pc := 98) F.1 F.2.1 dL_isSound_98 (lv_at hl 1 rfl) ?_
                      refine lv_bipush (pc := 100) (v := nI 115) F.1 F.2.1 dL_isSound_100 (by decide) ?_
                      refine mm_icmp_ne (pc := 102) F (x := (mm_oc T nn 0 u)) (y := 115) (tgt := 109) (by omega) (by omega) dL_isSound_102 (by decide) (fun cz102 => ?_) (fun cz102 => ?_)
                      ·
                        refine lv_iconst (pc := 109) (v := nI 0) F.1 F.2.1 dL_isSound_109 (by decide) ?_
                        refine lv_iload (pc := 110) F.1 F.2.1 dL_isSound_110 (lv_at hl 0 rfl) ?_
                        refine mm_icmp_ne (pc := 112) F (x := 0) (y := 0) (tgt := 135) (by omega) (by omega) dL_isSound_112 (by decide) (fun h9 => absurd h9 (by decide)) (fun cz112 => ?_)
                        refine lv_iload (pc := 115) F.1 F.2.1 dL_isSound_115 (lv_at hl 1 rfl) ?_
                        refine lv_bipush (pc := 117) (v := nI 104) F.1 F.2.1 dL_isSound_117 (by decide) ?_
                        refine mm_icmp_ne (pc := 119) F (x := (mm_oc T nn 0 u)) (y := 104) (tgt := 130) (by omega) (by omega) dL_isSound_119 (by decide) (fun cz119 => ?_) (fun cz119 => ?_)
                        ·
                          refine lv_iload (pc := 130) F.1 F.2.1 dL_isSound_130 (lv_at hl 1 rfl) ?_
                          refine mm_if_ge (pc := 132) F (tgt := 137) (by omega) dL_isSound_132 (by decide) ?_
                          refine lv_iinc (pc := 137) (v := nI (u + 1)) (lv' := [(4, .int (nI (u + 1))), (6, .int (nI 0)), (5, .int (nI ((mm_oc T nn 0 u)))), (0, .ref x0), (1, .int (nI T.nP)), (2, .int (nI T.nR)), (3, .int (nI nn))]) F.1 F.2.1 dL_isSound_137 hl (k := 6) rfl (by rw [← nI_add]; rfl) (by decide) rfl (fun ls hl => ?_)
                          refine lv_goto (pc := 140) (tgt := 26) F.1 F.2.1 dL_isSound_140 (by decide) ?_
                          refine W.widen (k := 460 + 2000 * nn + 18 * (u + 1)) (n := 3000 + 16000 * nn + 120 * (u + 1)) (by omega) (by omega) ?_
                          exact ih26 (u + 1) σ27 ls _ _ (by omega) (by omega) (hV27) (hF27) hN (lv_sub hl [3, 4, 5, 6, 0] rfl)
                        ·
                          exact absurd cz119 lq_oc104
                      ·
                        exact absurd cz63 (lq_oc115.mp cz102)
                  ·
                    exact absurd cz81 cz38
                ·
                  refine lv_iconst (pc := 66) (v := nI 1) F.1 F.2.1 dL_isSound_66 (by decide) ?_
                  refine lv_goto (pc := 67) (tgt := 71) F.1 F.2.1 dL_isSound_67 (by decide) ?_
                  refine lv_istore (pc := 71) (lv' := [(6, .int (nI 1)), (5, .int (nI ((mm_oc T nn 0 u)))), (0, .ref x0), (1, .int (nI T.nP)), (2, .int (nI T.nR)), (3, .int (nI nn)), (4, .int (nI u))]) F.1 F.2.1 dL_isSound_71 hl (by decide) rfl (fun ls hl => ?_)
                  refine lv_iload (pc := 73) F.1 F.2.1 dL_isSound_73 (lv_at hl 1 rfl) ?_
                  refine lv_aload_n (pc := 75) F.1 F.2.1 dL_isSound_75 rfl (lv_at hl 2 rfl) ?_
                  refine lv_iload_n (pc := 76) F.1 F.2.1 dL_isSound_76 rfl (lv_at hl 5 rfl) ?_
                  refine lv_iload (pc := 77) F.1 F.2.1 dL_isSound_77 (lv_at hl 6 rfl) ?_
                  refine lv_iconst (pc := 79) (v := nI 2) F.1 F.2.1 dL_isSound_79 (by decide) ?_
                  refine mm_irem (pc := 80) F (z := nI (u % 2)) (lq_mod (by omega) (by omega) (by omega)) (lq_ne0 (by omega) (by omega)) dL_isSound_80 ?_
                  refine mm_if_ne (pc := 81) F (tgt := 88) (by omega) dL_isSound_81 (by decide) (fun cz81 => ?_) (fun cz81 => ?_)
                  ·
                    refine lv_iconst (pc := 88) (v := nI 0) F.1 F.2.1 dL_isSound_88 (by decide) ?_
                    refine lv_iload (pc := 89) F.1 F.2.1 dL_isSound_89 (lv_at hl 6 rfl) ?_
                    refine lv_iconst (pc := 91) (v := nI 1) F.1 F.2.1 dL_isSound_91 (by decide) ?_
                    refine mm_runSX (pc := 92) (As := [.ref x0, .int (nI nn), .int (nI 0), .int (nI u), .int (nI 1)]) (rest := [.int (nI ((mm_oc T nn 0 u)))]) F hN (e_prevA l b D hst T x0 σ26 hV26 hW nn (by omega) 0 (by decide) u (by omega)) mw_929 mw_930 mw_0 mw_931 ⟨pmL_preview, (Nat.le_of_ble_eq_true rfl), (Nat.le_of_ble_eq_true rfl)⟩ hl.1 rfl (Nat.le_of_ble_eq_true rfl) ⟨by show (460 + 2000 * nn + 18 * u + 6 + 6) + 6 ≤ 25000; omega, by show (3000 + 16000 * nn + 120 * u + 40 + 40) + 40 ≤ 220000; omega⟩ dL_isSound_92
                      (fun _ _ _ _ _ _ h9 => False.elim h9) (fun v9 σ28 H locs hp9 hN => ?_)
                    obtain ⟨rfl, hx28⟩ := hp9
                    refine W.eq (g2 := F0 m 95 ls [.int (lq_i (mm_q_previewAlone T nn 0 u) (mm_oc T nn 0 u)), .int (nI ((mm_oc T nn 0 u)))]) rfl ?_
                    refine W.widen (k := 460 + 2000 * nn + 18 * u + 6 + 6 + 6) (n := 3000 + 16000 * nn + 120 * u + 40 + 40 + 40) (Nat.le_refl _) (Nat.le_refl _) ?_
                    have hV28 := hx28.v
                    have hF28 := mm_Fr.tr hF26 hx28.fr
                    refine W.eq (g2 := F0 m 95 ls [.int (nI ((mm_oc T nn 0 u))), .int (nI ((mm_oc T nn 0 u)))]) (by rw [lq_i0 (by unfold mm_q_previewAlone; (repeat' split) <;> omega)]) ?_
                    refine mm_icmp_ne (pc := 95) F (x := (mm_oc T nn 0 u)) (y := (mm_oc T nn 0 u)) (tgt := 135) (by omega) (by omega) dL_isSound_95 (by decide) (fun cz95 => ?_) (fun cz95 => ?_)
                    ·
                      exact absurd rfl cz95
                    ·
                      refine lv_iload (pc := 98) F.1 F.2.1 dL_isSound_98 (lv_at hl 1 rfl) ?_
                      refine lv_bipush (pc := 100) (v := nI 115) F.1 F.2.1 dL_isSound_100 (by decide) ?_
                      refine mm_icmp_ne (pc := 102) F (x := (mm_oc T nn 0 u)) (y := 115) (tgt := 109) (by omega) (by omega) dL_isSound_102 (by decide) (fun cz102 => ?_) (fun cz102 => ?_)
                      ·
                        exact absurd (lq_oc115.mpr cz63) cz102
                      ·
                        refine lv_iconst (pc := 105) (v := nI 1) F.1 F.2.1 dL_isSound_105 (by decide) ?_
                        refine lv_goto (pc := 106) (tgt := 110) F.1 F.2.1 dL_isSound_106 (by decide) ?_
                        refine lv_iload (pc := 110) F.1 F.2.1 dL_isSound_110 (lv_at hl 0 rfl) ?_
                        refine mm_icmp_ne (pc := 112) F (x := 1) (y := 1) (tgt := 135) (by omega) (by omega) dL_isSound_112 (by decide) (fun h9 => absurd h9 (by decide)) (fun cz112 => ?_)
                        refine lv_iload (pc := 115) F.1 F.2.1 dL_isSound_115 (lv_at hl 1 rfl) ?_
                        refine lv_bipush (pc := 117) (v := nI 104) F.1 F.2.1 dL_isSound_117 (by decide) ?_
                        refine mm_icmp_ne (pc := 119) F (x := (mm_oc T nn 0 u)) (y := 104) (tgt := 130) (by omega) (by omega) dL_isSound_119 (by decide) (fun cz119 => ?_) (fun cz119 => ?_)
                        ·
                          refine lv_iload (pc := 130) F.1 F.2.1 dL_isSound_130 (lv_at hl 1 rfl) ?_
                          refine mm_if_ge (pc := 132) F (tgt := 137) (by omega) dL_isSound_132 (by decide) ?_
                          refine lv_iinc (pc := 137) (v := nI (u + 1)) (lv' := [(4, .int (nI (u + 1))), (6, .int (nI 1)), (5, .int (nI ((mm_oc T nn 0 u)))), (0, .ref x0), (1, .int (nI T.nP)), (2, .int (nI T.nR)), (3, .int (nI nn))]) F.1 F.2.1 dL_isSound_137 hl (k := 6) rfl (by rw [← nI_add]; rfl) (by decide) rfl (fun ls hl => ?_)
                          refine lv_goto (pc := 140) (tgt := 26) F.1 F.2.1 dL_isSound_140 (by decide) ?_
                          refine W.widen (k := 460 + 2000 * nn + 18 * (u + 1)) (n := 3000 + 16000 * nn + 120 * (u + 1)) (by omega) (by omega) ?_
                          exact ih26 (u + 1) σ28 ls _ _ (by omega) (by omega) (hV28) (hF28) hN (lv_sub hl [3, 4, 5, 6, 0] rfl)
                        ·
                          exact absurd cz119 lq_oc104
                  ·
                    exact absurd cz81 cz38
              ·
                refine lv_iconst (pc := 41) (v := nI 1) F.1 F.2.1 dL_isSound_41 (by decide) ?_
                refine lv_goto (pc := 42) (tgt := 46) F.1 F.2.1 dL_isSound_42 (by decide) ?_
                refine lv_iload (pc := 46) F.1 F.2.1 dL_isSound_46 (lv_at hl 4 rfl) ?_
                refine lv_iconst (pc := 48) (v := nI 0) F.1 F.2.1 dL_isSound_48 (by decide) ?_
                refine mm_runSX (pc := 49) (As := [.ref x0, .int (nI nn), .int (nI 1), .int (nI u), .int (nI 0)]) (rest := []) F hN (e_prev l b D hst T x0 σu hVu hW nn (by omega) 1 (by decide) u (by omega)) mw_929 mw_930 mw_0 mw_931 ⟨pmL_preview, (Nat.le_of_ble_eq_true rfl), (Nat.le_of_ble_eq_true rfl)⟩ hl.1 rfl (Nat.le_of_ble_eq_true rfl) ⟨by show (460 + 2000 * nn + 18 * u) + 6 ≤ 25000; omega, by show (3000 + 16000 * nn + 120 * u) + 40 ≤ 220000; omega⟩ dL_isSound_49
                  (fun _ _ _ _ _ _ h9 => False.elim h9) (fun v9 σ29 H locs hp9 hN => ?_)
                obtain ⟨rfl, hx29⟩ := hp9
                refine W.eq (g2 := F0 m 52 ls [.int (lq_i (mm_q_preview T nn 1 u) (mm_oc T nn 1 u))]) rfl ?_
                refine W.widen (k := 460 + 2000 * nn + 18 * u + 6) (n := 3000 + 16000 * nn + 120 * u + 40) (Nat.le_refl _) (Nat.le_refl _) ?_
                have hV29 := hx29.v
                have hF29 := mm_Fr.tr hFu hx29.fr
                refine W.eq (g2 := F0 m 52 ls [.int (nI ((mm_oc T nn 1 u)))]) (by rw [lq_i0 (by unfold mm_q_preview; (repeat' split) <;> omega)]) ?_
                have hoc := mm_oc_lt T nn 1 u
                refine lv_istore (pc := 52) (lv' := [(5, .int (nI ((mm_oc T nn 1 u)))), (0, .ref x0), (1, .int (nI T.nP)), (2, .int (nI T.nR)), (3, .int (nI nn)), (4, .int (nI u))]) F.1 F.2.1 dL_isSound_52 hl (by decide) rfl (fun ls hl => ?_)
                refine lv_aload_n (pc := 54) F.1 F.2.1 dL_isSound_54 rfl (lv_at hl 1 rfl) ?_
                refine lv_iload (pc := 55) F.1 F.2.1 dL_isSound_55 (lv_at hl 5 rfl) ?_
                refine lv_iconst (pc := 57) (v := nI 1) F.1 F.2.1 dL_isSound_57 (by decide) ?_
                refine mm_runSX (pc := 58) (As := [.ref x0, .int (nI u), .int (nI 1)]) (rest := []) F hN (e_reason l b D hst T x0 σ29 hV29 hW u (by omega)) mw_438 mw_439 mw_0 mw_440 ⟨pmL_of, (Nat.le_of_ble_eq_true rfl), (Nat.le_of_ble_eq_true rfl)⟩ hl.1 rfl (Nat.le_of_ble_eq_true rfl) ⟨by show (460 + 2000 * nn + 18 * u + 6) + 6 ≤ 25000; omega, by show (3000 + 16000 * nn + 120 * u + 40) + 40 ≤ 220000; omega⟩ dL_isSound_58
                  (fun _ _ _ _ _ _ h9 => False.elim h9) (fun v9 σ30 H locs hp9 hN => ?_)
                obtain ⟨rfl, hx30⟩ := hp9
                refine W.eq (g2 := F0 m 61 ls [.int (lq_i (mm_q_reasonOf T u) (T.re u))]) rfl ?_
                refine W.widen (k := 460 + 2000 * nn + 18 * u + 6 + 6) (n := 3000 + 16000 * nn + 120 * u + 40 + 40) (Nat.le_refl _) (Nat.le_refl _) ?_
                have hV30 := hx30.v
                have hF30 := mm_Fr.tr hF29 hx30.fr
                obtain ⟨who, wfl, wre⟩ := hW.hpe u (by omega)
                refine W.eq (g2 := F0 m 61 ls [.int (nI ((T.re u)))]) (by rw [lq_i0 (by unfold mm_q_reasonOf; (repeat' split) <;> omega)]) ?_
                refine lv_bipush (pc := 61) (v := nI 45) F.1 F.2.1 dL_isSound_61 (by decide) ?_
                refine mm_icmp_eq (pc := 63) F (x := (T.re u)) (y := 45) (tgt := 70) (by omega) (by omega) dL_isSound_63 (by decide) (fun cz63 => ?_) (fun cz63 => ?_)
                ·
                  refine lv_iconst (pc := 70) (v := nI 0) F.1 F.2.1 dL_isSound_70 (by decide) ?_
                  refine lv_istore (pc := 71) (lv' := [(6, .int (nI 0)), (5, .int (nI ((mm_oc T nn 1 u)))), (0, .ref x0), (1, .int (nI T.nP)), (2, .int (nI T.nR)), (3, .int (nI nn)), (4, .int (nI u))]) F.1 F.2.1 dL_isSound_71 hl (by decide) rfl (fun ls hl => ?_)
                  refine lv_iload (pc := 73) F.1 F.2.1 dL_isSound_73 (lv_at hl 1 rfl) ?_
                  refine lv_aload_n (pc := 75) F.1 F.2.1 dL_isSound_75 rfl (lv_at hl 2 rfl) ?_
                  refine lv_iload_n (pc := 76) F.1 F.2.1 dL_isSound_76 rfl (lv_at hl 5 rfl) ?_
                  refine lv_iload (pc := 77) F.1 F.2.1 dL_isSound_77 (lv_at hl 6 rfl) ?_
                  refine lv_iconst (pc := 79) (v := nI 2) F.1 F.2.1 dL_isSound_79 (by decide) ?_
                  refine mm_irem (pc := 80) F (z := nI (u % 2)) (lq_mod (by omega) (by omega) (by omega)) (lq_ne0 (by omega) (by omega)) dL_isSound_80 ?_
                  refine mm_if_ne (pc := 81) F (tgt := 88) (by omega) dL_isSound_81 (by decide) (fun cz81 => ?_) (fun cz81 => ?_)
                  ·
                    exact absurd cz38 cz81
                  ·
                    refine lv_iconst (pc := 84) (v := nI 1) F.1 F.2.1 dL_isSound_84 (by decide) ?_
                    refine lv_goto (pc := 85) (tgt := 89) F.1 F.2.1 dL_isSound_85 (by decide) ?_
                    refine lv_iload (pc := 89) F.1 F.2.1 dL_isSound_89 (lv_at hl 6 rfl) ?_
                    refine lv_iconst (pc := 91) (v := nI 1) F.1 F.2.1 dL_isSound_91 (by decide) ?_
                    refine mm_runSX (pc := 92) (As := [.ref x0, .int (nI nn), .int (nI 1), .int (nI u), .int (nI 1)]) (rest := [.int (nI ((mm_oc T nn 1 u)))]) F hN (e_prevA l b D hst T x0 σ30 hV30 hW nn (by omega) 1 (by decide) u (by omega)) mw_929 mw_930 mw_0 mw_931 ⟨pmL_preview, (Nat.le_of_ble_eq_true rfl), (Nat.le_of_ble_eq_true rfl)⟩ hl.1 rfl (Nat.le_of_ble_eq_true rfl) ⟨by show (460 + 2000 * nn + 18 * u + 6 + 6) + 6 ≤ 25000; omega, by show (3000 + 16000 * nn + 120 * u + 40 + 40) + 40 ≤ 220000; omega⟩ dL_isSound_92
                      (fun _ _ _ _ _ _ h9 => False.elim h9) (fun v9 σ31 H locs hp9 hN => ?_)
                    obtain ⟨rfl, hx31⟩ := hp9
                    refine W.eq (g2 := F0 m 95 ls [.int (lq_i (mm_q_previewAlone T nn 1 u) (mm_oc T nn 1 u)), .int (nI ((mm_oc T nn 1 u)))]) rfl ?_
                    refine W.widen (k := 460 + 2000 * nn + 18 * u + 6 + 6 + 6) (n := 3000 + 16000 * nn + 120 * u + 40 + 40 + 40) (Nat.le_refl _) (Nat.le_refl _) ?_
                    have hV31 := hx31.v
                    have hF31 := mm_Fr.tr hF30 hx31.fr
                    refine W.eq (g2 := F0 m 95 ls [.int (nI ((mm_oc T nn 1 u))), .int (nI ((mm_oc T nn 1 u)))]) (by rw [lq_i0 (by unfold mm_q_previewAlone; (repeat' split) <;> omega)]) ?_
                    refine mm_icmp_ne (pc := 95) F (x := (mm_oc T nn 1 u)) (y := (mm_oc T nn 1 u)) (tgt := 135) (by omega) (by omega) dL_isSound_95 (by decide) (fun cz95 => ?_) (fun cz95 => ?_)
                    ·
                      exact absurd rfl cz95
                    ·
                      refine lv_iload (pc := 98) F.1 F.2.1 dL_isSound_98 (lv_at hl 1 rfl) ?_
                      refine lv_bipush (pc := 100) (v := nI 115) F.1 F.2.1 dL_isSound_100 (by decide) ?_
                      refine mm_icmp_ne (pc := 102) F (x := (mm_oc T nn 1 u)) (y := 115) (tgt := 109) (by omega) (by omega) dL_isSound_102 (by decide) (fun cz102 => ?_) (fun cz102 => ?_)
                      ·
                        refine lv_iconst (pc := 109) (v := nI 0) F.1 F.2.1 dL_isSound_109 (by decide) ?_
                        refine lv_iload (pc := 110) F.1 F.2.1 dL_isSound_110 (lv_at hl 0 rfl) ?_
                        refine mm_icmp_ne (pc := 112) F (x := 0) (y := 0) (tgt := 135) (by omega) (by omega) dL_isSound_112 (by decide) (fun h9 => absurd h9 (by decide)) (fun cz112 => ?_)
                        refine lv_iload (pc := 115) F.1 F.2.1 dL_isSound_115 (lv_at hl 1 rfl) ?_
                        refine lv_bipush (pc := 117) (v := nI 104) F.1 F.2.1 dL_isSound_117 (by decide) ?_
                        refine mm_icmp_ne (pc := 119) F (x := (mm_oc T nn 1 u)) (y := 104) (tgt := 130) (by omega) (by omega) dL_isSound_119 (by decide) (fun cz119 => ?_) (fun cz119 => ?_)
                        ·
                          refine lv_iload (pc := 130) F.1 F.2.1 dL_isSound_130 (lv_at hl 1 rfl) ?_
                          refine mm_if_ge (pc := 132) F (tgt := 137) (by omega) dL_isSound_132 (by decide) ?_
                          refine lv_iinc (pc := 137) (v := nI (u + 1)) (lv' := [(4, .int (nI (u + 1))), (6, .int (nI 0)), (5, .int (nI ((mm_oc T nn 1 u)))), (0, .ref x0), (1, .int (nI T.nP)), (2, .int (nI T.nR)), (3, .int (nI nn))]) F.1 F.2.1 dL_isSound_137 hl (k := 6) rfl (by rw [← nI_add]; rfl) (by decide) rfl (fun ls hl => ?_)
                          refine lv_goto (pc := 140) (tgt := 26) F.1 F.2.1 dL_isSound_140 (by decide) ?_
                          refine W.widen (k := 460 + 2000 * nn + 18 * (u + 1)) (n := 3000 + 16000 * nn + 120 * (u + 1)) (by omega) (by omega) ?_
                          exact ih26 (u + 1) σ31 ls _ _ (by omega) (by omega) (hV31) (hF31) hN (lv_sub hl [3, 4, 5, 6, 0] rfl)
                        ·
                          refine lv_iload (pc := 122) F.1 F.2.1 dL_isSound_122 (lv_at hl 6 rfl) ?_
                          refine lv_iconst (pc := 124) (v := nI 2) F.1 F.2.1 dL_isSound_124 (by decide) ?_
                          refine mm_irem (pc := 125) F (z := nI (u % 2)) (lq_mod (by omega) (by omega) (by omega)) (lq_ne0 (by omega) (by omega)) dL_isSound_125 ?_
                          refine lv_iconst (pc := 126) (v := nI 1) F.1 F.2.1 dL_isSound_126 (by decide) ?_
                          refine mm_icmp_eq (pc := 127) F (x := u % 2) (y := 1) (tgt := 135) (by omega) (by omega) dL_isSound_127 (by decide) (fun cz127 => ?_) (fun cz127 => ?_)
                          ·
                            omega
                          ·
                            refine lv_iload (pc := 130) F.1 F.2.1 dL_isSound_130 (lv_at hl 1 rfl) ?_
                            refine mm_if_ge (pc := 132) F (tgt := 137) (by omega) dL_isSound_132 (by decide) ?_
                            refine lv_iinc (pc := 137) (v := nI (u + 1)) (lv' := [(4, .int (nI (u + 1))), (6, .int (nI 0)), (5, .int (nI ((mm_oc T nn 1 u)))), (0, .ref x0), (1, .int (nI T.nP)), (2, .int (nI T.nR)), (3, .int (nI nn))]) F.1 F.2.1 dL_isSound_137 hl (k := 6) rfl (by rw [← nI_add]; rfl) (by decide) rfl (fun ls hl => ?_)
                            refine lv_goto (pc := 140) (tgt := 26) F.1 F.2.1 dL_isSound_140 (by decide) ?_
                            refine W.widen (k := 460 + 2000 * nn + 18 * (u + 1)) (n := 3000 + 16000 * nn + 120 * (u + 1)) (by omega) (by omega) ?_
                            exact ih26 (u + 1) σ31 ls _ _ (by omega) (by omega) (hV31) (hF31) hN (lv_sub hl [3, 4, 5, 6, 0] rfl)
                      ·
                        exact absurd cz63 (lq_oc115.mp cz102)
                ·
                  refine lv_iconst (pc := 66) (v := nI 1) F.1 F.2.1 dL_isSound_66 (by decide) ?_
                  refine lv_goto (pc := 67) (tgt := 71) F.1 F.2.1 dL_isSound_67 (by decide) ?_
                  refine lv_istore (pc := 71) (lv' := [(6, .int (nI 1)), (5, .int (nI ((mm_oc T nn 1 u)))), (0, .ref x0), (1, .int (nI T.nP)), (2, .int (nI T.nR)), (3, .int (nI nn)), (4, .int (nI u))]) F.1 F.2.1 dL_isSound_71 hl (by decide) rfl (fun ls hl => ?_)
                  refine lv_iload (pc := 73) F.1 F.2.1 dL_isSound_73 (lv_at hl 1 rfl) ?_
                  refine lv_aload_n (pc := 75) F.1 F.2.1 dL_isSound_75 rfl (lv_at hl 2 rfl) ?_
                  refine lv_iload_n (pc := 76) F.1 F.2.1 dL_isSound_76 rfl (lv_at hl 5 rfl) ?_
                  refine lv_iload (pc := 77) F.1 F.2.1 dL_isSound_77 (lv_at hl 6 rfl) ?_
                  refine lv_iconst (pc := 79) (v := nI 2) F.1 F.2.1 dL_isSound_79 (by decide) ?_
                  refine mm_irem (pc := 80) F (z := nI (u % 2)) (lq_mod (by omega) (by omega) (by omega)) (lq_ne0 (by omega) (by omega)) dL_isSound_80 ?_
                  refine mm_if_ne (pc := 81) F (tgt := 88) (by omega) dL_isSound_81 (by decide) (fun cz81 => ?_) (fun cz81 => ?_)
                  ·
                    exact absurd cz38 cz81
                  ·
                    refine lv_iconst (pc := 84) (v := nI 1) F.1 F.2.1 dL_isSound_84 (by decide) ?_
                    refine lv_goto (pc := 85) (tgt := 89) F.1 F.2.1 dL_isSound_85 (by decide) ?_
                    refine lv_iload (pc := 89) F.1 F.2.1 dL_isSound_89 (lv_at hl 6 rfl) ?_
                    refine lv_iconst (pc := 91) (v := nI 1) F.1 F.2.1 dL_isSound_91 (by decide) ?_
                    refine mm_runSX (pc := 92) (As := [.ref x0, .int (nI nn), .int (nI 1), .int (nI u), .int (nI 1)]) (rest := [.int (nI ((mm_oc T nn 1 u)))]) F hN (e_prevA l b D hst T x0 σ30 hV30 hW nn (by omega) 1 (by decide) u (by omega)) mw_929 mw_930 mw_0 mw_931 ⟨pmL_preview, (Nat.le_of_ble_eq_true rfl), (Nat.le_of_ble_eq_true rfl)⟩ hl.1 rfl (Nat.le_of_ble_eq_true rfl) ⟨by show (460 + 2000 * nn + 18 * u + 6 + 6) + 6 ≤ 25000; omega, by show (3000 + 16000 * nn + 120 * u + 40 + 40) + 40 ≤ 220000; omega⟩ dL_isSound_92
                      (fun _ _ _ _ _ _ h9 => False.elim h9) (fun v9 σ32 H locs hp9 hN => ?_)
                    obtain ⟨rfl, hx32⟩ := hp9
                    refine W.eq (g2 := F0 m 95 ls [.int (lq_i (mm_q_previewAlone T nn 1 u) (mm_oc T nn 1 u)), .int (nI ((mm_oc T nn 1 u)))]) rfl ?_
                    refine W.widen (k := 460 + 2000 * nn + 18 * u + 6 + 6 + 6) (n := 3000 + 16000 * nn + 120 * u + 40 + 40 + 40) (Nat.le_refl _) (Nat.le_refl _) ?_
                    have hV32 := hx32.v
                    have hF32 := mm_Fr.tr hF30 hx32.fr
                    refine W.eq (g2 := F0 m 95 ls [.int (nI ((mm_oc T nn 1 u))), .int (nI ((mm_oc T nn 1 u)))]) (by rw [lq_i0 (by unfold mm_q_previewAlone; (repeat' split) <;> omega)]) ?_
                    refine mm_icmp_ne (pc := 95) F (x := (mm_oc T nn 1 u)) (y := (mm_oc T nn 1 u)) (tgt := 135) (by omega) (by omega) dL_isSound_95 (by decide) (fun cz95 => ?_) (fun cz95 => ?_)
                    ·
                      exact absurd rfl cz95
                    ·
                      refine lv_iload (pc := 98) F.1 F.2.1 dL_isSound_98 (lv_at hl 1 rfl) ?_
                      refine lv_bipush (pc := 100) (v := nI 115) F.1 F.2.1 dL_isSound_100 (by decide) ?_
                      refine mm_icmp_ne (pc := 102) F (x := (mm_oc T nn 1 u)) (y := 115) (tgt := 109) (by omega) (by omega) dL_isSound_102 (by decide) (fun cz102 => ?_) (fun cz102 => ?_)
                      ·
                        exact absurd (lq_oc115.mpr cz63) cz102
                      ·
                        refine lv_iconst (pc := 105) (v := nI 1) F.1 F.2.1 dL_isSound_105 (by decide) ?_
                        refine lv_goto (pc := 106) (tgt := 110) F.1 F.2.1 dL_isSound_106 (by decide) ?_
                        refine lv_iload (pc := 110) F.1 F.2.1 dL_isSound_110 (lv_at hl 0 rfl) ?_
                        refine mm_icmp_ne (pc := 112) F (x := 1) (y := 1) (tgt := 135) (by omega) (by omega) dL_isSound_112 (by decide) (fun h9 => absurd h9 (by decide)) (fun cz112 => ?_)
                        refine lv_iload (pc := 115) F.1 F.2.1 dL_isSound_115 (lv_at hl 1 rfl) ?_
                        refine lv_bipush (pc := 117) (v := nI 104) F.1 F.2.1 dL_isSound_117 (by decide) ?_
                        refine mm_icmp_ne (pc := 119) F (x := (mm_oc T nn 1 u)) (y := 104) (tgt := 130) (by omega) (by omega) dL_isSound_119 (by decide) (fun cz119 => ?_) (fun cz119 => ?_)
                        ·
                          refine lv_iload (pc := 130) F.1 F.2.1 dL_isSound_130 (lv_at hl 1 rfl) ?_
                          refine mm_if_ge (pc := 132) F (tgt := 137) (by omega) dL_isSound_132 (by decide) ?_
                          refine lv_iinc (pc := 137) (v := nI (u + 1)) (lv' := [(4, .int (nI (u + 1))), (6, .int (nI 1)), (5, .int (nI ((mm_oc T nn 1 u)))), (0, .ref x0), (1, .int (nI T.nP)), (2, .int (nI T.nR)), (3, .int (nI nn))]) F.1 F.2.1 dL_isSound_137 hl (k := 6) rfl (by rw [← nI_add]; rfl) (by decide) rfl (fun ls hl => ?_)
                          refine lv_goto (pc := 140) (tgt := 26) F.1 F.2.1 dL_isSound_140 (by decide) ?_
                          refine W.widen (k := 460 + 2000 * nn + 18 * (u + 1)) (n := 3000 + 16000 * nn + 120 * (u + 1)) (by omega) (by omega) ?_
                          exact ih26 (u + 1) σ32 ls _ _ (by omega) (by omega) (hV32) (hF32) hN (lv_sub hl [3, 4, 5, 6, 0] rfl)
                        ·
                          refine lv_iload (pc := 122) F.1 F.2.1 dL_isSound_122 (lv_at hl 6 rfl) ?_
                          refine lv_iconst (pc := 124) (v := nI 2) F.1 F.2.1 dL_isSound_124 (by decide) ?_
                          refine mm_irem (pc := 125) F (z := nI (u % 2)) (lq_mod (by omega) (by omega) (by omega)) (lq_ne0 (by omega) (by omega)) dL_isSound_125 ?_
                          refine lv_iconst (pc := 126) (v := nI 1) F.1 F.2.1 dL_isSound_126 (by decide) ?_
                          refine mm_icmp_eq (pc := 127) F (x := u % 2) (y := 1) (tgt := 135) (by omega) (by omega) dL_isSound_127 (by decide) (fun cz127 => ?_) (fun cz127 => ?_)
                          ·
                            omega
                          ·
                            refine lv_iload (pc := 130) F.1 F.2.1 dL_isSound_130 (lv_at hl 1 rfl) ?_
                            refine mm_if_ge (pc := 132) F (tgt := 137) (by omega) dL_isSound_132 (by decide) ?_
                            refine lv_iinc (pc := 137) (v := nI (u + 1)) (lv' := [(4, .int (nI (u + 1))), (6, .int (nI 1)), (5, .int (nI ((mm_oc T nn 1 u)))), (0, .ref x0), (1, .int (nI T.nP)), (2, .int (nI T.nR)), (3, .int (nI nn))]) F.1 F.2.1 dL_isSound_137 hl (k := 6) rfl (by rw [← nI_add]; rfl) (by decide) rfl (fun ls hl => ?_)
                            refine lv_goto (pc := 140) (tgt := 26) F.1 F.2.1 dL_isSound_140 (by decide) ?_
                            refine W.widen (k := 460 + 2000 * nn + 18 * (u + 1)) (n := 3000 + 16000 * nn + 120 * (u + 1)) (by omega) (by omega) ?_
                            exact ih26 (u + 1) σ32 ls _ _ (by omega) (by omega) (hV32) (hF32) hN (lv_sub hl [3, 4, 5, 6, 0] rfl)
        exact lp26 (T.nP + 1) 0 σ3 ls _ _ (by omega) (by omega) (hV3) (hF3) hN (lv_sub hl [1, 2, 3, 4, 0] rfl)
  exact lp14 (T.nT + 1) 0 σ2 ls _ _ (by omega) (by omega) (hV2) (hF2) hN (lv_sub hl [3, 2, 1, 0] rfl)

