set_option maxHeartbeats 4000000 in
set_option maxRecDepth 100000 in
theorem law_20 {p : Program} {l : Launch} {e : Env} {s : State} {m : MethodId} {args : Array Value} {below : List Frame} {meth : Method} {c : Code} {H : Heap} {locs : List Loc} {cells slots : Nat} {Q : State → Prop} {b : Nat} {D : mm_D} {σ : mm_S} {T : mm_T} {x0 m0 o d sb L i : Nat} {ns : Nat → Nat} {ls : Array Slot}
    (F : mm_F p l s m args meth c b D RL cL_law 9) (hXs : va_X sb L (fun j => nI (ns j)) s s.heap) (hbl : sb < s.heap.size) (hbb : sb < b) (hL : L ≤ 2560) (hns : ∀ j, ns j < 2 ^ 32) (hi : i + 5 ≤ L) (hN : mm_N b D s σ H locs) (hV : mm_V σ T x0 m0 o d) (hl : lv_has ls 9 (mm_lc i d o m0 x0 sb)) (hc : cells + 103 ≤ 603072) (hs : slots + 9037 ≤ 7215210)
    (kk : ∀ (T2 : mm_T) (σ2 : mm_S) (ls : Array Slot) (H : Heap) (locs : List Loc), mm_V σ2 T2 x0 m0 o d → mm_N b D s σ2 H locs → lv_has ls 9 (mm_lc i d o m0 x0 sb) → W p l e room_1 s m args below meth c H locs (cells + 103) (slots + 9037) Q (F0 m 2217 ls []))
    : W p l e room_1 s m args below meth c H locs cells slots Q (F0 m 1484 ls []) := by
  obtain ⟨⟨z, ad, hX, rfl⟩, ⟨th, rd, hM, rfl⟩, ⟨go, ho⟩, ⟨gd, hd⟩, hod, hW⟩ := hV
  have hl : lv_has ls 9 [(5, .int (nI i)), (4, .ref d), (3, .ref o), (2, .ref ((rd 0 0))), (1, .ref ((ad 0 0 0))), (0, .ref sb)] := hl
  refine lv_aload_n (pc := 1484) F.1 F.2.1 dL_law_1484 rfl (lv_at hl 4 rfl) ?_
  refine lv_aload_n (pc := 1485) F.1 F.2.1 dL_law_1485 rfl (lv_at hl 5 rfl) ?_
  refine lv_iload (pc := 1486) F.1 F.2.1 dL_law_1486 (lv_at hl 0 rfl) ?_
  refine lv_iconst (pc := 1488) (v := nI 1) F.1 F.2.1 dL_law_1488 (by decide) ?_
  refine mm_iadd (pc := 1489) F (z := nI (i + 1)) (nI_add _ _) dL_law_1489 ?_
  refine mm_sld (pc := 1490) F hN hXs hbl hbb (j := i + 1) rfl (by omega) hL dL_law_1490 ?_
  refine lv_aload_n (pc := 1491) F.1 F.2.1 dL_law_1491 rfl (lv_at hl 5 rfl) ?_
  refine lv_iload (pc := 1492) F.1 F.2.1 dL_law_1492 (lv_at hl 0 rfl) ?_
  refine lv_iconst (pc := 1494) (v := nI 2) F.1 F.2.1 dL_law_1494 (by decide) ?_
  refine mm_iadd (pc := 1495) F (z := nI (i + 2)) (nI_add _ _) dL_law_1495 ?_
  refine mm_sld (pc := 1496) F hN hXs hbl hbb (j := i + 2) rfl (by omega) hL dL_law_1496 ?_
  refine lv_aload_n (pc := 1497) F.1 F.2.1 dL_law_1497 rfl (lv_at hl 2 rfl) ?_
  refine mm_runSX (pc := 1498) (As := [.ref ((ad 0 0 0)), .int (nI (ns (i + 1))), .int (nI (ns (i + 2))), .ref o]) (rest := []) F hN (w_outcome l b D F.2.2.2.2.2.2.2.1 T z ad σ hX hW (ns (i + 1)) (hns _) (ns (i + 2)) (hns _) o go ho) mw_1002 mw_1003 mw_0 mw_1004 ⟨pmL_outcome, (Nat.le_of_ble_eq_true rfl), (Nat.le_of_ble_eq_true rfl)⟩ hl.1 rfl (Nat.le_of_ble_eq_true rfl) ⟨by show cells + 6 ≤ 603072; omega, by show slots + 40 ≤ 7215210; omega⟩ dL_law_1498
    (fun _ _ _ _ _ _ h9 => False.elim h9) (fun v9 σ1 H locs hp9 hN => ?_)
  obtain ⟨rfl, z1, ad1, g1, hX1, hx1, hw1, hg1, hfr1⟩ := hp9
  refine W.eq (g2 := F0 m 1501 ls [.int (nI (mm_q_outcome T (ns (i + 1)) (ns (i + 2))))]) rfl ?_
  refine W.widen (k := cells + 6) (n := slots + 40) (Nat.le_refl _) (Nat.le_refl _) ?_
  have hM1 : mm_M σ1 T th rd := mm_M_kept1 hM (fun a9 e9 he => hfr1 a9 1 e9 (by decide) (fun q9 => by rw [q9, ho] at he; cases he) he)
  have hd1 : σ1 d = mm_ard 2 2 1 gd := hfr1 d 2 _ (by decide) (Ne.symm hod) hd
  have hq4 : mm_q_outcome T (ns (i + 1)) (ns (i + 2)) < 4 := mm_q_outcome_lt
  have hW2 : mm_WF (if mm_q_outcome T (ns (i + 1)) (ns (i + 2)) = 0 then (T) else T) := by split <;> exact hW
  refine lv_istore (pc := 1501) (lv' := [(6, .int (nI (mm_q_outcome T (ns (i + 1)) (ns (i + 2))))), (5, .int (nI i)), (4, .ref d), (3, .ref o), (2, .ref ((rd 0 0))), (1, .ref ((ad 0 0 0))), (0, .ref sb)]) F.1 F.2.1 dL_law_1501 hl (by decide) rfl (fun ls hl => ?_)
  refine lv_aload_n (pc := 1503) F.1 F.2.1 dL_law_1503 rfl (lv_at hl 4 rfl) ?_
  refine lv_aload_n (pc := 1504) F.1 F.2.1 dL_law_1504 rfl (lv_at hl 6 rfl) ?_
  refine lv_iload (pc := 1505) F.1 F.2.1 dL_law_1505 (lv_at hl 1 rfl) ?_
  refine lv_iconst (pc := 1507) (v := nI 1) F.1 F.2.1 dL_law_1507 (by decide) ?_
  refine mm_iadd (pc := 1508) F (z := nI (i + 1)) (nI_add _ _) dL_law_1508 ?_
  refine mm_sld (pc := 1509) F hN hXs hbl hbb (j := i + 1) rfl (by omega) hL dL_law_1509 ?_
  refine lv_aload_n (pc := 1510) F.1 F.2.1 dL_law_1510 rfl (lv_at hl 6 rfl) ?_
  refine lv_iload (pc := 1511) F.1 F.2.1 dL_law_1511 (lv_at hl 1 rfl) ?_
  refine lv_iconst (pc := 1513) (v := nI 2) F.1 F.2.1 dL_law_1513 (by decide) ?_
  refine mm_iadd (pc := 1514) F (z := nI (i + 2)) (nI_add _ _) dL_law_1514 ?_
  refine mm_sld (pc := 1515) F hN hXs hbl hbb (j := i + 2) rfl (by omega) hL dL_law_1515 ?_
  refine mm_runV (pc := 1516) (As := [.int (nI (ns (i + 1))), .int (nI (ns (i + 2)))]) (rest := []) F hN (r_outcome l b D F.2.2.2.2.2.2.2.1 T th rd σ1 hM1 hW (ns (i + 1)) (hns _) (ns (i + 2)) (hns _)) mw_1383 mw_1384 mw_1385 mw_6 mw_1386 ⟨pmX7_outcome, (Nat.le_of_ble_eq_true rfl), (Nat.le_of_ble_eq_true rfl)⟩ (mm_recv F.2.2.2.2.2.1 hN (mm_r0 hM1) rfl) hl.1 rfl (Nat.le_of_ble_eq_true rfl) ⟨by show (cells + 6) + 0 ≤ 603072; omega, by show (slots + 40) + 0 ≤ 7215210; omega⟩ dL_law_1516
    (fun _ _ _ _ _ _ h9 => False.elim h9)
    (fun v9 σ2 H locs hp9 hN => ?_)
  obtain ⟨i9, rfl, hi9, hM2, hF2⟩ := mm_Mt.out hp9
  obtain hq9 := hp9
  refine W.eq (g2 := F0 m 1519 ls [.int i9]) rfl ?_
  refine W.widen (k := cells + 6) (n := slots + 40) (Nat.le_refl _) (Nat.le_refl _) ?_
  refine lv_istore (pc := 1519) (lv' := [(7, .int i9), (6, .int (nI (mm_q_outcome T (ns (i + 1)) (ns (i + 2))))), (5, .int (nI i)), (4, .ref d), (3, .ref o), (2, .ref ((rd 0 0))), (1, .ref ((ad 0 0 0))), (0, .ref sb)]) F.1 F.2.1 dL_law_1519 hl (by decide) rfl (fun ls hl => ?_)
  refine lv_aload_n (pc := 1521) F.1 F.2.1 dL_law_1521 rfl (lv_at hl 5 rfl) ?_
  refine mm_runV (pc := 1522) (As := []) (rest := []) F hN (r_thrown l b D F.2.2.2.2.2.2.2.1 (if mm_q_outcome T (ns (i + 1)) (ns (i + 2)) = 0 then (T) else T) (mm_q_outcome T (ns (i + 1)) (ns (i + 2))) rd σ2 hM2 hW2) mw_1260 mw_1261 mw_1262 mw_6 mw_1263 ⟨pmX7_thrown, (Nat.le_of_ble_eq_true rfl), (Nat.le_of_ble_eq_true rfl)⟩ (mm_recv F.2.2.2.2.2.1 hN (mm_r0 hM2) rfl) hl.1 rfl (Nat.le_of_ble_eq_true rfl) ⟨by show (cells + 6) + 0 ≤ 603072; omega, by show (slots + 40) + 0 ≤ 7215210; omega⟩ dL_law_1522
    (fun _ _ _ _ _ _ h9 => False.elim h9)
    (fun v9 σ9 H locs hp9 hN => ?_)
  obtain ⟨rfl, h9⟩ := hp9
  rw [h9] at hN
  refine W.eq (g2 := F0 m 1525 ls [.int (nI (mm_q_outcome T (ns (i + 1)) (ns (i + 2))))]) rfl ?_
  refine W.widen (k := cells + 6) (n := slots + 40) (Nat.le_refl _) (Nat.le_refl _) ?_
  refine lv_iload (pc := 1525) F.1 F.2.1 dL_law_1525 (lv_at hl 1 rfl) ?_
  refine mm_icmp_eqB (pc := 1527) F (x := mm_q_outcome T (ns (i + 1)) (ns (i + 2))) (y := mm_q_outcome T (ns (i + 1)) (ns (i + 2))) (tgt := 1532) (by omega) (by omega) dL_law_1527 (by decide) (fun cz1527 => ?_) (fun cz1527 => ?_)
  ·
    refine lv_iload (pc := 1532) F.1 F.2.1 dL_law_1532 (lv_at hl 1 rfl) ?_
    refine mm_if_neB (pc := 1534) F (tgt := 1549) (by omega) dL_law_1534 (by decide) (fun cz1534 => ?_) (fun cz1534 => ?_)
    ·
      refine lv_goto (pc := 1549) (tgt := 2217) F.1 F.2.1 dL_law_1549 (by decide) ?_
      exact W.widen (by omega) (by omega) (kk _ _ ls H locs ⟨⟨z1, ad1, mm_X_kept hX1 (fun a9 e9 he => hF2 a9 0 e9 (by decide) he), hx1⟩, ⟨_, rd, hM2, rfl⟩, ⟨g1, hF2 o 2 _ (by decide) hw1⟩, ⟨gd, hF2 d 2 _ (by decide) hd1⟩, hod, hW2⟩ hN (lv_sub hl [2, 3, 4, 5, 6, 7] rfl))
    ·
      refine lv_aload_n (pc := 1537) F.1 F.2.1 dL_law_1537 rfl (lv_at hl 4 rfl) ?_
      refine lv_iconst (pc := 1538) (v := nI 0) F.1 F.2.1 dL_law_1538 (by decide) ?_
      refine mm_lald (pc := 1539) F hN (hF2 o 2 _ (by decide) hw1) (j := 0) rfl (by decide) (by decide) dL_law_1539 ?_
      refine lv_iload (pc := 1540) F.1 F.2.1 dL_law_1540 (lv_at hl 0 rfl) ?_
      refine lv_i2l (pc := 1542) (v := (i9).toInt64) F.1 F.2.1 dL_law_1542 (rfl) ?_
      refine W.eq (g2 := F0 m 1543 ls [.long ((nI (T.oc (ns (i + 1)) (ns (i + 2)))).toInt64), .long ((nI (T.oc (ns (i + 1)) (ns (i + 2)))).toInt64)]) (by rw [hg1 cz1534, hi9 cz1534]) ?_
      refine mm_lcmpE (pc := 1543) F.1 F.2.1 dL_law_1543 ?_
      refine mm_if_eq (pc := 1544) F (tgt := 1549) (by omega) dL_law_1544 (by decide) (fun cz1544 => ?_) (fun h9 => absurd h9 (by decide))
      refine lv_goto (pc := 1549) (tgt := 2217) F.1 F.2.1 dL_law_1549 (by decide) ?_
      exact W.widen (by omega) (by omega) (kk _ _ ls H locs ⟨⟨z1, ad1, mm_X_kept hX1 (fun a9 e9 he => hF2 a9 0 e9 (by decide) he), hx1⟩, ⟨_, rd, hM2, rfl⟩, ⟨g1, hF2 o 2 _ (by decide) hw1⟩, ⟨gd, hF2 d 2 _ (by decide) hd1⟩, hod, hW2⟩ hN (lv_sub hl [2, 3, 4, 5, 6, 7] rfl))
  ·
    exact absurd rfl cz1527

set_option maxHeartbeats 4000000 in
set_option maxRecDepth 100000 in
theorem law_21 {p : Program} {l : Launch} {e : Env} {s : State} {m : MethodId} {args : Array Value} {below : List Frame} {meth : Method} {c : Code} {H : Heap} {locs : List Loc} {cells slots : Nat} {Q : State → Prop} {b : Nat} {D : mm_D} {σ : mm_S} {T : mm_T} {x0 m0 o d sb L i : Nat} {ns : Nat → Nat} {ls : Array Slot}
    (F : mm_F p l s m args meth c b D RL cL_law 9) (hXs : va_X sb L (fun j => nI (ns j)) s s.heap) (hbl : sb < s.heap.size) (hbb : sb < b) (hL : L ≤ 2560) (hns : ∀ j, ns j < 2 ^ 32) (hi : i + 5 ≤ L) (hN : mm_N b D s σ H locs) (hV : mm_V σ T x0 m0 o d) (hl : lv_has ls 9 (mm_lc i d o m0 x0 sb)) (hc : cells + 103 ≤ 603072) (hs : slots + 9037 ≤ 7215210)
    (kk : ∀ (T2 : mm_T) (σ2 : mm_S) (ls : Array Slot) (H : Heap) (locs : List Loc), mm_V σ2 T2 x0 m0 o d → mm_N b D s σ2 H locs → lv_has ls 9 (mm_lc i d o m0 x0 sb) → W p l e room_1 s m args below meth c H locs (cells + 103) (slots + 9037) Q (F0 m 2217 ls []))
    : W p l e room_1 s m args below meth c H locs cells slots Q (F0 m 1552 ls []) := by
  obtain ⟨⟨z, ad, hX, rfl⟩, ⟨th, rd, hM, rfl⟩, ⟨go, ho⟩, ⟨gd, hd⟩, hod, hW⟩ := hV
  have hl : lv_has ls 9 [(5, .int (nI i)), (4, .ref d), (3, .ref o), (2, .ref ((rd 0 0))), (1, .ref ((ad 0 0 0))), (0, .ref sb)] := hl
  refine lv_aload_n (pc := 1552) F.1 F.2.1 dL_law_1552 rfl (lv_at hl 4 rfl) ?_
  refine lv_aload_n (pc := 1553) F.1 F.2.1 dL_law_1553 rfl (lv_at hl 5 rfl) ?_
  refine lv_iload (pc := 1554) F.1 F.2.1 dL_law_1554 (lv_at hl 0 rfl) ?_
  refine lv_iconst (pc := 1556) (v := nI 1) F.1 F.2.1 dL_law_1556 (by decide) ?_
  refine mm_iadd (pc := 1557) F (z := nI (i + 1)) (nI_add _ _) dL_law_1557 ?_
  refine mm_sld (pc := 1558) F hN hXs hbl hbb (j := i + 1) rfl (by omega) hL dL_law_1558 ?_
  refine lv_aload_n (pc := 1559) F.1 F.2.1 dL_law_1559 rfl (lv_at hl 5 rfl) ?_
  refine lv_iload (pc := 1560) F.1 F.2.1 dL_law_1560 (lv_at hl 0 rfl) ?_
  refine lv_iconst (pc := 1562) (v := nI 2) F.1 F.2.1 dL_law_1562 (by decide) ?_
  refine mm_iadd (pc := 1563) F (z := nI (i + 2)) (nI_add _ _) dL_law_1563 ?_
  refine mm_sld (pc := 1564) F hN hXs hbl hbb (j := i + 2) rfl (by omega) hL dL_law_1564 ?_
  refine lv_aload_n (pc := 1565) F.1 F.2.1 dL_law_1565 rfl (lv_at hl 5 rfl) ?_
  refine lv_iload (pc := 1566) F.1 F.2.1 dL_law_1566 (lv_at hl 0 rfl) ?_
  refine lv_iconst (pc := 1568) (v := nI 3) F.1 F.2.1 dL_law_1568 (by decide) ?_
  refine mm_iadd (pc := 1569) F (z := nI (i + 3)) (nI_add _ _) dL_law_1569 ?_
  refine mm_sld (pc := 1570) F hN hXs hbl hbb (j := i + 3) rfl (by omega) hL dL_law_1570 ?_
  refine lv_i2c (pc := 1571) (v := nI (ns (i + 3) % 65536)) F.1 F.2.1 dL_law_1571 (mm_i2c _) ?_
  refine lv_aload_n (pc := 1572) F.1 F.2.1 dL_law_1572 rfl (lv_at hl 2 rfl) ?_
  refine mm_runSX (pc := 1573) (As := [.ref ((ad 0 0 0)), .int (nI (ns (i + 1))), .int (nI (ns (i + 2))), .int (nI (ns (i + 3) % 65536)), .ref o]) (rest := []) F hN (w_comesBack l b D F.2.2.2.2.2.2.2.1 T z ad σ hX hW (ns (i + 1)) (hns _) (ns (i + 2)) (hns _) (ns (i + 3) % 65536) (Nat.mod_lt _ (by decide)) o go ho) mw_1019 mw_1020 mw_0 mw_1021 ⟨pmL_comesBack, (Nat.le_of_ble_eq_true rfl), (Nat.le_of_ble_eq_true rfl)⟩ hl.1 rfl (Nat.le_of_ble_eq_true rfl) ⟨by show cells + 6 ≤ 603072; omega, by show slots + 40 ≤ 7215210; omega⟩ dL_law_1573
    (fun _ _ _ _ _ _ h9 => False.elim h9) (fun v9 σ1 H locs hp9 hN => ?_)
  obtain ⟨rfl, z1, ad1, g1, hX1, hx1, hw1, hg1, hfr1⟩ := hp9
  refine W.eq (g2 := F0 m 1576 ls [.int (nI (mm_q_comesBack T (ns (i + 1)) (ns (i + 2)) (ns (i + 3) % 65536)))]) rfl ?_
  refine W.widen (k := cells + 6) (n := slots + 40) (Nat.le_refl _) (Nat.le_refl _) ?_
  have hM1 : mm_M σ1 T th rd := mm_M_kept1 hM (fun a9 e9 he => hfr1 a9 1 e9 (by decide) (fun q9 => by rw [q9, ho] at he; cases he) he)
  have hd1 : σ1 d = mm_ard 2 2 1 gd := hfr1 d 2 _ (by decide) (Ne.symm hod) hd
  have hq4 : mm_q_comesBack T (ns (i + 1)) (ns (i + 2)) (ns (i + 3) % 65536) < 4 := mm_q_comesBack_lt
  have hW2 : mm_WF (if mm_q_comesBack T (ns (i + 1)) (ns (i + 2)) (ns (i + 3) % 65536) = 0 then (if (ns (i + 3) % 65536) = 117 then (T.w 19 (mm_u2 (T 19) (ns (i + 1)) (ns (i + 2)) 1)).w 2 (mm_u2 (T 2) (T.ho (ns (i + 2))) 0 (T.sk (T.ho (ns (i + 2))) + 1)) else (T.w 19 (mm_u2 (T 19) (ns (i + 1)) (ns (i + 2)) 1)).w 6 (mm_u2 (T 6) (ns (i + 2)) 0 (ns (i + 3) % 65536))) else T) := mm_wf_comesBack hW (ns (i + 1)) (hns _) (ns (i + 2)) (hns _) (ns (i + 3) % 65536) (Nat.mod_lt _ (by decide))
  refine lv_istore (pc := 1576) (lv' := [(6, .int (nI (mm_q_comesBack T (ns (i + 1)) (ns (i + 2)) (ns (i + 3) % 65536)))), (5, .int (nI i)), (4, .ref d), (3, .ref o), (2, .ref ((rd 0 0))), (1, .ref ((ad 0 0 0))), (0, .ref sb)]) F.1 F.2.1 dL_law_1576 hl (by decide) rfl (fun ls hl => ?_)
  refine lv_aload_n (pc := 1578) F.1 F.2.1 dL_law_1578 rfl (lv_at hl 4 rfl) ?_
  refine lv_aload_n (pc := 1579) F.1 F.2.1 dL_law_1579 rfl (lv_at hl 6 rfl) ?_
  refine lv_iload (pc := 1580) F.1 F.2.1 dL_law_1580 (lv_at hl 1 rfl) ?_
  refine lv_iconst (pc := 1582) (v := nI 1) F.1 F.2.1 dL_law_1582 (by decide) ?_
  refine mm_iadd (pc := 1583) F (z := nI (i + 1)) (nI_add _ _) dL_law_1583 ?_
  refine mm_sld (pc := 1584) F hN hXs hbl hbb (j := i + 1) rfl (by omega) hL dL_law_1584 ?_
  refine lv_aload_n (pc := 1585) F.1 F.2.1 dL_law_1585 rfl (lv_at hl 6 rfl) ?_
  refine lv_iload (pc := 1586) F.1 F.2.1 dL_law_1586 (lv_at hl 1 rfl) ?_
  refine lv_iconst (pc := 1588) (v := nI 2) F.1 F.2.1 dL_law_1588 (by decide) ?_
  refine mm_iadd (pc := 1589) F (z := nI (i + 2)) (nI_add _ _) dL_law_1589 ?_
  refine mm_sld (pc := 1590) F hN hXs hbl hbb (j := i + 2) rfl (by omega) hL dL_law_1590 ?_
  refine lv_aload_n (pc := 1591) F.1 F.2.1 dL_law_1591 rfl (lv_at hl 6 rfl) ?_
  refine lv_iload (pc := 1592) F.1 F.2.1 dL_law_1592 (lv_at hl 1 rfl) ?_
  refine lv_iconst (pc := 1594) (v := nI 3) F.1 F.2.1 dL_law_1594 (by decide) ?_
  refine mm_iadd (pc := 1595) F (z := nI (i + 3)) (nI_add _ _) dL_law_1595 ?_
  refine mm_sld (pc := 1596) F hN hXs hbl hbb (j := i + 3) rfl (by omega) hL dL_law_1596 ?_
  refine lv_i2c (pc := 1597) (v := nI (ns (i + 3) % 65536)) F.1 F.2.1 dL_law_1597 (mm_i2c _) ?_
  refine mm_runV (pc := 1598) (As := [.int (nI (ns (i + 1))), .int (nI (ns (i + 2))), .int (nI (ns (i + 3) % 65536))]) (rest := []) F hN (r_comesBack l b D F.2.2.2.2.2.2.2.1 T th rd σ1 hM1 hW (ns (i + 1)) (hns _) (ns (i + 2)) (hns _) (ns (i + 3) % 65536) (Nat.mod_lt _ (by decide))) mw_1395 mw_1396 mw_1397 mw_6 mw_1398 ⟨pmX7_comesBack, (Nat.le_of_ble_eq_true rfl), (Nat.le_of_ble_eq_true rfl)⟩ (mm_recv F.2.2.2.2.2.1 hN (mm_r0 hM1) rfl) hl.1 rfl (Nat.le_of_ble_eq_true rfl) ⟨by show (cells + 6) + 0 ≤ 603072; omega, by show (slots + 40) + 0 ≤ 7215210; omega⟩ dL_law_1598
    (fun _ _ _ _ _ _ h9 => False.elim h9)
    (fun v9 σ2 H locs hp9 hN => ?_)
  obtain ⟨i9, rfl, hi9, hM2, hF2⟩ := mm_Mt.out hp9
  obtain hq9 := hp9
  refine W.eq (g2 := F0 m 1601 ls [.int i9]) rfl ?_
  refine W.widen (k := cells + 6) (n := slots + 40) (Nat.le_refl _) (Nat.le_refl _) ?_
  refine lv_istore (pc := 1601) (lv' := [(7, .int i9), (6, .int (nI (mm_q_comesBack T (ns (i + 1)) (ns (i + 2)) (ns (i + 3) % 65536)))), (5, .int (nI i)), (4, .ref d), (3, .ref o), (2, .ref ((rd 0 0))), (1, .ref ((ad 0 0 0))), (0, .ref sb)]) F.1 F.2.1 dL_law_1601 hl (by decide) rfl (fun ls hl => ?_)
  refine lv_aload_n (pc := 1603) F.1 F.2.1 dL_law_1603 rfl (lv_at hl 5 rfl) ?_
  refine mm_runV (pc := 1604) (As := []) (rest := []) F hN (r_thrown l b D F.2.2.2.2.2.2.2.1 (if mm_q_comesBack T (ns (i + 1)) (ns (i + 2)) (ns (i + 3) % 65536) = 0 then (if (ns (i + 3) % 65536) = 117 then (T.w 19 (mm_u2 (T 19) (ns (i + 1)) (ns (i + 2)) 1)).w 2 (mm_u2 (T 2) (T.ho (ns (i + 2))) 0 (T.sk (T.ho (ns (i + 2))) + 1)) else (T.w 19 (mm_u2 (T 19) (ns (i + 1)) (ns (i + 2)) 1)).w 6 (mm_u2 (T 6) (ns (i + 2)) 0 (ns (i + 3) % 65536))) else T) (mm_q_comesBack T (ns (i + 1)) (ns (i + 2)) (ns (i + 3) % 65536)) rd σ2 hM2 hW2) mw_1260 mw_1261 mw_1262 mw_6 mw_1263 ⟨pmX7_thrown, (Nat.le_of_ble_eq_true rfl), (Nat.le_of_ble_eq_true rfl)⟩ (mm_recv F.2.2.2.2.2.1 hN (mm_r0 hM2) rfl) hl.1 rfl (Nat.le_of_ble_eq_true rfl) ⟨by show (cells + 6) + 0 ≤ 603072; omega, by show (slots + 40) + 0 ≤ 7215210; omega⟩ dL_law_1604
    (fun _ _ _ _ _ _ h9 => False.elim h9)
    (fun v9 σ9 H locs hp9 hN => ?_)
  obtain ⟨rfl, h9⟩ := hp9
  rw [h9] at hN
  refine W.eq (g2 := F0 m 1607 ls [.int (nI (mm_q_comesBack T (ns (i + 1)) (ns (i + 2)) (ns (i + 3) % 65536)))]) rfl ?_
  refine W.widen (k := cells + 6) (n := slots + 40) (Nat.le_refl _) (Nat.le_refl _) ?_
  refine lv_iload (pc := 1607) F.1 F.2.1 dL_law_1607 (lv_at hl 1 rfl) ?_
  refine mm_icmp_eqB (pc := 1609) F (x := mm_q_comesBack T (ns (i + 1)) (ns (i + 2)) (ns (i + 3) % 65536)) (y := mm_q_comesBack T (ns (i + 1)) (ns (i + 2)) (ns (i + 3) % 65536)) (tgt := 1614) (by omega) (by omega) dL_law_1609 (by decide) (fun cz1609 => ?_) (fun cz1609 => ?_)
  ·
    refine lv_iload (pc := 1614) F.1 F.2.1 dL_law_1614 (lv_at hl 1 rfl) ?_
    refine mm_if_neB (pc := 1616) F (tgt := 1631) (by omega) dL_law_1616 (by decide) (fun cz1616 => ?_) (fun cz1616 => ?_)
    ·
      refine lv_goto (pc := 1631) (tgt := 2217) F.1 F.2.1 dL_law_1631 (by decide) ?_
      exact W.widen (by omega) (by omega) (kk _ _ ls H locs ⟨⟨z1, ad1, mm_X_kept hX1 (fun a9 e9 he => hF2 a9 0 e9 (by decide) he), hx1⟩, ⟨_, rd, hM2, rfl⟩, ⟨g1, hF2 o 2 _ (by decide) hw1⟩, ⟨gd, hF2 d 2 _ (by decide) hd1⟩, hod, hW2⟩ hN (lv_sub hl [2, 3, 4, 5, 6, 7] rfl))
    ·
      refine lv_aload_n (pc := 1619) F.1 F.2.1 dL_law_1619 rfl (lv_at hl 4 rfl) ?_
      refine lv_iconst (pc := 1620) (v := nI 0) F.1 F.2.1 dL_law_1620 (by decide) ?_
      refine mm_lald (pc := 1621) F hN (hF2 o 2 _ (by decide) hw1) (j := 0) rfl (by decide) (by decide) dL_law_1621 ?_
      refine lv_iload (pc := 1622) F.1 F.2.1 dL_law_1622 (lv_at hl 0 rfl) ?_
      refine lv_i2l (pc := 1624) (v := (i9).toInt64) F.1 F.2.1 dL_law_1624 (rfl) ?_
      refine W.eq (g2 := F0 m 1625 ls [.long ((nI (mm_sm (mm_u2 (T 19) (ns (i + 1)) (ns (i + 2)) 1 (ns (i + 1))) (T.rp (ns (i + 1))))).toInt64), .long ((nI (mm_sm (mm_u2 (T 19) (ns (i + 1)) (ns (i + 2)) 1 (ns (i + 1))) (T.rp (ns (i + 1))))).toInt64)]) (by rw [hg1 cz1616, hi9 cz1616]) ?_
      refine mm_lcmpE (pc := 1625) F.1 F.2.1 dL_law_1625 ?_
      refine mm_if_eq (pc := 1626) F (tgt := 1631) (by omega) dL_law_1626 (by decide) (fun cz1626 => ?_) (fun h9 => absurd h9 (by decide))
      refine lv_goto (pc := 1631) (tgt := 2217) F.1 F.2.1 dL_law_1631 (by decide) ?_
      exact W.widen (by omega) (by omega) (kk _ _ ls H locs ⟨⟨z1, ad1, mm_X_kept hX1 (fun a9 e9 he => hF2 a9 0 e9 (by decide) he), hx1⟩, ⟨_, rd, hM2, rfl⟩, ⟨g1, hF2 o 2 _ (by decide) hw1⟩, ⟨gd, hF2 d 2 _ (by decide) hd1⟩, hod, hW2⟩ hN (lv_sub hl [2, 3, 4, 5, 6, 7] rfl))
  ·
    exact absurd rfl cz1609

set_option maxHeartbeats 4000000 in
set_option maxRecDepth 100000 in
theorem law_22 {p : Program} {l : Launch} {e : Env} {s : State} {m : MethodId} {args : Array Value} {below : List Frame} {meth : Method} {c : Code} {H : Heap} {locs : List Loc} {cells slots : Nat} {Q : State → Prop} {b : Nat} {D : mm_D} {σ : mm_S} {T : mm_T} {x0 m0 o d sb L i : Nat} {ns : Nat → Nat} {ls : Array Slot}
    (F : mm_F p l s m args meth c b D RL cL_law 9) (hXs : va_X sb L (fun j => nI (ns j)) s s.heap) (hbl : sb < s.heap.size) (hbb : sb < b) (hL : L ≤ 2560) (hns : ∀ j, ns j < 2 ^ 32) (hi : i + 5 ≤ L) (hN : mm_N b D s σ H locs) (hV : mm_V σ T x0 m0 o d) (hl : lv_has ls 9 (mm_lc i d o m0 x0 sb)) (hc : cells + 103 ≤ 603072) (hs : slots + 9037 ≤ 7215210)
    (kk : ∀ (T2 : mm_T) (σ2 : mm_S) (ls : Array Slot) (H : Heap) (locs : List Loc), mm_V σ2 T2 x0 m0 o d → mm_N b D s σ2 H locs → lv_has ls 9 (mm_lc i d o m0 x0 sb) → W p l e room_1 s m args below meth c H locs (cells + 103) (slots + 9037) Q (F0 m 2217 ls []))
    : W p l e room_1 s m args below meth c H locs cells slots Q (F0 m 1634 ls []) := by
  obtain ⟨⟨z, ad, hX, rfl⟩, ⟨th, rd, hM, rfl⟩, ⟨go, ho⟩, ⟨gd, hd⟩, hod, hW⟩ := hV
  have hl : lv_has ls 9 [(5, .int (nI i)), (4, .ref d), (3, .ref o), (2, .ref ((rd 0 0))), (1, .ref ((ad 0 0 0))), (0, .ref sb)] := hl
  refine lv_aload_n (pc := 1634) F.1 F.2.1 dL_law_1634 rfl (lv_at hl 4 rfl) ?_
  refine lv_aload_n (pc := 1635) F.1 F.2.1 dL_law_1635 rfl (lv_at hl 5 rfl) ?_
  refine lv_iload (pc := 1636) F.1 F.2.1 dL_law_1636 (lv_at hl 0 rfl) ?_
  refine lv_iconst (pc := 1638) (v := nI 1) F.1 F.2.1 dL_law_1638 (by decide) ?_
  refine mm_iadd (pc := 1639) F (z := nI (i + 1)) (nI_add _ _) dL_law_1639 ?_
  refine mm_sld (pc := 1640) F hN hXs hbl hbb (j := i + 1) rfl (by omega) hL dL_law_1640 ?_
  refine lv_aload_n (pc := 1641) F.1 F.2.1 dL_law_1641 rfl (lv_at hl 2 rfl) ?_
  refine mm_runSX (pc := 1642) (As := [.ref ((ad 0 0 0)), .int (nI (ns (i + 1))), .ref o]) (rest := []) F hN (w_setBound l b D F.2.2.2.2.2.2.2.1 T z ad σ hX hW (ns (i + 1)) (hns _) o go ho) mw_1033 mw_1034 mw_0 mw_1035 ⟨pmL_setBound, (Nat.le_of_ble_eq_true rfl), (Nat.le_of_ble_eq_true rfl)⟩ hl.1 rfl (Nat.le_of_ble_eq_true rfl) ⟨by show cells + 6 ≤ 603072; omega, by show slots + 40 ≤ 7215210; omega⟩ dL_law_1642
    (fun _ _ _ _ _ _ h9 => False.elim h9) (fun v9 σ1 H locs hp9 hN => ?_)
  obtain ⟨rfl, z1, ad1, g1, hX1, hx1, hw1, hg1, hfr1⟩ := hp9
  refine W.eq (g2 := F0 m 1645 ls [.int (nI (mm_q_setBound T (ns (i + 1))))]) rfl ?_
  refine W.widen (k := cells + 6) (n := slots + 40) (Nat.le_refl _) (Nat.le_refl _) ?_
  have hM1 : mm_M σ1 T th rd := mm_M_kept1 hM (fun a9 e9 he => hfr1 a9 1 e9 (by decide) (fun q9 => by rw [q9, ho] at he; cases he) he)
  have hd1 : σ1 d = mm_ard 2 2 1 gd := hfr1 d 2 _ (by decide) (Ne.symm hod) hd
  have hq4 : mm_q_setBound T (ns (i + 1)) < 4 := mm_q_setBound_lt
  have hW2 : mm_WF (if mm_q_setBound T (ns (i + 1)) = 0 then (T.w 0 (mm_u2 (T 0) 5 0 (ns (i + 1)))) else T) := mm_wf_setBound hW (ns (i + 1)) (hns _)
  refine lv_istore (pc := 1645) (lv' := [(6, .int (nI (mm_q_setBound T (ns (i + 1))))), (5, .int (nI i)), (4, .ref d), (3, .ref o), (2, .ref ((rd 0 0))), (1, .ref ((ad 0 0 0))), (0, .ref sb)]) F.1 F.2.1 dL_law_1645 hl (by decide) rfl (fun ls hl => ?_)
  refine lv_aload_n (pc := 1647) F.1 F.2.1 dL_law_1647 rfl (lv_at hl 4 rfl) ?_
  refine lv_aload_n (pc := 1648) F.1 F.2.1 dL_law_1648 rfl (lv_at hl 6 rfl) ?_
  refine lv_iload (pc := 1649) F.1 F.2.1 dL_law_1649 (lv_at hl 1 rfl) ?_
  refine lv_iconst (pc := 1651) (v := nI 1) F.1 F.2.1 dL_law_1651 (by decide) ?_
  refine mm_iadd (pc := 1652) F (z := nI (i + 1)) (nI_add _ _) dL_law_1652 ?_
  refine mm_sld (pc := 1653) F hN hXs hbl hbb (j := i + 1) rfl (by omega) hL dL_law_1653 ?_
  refine mm_runV (pc := 1654) (As := [.int (nI (ns (i + 1)))]) (rest := []) F hN (r_setBound l b D F.2.2.2.2.2.2.2.1 T th rd σ1 hM1 hW (ns (i + 1)) (hns _)) mw_1403 mw_1404 mw_1405 mw_6 mw_1406 ⟨pmX7_setBound, (Nat.le_of_ble_eq_true rfl), (Nat.le_of_ble_eq_true rfl)⟩ (mm_recv F.2.2.2.2.2.1 hN (mm_r0 hM1) rfl) hl.1 rfl (Nat.le_of_ble_eq_true rfl) ⟨by show (cells + 6) + 0 ≤ 603072; omega, by show (slots + 40) + 0 ≤ 7215210; omega⟩ dL_law_1654
    (fun _ _ _ _ _ _ h9 => False.elim h9)
    (fun v9 σ2 H locs hp9 hN => ?_)
  obtain ⟨i9, rfl, hi9, hM2, hF2⟩ := mm_Mt.out hp9
  obtain hq9 := hp9
  refine W.eq (g2 := F0 m 1657 ls [.int i9]) rfl ?_
  refine W.widen (k := cells + 6) (n := slots + 40) (Nat.le_refl _) (Nat.le_refl _) ?_
  refine lv_istore (pc := 1657) (lv' := [(7, .int i9), (6, .int (nI (mm_q_setBound T (ns (i + 1))))), (5, .int (nI i)), (4, .ref d), (3, .ref o), (2, .ref ((rd 0 0))), (1, .ref ((ad 0 0 0))), (0, .ref sb)]) F.1 F.2.1 dL_law_1657 hl (by decide) rfl (fun ls hl => ?_)
  refine lv_aload_n (pc := 1659) F.1 F.2.1 dL_law_1659 rfl (lv_at hl 5 rfl) ?_
  refine mm_runV (pc := 1660) (As := []) (rest := []) F hN (r_thrown l b D F.2.2.2.2.2.2.2.1 (if mm_q_setBound T (ns (i + 1)) = 0 then (T.w 0 (mm_u2 (T 0) 5 0 (ns (i + 1)))) else T) (mm_q_setBound T (ns (i + 1))) rd σ2 hM2 hW2) mw_1260 mw_1261 mw_1262 mw_6 mw_1263 ⟨pmX7_thrown, (Nat.le_of_ble_eq_true rfl), (Nat.le_of_ble_eq_true rfl)⟩ (mm_recv F.2.2.2.2.2.1 hN (mm_r0 hM2) rfl) hl.1 rfl (Nat.le_of_ble_eq_true rfl) ⟨by show (cells + 6) + 0 ≤ 603072; omega, by show (slots + 40) + 0 ≤ 7215210; omega⟩ dL_law_1660
    (fun _ _ _ _ _ _ h9 => False.elim h9)
    (fun v9 σ9 H locs hp9 hN => ?_)
  obtain ⟨rfl, h9⟩ := hp9
  rw [h9] at hN
  refine W.eq (g2 := F0 m 1663 ls [.int (nI (mm_q_setBound T (ns (i + 1))))]) rfl ?_
  refine W.widen (k := cells + 6) (n := slots + 40) (Nat.le_refl _) (Nat.le_refl _) ?_
  refine lv_iload (pc := 1663) F.1 F.2.1 dL_law_1663 (lv_at hl 1 rfl) ?_
  refine mm_icmp_eqB (pc := 1665) F (x := mm_q_setBound T (ns (i + 1))) (y := mm_q_setBound T (ns (i + 1))) (tgt := 1670) (by omega) (by omega) dL_law_1665 (by decide) (fun cz1665 => ?_) (fun cz1665 => ?_)
  ·
    refine lv_iload (pc := 1670) F.1 F.2.1 dL_law_1670 (lv_at hl 1 rfl) ?_
    refine mm_if_neB (pc := 1672) F (tgt := 1687) (by omega) dL_law_1672 (by decide) (fun cz1672 => ?_) (fun cz1672 => ?_)
    ·
      refine lv_goto (pc := 1687) (tgt := 2217) F.1 F.2.1 dL_law_1687 (by decide) ?_
      exact W.widen (by omega) (by omega) (kk _ _ ls H locs ⟨⟨z1, ad1, mm_X_kept hX1 (fun a9 e9 he => hF2 a9 0 e9 (by decide) he), hx1⟩, ⟨_, rd, hM2, rfl⟩, ⟨g1, hF2 o 2 _ (by decide) hw1⟩, ⟨gd, hF2 d 2 _ (by decide) hd1⟩, hod, hW2⟩ hN (lv_sub hl [2, 3, 4, 5, 6, 7] rfl))
    ·
      refine lv_aload_n (pc := 1675) F.1 F.2.1 dL_law_1675 rfl (lv_at hl 4 rfl) ?_
      refine lv_iconst (pc := 1676) (v := nI 0) F.1 F.2.1 dL_law_1676 (by decide) ?_
      refine mm_lald (pc := 1677) F hN (hF2 o 2 _ (by decide) hw1) (j := 0) rfl (by decide) (by decide) dL_law_1677 ?_
      refine lv_iload (pc := 1678) F.1 F.2.1 dL_law_1678 (lv_at hl 0 rfl) ?_
      refine lv_i2l (pc := 1680) (v := (i9).toInt64) F.1 F.2.1 dL_law_1680 (rfl) ?_
      refine W.eq (g2 := F0 m 1681 ls [.long ((nI (T.bo)).toInt64), .long ((nI (T.bo)).toInt64)]) (by rw [hg1 cz1672, hi9 cz1672]) ?_
      refine mm_lcmpE (pc := 1681) F.1 F.2.1 dL_law_1681 ?_
      refine mm_if_eq (pc := 1682) F (tgt := 1687) (by omega) dL_law_1682 (by decide) (fun cz1682 => ?_) (fun h9 => absurd h9 (by decide))
      refine lv_goto (pc := 1687) (tgt := 2217) F.1 F.2.1 dL_law_1687 (by decide) ?_
      exact W.widen (by omega) (by omega) (kk _ _ ls H locs ⟨⟨z1, ad1, mm_X_kept hX1 (fun a9 e9 he => hF2 a9 0 e9 (by decide) he), hx1⟩, ⟨_, rd, hM2, rfl⟩, ⟨g1, hF2 o 2 _ (by decide) hw1⟩, ⟨gd, hF2 d 2 _ (by decide) hd1⟩, hod, hW2⟩ hN (lv_sub hl [2, 3, 4, 5, 6, 7] rfl))
  ·
    exact absurd rfl cz1665

set_option maxHeartbeats 4000000 in
set_option maxRecDepth 100000 in
theorem law_23 {p : Program} {l : Launch} {e : Env} {s : State} {m : MethodId} {args : Array Value} {below : List Frame} {meth : Method} {c : Code} {H : Heap} {locs : List Loc} {cells slots : Nat} {Q : State → Prop} {b : Nat} {D : mm_D} {σ : mm_S} {T : mm_T} {x0 m0 o d sb L i : Nat} {ns : Nat → Nat} {ls : Array Slot}
    (F : mm_F p l s m args meth c b D RL cL_law 9) (hXs : va_X sb L (fun j => nI (ns j)) s s.heap) (hbl : sb < s.heap.size) (hbb : sb < b) (hL : L ≤ 2560) (hns : ∀ j, ns j < 2 ^ 32) (hi : i + 5 ≤ L) (hN : mm_N b D s σ H locs) (hV : mm_V σ T x0 m0 o d) (hl : lv_has ls 9 (mm_lc i d o m0 x0 sb)) (hc : cells + 103 ≤ 603072) (hs : slots + 9037 ≤ 7215210)
    (kk : ∀ (T2 : mm_T) (σ2 : mm_S) (ls : Array Slot) (H : Heap) (locs : List Loc), mm_V σ2 T2 x0 m0 o d → mm_N b D s σ2 H locs → lv_has ls 9 (mm_lc i d o m0 x0 sb) → W p l e room_1 s m args below meth c H locs (cells + 103) (slots + 9037) Q (F0 m 2217 ls []))
    : W p l e room_1 s m args below meth c H locs cells slots Q (F0 m 1690 ls []) := by
  obtain ⟨⟨z, ad, hX, rfl⟩, ⟨th, rd, hM, rfl⟩, ⟨go, ho⟩, ⟨gd, hd⟩, hod, hW⟩ := hV
  have hl : lv_has ls 9 [(5, .int (nI i)), (4, .ref d), (3, .ref o), (2, .ref ((rd 0 0))), (1, .ref ((ad 0 0 0))), (0, .ref sb)] := hl
  refine lv_aload_n (pc := 1690) F.1 F.2.1 dL_law_1690 rfl (lv_at hl 4 rfl) ?_
  refine lv_aload_n (pc := 1691) F.1 F.2.1 dL_law_1691 rfl (lv_at hl 5 rfl) ?_
  refine lv_iload (pc := 1692) F.1 F.2.1 dL_law_1692 (lv_at hl 0 rfl) ?_
  refine lv_iconst (pc := 1694) (v := nI 1) F.1 F.2.1 dL_law_1694 (by decide) ?_
  refine mm_iadd (pc := 1695) F (z := nI (i + 1)) (nI_add _ _) dL_law_1695 ?_
  refine mm_sld (pc := 1696) F hN hXs hbl hbb (j := i + 1) rfl (by omega) hL dL_law_1696 ?_
  refine lv_aload_n (pc := 1697) F.1 F.2.1 dL_law_1697 rfl (lv_at hl 2 rfl) ?_
  refine mm_runSX (pc := 1698) (As := [.ref ((ad 0 0 0)), .int (nI (ns (i + 1))), .ref o]) (rest := []) F hN (w_letters l b D F.2.2.2.2.2.2.2.1 T z ad σ hX hW (ns (i + 1)) (hns _) o go ho) mw_1041 mw_1042 mw_0 mw_1043 ⟨pmL_letters, (Nat.le_of_ble_eq_true rfl), (Nat.le_of_ble_eq_true rfl)⟩ hl.1 rfl (Nat.le_of_ble_eq_true rfl) ⟨by show cells + 6 ≤ 603072; omega, by show slots + 40 ≤ 7215210; omega⟩ dL_law_1698
    (fun _ _ _ _ _ _ h9 => False.elim h9) (fun v9 σ1 H locs hp9 hN => ?_)
  obtain ⟨rfl, z1, ad1, g1, hX1, hx1, hw1, hg1, hfr1⟩ := hp9
  refine W.eq (g2 := F0 m 1701 ls [.int (nI (mm_q_letters T (ns (i + 1))))]) rfl ?_
  refine W.widen (k := cells + 6) (n := slots + 40) (Nat.le_refl _) (Nat.le_refl _) ?_
  have hM1 : mm_M σ1 T th rd := mm_M_kept1 hM (fun a9 e9 he => hfr1 a9 1 e9 (by decide) (fun q9 => by rw [q9, ho] at he; cases he) he)
  have hd1 : σ1 d = mm_ard 2 2 1 gd := hfr1 d 2 _ (by decide) (Ne.symm hod) hd
  have hq4 : mm_q_letters T (ns (i + 1)) < 4 := mm_q_letters_lt
  have hW2 : mm_WF (if mm_q_letters T (ns (i + 1)) = 0 then (T) else T) := by split <;> exact hW
  refine lv_istore (pc := 1701) (lv' := [(6, .int (nI (mm_q_letters T (ns (i + 1))))), (5, .int (nI i)), (4, .ref d), (3, .ref o), (2, .ref ((rd 0 0))), (1, .ref ((ad 0 0 0))), (0, .ref sb)]) F.1 F.2.1 dL_law_1701 hl (by decide) rfl (fun ls hl => ?_)
  refine lv_aload_n (pc := 1703) F.1 F.2.1 dL_law_1703 rfl (lv_at hl 4 rfl) ?_
  refine lv_aload_n (pc := 1704) F.1 F.2.1 dL_law_1704 rfl (lv_at hl 6 rfl) ?_
  refine lv_iload (pc := 1705) F.1 F.2.1 dL_law_1705 (lv_at hl 1 rfl) ?_
  refine lv_iconst (pc := 1707) (v := nI 1) F.1 F.2.1 dL_law_1707 (by decide) ?_
  refine mm_iadd (pc := 1708) F (z := nI (i + 1)) (nI_add _ _) dL_law_1708 ?_
  refine mm_sld (pc := 1709) F hN hXs hbl hbb (j := i + 1) rfl (by omega) hL dL_law_1709 ?_
  refine mm_runV (pc := 1710) (As := [.int (nI (ns (i + 1)))]) (rest := []) F hN (r_letters l b D F.2.2.2.2.2.2.2.1 T th rd σ1 hM1 hW (ns (i + 1)) (hns _)) mw_1407 mw_1408 mw_1409 mw_6 mw_1410 ⟨pmX7_letters, (Nat.le_of_ble_eq_true rfl), (Nat.le_of_ble_eq_true rfl)⟩ (mm_recv F.2.2.2.2.2.1 hN (mm_r0 hM1) rfl) hl.1 rfl (Nat.le_of_ble_eq_true rfl) ⟨by show (cells + 6) + 0 ≤ 603072; omega, by show (slots + 40) + 0 ≤ 7215210; omega⟩ dL_law_1710
    (fun _ _ _ _ _ _ h9 => False.elim h9)
    (fun v9 σ2 H locs hp9 hN => ?_)
  obtain ⟨i9, rfl, hi9, hM2, hF2⟩ := mm_Mt.out hp9
  obtain hq9 := hp9
  refine W.eq (g2 := F0 m 1713 ls [.int i9]) rfl ?_
  refine W.widen (k := cells + 6) (n := slots + 40) (Nat.le_refl _) (Nat.le_refl _) ?_
  refine lv_istore (pc := 1713) (lv' := [(7, .int i9), (6, .int (nI (mm_q_letters T (ns (i + 1))))), (5, .int (nI i)), (4, .ref d), (3, .ref o), (2, .ref ((rd 0 0))), (1, .ref ((ad 0 0 0))), (0, .ref sb)]) F.1 F.2.1 dL_law_1713 hl (by decide) rfl (fun ls hl => ?_)
  refine lv_aload_n (pc := 1715) F.1 F.2.1 dL_law_1715 rfl (lv_at hl 5 rfl) ?_
  refine mm_runV (pc := 1716) (As := []) (rest := []) F hN (r_thrown l b D F.2.2.2.2.2.2.2.1 (if mm_q_letters T (ns (i + 1)) = 0 then (T) else T) (mm_q_letters T (ns (i + 1))) rd σ2 hM2 hW2) mw_1260 mw_1261 mw_1262 mw_6 mw_1263 ⟨pmX7_thrown, (Nat.le_of_ble_eq_true rfl), (Nat.le_of_ble_eq_true rfl)⟩ (mm_recv F.2.2.2.2.2.1 hN (mm_r0 hM2) rfl) hl.1 rfl (Nat.le_of_ble_eq_true rfl) ⟨by show (cells + 6) + 0 ≤ 603072; omega, by show (slots + 40) + 0 ≤ 7215210; omega⟩ dL_law_1716
    (fun _ _ _ _ _ _ h9 => False.elim h9)
    (fun v9 σ9 H locs hp9 hN => ?_)
  obtain ⟨rfl, h9⟩ := hp9
  rw [h9] at hN
  refine W.eq (g2 := F0 m 1719 ls [.int (nI (mm_q_letters T (ns (i + 1))))]) rfl ?_
  refine W.widen (k := cells + 6) (n := slots + 40) (Nat.le_refl _) (Nat.le_refl _) ?_
  refine lv_iload (pc := 1719) F.1 F.2.1 dL_law_1719 (lv_at hl 1 rfl) ?_
  refine mm_icmp_eqB (pc := 1721) F (x := mm_q_letters T (ns (i + 1))) (y := mm_q_letters T (ns (i + 1))) (tgt := 1726) (by omega) (by omega) dL_law_1721 (by decide) (fun cz1721 => ?_) (fun cz1721 => ?_)
  ·
    refine lv_iload (pc := 1726) F.1 F.2.1 dL_law_1726 (lv_at hl 1 rfl) ?_
    refine mm_if_neB (pc := 1728) F (tgt := 1743) (by omega) dL_law_1728 (by decide) (fun cz1728 => ?_) (fun cz1728 => ?_)
    ·
      refine lv_goto (pc := 1743) (tgt := 2217) F.1 F.2.1 dL_law_1743 (by decide) ?_
      exact W.widen (by omega) (by omega) (kk _ _ ls H locs ⟨⟨z1, ad1, mm_X_kept hX1 (fun a9 e9 he => hF2 a9 0 e9 (by decide) he), hx1⟩, ⟨_, rd, hM2, rfl⟩, ⟨g1, hF2 o 2 _ (by decide) hw1⟩, ⟨gd, hF2 d 2 _ (by decide) hd1⟩, hod, hW2⟩ hN (lv_sub hl [2, 3, 4, 5, 6, 7] rfl))
    ·
      refine lv_aload_n (pc := 1731) F.1 F.2.1 dL_law_1731 rfl (lv_at hl 4 rfl) ?_
      refine lv_iconst (pc := 1732) (v := nI 0) F.1 F.2.1 dL_law_1732 (by decide) ?_
      refine mm_lald (pc := 1733) F hN (hF2 o 2 _ (by decide) hw1) (j := 0) rfl (by decide) (by decide) dL_law_1733 ?_
      refine lv_iload (pc := 1734) F.1 F.2.1 dL_law_1734 (lv_at hl 0 rfl) ?_
      refine lv_i2l (pc := 1736) (v := (i9).toInt64) F.1 F.2.1 dL_law_1736 (rfl) ?_
      refine W.eq (g2 := F0 m 1737 ls [.long ((nI (mm_sm (fun p => if T.oc (ns (i + 1)) p = 108 then 1 else 0) (T.rp (ns (i + 1))))).toInt64), .long ((nI (mm_sm (fun p => if T.oc (ns (i + 1)) p = 108 then 1 else 0) (T.rp (ns (i + 1))))).toInt64)]) (by rw [hg1 cz1728, hi9 cz1728]) ?_
      refine mm_lcmpE (pc := 1737) F.1 F.2.1 dL_law_1737 ?_
      refine mm_if_eq (pc := 1738) F (tgt := 1743) (by omega) dL_law_1738 (by decide) (fun cz1738 => ?_) (fun h9 => absurd h9 (by decide))
      refine lv_goto (pc := 1743) (tgt := 2217) F.1 F.2.1 dL_law_1743 (by decide) ?_
      exact W.widen (by omega) (by omega) (kk _ _ ls H locs ⟨⟨z1, ad1, mm_X_kept hX1 (fun a9 e9 he => hF2 a9 0 e9 (by decide) he), hx1⟩, ⟨_, rd, hM2, rfl⟩, ⟨g1, hF2 o 2 _ (by decide) hw1⟩, ⟨gd, hF2 d 2 _ (by decide) hd1⟩, hod, hW2⟩ hN (lv_sub hl [2, 3, 4, 5, 6, 7] rfl))
  ·
    exact absurd rfl cz1721

set_option maxHeartbeats 4000000 in
set_option maxRecDepth 100000 in
theorem law_24 {p : Program} {l : Launch} {e : Env} {s : State} {m : MethodId} {args : Array Value} {below : List Frame} {meth : Method} {c : Code} {H : Heap} {locs : List Loc} {cells slots : Nat} {Q : State → Prop} {b : Nat} {D : mm_D} {σ : mm_S} {T : mm_T} {x0 m0 o d sb L i : Nat} {ns : Nat → Nat} {ls : Array Slot}
    (F : mm_F p l s m args meth c b D RL cL_law 9) (hXs : va_X sb L (fun j => nI (ns j)) s s.heap) (hbl : sb < s.heap.size) (hbb : sb < b) (hL : L ≤ 2560) (hns : ∀ j, ns j < 2 ^ 32) (hi : i + 5 ≤ L) (hN : mm_N b D s σ H locs) (hV : mm_V σ T x0 m0 o d) (hl : lv_has ls 9 (mm_lc i d o m0 x0 sb)) (hc : cells + 103 ≤ 603072) (hs : slots + 9037 ≤ 7215210)
    (kk : ∀ (T2 : mm_T) (σ2 : mm_S) (ls : Array Slot) (H : Heap) (locs : List Loc), mm_V σ2 T2 x0 m0 o d → mm_N b D s σ2 H locs → lv_has ls 9 (mm_lc i d o m0 x0 sb) → W p l e room_1 s m args below meth c H locs (cells + 103) (slots + 9037) Q (F0 m 2217 ls []))
    : W p l e room_1 s m args below meth c H locs cells slots Q (F0 m 1746 ls []) := by
  obtain ⟨⟨z, ad, hX, rfl⟩, ⟨th, rd, hM, rfl⟩, ⟨go, ho⟩, ⟨gd, hd⟩, hod, hW⟩ := hV
  have hl : lv_has ls 9 [(5, .int (nI i)), (4, .ref d), (3, .ref o), (2, .ref ((rd 0 0))), (1, .ref ((ad 0 0 0))), (0, .ref sb)] := hl
  refine lv_aload_n (pc := 1746) F.1 F.2.1 dL_law_1746 rfl (lv_at hl 4 rfl) ?_
  refine lv_aload_n (pc := 1747) F.1 F.2.1 dL_law_1747 rfl (lv_at hl 5 rfl) ?_
  refine lv_iload (pc := 1748) F.1 F.2.1 dL_law_1748 (lv_at hl 0 rfl) ?_
  refine lv_iconst (pc := 1750) (v := nI 1) F.1 F.2.1 dL_law_1750 (by decide) ?_
  refine mm_iadd (pc := 1751) F (z := nI (i + 1)) (nI_add _ _) dL_law_1751 ?_
  refine mm_sld (pc := 1752) F hN hXs hbl hbb (j := i + 1) rfl (by omega) hL dL_law_1752 ?_
  refine lv_aload_n (pc := 1753) F.1 F.2.1 dL_law_1753 rfl (lv_at hl 5 rfl) ?_
  refine lv_iload (pc := 1754) F.1 F.2.1 dL_law_1754 (lv_at hl 0 rfl) ?_
  refine lv_iconst (pc := 1756) (v := nI 2) F.1 F.2.1 dL_law_1756 (by decide) ?_
  refine mm_iadd (pc := 1757) F (z := nI (i + 2)) (nI_add _ _) dL_law_1757 ?_
  refine mm_sld (pc := 1758) F hN hXs hbl hbb (j := i + 2) rfl (by omega) hL dL_law_1758 ?_
  refine lv_aload_n (pc := 1759) F.1 F.2.1 dL_law_1759 rfl (lv_at hl 2 rfl) ?_
  refine mm_runSX (pc := 1760) (As := [.ref ((ad 0 0 0)), .int (nI (ns (i + 1))), .int (nI (ns (i + 2))), .ref o]) (rest := []) F hN (w_postedAt l b D F.2.2.2.2.2.2.2.1 T z ad σ hX hW (ns (i + 1)) (hns _) (ns (i + 2)) (hns _) o go ho) mw_1048 mw_1049 mw_0 mw_1050 ⟨pmL_postedAt, (Nat.le_of_ble_eq_true rfl), (Nat.le_of_ble_eq_true rfl)⟩ hl.1 rfl (Nat.le_of_ble_eq_true rfl) ⟨by show cells + 6 ≤ 603072; omega, by show slots + 40 ≤ 7215210; omega⟩ dL_law_1760
    (fun _ _ _ _ _ _ h9 => False.elim h9) (fun v9 σ1 H locs hp9 hN => ?_)
  obtain ⟨rfl, z1, ad1, g1, hX1, hx1, hw1, hg1, hfr1⟩ := hp9
  refine W.eq (g2 := F0 m 1763 ls [.int (nI (mm_q_postedAt T (ns (i + 1)) (ns (i + 2))))]) rfl ?_
  refine W.widen (k := cells + 6) (n := slots + 40) (Nat.le_refl _) (Nat.le_refl _) ?_
  have hM1 : mm_M σ1 T th rd := mm_M_kept1 hM (fun a9 e9 he => hfr1 a9 1 e9 (by decide) (fun q9 => by rw [q9, ho] at he; cases he) he)
  have hd1 : σ1 d = mm_ard 2 2 1 gd := hfr1 d 2 _ (by decide) (Ne.symm hod) hd
  have hq4 : mm_q_postedAt T (ns (i + 1)) (ns (i + 2)) < 4 := mm_q_postedAt_lt
  have hW2 : mm_WF (if mm_q_postedAt T (ns (i + 1)) (ns (i + 2)) = 0 then (T) else T) := by split <;> exact hW
  refine lv_istore (pc := 1763) (lv' := [(6, .int (nI (mm_q_postedAt T (ns (i + 1)) (ns (i + 2))))), (5, .int (nI i)), (4, .ref d), (3, .ref o), (2, .ref ((rd 0 0))), (1, .ref ((ad 0 0 0))), (0, .ref sb)]) F.1 F.2.1 dL_law_1763 hl (by decide) rfl (fun ls hl => ?_)
  refine lv_aload_n (pc := 1765) F.1 F.2.1 dL_law_1765 rfl (lv_at hl 4 rfl) ?_
  refine lv_aload_n (pc := 1766) F.1 F.2.1 dL_law_1766 rfl (lv_at hl 6 rfl) ?_
  refine lv_iload (pc := 1767) F.1 F.2.1 dL_law_1767 (lv_at hl 1 rfl) ?_
  refine lv_iconst (pc := 1769) (v := nI 1) F.1 F.2.1 dL_law_1769 (by decide) ?_
  refine mm_iadd (pc := 1770) F (z := nI (i + 1)) (nI_add _ _) dL_law_1770 ?_
  refine mm_sld (pc := 1771) F hN hXs hbl hbb (j := i + 1) rfl (by omega) hL dL_law_1771 ?_
  refine lv_aload_n (pc := 1772) F.1 F.2.1 dL_law_1772 rfl (lv_at hl 6 rfl) ?_
  refine lv_iload (pc := 1773) F.1 F.2.1 dL_law_1773 (lv_at hl 1 rfl) ?_
  refine lv_iconst (pc := 1775) (v := nI 2) F.1 F.2.1 dL_law_1775 (by decide) ?_
  refine mm_iadd (pc := 1776) F (z := nI (i + 2)) (nI_add _ _) dL_law_1776 ?_
  refine mm_sld (pc := 1777) F hN hXs hbl hbb (j := i + 2) rfl (by omega) hL dL_law_1777 ?_
  refine mm_runV (pc := 1778) (As := [.int (nI (ns (i + 1))), .int (nI (ns (i + 2)))]) (rest := []) F hN (r_postedAt l b D F.2.2.2.2.2.2.2.1 T th rd σ1 hM1 hW (ns (i + 1)) (hns _) (ns (i + 2)) (hns _)) mw_1415 mw_1416 mw_1417 mw_6 mw_1418 ⟨pmX7_postedAt, (Nat.le_of_ble_eq_true rfl), (Nat.le_of_ble_eq_true rfl)⟩ (mm_recv F.2.2.2.2.2.1 hN (mm_r0 hM1) rfl) hl.1 rfl (Nat.le_of_ble_eq_true rfl) ⟨by show (cells + 6) + 0 ≤ 603072; omega, by show (slots + 40) + 0 ≤ 7215210; omega⟩ dL_law_1778
    (fun _ _ _ _ _ _ h9 => False.elim h9)
    (fun v9 σ2 H locs hp9 hN => ?_)
  obtain ⟨i9, rfl, hi9, hM2, hF2⟩ := mm_Mt.out hp9
  obtain hq9 := hp9
  refine W.eq (g2 := F0 m 1781 ls [.int i9]) rfl ?_
  refine W.widen (k := cells + 6) (n := slots + 40) (Nat.le_refl _) (Nat.le_refl _) ?_
  refine lv_istore (pc := 1781) (lv' := [(7, .int i9), (6, .int (nI (mm_q_postedAt T (ns (i + 1)) (ns (i + 2))))), (5, .int (nI i)), (4, .ref d), (3, .ref o), (2, .ref ((rd 0 0))), (1, .ref ((ad 0 0 0))), (0, .ref sb)]) F.1 F.2.1 dL_law_1781 hl (by decide) rfl (fun ls hl => ?_)
  refine lv_aload_n (pc := 1783) F.1 F.2.1 dL_law_1783 rfl (lv_at hl 5 rfl) ?_
  refine mm_runV (pc := 1784) (As := []) (rest := []) F hN (r_thrown l b D F.2.2.2.2.2.2.2.1 (if mm_q_postedAt T (ns (i + 1)) (ns (i + 2)) = 0 then (T) else T) (mm_q_postedAt T (ns (i + 1)) (ns (i + 2))) rd σ2 hM2 hW2) mw_1260 mw_1261 mw_1262 mw_6 mw_1263 ⟨pmX7_thrown, (Nat.le_of_ble_eq_true rfl), (Nat.le_of_ble_eq_true rfl)⟩ (mm_recv F.2.2.2.2.2.1 hN (mm_r0 hM2) rfl) hl.1 rfl (Nat.le_of_ble_eq_true rfl) ⟨by show (cells + 6) + 0 ≤ 603072; omega, by show (slots + 40) + 0 ≤ 7215210; omega⟩ dL_law_1784
    (fun _ _ _ _ _ _ h9 => False.elim h9)
    (fun v9 σ9 H locs hp9 hN => ?_)
  obtain ⟨rfl, h9⟩ := hp9
  rw [h9] at hN
  refine W.eq (g2 := F0 m 1787 ls [.int (nI (mm_q_postedAt T (ns (i + 1)) (ns (i + 2))))]) rfl ?_
  refine W.widen (k := cells + 6) (n := slots + 40) (Nat.le_refl _) (Nat.le_refl _) ?_
  refine lv_iload (pc := 1787) F.1 F.2.1 dL_law_1787 (lv_at hl 1 rfl) ?_
  refine mm_icmp_eqB (pc := 1789) F (x := mm_q_postedAt T (ns (i + 1)) (ns (i + 2))) (y := mm_q_postedAt T (ns (i + 1)) (ns (i + 2))) (tgt := 1794) (by omega) (by omega) dL_law_1789 (by decide) (fun cz1789 => ?_) (fun cz1789 => ?_)
  ·
    refine lv_iload (pc := 1794) F.1 F.2.1 dL_law_1794 (lv_at hl 1 rfl) ?_
    refine mm_if_neB (pc := 1796) F (tgt := 1811) (by omega) dL_law_1796 (by decide) (fun cz1796 => ?_) (fun cz1796 => ?_)
    ·
      refine lv_goto (pc := 1811) (tgt := 2217) F.1 F.2.1 dL_law_1811 (by decide) ?_
      exact W.widen (by omega) (by omega) (kk _ _ ls H locs ⟨⟨z1, ad1, mm_X_kept hX1 (fun a9 e9 he => hF2 a9 0 e9 (by decide) he), hx1⟩, ⟨_, rd, hM2, rfl⟩, ⟨g1, hF2 o 2 _ (by decide) hw1⟩, ⟨gd, hF2 d 2 _ (by decide) hd1⟩, hod, hW2⟩ hN (lv_sub hl [2, 3, 4, 5, 6, 7] rfl))
    ·
      refine lv_aload_n (pc := 1799) F.1 F.2.1 dL_law_1799 rfl (lv_at hl 4 rfl) ?_
      refine lv_iconst (pc := 1800) (v := nI 0) F.1 F.2.1 dL_law_1800 (by decide) ?_
      refine mm_lald (pc := 1801) F hN (hF2 o 2 _ (by decide) hw1) (j := 0) rfl (by decide) (by decide) dL_law_1801 ?_
      refine lv_iload (pc := 1802) F.1 F.2.1 dL_law_1802 (lv_at hl 0 rfl) ?_
      refine lv_i2l (pc := 1804) (v := (i9).toInt64) F.1 F.2.1 dL_law_1804 (rfl) ?_
      refine W.eq (g2 := F0 m 1805 ls [.long ((nI ((mm_po (T.oc (ns (i + 1))) (T.rc (ns (i + 1))) (T.rp (ns (i + 1)))).getD (ns (i + 2)) 0)).toInt64), .long ((nI ((mm_po (T.oc (ns (i + 1))) (T.rc (ns (i + 1))) (T.rp (ns (i + 1)))).getD (ns (i + 2)) 0)).toInt64)]) (by rw [hg1 cz1796, hi9 cz1796]) ?_
      refine mm_lcmpE (pc := 1805) F.1 F.2.1 dL_law_1805 ?_
      refine mm_if_eq (pc := 1806) F (tgt := 1811) (by omega) dL_law_1806 (by decide) (fun cz1806 => ?_) (fun h9 => absurd h9 (by decide))
      refine lv_goto (pc := 1811) (tgt := 2217) F.1 F.2.1 dL_law_1811 (by decide) ?_
      exact W.widen (by omega) (by omega) (kk _ _ ls H locs ⟨⟨z1, ad1, mm_X_kept hX1 (fun a9 e9 he => hF2 a9 0 e9 (by decide) he), hx1⟩, ⟨_, rd, hM2, rfl⟩, ⟨g1, hF2 o 2 _ (by decide) hw1⟩, ⟨gd, hF2 d 2 _ (by decide) hd1⟩, hod, hW2⟩ hN (lv_sub hl [2, 3, 4, 5, 6, 7] rfl))
  ·
    exact absurd rfl cz1789

set_option maxHeartbeats 4000000 in
set_option maxRecDepth 100000 in
theorem law_25 {p : Program} {l : Launch} {e : Env} {s : State} {m : MethodId} {args : Array Value} {below : List Frame} {meth : Method} {c : Code} {H : Heap} {locs : List Loc} {cells slots : Nat} {Q : State → Prop} {b : Nat} {D : mm_D} {σ : mm_S} {T : mm_T} {x0 m0 o d sb L i : Nat} {ns : Nat → Nat} {ls : Array Slot}
    (F : mm_F p l s m args meth c b D RL cL_law 9) (hXs : va_X sb L (fun j => nI (ns j)) s s.heap) (hbl : sb < s.heap.size) (hbb : sb < b) (hL : L ≤ 2560) (hns : ∀ j, ns j < 2 ^ 32) (hi : i + 5 ≤ L) (hN : mm_N b D s σ H locs) (hV : mm_V σ T x0 m0 o d) (hl : lv_has ls 9 (mm_lc i d o m0 x0 sb)) (hc : cells + 103 ≤ 603072) (hs : slots + 9037 ≤ 7215210)
    (kk : ∀ (T2 : mm_T) (σ2 : mm_S) (ls : Array Slot) (H : Heap) (locs : List Loc), mm_V σ2 T2 x0 m0 o d → mm_N b D s σ2 H locs → lv_has ls 9 (mm_lc i d o m0 x0 sb) → W p l e room_1 s m args below meth c H locs (cells + 103) (slots + 9037) Q (F0 m 2217 ls []))
    : W p l e room_1 s m args below meth c H locs cells slots Q (F0 m 1814 ls []) := by
  obtain ⟨⟨z, ad, hX, rfl⟩, ⟨th, rd, hM, rfl⟩, ⟨go, ho⟩, ⟨gd, hd⟩, hod, hW⟩ := hV
  have hl : lv_has ls 9 [(5, .int (nI i)), (4, .ref d), (3, .ref o), (2, .ref ((rd 0 0))), (1, .ref ((ad 0 0 0))), (0, .ref sb)] := hl
  refine lv_aload_n (pc := 1814) F.1 F.2.1 dL_law_1814 rfl (lv_at hl 4 rfl) ?_
  refine lv_aload_n (pc := 1815) F.1 F.2.1 dL_law_1815 rfl (lv_at hl 5 rfl) ?_
  refine lv_iload (pc := 1816) F.1 F.2.1 dL_law_1816 (lv_at hl 0 rfl) ?_
  refine lv_iconst (pc := 1818) (v := nI 1) F.1 F.2.1 dL_law_1818 (by decide) ?_
  refine mm_iadd (pc := 1819) F (z := nI (i + 1)) (nI_add _ _) dL_law_1819 ?_
  refine mm_sld (pc := 1820) F hN hXs hbl hbb (j := i + 1) rfl (by omega) hL dL_law_1820 ?_
  refine lv_aload_n (pc := 1821) F.1 F.2.1 dL_law_1821 rfl (lv_at hl 5 rfl) ?_
  refine lv_iload (pc := 1822) F.1 F.2.1 dL_law_1822 (lv_at hl 0 rfl) ?_
  refine lv_iconst (pc := 1824) (v := nI 2) F.1 F.2.1 dL_law_1824 (by decide) ?_
  refine mm_iadd (pc := 1825) F (z := nI (i + 2)) (nI_add _ _) dL_law_1825 ?_
  refine mm_sld (pc := 1826) F hN hXs hbl hbb (j := i + 2) rfl (by omega) hL dL_law_1826 ?_
  refine lv_aload_n (pc := 1827) F.1 F.2.1 dL_law_1827 rfl (lv_at hl 2 rfl) ?_
  refine mm_runSX (pc := 1828) (As := [.ref ((ad 0 0 0)), .int (nI (ns (i + 1))), .int (nI (ns (i + 2))), .ref o]) (rest := []) F hN (w_onRoute l b D F.2.2.2.2.2.2.2.1 T z ad σ hX hW (ns (i + 1)) (hns _) (ns (i + 2)) (hns _) o go ho) mw_1075 mw_1076 mw_0 mw_1077 ⟨pmL_onRoute, (Nat.le_of_ble_eq_true rfl), (Nat.le_of_ble_eq_true rfl)⟩ hl.1 rfl (Nat.le_of_ble_eq_true rfl) ⟨by show cells + 6 ≤ 603072; omega, by show slots + 40 ≤ 7215210; omega⟩ dL_law_1828
    (fun _ _ _ _ _ _ h9 => False.elim h9) (fun v9 σ1 H locs hp9 hN => ?_)
  obtain ⟨rfl, z1, ad1, g1, hX1, hx1, hw1, hg1, hfr1⟩ := hp9
  refine W.eq (g2 := F0 m 1831 ls [.int (nI (mm_q_onRoute T (ns (i + 1)) (ns (i + 2))))]) rfl ?_
  refine W.widen (k := cells + 6) (n := slots + 40) (Nat.le_refl _) (Nat.le_refl _) ?_
  have hM1 : mm_M σ1 T th rd := mm_M_kept1 hM (fun a9 e9 he => hfr1 a9 1 e9 (by decide) (fun q9 => by rw [q9, ho] at he; cases he) he)
  have hd1 : σ1 d = mm_ard 2 2 1 gd := hfr1 d 2 _ (by decide) (Ne.symm hod) hd
  have hq4 : mm_q_onRoute T (ns (i + 1)) (ns (i + 2)) < 4 := mm_q_onRoute_lt
  have hW2 : mm_WF (if mm_q_onRoute T (ns (i + 1)) (ns (i + 2)) = 0 then (T) else T) := by split <;> exact hW
  refine lv_istore (pc := 1831) (lv' := [(6, .int (nI (mm_q_onRoute T (ns (i + 1)) (ns (i + 2))))), (5, .int (nI i)), (4, .ref d), (3, .ref o), (2, .ref ((rd 0 0))), (1, .ref ((ad 0 0 0))), (0, .ref sb)]) F.1 F.2.1 dL_law_1831 hl (by decide) rfl (fun ls hl => ?_)
  refine lv_aload_n (pc := 1833) F.1 F.2.1 dL_law_1833 rfl (lv_at hl 4 rfl) ?_
  refine lv_aload_n (pc := 1834) F.1 F.2.1 dL_law_1834 rfl (lv_at hl 6 rfl) ?_
  refine lv_iload (pc := 1835) F.1 F.2.1 dL_law_1835 (lv_at hl 1 rfl) ?_
  refine lv_iconst (pc := 1837) (v := nI 1) F.1 F.2.1 dL_law_1837 (by decide) ?_
  refine mm_iadd (pc := 1838) F (z := nI (i + 1)) (nI_add _ _) dL_law_1838 ?_
  refine mm_sld (pc := 1839) F hN hXs hbl hbb (j := i + 1) rfl (by omega) hL dL_law_1839 ?_
  refine lv_aload_n (pc := 1840) F.1 F.2.1 dL_law_1840 rfl (lv_at hl 6 rfl) ?_
  refine lv_iload (pc := 1841) F.1 F.2.1 dL_law_1841 (lv_at hl 1 rfl) ?_
  refine lv_iconst (pc := 1843) (v := nI 2) F.1 F.2.1 dL_law_1843 (by decide) ?_
  refine mm_iadd (pc := 1844) F (z := nI (i + 2)) (nI_add _ _) dL_law_1844 ?_
  refine mm_sld (pc := 1845) F hN hXs hbl hbb (j := i + 2) rfl (by omega) hL dL_law_1845 ?_
  refine mm_runV (pc := 1846) (As := [.int (nI (ns (i + 1))), .int (nI (ns (i + 2)))]) (rest := []) F hN (r_onRoute l b D F.2.2.2.2.2.2.2.1 T th rd σ1 hM1 hW (ns (i + 1)) (hns _) (ns (i + 2)) (hns _)) mw_1419 mw_1420 mw_1421 mw_6 mw_1422 ⟨pmX7_onRoute, (Nat.le_of_ble_eq_true rfl), (Nat.le_of_ble_eq_true rfl)⟩ (mm_recv F.2.2.2.2.2.1 hN (mm_r0 hM1) rfl) hl.1 rfl (Nat.le_of_ble_eq_true rfl) ⟨by show (cells + 6) + 0 ≤ 603072; omega, by show (slots + 40) + 0 ≤ 7215210; omega⟩ dL_law_1846
    (fun _ _ _ _ _ _ h9 => False.elim h9)
    (fun v9 σ2 H locs hp9 hN => ?_)
  obtain ⟨i9, rfl, hi9, hM2, hF2⟩ := mm_Mt.out hp9
  obtain hq9 := hp9
  refine W.eq (g2 := F0 m 1849 ls [.int i9]) rfl ?_
  refine W.widen (k := cells + 6) (n := slots + 40) (Nat.le_refl _) (Nat.le_refl _) ?_
  refine lv_istore (pc := 1849) (lv' := [(7, .int i9), (6, .int (nI (mm_q_onRoute T (ns (i + 1)) (ns (i + 2))))), (5, .int (nI i)), (4, .ref d), (3, .ref o), (2, .ref ((rd 0 0))), (1, .ref ((ad 0 0 0))), (0, .ref sb)]) F.1 F.2.1 dL_law_1849 hl (by decide) rfl (fun ls hl => ?_)
  refine lv_aload_n (pc := 1851) F.1 F.2.1 dL_law_1851 rfl (lv_at hl 5 rfl) ?_
  refine mm_runV (pc := 1852) (As := []) (rest := []) F hN (r_thrown l b D F.2.2.2.2.2.2.2.1 (if mm_q_onRoute T (ns (i + 1)) (ns (i + 2)) = 0 then (T) else T) (mm_q_onRoute T (ns (i + 1)) (ns (i + 2))) rd σ2 hM2 hW2) mw_1260 mw_1261 mw_1262 mw_6 mw_1263 ⟨pmX7_thrown, (Nat.le_of_ble_eq_true rfl), (Nat.le_of_ble_eq_true rfl)⟩ (mm_recv F.2.2.2.2.2.1 hN (mm_r0 hM2) rfl) hl.1 rfl (Nat.le_of_ble_eq_true rfl) ⟨by show (cells + 6) + 0 ≤ 603072; omega, by show (slots + 40) + 0 ≤ 7215210; omega⟩ dL_law_1852
    (fun _ _ _ _ _ _ h9 => False.elim h9)
    (fun v9 σ9 H locs hp9 hN => ?_)
  obtain ⟨rfl, h9⟩ := hp9
  rw [h9] at hN
  refine W.eq (g2 := F0 m 1855 ls [.int (nI (mm_q_onRoute T (ns (i + 1)) (ns (i + 2))))]) rfl ?_
  refine W.widen (k := cells + 6) (n := slots + 40) (Nat.le_refl _) (Nat.le_refl _) ?_
  refine lv_iload (pc := 1855) F.1 F.2.1 dL_law_1855 (lv_at hl 1 rfl) ?_
  refine mm_icmp_eqB (pc := 1857) F (x := mm_q_onRoute T (ns (i + 1)) (ns (i + 2))) (y := mm_q_onRoute T (ns (i + 1)) (ns (i + 2))) (tgt := 1862) (by omega) (by omega) dL_law_1857 (by decide) (fun cz1857 => ?_) (fun cz1857 => ?_)
  ·
    refine lv_iload (pc := 1862) F.1 F.2.1 dL_law_1862 (lv_at hl 1 rfl) ?_
    refine mm_if_neB (pc := 1864) F (tgt := 1879) (by omega) dL_law_1864 (by decide) (fun cz1864 => ?_) (fun cz1864 => ?_)
    ·
      refine lv_goto (pc := 1879) (tgt := 2217) F.1 F.2.1 dL_law_1879 (by decide) ?_
      exact W.widen (by omega) (by omega) (kk _ _ ls H locs ⟨⟨z1, ad1, mm_X_kept hX1 (fun a9 e9 he => hF2 a9 0 e9 (by decide) he), hx1⟩, ⟨_, rd, hM2, rfl⟩, ⟨g1, hF2 o 2 _ (by decide) hw1⟩, ⟨gd, hF2 d 2 _ (by decide) hd1⟩, hod, hW2⟩ hN (lv_sub hl [2, 3, 4, 5, 6, 7] rfl))
    ·
      refine lv_aload_n (pc := 1867) F.1 F.2.1 dL_law_1867 rfl (lv_at hl 4 rfl) ?_
      refine lv_iconst (pc := 1868) (v := nI 0) F.1 F.2.1 dL_law_1868 (by decide) ?_
      refine mm_lald (pc := 1869) F hN (hF2 o 2 _ (by decide) hw1) (j := 0) rfl (by decide) (by decide) dL_law_1869 ?_
      refine lv_iload (pc := 1870) F.1 F.2.1 dL_law_1870 (lv_at hl 0 rfl) ?_
      refine lv_i2l (pc := 1872) (v := (i9).toInt64) F.1 F.2.1 dL_law_1872 (rfl) ?_
      refine W.eq (g2 := F0 m 1873 ls [.long ((nI (mm_sm (fun p => if T.oc (ns (i + 1)) p = 108 ∧ T.rc (ns (i + 1)) p / 10 = (ns (i + 2)) then 1 else 0) (T.rp (ns (i + 1))))).toInt64), .long ((nI (mm_sm (fun p => if T.oc (ns (i + 1)) p = 108 ∧ T.rc (ns (i + 1)) p / 10 = (ns (i + 2)) then 1 else 0) (T.rp (ns (i + 1))))).toInt64)]) (by rw [hg1 cz1864, hi9 cz1864]) ?_
      refine mm_lcmpE (pc := 1873) F.1 F.2.1 dL_law_1873 ?_
      refine mm_if_eq (pc := 1874) F (tgt := 1879) (by omega) dL_law_1874 (by decide) (fun cz1874 => ?_) (fun h9 => absurd h9 (by decide))
      refine lv_goto (pc := 1879) (tgt := 2217) F.1 F.2.1 dL_law_1879 (by decide) ?_
      exact W.widen (by omega) (by omega) (kk _ _ ls H locs ⟨⟨z1, ad1, mm_X_kept hX1 (fun a9 e9 he => hF2 a9 0 e9 (by decide) he), hx1⟩, ⟨_, rd, hM2, rfl⟩, ⟨g1, hF2 o 2 _ (by decide) hw1⟩, ⟨gd, hF2 d 2 _ (by decide) hd1⟩, hod, hW2⟩ hN (lv_sub hl [2, 3, 4, 5, 6, 7] rfl))
  ·
    exact absurd rfl cz1857

set_option maxHeartbeats 4000000 in
set_option maxRecDepth 100000 in
theorem law_26 {p : Program} {l : Launch} {e : Env} {s : State} {m : MethodId} {args : Array Value} {below : List Frame} {meth : Method} {c : Code} {H : Heap} {locs : List Loc} {cells slots : Nat} {Q : State → Prop} {b : Nat} {D : mm_D} {σ : mm_S} {T : mm_T} {x0 m0 o d sb L i : Nat} {ns : Nat → Nat} {ls : Array Slot}
    (F : mm_F p l s m args meth c b D RL cL_law 9) (hXs : va_X sb L (fun j => nI (ns j)) s s.heap) (hbl : sb < s.heap.size) (hbb : sb < b) (hL : L ≤ 2560) (hns : ∀ j, ns j < 2 ^ 32) (hi : i + 5 ≤ L) (hN : mm_N b D s σ H locs) (hV : mm_V σ T x0 m0 o d) (hl : lv_has ls 9 (mm_lc i d o m0 x0 sb)) (hc : cells + 103 ≤ 603072) (hs : slots + 9037 ≤ 7215210)
    (kk : ∀ (T2 : mm_T) (σ2 : mm_S) (ls : Array Slot) (H : Heap) (locs : List Loc), mm_V σ2 T2 x0 m0 o d → mm_N b D s σ2 H locs → lv_has ls 9 (mm_lc i d o m0 x0 sb) → W p l e room_1 s m args below meth c H locs (cells + 103) (slots + 9037) Q (F0 m 2217 ls []))
    : W p l e room_1 s m args below meth c H locs cells slots Q (F0 m 1882 ls []) := by
  obtain ⟨⟨z, ad, hX, rfl⟩, ⟨th, rd, hM, rfl⟩, ⟨go, ho⟩, ⟨gd, hd⟩, hod, hW⟩ := hV
  have hl : lv_has ls 9 [(5, .int (nI i)), (4, .ref d), (3, .ref o), (2, .ref ((rd 0 0))), (1, .ref ((ad 0 0 0))), (0, .ref sb)] := hl
  refine lv_aload_n (pc := 1882) F.1 F.2.1 dL_law_1882 rfl (lv_at hl 4 rfl) ?_
  refine lv_aload_n (pc := 1883) F.1 F.2.1 dL_law_1883 rfl (lv_at hl 5 rfl) ?_
  refine lv_iload (pc := 1884) F.1 F.2.1 dL_law_1884 (lv_at hl 0 rfl) ?_
  refine lv_iconst (pc := 1886) (v := nI 1) F.1 F.2.1 dL_law_1886 (by decide) ?_
  refine mm_iadd (pc := 1887) F (z := nI (i + 1)) (nI_add _ _) dL_law_1887 ?_
  refine mm_sld (pc := 1888) F hN hXs hbl hbb (j := i + 1) rfl (by omega) hL dL_law_1888 ?_
  refine lv_aload_n (pc := 1889) F.1 F.2.1 dL_law_1889 rfl (lv_at hl 5 rfl) ?_
  refine lv_iload (pc := 1890) F.1 F.2.1 dL_law_1890 (lv_at hl 0 rfl) ?_
  refine lv_iconst (pc := 1892) (v := nI 2) F.1 F.2.1 dL_law_1892 (by decide) ?_
  refine mm_iadd (pc := 1893) F (z := nI (i + 2)) (nI_add _ _) dL_law_1893 ?_
  refine mm_sld (pc := 1894) F hN hXs hbl hbb (j := i + 2) rfl (by omega) hL dL_law_1894 ?_
  refine lv_aload_n (pc := 1895) F.1 F.2.1 dL_law_1895 rfl (lv_at hl 2 rfl) ?_
  refine mm_runSX (pc := 1896) (As := [.ref ((ad 0 0 0)), .int (nI (ns (i + 1))), .int (nI (ns (i + 2))), .ref o]) (rest := []) F hN (w_postage l b D F.2.2.2.2.2.2.2.1 T z ad σ hX hW (ns (i + 1)) (hns _) (ns (i + 2)) (hns _) o go ho) mw_1091 mw_1092 mw_0 mw_1093 ⟨pmL_postage, (Nat.le_of_ble_eq_true rfl), (Nat.le_of_ble_eq_true rfl)⟩ hl.1 rfl (Nat.le_of_ble_eq_true rfl) ⟨by show cells + 6 ≤ 603072; omega, by show slots + 40 ≤ 7215210; omega⟩ dL_law_1896
    (fun _ _ _ _ _ _ h9 => False.elim h9) (fun v9 σ1 H locs hp9 hN => ?_)
  obtain ⟨rfl, z1, ad1, g1, hX1, hx1, hw1, hg1, hfr1⟩ := hp9
  refine W.eq (g2 := F0 m 1899 ls [.int (nI (mm_q_postage T (ns (i + 1)) (ns (i + 2))))]) rfl ?_
  refine W.widen (k := cells + 6) (n := slots + 40) (Nat.le_refl _) (Nat.le_refl _) ?_
  have hM1 : mm_M σ1 T th rd := mm_M_kept1 hM (fun a9 e9 he => hfr1 a9 1 e9 (by decide) (fun q9 => by rw [q9, ho] at he; cases he) he)
  have hd1 : σ1 d = mm_ard 2 2 1 gd := hfr1 d 2 _ (by decide) (Ne.symm hod) hd
  have hq4 : mm_q_postage T (ns (i + 1)) (ns (i + 2)) < 4 := mm_q_postage_lt
  have hW2 : mm_WF (if mm_q_postage T (ns (i + 1)) (ns (i + 2)) = 0 then (T) else T) := by split <;> exact hW
  refine lv_istore (pc := 1899) (lv' := [(6, .int (nI (mm_q_postage T (ns (i + 1)) (ns (i + 2))))), (5, .int (nI i)), (4, .ref d), (3, .ref o), (2, .ref ((rd 0 0))), (1, .ref ((ad 0 0 0))), (0, .ref sb)]) F.1 F.2.1 dL_law_1899 hl (by decide) rfl (fun ls hl => ?_)
  refine lv_aload_n (pc := 1901) F.1 F.2.1 dL_law_1901 rfl (lv_at hl 4 rfl) ?_
  refine lv_aload_n (pc := 1902) F.1 F.2.1 dL_law_1902 rfl (lv_at hl 6 rfl) ?_
  refine lv_iload (pc := 1903) F.1 F.2.1 dL_law_1903 (lv_at hl 1 rfl) ?_
  refine lv_iconst (pc := 1905) (v := nI 1) F.1 F.2.1 dL_law_1905 (by decide) ?_
  refine mm_iadd (pc := 1906) F (z := nI (i + 1)) (nI_add _ _) dL_law_1906 ?_
  refine mm_sld (pc := 1907) F hN hXs hbl hbb (j := i + 1) rfl (by omega) hL dL_law_1907 ?_
  refine lv_aload_n (pc := 1908) F.1 F.2.1 dL_law_1908 rfl (lv_at hl 6 rfl) ?_
  refine lv_iload (pc := 1909) F.1 F.2.1 dL_law_1909 (lv_at hl 1 rfl) ?_
  refine lv_iconst (pc := 1911) (v := nI 2) F.1 F.2.1 dL_law_1911 (by decide) ?_
  refine mm_iadd (pc := 1912) F (z := nI (i + 2)) (nI_add _ _) dL_law_1912 ?_
  refine mm_sld (pc := 1913) F hN hXs hbl hbb (j := i + 2) rfl (by omega) hL dL_law_1913 ?_
  refine mm_runV (pc := 1914) (As := [.int (nI (ns (i + 1))), .int (nI (ns (i + 2)))]) (rest := []) F hN (r_postage l b D F.2.2.2.2.2.2.2.1 T th rd σ1 hM1 hW (ns (i + 1)) (hns _) (ns (i + 2)) (hns _)) mw_1423 mw_1424 mw_1425 mw_6 mw_1426 ⟨pmX7_postage, (Nat.le_of_ble_eq_true rfl), (Nat.le_of_ble_eq_true rfl)⟩ (mm_recv F.2.2.2.2.2.1 hN (mm_r0 hM1) rfl) hl.1 rfl (Nat.le_of_ble_eq_true rfl) ⟨by show (cells + 6) + 0 ≤ 603072; omega, by show (slots + 40) + 0 ≤ 7215210; omega⟩ dL_law_1914
    (fun _ _ _ _ _ _ h9 => False.elim h9)
    (fun v9 σ2 H locs hp9 hN => ?_)
  obtain ⟨i9, rfl, hi9, hM2, hF2⟩ := mm_Mt.out hp9
  obtain hq9 := hp9
  refine W.eq (g2 := F0 m 1917 ls [.int i9]) rfl ?_
  refine W.widen (k := cells + 6) (n := slots + 40) (Nat.le_refl _) (Nat.le_refl _) ?_
  refine lv_istore (pc := 1917) (lv' := [(7, .int i9), (6, .int (nI (mm_q_postage T (ns (i + 1)) (ns (i + 2))))), (5, .int (nI i)), (4, .ref d), (3, .ref o), (2, .ref ((rd 0 0))), (1, .ref ((ad 0 0 0))), (0, .ref sb)]) F.1 F.2.1 dL_law_1917 hl (by decide) rfl (fun ls hl => ?_)
  refine lv_aload_n (pc := 1919) F.1 F.2.1 dL_law_1919 rfl (lv_at hl 5 rfl) ?_
  refine mm_runV (pc := 1920) (As := []) (rest := []) F hN (r_thrown l b D F.2.2.2.2.2.2.2.1 (if mm_q_postage T (ns (i + 1)) (ns (i + 2)) = 0 then (T) else T) (mm_q_postage T (ns (i + 1)) (ns (i + 2))) rd σ2 hM2 hW2) mw_1260 mw_1261 mw_1262 mw_6 mw_1263 ⟨pmX7_thrown, (Nat.le_of_ble_eq_true rfl), (Nat.le_of_ble_eq_true rfl)⟩ (mm_recv F.2.2.2.2.2.1 hN (mm_r0 hM2) rfl) hl.1 rfl (Nat.le_of_ble_eq_true rfl) ⟨by show (cells + 6) + 0 ≤ 603072; omega, by show (slots + 40) + 0 ≤ 7215210; omega⟩ dL_law_1920
    (fun _ _ _ _ _ _ h9 => False.elim h9)
    (fun v9 σ9 H locs hp9 hN => ?_)
  obtain ⟨rfl, h9⟩ := hp9
  rw [h9] at hN
  refine W.eq (g2 := F0 m 1923 ls [.int (nI (mm_q_postage T (ns (i + 1)) (ns (i + 2))))]) rfl ?_
  refine W.widen (k := cells + 6) (n := slots + 40) (Nat.le_refl _) (Nat.le_refl _) ?_
  refine lv_iload (pc := 1923) F.1 F.2.1 dL_law_1923 (lv_at hl 1 rfl) ?_
  refine mm_icmp_eqB (pc := 1925) F (x := mm_q_postage T (ns (i + 1)) (ns (i + 2))) (y := mm_q_postage T (ns (i + 1)) (ns (i + 2))) (tgt := 1930) (by omega) (by omega) dL_law_1925 (by decide) (fun cz1925 => ?_) (fun cz1925 => ?_)
  ·
    refine lv_iload (pc := 1930) F.1 F.2.1 dL_law_1930 (lv_at hl 1 rfl) ?_
    refine mm_if_neB (pc := 1932) F (tgt := 1947) (by omega) dL_law_1932 (by decide) (fun cz1932 => ?_) (fun cz1932 => ?_)
    ·
      refine lv_goto (pc := 1947) (tgt := 2217) F.1 F.2.1 dL_law_1947 (by decide) ?_
      exact W.widen (by omega) (by omega) (kk _ _ ls H locs ⟨⟨z1, ad1, mm_X_kept hX1 (fun a9 e9 he => hF2 a9 0 e9 (by decide) he), hx1⟩, ⟨_, rd, hM2, rfl⟩, ⟨g1, hF2 o 2 _ (by decide) hw1⟩, ⟨gd, hF2 d 2 _ (by decide) hd1⟩, hod, hW2⟩ hN (lv_sub hl [2, 3, 4, 5, 6, 7] rfl))
    ·
      refine lv_aload_n (pc := 1935) F.1 F.2.1 dL_law_1935 rfl (lv_at hl 4 rfl) ?_
      refine lv_iconst (pc := 1936) (v := nI 0) F.1 F.2.1 dL_law_1936 (by decide) ?_
      refine mm_lald (pc := 1937) F hN (hF2 o 2 _ (by decide) hw1) (j := 0) rfl (by decide) (by decide) dL_law_1937 ?_
      refine lv_iload (pc := 1938) F.1 F.2.1 dL_law_1938 (lv_at hl 0 rfl) ?_
      refine lv_i2l (pc := 1940) (v := (i9).toInt64) F.1 F.2.1 dL_law_1940 (rfl) ?_
      refine W.eq (g2 := F0 m 1941 ls [.long ((nI (T.ps (ns (i + 1)) (ns (i + 2)))).toInt64), .long ((nI (T.ps (ns (i + 1)) (ns (i + 2)))).toInt64)]) (by rw [hg1 cz1932, hi9 cz1932]) ?_
      refine mm_lcmpE (pc := 1941) F.1 F.2.1 dL_law_1941 ?_
      refine mm_if_eq (pc := 1942) F (tgt := 1947) (by omega) dL_law_1942 (by decide) (fun cz1942 => ?_) (fun h9 => absurd h9 (by decide))
      refine lv_goto (pc := 1947) (tgt := 2217) F.1 F.2.1 dL_law_1947 (by decide) ?_
      exact W.widen (by omega) (by omega) (kk _ _ ls H locs ⟨⟨z1, ad1, mm_X_kept hX1 (fun a9 e9 he => hF2 a9 0 e9 (by decide) he), hx1⟩, ⟨_, rd, hM2, rfl⟩, ⟨g1, hF2 o 2 _ (by decide) hw1⟩, ⟨gd, hF2 d 2 _ (by decide) hd1⟩, hod, hW2⟩ hN (lv_sub hl [2, 3, 4, 5, 6, 7] rfl))
  ·
    exact absurd rfl cz1925

set_option maxHeartbeats 4000000 in
set_option maxRecDepth 100000 in
theorem law_28 {p : Program} {l : Launch} {e : Env} {s : State} {m : MethodId} {args : Array Value} {below : List Frame} {meth : Method} {c : Code} {H : Heap} {locs : List Loc} {cells slots : Nat} {Q : State → Prop} {b : Nat} {D : mm_D} {σ : mm_S} {T : mm_T} {x0 m0 o d sb L i : Nat} {ns : Nat → Nat} {ls : Array Slot}
    (F : mm_F p l s m args meth c b D RL cL_law 9) (hXs : va_X sb L (fun j => nI (ns j)) s s.heap) (hbl : sb < s.heap.size) (hbb : sb < b) (hL : L ≤ 2560) (hns : ∀ j, ns j < 2 ^ 32) (hi : i + 5 ≤ L) (hN : mm_N b D s σ H locs) (hV : mm_V σ T x0 m0 o d) (hl : lv_has ls 9 (mm_lc i d o m0 x0 sb)) (hc : cells + 103 ≤ 603072) (hs : slots + 9037 ≤ 7215210)
    (kk : ∀ (T2 : mm_T) (σ2 : mm_S) (ls : Array Slot) (H : Heap) (locs : List Loc), mm_V σ2 T2 x0 m0 o d → mm_N b D s σ2 H locs → lv_has ls 9 (mm_lc i d o m0 x0 sb) → W p l e room_1 s m args below meth c H locs (cells + 103) (slots + 9037) Q (F0 m 2217 ls []))
    : W p l e room_1 s m args below meth c H locs cells slots Q (F0 m 2005 ls []) := by
  obtain ⟨⟨z, ad, hX, rfl⟩, ⟨th, rd, hM, rfl⟩, ⟨go, ho⟩, ⟨gd, hd⟩, hod, hW⟩ := hV
  have hl : lv_has ls 9 [(5, .int (nI i)), (4, .ref d), (3, .ref o), (2, .ref ((rd 0 0))), (1, .ref ((ad 0 0 0))), (0, .ref sb)] := hl
  refine lv_aload_n (pc := 2005) F.1 F.2.1 dL_law_2005 rfl (lv_at hl 4 rfl) ?_
  refine lv_aload_n (pc := 2006) F.1 F.2.1 dL_law_2006 rfl (lv_at hl 5 rfl) ?_
  refine lv_iload (pc := 2007) F.1 F.2.1 dL_law_2007 (lv_at hl 0 rfl) ?_
  refine lv_iconst (pc := 2009) (v := nI 1) F.1 F.2.1 dL_law_2009 (by decide) ?_
  refine mm_iadd (pc := 2010) F (z := nI (i + 1)) (nI_add _ _) dL_law_2010 ?_
  refine mm_sld (pc := 2011) F hN hXs hbl hbb (j := i + 1) rfl (by omega) hL dL_law_2011 ?_
  refine lv_aload_n (pc := 2012) F.1 F.2.1 dL_law_2012 rfl (lv_at hl 5 rfl) ?_
  refine lv_iload (pc := 2013) F.1 F.2.1 dL_law_2013 (lv_at hl 0 rfl) ?_
  refine lv_iconst (pc := 2015) (v := nI 2) F.1 F.2.1 dL_law_2015 (by decide) ?_
  refine mm_iadd (pc := 2016) F (z := nI (i + 2)) (nI_add _ _) dL_law_2016 ?_
  refine mm_sld (pc := 2017) F hN hXs hbl hbb (j := i + 2) rfl (by omega) hL dL_law_2017 ?_
  refine lv_aload_n (pc := 2018) F.1 F.2.1 dL_law_2018 rfl (lv_at hl 2 rfl) ?_
  refine mm_runSX (pc := 2019) (As := [.ref ((ad 0 0 0)), .int (nI (ns (i + 1))), .int (nI (ns (i + 2))), .ref o]) (rest := []) F hN (w_proofAt l b D F.2.2.2.2.2.2.2.1 T z ad σ hX hW (ns (i + 1)) (hns _) (ns (i + 2)) (hns _) o go ho) mw_1121 mw_1122 mw_0 mw_1123 ⟨pmL_proofAt, (Nat.le_of_ble_eq_true rfl), (Nat.le_of_ble_eq_true rfl)⟩ hl.1 rfl (Nat.le_of_ble_eq_true rfl) ⟨by show cells + 6 ≤ 603072; omega, by show slots + 40 ≤ 7215210; omega⟩ dL_law_2019
    (fun _ _ _ _ _ _ h9 => False.elim h9) (fun v9 σ1 H locs hp9 hN => ?_)
  obtain ⟨rfl, z1, ad1, g1, hX1, hx1, hw1, hg1, hfr1⟩ := hp9
  refine W.eq (g2 := F0 m 2022 ls [.int (nI (mm_q_proofAt T (ns (i + 1)) (ns (i + 2))))]) rfl ?_
  refine W.widen (k := cells + 6) (n := slots + 40) (Nat.le_refl _) (Nat.le_refl _) ?_
  have hM1 : mm_M σ1 T th rd := mm_M_kept1 hM (fun a9 e9 he => hfr1 a9 1 e9 (by decide) (fun q9 => by rw [q9, ho] at he; cases he) he)
  have hd1 : σ1 d = mm_ard 2 2 1 gd := hfr1 d 2 _ (by decide) (Ne.symm hod) hd
  have hq4 : mm_q_proofAt T (ns (i + 1)) (ns (i + 2)) < 4 := mm_q_proofAt_lt
  have hW2 : mm_WF (if mm_q_proofAt T (ns (i + 1)) (ns (i + 2)) = 0 then (T) else T) := by split <;> exact hW
  refine lv_istore (pc := 2022) (lv' := [(6, .int (nI (mm_q_proofAt T (ns (i + 1)) (ns (i + 2))))), (5, .int (nI i)), (4, .ref d), (3, .ref o), (2, .ref ((rd 0 0))), (1, .ref ((ad 0 0 0))), (0, .ref sb)]) F.1 F.2.1 dL_law_2022 hl (by decide) rfl (fun ls hl => ?_)
  refine lv_aload_n (pc := 2024) F.1 F.2.1 dL_law_2024 rfl (lv_at hl 4 rfl) ?_
  refine lv_aload_n (pc := 2025) F.1 F.2.1 dL_law_2025 rfl (lv_at hl 6 rfl) ?_
  refine lv_iload (pc := 2026) F.1 F.2.1 dL_law_2026 (lv_at hl 1 rfl) ?_
  refine lv_iconst (pc := 2028) (v := nI 1) F.1 F.2.1 dL_law_2028 (by decide) ?_
  refine mm_iadd (pc := 2029) F (z := nI (i + 1)) (nI_add _ _) dL_law_2029 ?_
  refine mm_sld (pc := 2030) F hN hXs hbl hbb (j := i + 1) rfl (by omega) hL dL_law_2030 ?_
  refine lv_aload_n (pc := 2031) F.1 F.2.1 dL_law_2031 rfl (lv_at hl 6 rfl) ?_
  refine lv_iload (pc := 2032) F.1 F.2.1 dL_law_2032 (lv_at hl 1 rfl) ?_
  refine lv_iconst (pc := 2034) (v := nI 2) F.1 F.2.1 dL_law_2034 (by decide) ?_
  refine mm_iadd (pc := 2035) F (z := nI (i + 2)) (nI_add _ _) dL_law_2035 ?_
  refine mm_sld (pc := 2036) F hN hXs hbl hbb (j := i + 2) rfl (by omega) hL dL_law_2036 ?_
  refine mm_runV (pc := 2037) (As := [.int (nI (ns (i + 1))), .int (nI (ns (i + 2)))]) (rest := []) F hN (r_proofAt l b D F.2.2.2.2.2.2.2.1 T th rd σ1 hM1 hW (ns (i + 1)) (hns _) (ns (i + 2)) (hns _)) mw_1431 mw_1432 mw_1433 mw_6 mw_1434 ⟨pmX7_proofAt, (Nat.le_of_ble_eq_true rfl), (Nat.le_of_ble_eq_true rfl)⟩ (mm_recv F.2.2.2.2.2.1 hN (mm_r0 hM1) rfl) hl.1 rfl (Nat.le_of_ble_eq_true rfl) ⟨by show (cells + 6) + 0 ≤ 603072; omega, by show (slots + 40) + 0 ≤ 7215210; omega⟩ dL_law_2037
    (fun _ _ _ _ _ _ h9 => False.elim h9)
    (fun v9 σ2 H locs hp9 hN => ?_)
  obtain ⟨i9, rfl, hi9, hM2, hF2⟩ := mm_Mt.out hp9
  obtain hq9 := hp9
  refine W.eq (g2 := F0 m 2040 ls [.int i9]) rfl ?_
  refine W.widen (k := cells + 6) (n := slots + 40) (Nat.le_refl _) (Nat.le_refl _) ?_
  refine lv_istore (pc := 2040) (lv' := [(7, .int i9), (6, .int (nI (mm_q_proofAt T (ns (i + 1)) (ns (i + 2))))), (5, .int (nI i)), (4, .ref d), (3, .ref o), (2, .ref ((rd 0 0))), (1, .ref ((ad 0 0 0))), (0, .ref sb)]) F.1 F.2.1 dL_law_2040 hl (by decide) rfl (fun ls hl => ?_)
  refine lv_aload_n (pc := 2042) F.1 F.2.1 dL_law_2042 rfl (lv_at hl 5 rfl) ?_
  refine mm_runV (pc := 2043) (As := []) (rest := []) F hN (r_thrown l b D F.2.2.2.2.2.2.2.1 (if mm_q_proofAt T (ns (i + 1)) (ns (i + 2)) = 0 then (T) else T) (mm_q_proofAt T (ns (i + 1)) (ns (i + 2))) rd σ2 hM2 hW2) mw_1260 mw_1261 mw_1262 mw_6 mw_1263 ⟨pmX7_thrown, (Nat.le_of_ble_eq_true rfl), (Nat.le_of_ble_eq_true rfl)⟩ (mm_recv F.2.2.2.2.2.1 hN (mm_r0 hM2) rfl) hl.1 rfl (Nat.le_of_ble_eq_true rfl) ⟨by show (cells + 6) + 0 ≤ 603072; omega, by show (slots + 40) + 0 ≤ 7215210; omega⟩ dL_law_2043
    (fun _ _ _ _ _ _ h9 => False.elim h9)
    (fun v9 σ9 H locs hp9 hN => ?_)
  obtain ⟨rfl, h9⟩ := hp9
  rw [h9] at hN
  refine W.eq (g2 := F0 m 2046 ls [.int (nI (mm_q_proofAt T (ns (i + 1)) (ns (i + 2))))]) rfl ?_
  refine W.widen (k := cells + 6) (n := slots + 40) (Nat.le_refl _) (Nat.le_refl _) ?_
  refine lv_iload (pc := 2046) F.1 F.2.1 dL_law_2046 (lv_at hl 1 rfl) ?_
  refine mm_icmp_eqB (pc := 2048) F (x := mm_q_proofAt T (ns (i + 1)) (ns (i + 2))) (y := mm_q_proofAt T (ns (i + 1)) (ns (i + 2))) (tgt := 2053) (by omega) (by omega) dL_law_2048 (by decide) (fun cz2048 => ?_) (fun cz2048 => ?_)
  ·
    refine lv_iload (pc := 2053) F.1 F.2.1 dL_law_2053 (lv_at hl 1 rfl) ?_
    refine mm_if_neB (pc := 2055) F (tgt := 2070) (by omega) dL_law_2055 (by decide) (fun cz2055 => ?_) (fun cz2055 => ?_)
    ·
      refine lv_goto (pc := 2070) (tgt := 2217) F.1 F.2.1 dL_law_2070 (by decide) ?_
      exact W.widen (by omega) (by omega) (kk _ _ ls H locs ⟨⟨z1, ad1, mm_X_kept hX1 (fun a9 e9 he => hF2 a9 0 e9 (by decide) he), hx1⟩, ⟨_, rd, hM2, rfl⟩, ⟨g1, hF2 o 2 _ (by decide) hw1⟩, ⟨gd, hF2 d 2 _ (by decide) hd1⟩, hod, hW2⟩ hN (lv_sub hl [2, 3, 4, 5, 6, 7] rfl))
    ·
      refine lv_aload_n (pc := 2058) F.1 F.2.1 dL_law_2058 rfl (lv_at hl 4 rfl) ?_
      refine lv_iconst (pc := 2059) (v := nI 0) F.1 F.2.1 dL_law_2059 (by decide) ?_
      refine mm_lald (pc := 2060) F hN (hF2 o 2 _ (by decide) hw1) (j := 0) rfl (by decide) (by decide) dL_law_2060 ?_
      refine lv_iload (pc := 2061) F.1 F.2.1 dL_law_2061 (lv_at hl 0 rfl) ?_
      refine lv_i2l (pc := 2063) (v := (i9).toInt64) F.1 F.2.1 dL_law_2063 (rfl) ?_
      refine W.eq (g2 := F0 m 2064 ls [.long ((nI ((mm_pl (mm_fr T (ns (i + 1))) (T.rp (ns (i + 1))) 8).getD (ns (i + 2)) 0)).toInt64), .long ((nI ((mm_pl (mm_fr T (ns (i + 1))) (T.rp (ns (i + 1))) 8).getD (ns (i + 2)) 0)).toInt64)]) (by rw [hg1 cz2055, hi9 cz2055]) ?_
      refine mm_lcmpE (pc := 2064) F.1 F.2.1 dL_law_2064 ?_
      refine mm_if_eq (pc := 2065) F (tgt := 2070) (by omega) dL_law_2065 (by decide) (fun cz2065 => ?_) (fun h9 => absurd h9 (by decide))
      refine lv_goto (pc := 2070) (tgt := 2217) F.1 F.2.1 dL_law_2070 (by decide) ?_
      exact W.widen (by omega) (by omega) (kk _ _ ls H locs ⟨⟨z1, ad1, mm_X_kept hX1 (fun a9 e9 he => hF2 a9 0 e9 (by decide) he), hx1⟩, ⟨_, rd, hM2, rfl⟩, ⟨g1, hF2 o 2 _ (by decide) hw1⟩, ⟨gd, hF2 d 2 _ (by decide) hd1⟩, hod, hW2⟩ hN (lv_sub hl [2, 3, 4, 5, 6, 7] rfl))
  ·
    exact absurd rfl cz2048

set_option maxHeartbeats 4000000 in
set_option maxRecDepth 100000 in
theorem law_14f {p : Program} {l : Launch} {e : Env} {s : State} {m : MethodId} {args : Array Value} {below : List Frame} {meth : Method} {c : Code} {H : Heap} {locs : List Loc} {cells slots : Nat} {Q : State → Prop} {b : Nat} {D : mm_D} {σ : mm_S} {T : mm_T} {x0 m0 o d sb L i : Nat} {ns : Nat → Nat} {ls : Array Slot}
    (F : mm_F p l s m args meth c b D RL cL_law 9) (hXs : va_X sb L (fun j => nI (ns j)) s s.heap) (hbl : sb < s.heap.size) (hbb : sb < b) (hL : L ≤ 2560) (hns : ∀ j, ns j < 2 ^ 32) (hi : i + 5 ≤ L) (hN : mm_N b D s σ H locs) (hV : mm_V σ T x0 m0 o d) (hl : lv_has ls 9 (mm_lc i d o m0 x0 sb)) (hc : cells + 103 ≤ 603072) (hs : slots + 9037 ≤ 7215210)
    (kk : ∀ (T2 : mm_T) (σ2 : mm_S) (ls : Array Slot) (H : Heap) (locs : List Loc), mm_V σ2 T2 x0 m0 o d → mm_N b D s σ2 H locs → lv_has ls 9 (mm_lc i d o m0 x0 sb) → W p l e room_1 s m args below meth c H locs (cells + 103) (slots + 9037) Q (F0 m 2217 ls [])) (h0 : ns (i + 1) = 0)
    : W p l e room_1 s m args below meth c H locs cells slots Q (F0 m 1070 ls []) := by
  obtain ⟨⟨z, ad, hX, rfl⟩, ⟨th, rd, hM, rfl⟩, ⟨go, ho⟩, ⟨gd, hd⟩, hod, hW⟩ := hV
  have hl : lv_has ls 9 [(5, .int (nI i)), (4, .ref d), (3, .ref o), (2, .ref ((rd 0 0))), (1, .ref ((ad 0 0 0))), (0, .ref sb)] := hl
  have hz9 := hns (i + 1)
  refine lv_aload_n (pc := 1070) F.1 F.2.1 dL_law_1070 rfl (lv_at hl 4 rfl) ?_
  refine lv_aload_n (pc := 1071) F.1 F.2.1 dL_law_1071 rfl (lv_at hl 5 rfl) ?_
  refine lv_iload (pc := 1072) F.1 F.2.1 dL_law_1072 (lv_at hl 0 rfl) ?_
  refine lv_iconst (pc := 1074) (v := nI 1) F.1 F.2.1 dL_law_1074 (by decide) ?_
  refine mm_iadd (pc := 1075) F (z := nI (i + 1)) (nI_add _ _) dL_law_1075 ?_
  refine mm_sld (pc := 1076) F hN hXs hbl hbb (j := i + 1) rfl (by omega) hL dL_law_1076 ?_
  refine mm_if_eqB (pc := 1077) F (tgt := 1084) (by omega) dL_law_1077 (by decide) (fun cz1077 => ?_) (fun cz1077 => ?_)
  ·
    refine lv_iconst (pc := 1084) (v := nI 0) F.1 F.2.1 dL_law_1084 (by decide) ?_
    refine lv_aload_n (pc := 1085) F.1 F.2.1 dL_law_1085 rfl (lv_at hl 5 rfl) ?_
    refine lv_iload (pc := 1086) F.1 F.2.1 dL_law_1086 (lv_at hl 0 rfl) ?_
    refine lv_iconst (pc := 1088) (v := nI 2) F.1 F.2.1 dL_law_1088 (by decide) ?_
    refine mm_iadd (pc := 1089) F (z := nI (i + 2)) (nI_add _ _) dL_law_1089 ?_
    refine mm_sld (pc := 1090) F hN hXs hbl hbb (j := i + 2) rfl (by omega) hL dL_law_1090 ?_
    refine lv_aload_n (pc := 1091) F.1 F.2.1 dL_law_1091 rfl (lv_at hl 2 rfl) ?_
    refine mm_runSX (pc := 1092) (As := [.ref ((ad 0 0 0)), .int (nI 0), .int (nI (ns (i + 2))), .ref o]) (rest := []) F hN (w_buyEnv0 l b D F.2.2.2.2.2.2.2.1 T z ad σ hX hW (ns (i + 2)) (hns _) o go ho) mw_636 mw_637 mw_0 mw_638 ⟨pmL_buyEnvelopes, (Nat.le_of_ble_eq_true rfl), (Nat.le_of_ble_eq_true rfl)⟩ hl.1 rfl (Nat.le_of_ble_eq_true rfl) ⟨by show cells + 6 ≤ 603072; omega, by show slots + 40 ≤ 7215210; omega⟩ dL_law_1092
      (fun _ _ _ _ _ _ h9 => False.elim h9) (fun v9 σ1 H locs hp9 hN => ?_)
    obtain ⟨rfl, z1, ad1, g1, hX1, hx1, hw1, hg1, hfr1⟩ := hp9
    refine W.eq (g2 := F0 m 1095 ls [.int (nI (mm_q_buyEnvelopes T 0 (ns (i + 2))))]) rfl ?_
    refine W.widen (k := cells + 6) (n := slots + 40) (Nat.le_refl _) (Nat.le_refl _) ?_
    have hM1 : mm_M σ1 T th rd := mm_M_kept1 hM (fun a9 e9 he => hfr1 a9 1 e9 (by decide) (fun q9 => by rw [q9, ho] at he; cases he) he)
    have hd1 : σ1 d = mm_ard 2 2 1 gd := hfr1 d 2 _ (by decide) (Ne.symm hod) hd
    have hq4 : mm_q_buyEnvelopes T 0 (ns (i + 2)) < 4 := mm_q_buyEnvelopes_lt
    have hW2 : mm_WF (if mm_q_buyEnvelopes T 0 (ns (i + 2)) = 0 then ((T.w 12 (mm_u2 (T 12) 0 0 (T.en 0 + (ns (i + 2))))).w 0 (mm_u2 (T 0) 7 0 (T 0 7 0 + (ns (i + 2))))) else T) := mm_wf_buyEnv0 hW (ns (i + 2)) (hns _)
    refine lv_istore (pc := 1095) (lv' := [(6, .int (nI (mm_q_buyEnvelopes T 0 (ns (i + 2))))), (5, .int (nI i)), (4, .ref d), (3, .ref o), (2, .ref ((rd 0 0))), (1, .ref ((ad 0 0 0))), (0, .ref sb)]) F.1 F.2.1 dL_law_1095 hl (by decide) rfl (fun ls hl => ?_)
    refine lv_aload_n (pc := 1097) F.1 F.2.1 dL_law_1097 rfl (lv_at hl 4 rfl) ?_
    refine lv_aload_n (pc := 1098) F.1 F.2.1 dL_law_1098 rfl (lv_at hl 6 rfl) ?_
    refine lv_iload (pc := 1099) F.1 F.2.1 dL_law_1099 (lv_at hl 1 rfl) ?_
    refine lv_iconst (pc := 1101) (v := nI 1) F.1 F.2.1 dL_law_1101 (by decide) ?_
    refine mm_iadd (pc := 1102) F (z := nI (i + 1)) (nI_add _ _) dL_law_1102 ?_
    refine mm_sld (pc := 1103) F hN hXs hbl hbb (j := i + 1) rfl (by omega) hL dL_law_1103 ?_
    refine mm_if_eqB (pc := 1104) F (tgt := 1111) (by omega) dL_law_1104 (by decide) (fun cz1104 => ?_) (fun cz1104 => ?_)
    ·
      refine lv_iconst (pc := 1111) (v := nI 0) F.1 F.2.1 dL_law_1111 (by decide) ?_
      refine lv_aload_n (pc := 1112) F.1 F.2.1 dL_law_1112 rfl (lv_at hl 6 rfl) ?_
      refine lv_iload (pc := 1113) F.1 F.2.1 dL_law_1113 (lv_at hl 1 rfl) ?_
      refine lv_iconst (pc := 1115) (v := nI 2) F.1 F.2.1 dL_law_1115 (by decide) ?_
      refine mm_iadd (pc := 1116) F (z := nI (i + 2)) (nI_add _ _) dL_law_1116 ?_
      refine mm_sld (pc := 1117) F hN hXs hbl hbb (j := i + 2) rfl (by omega) hL dL_law_1117 ?_
      refine mm_runV (pc := 1118) (As := [.int (nI 0), .int (nI (ns (i + 2)))]) (rest := []) F hN (r_buyEnv0 l b D F.2.2.2.2.2.2.2.1 T th rd σ1 hM1 hW (ns (i + 2)) (hns _)) mw_1343 mw_1344 mw_1345 mw_6 mw_1346 ⟨pmX7_buyEnvelopes, (Nat.le_of_ble_eq_true rfl), (Nat.le_of_ble_eq_true rfl)⟩ (mm_recv F.2.2.2.2.2.1 hN (mm_r0 hM1) rfl) hl.1 rfl (Nat.le_of_ble_eq_true rfl) ⟨by show (cells + 6) + 0 ≤ 603072; omega, by show (slots + 40) + 0 ≤ 7215210; omega⟩ dL_law_1118
        (fun _ _ _ _ _ _ h9 => False.elim h9)
        (fun v9 σ2 H locs hp9 hN => ?_)
      obtain ⟨i9, rfl, hi9, hM2, hF2⟩ := mm_Mt.out hp9
      obtain hq9 := hp9
      refine W.eq (g2 := F0 m 1121 ls [.int i9]) rfl ?_
      refine W.widen (k := cells + 6) (n := slots + 40) (Nat.le_refl _) (Nat.le_refl _) ?_
      refine lv_istore (pc := 1121) (lv' := [(7, .int i9), (6, .int (nI (mm_q_buyEnvelopes T 0 (ns (i + 2))))), (5, .int (nI i)), (4, .ref d), (3, .ref o), (2, .ref ((rd 0 0))), (1, .ref ((ad 0 0 0))), (0, .ref sb)]) F.1 F.2.1 dL_law_1121 hl (by decide) rfl (fun ls hl => ?_)
      refine lv_aload_n (pc := 1123) F.1 F.2.1 dL_law_1123 rfl (lv_at hl 5 rfl) ?_
      refine mm_runV (pc := 1124) (As := []) (rest := []) F hN (r_thrown l b D F.2.2.2.2.2.2.2.1 (if mm_q_buyEnvelopes T 0 (ns (i + 2)) = 0 then ((T.w 12 (mm_u2 (T 12) 0 0 (T.en 0 + (ns (i + 2))))).w 0 (mm_u2 (T 0) 7 0 (T 0 7 0 + (ns (i + 2))))) else T) (mm_q_buyEnvelopes T 0 (ns (i + 2))) rd σ2 hM2 hW2) mw_1260 mw_1261 mw_1262 mw_6 mw_1263 ⟨pmX7_thrown, (Nat.le_of_ble_eq_true rfl), (Nat.le_of_ble_eq_true rfl)⟩ (mm_recv F.2.2.2.2.2.1 hN (mm_r0 hM2) rfl) hl.1 rfl (Nat.le_of_ble_eq_true rfl) ⟨by show (cells + 6) + 0 ≤ 603072; omega, by show (slots + 40) + 0 ≤ 7215210; omega⟩ dL_law_1124
        (fun _ _ _ _ _ _ h9 => False.elim h9)
        (fun v9 σ9 H locs hp9 hN => ?_)
      obtain ⟨rfl, h9⟩ := hp9
      rw [h9] at hN
      refine W.eq (g2 := F0 m 1127 ls [.int (nI (mm_q_buyEnvelopes T 0 (ns (i + 2))))]) rfl ?_
      refine W.widen (k := cells + 6) (n := slots + 40) (Nat.le_refl _) (Nat.le_refl _) ?_
      refine lv_iload (pc := 1127) F.1 F.2.1 dL_law_1127 (lv_at hl 1 rfl) ?_
      refine mm_icmp_eqB (pc := 1129) F (x := mm_q_buyEnvelopes T 0 (ns (i + 2))) (y := mm_q_buyEnvelopes T 0 (ns (i + 2))) (tgt := 1134) (by omega) (by omega) dL_law_1129 (by decide) (fun cz1129 => ?_) (fun cz1129 => ?_)
      ·
        refine lv_iload (pc := 1134) F.1 F.2.1 dL_law_1134 (lv_at hl 1 rfl) ?_
        refine mm_if_neB (pc := 1136) F (tgt := 1151) (by omega) dL_law_1136 (by decide) (fun cz1136 => ?_) (fun cz1136 => ?_)
        ·
          refine lv_goto (pc := 1151) (tgt := 2217) F.1 F.2.1 dL_law_1151 (by decide) ?_
          exact W.widen (by omega) (by omega) (kk _ _ ls H locs ⟨⟨z1, ad1, mm_X_kept hX1 (fun a9 e9 he => hF2 a9 0 e9 (by decide) he), hx1⟩, ⟨_, rd, hM2, rfl⟩, ⟨g1, hF2 o 2 _ (by decide) hw1⟩, ⟨gd, hF2 d 2 _ (by decide) hd1⟩, hod, hW2⟩ hN (lv_sub hl [2, 3, 4, 5, 6, 7] rfl))
        ·
          refine lv_aload_n (pc := 1139) F.1 F.2.1 dL_law_1139 rfl (lv_at hl 4 rfl) ?_
          refine lv_iconst (pc := 1140) (v := nI 0) F.1 F.2.1 dL_law_1140 (by decide) ?_
          refine mm_lald (pc := 1141) F hN (hF2 o 2 _ (by decide) hw1) (j := 0) rfl (by decide) (by decide) dL_law_1141 ?_
          refine lv_iload (pc := 1142) F.1 F.2.1 dL_law_1142 (lv_at hl 0 rfl) ?_
          refine lv_i2l (pc := 1144) (v := (i9).toInt64) F.1 F.2.1 dL_law_1144 (rfl) ?_
          refine W.eq (g2 := F0 m 1145 ls [.long ((nI (T.en 0 + (ns (i + 2)))).toInt64), .long ((nI (T.en 0 + (ns (i + 2)))).toInt64)]) (by rw [hg1 cz1136, hi9 cz1136]) ?_
          refine mm_lcmpE (pc := 1145) F.1 F.2.1 dL_law_1145 ?_
          refine mm_if_eq (pc := 1146) F (tgt := 1151) (by omega) dL_law_1146 (by decide) (fun cz1146 => ?_) (fun h9 => absurd h9 (by decide))
          refine lv_goto (pc := 1151) (tgt := 2217) F.1 F.2.1 dL_law_1151 (by decide) ?_
          exact W.widen (by omega) (by omega) (kk _ _ ls H locs ⟨⟨z1, ad1, mm_X_kept hX1 (fun a9 e9 he => hF2 a9 0 e9 (by decide) he), hx1⟩, ⟨_, rd, hM2, rfl⟩, ⟨g1, hF2 o 2 _ (by decide) hw1⟩, ⟨gd, hF2 d 2 _ (by decide) hd1⟩, hod, hW2⟩ hN (lv_sub hl [2, 3, 4, 5, 6, 7] rfl))
      ·
        exact absurd rfl cz1129
    ·
      exact absurd h0 cz1104
  ·
    exact absurd h0 cz1077

set_option maxHeartbeats 4000000 in
set_option maxRecDepth 100000 in
theorem law_17f {p : Program} {l : Launch} {e : Env} {s : State} {m : MethodId} {args : Array Value} {below : List Frame} {meth : Method} {c : Code} {H : Heap} {locs : List Loc} {cells slots : Nat} {Q : State → Prop} {b : Nat} {D : mm_D} {σ : mm_S} {T : mm_T} {x0 m0 o d sb L i : Nat} {ns : Nat → Nat} {ls : Array Slot}
    (F : mm_F p l s m args meth c b D RL cL_law 9) (hXs : va_X sb L (fun j => nI (ns j)) s s.heap) (hbl : sb < s.heap.size) (hbb : sb < b) (hL : L ≤ 2560) (hns : ∀ j, ns j < 2 ^ 32) (hi : i + 5 ≤ L) (hN : mm_N b D s σ H locs) (hV : mm_V σ T x0 m0 o d) (hl : lv_has ls 9 (mm_lc i d o m0 x0 sb)) (hc : cells + 103 ≤ 603072) (hs : slots + 9037 ≤ 7215210)
    (kk : ∀ (T2 : mm_T) (σ2 : mm_S) (ls : Array Slot) (H : Heap) (locs : List Loc), mm_V σ2 T2 x0 m0 o d → mm_N b D s σ2 H locs → lv_has ls 9 (mm_lc i d o m0 x0 sb) → W p l e room_1 s m args below meth c H locs (cells + 103) (slots + 9037) Q (F0 m 2217 ls [])) (h0 : ns (i + 2) = 0)
    : W p l e room_1 s m args below meth c H locs cells slots Q (F0 m 1208 ls []) := by
  obtain ⟨⟨z, ad, hX, rfl⟩, ⟨th, rd, hM, rfl⟩, ⟨go, ho⟩, ⟨gd, hd⟩, hod, hW⟩ := hV
  have hl : lv_has ls 9 [(5, .int (nI i)), (4, .ref d), (3, .ref o), (2, .ref ((rd 0 0))), (1, .ref ((ad 0 0 0))), (0, .ref sb)] := hl
  have hz9 := hns (i + 2)
  refine lv_aload_n (pc := 1208) F.1 F.2.1 dL_law_1208 rfl (lv_at hl 4 rfl) ?_
  refine lv_aload_n (pc := 1209) F.1 F.2.1 dL_law_1209 rfl (lv_at hl 5 rfl) ?_
  refine lv_iload (pc := 1210) F.1 F.2.1 dL_law_1210 (lv_at hl 0 rfl) ?_
  refine lv_iconst (pc := 1212) (v := nI 1) F.1 F.2.1 dL_law_1212 (by decide) ?_
  refine mm_iadd (pc := 1213) F (z := nI (i + 1)) (nI_add _ _) dL_law_1213 ?_
  refine mm_sld (pc := 1214) F hN hXs hbl hbb (j := i + 1) rfl (by omega) hL dL_law_1214 ?_
  refine lv_aload_n (pc := 1215) F.1 F.2.1 dL_law_1215 rfl (lv_at hl 5 rfl) ?_
  refine lv_iload (pc := 1216) F.1 F.2.1 dL_law_1216 (lv_at hl 0 rfl) ?_
  refine lv_iconst (pc := 1218) (v := nI 2) F.1 F.2.1 dL_law_1218 (by decide) ?_
  refine mm_iadd (pc := 1219) F (z := nI (i + 2)) (nI_add _ _) dL_law_1219 ?_
  refine mm_sld (pc := 1220) F hN hXs hbl hbb (j := i + 2) rfl (by omega) hL dL_law_1220 ?_
  refine mm_if_eqB (pc := 1221) F (tgt := 1228) (by omega) dL_law_1221 (by decide) (fun cz1221 => ?_) (fun cz1221 => ?_)
  ·
    refine lv_iconst (pc := 1228) (v := nI 0) F.1 F.2.1 dL_law_1228 (by decide) ?_
    refine lv_aload_n (pc := 1229) F.1 F.2.1 dL_law_1229 rfl (lv_at hl 2 rfl) ?_
    refine mm_runSX (pc := 1230) (As := [.ref ((ad 0 0 0)), .int (nI (ns (i + 1))), .int (nI 0), .ref o]) (rest := []) F hN (w_run l b D F.2.2.2.2.2.2.2.1 T z ad σ hX hW (ns (i + 1)) (hns _) 0 (by decide) o go ho) mw_644 mw_645 mw_0 mw_646 ⟨pmL_run, (Nat.le_of_ble_eq_true rfl), (Nat.le_of_ble_eq_true rfl)⟩ hl.1 rfl (Nat.le_of_ble_eq_true rfl) ⟨by show cells + 100 ≤ 603072; omega, by show slots + 9000 ≤ 7215210; omega⟩ dL_law_1230
      (fun _ _ _ _ _ _ h9 => False.elim h9) (fun v9 σ1 H locs hp9 hN => ?_)
    obtain ⟨rfl, z1, ad1, g1, hX1, hx1, hw1, hg1, hfr1⟩ := hp9
    refine W.eq (g2 := F0 m 1233 ls [.int (nI (mm_q_run T (ns (i + 1)) 0))]) rfl ?_
    refine W.widen (k := cells + 100) (n := slots + 9000) (Nat.le_refl _) (Nat.le_refl _) ?_
    have hM1 : mm_M σ1 T th rd := mm_M_kept1 hM (fun a9 e9 he => hfr1 a9 1 e9 (by decide) (fun q9 => by rw [q9, ho] at he; cases he) he)
    have hd1 : σ1 d = mm_ard 2 2 1 gd := hfr1 d 2 _ (by decide) (Ne.symm hod) hd
    have hq4 : mm_q_run T (ns (i + 1)) 0 < 4 := mm_q_run_lt
    have hW2 : mm_WF (if mm_q_run T (ns (i + 1)) 0 = 0 then (mm_t_run T (ns (i + 1)) 0) else T) := mm_wf_run hW (ns (i + 1)) (hns _) 0 (by decide)
    refine lv_istore (pc := 1233) (lv' := [(6, .int (nI (mm_q_run T (ns (i + 1)) 0))), (5, .int (nI i)), (4, .ref d), (3, .ref o), (2, .ref ((rd 0 0))), (1, .ref ((ad 0 0 0))), (0, .ref sb)]) F.1 F.2.1 dL_law_1233 hl (by decide) rfl (fun ls hl => ?_)
    refine lv_aload_n (pc := 1235) F.1 F.2.1 dL_law_1235 rfl (lv_at hl 4 rfl) ?_
    refine lv_aload_n (pc := 1236) F.1 F.2.1 dL_law_1236 rfl (lv_at hl 6 rfl) ?_
    refine lv_iload (pc := 1237) F.1 F.2.1 dL_law_1237 (lv_at hl 1 rfl) ?_
    refine lv_iconst (pc := 1239) (v := nI 1) F.1 F.2.1 dL_law_1239 (by decide) ?_
    refine mm_iadd (pc := 1240) F (z := nI (i + 1)) (nI_add _ _) dL_law_1240 ?_
    refine mm_sld (pc := 1241) F hN hXs hbl hbb (j := i + 1) rfl (by omega) hL dL_law_1241 ?_
    refine lv_aload_n (pc := 1242) F.1 F.2.1 dL_law_1242 rfl (lv_at hl 6 rfl) ?_
    refine lv_iload (pc := 1243) F.1 F.2.1 dL_law_1243 (lv_at hl 1 rfl) ?_
    refine lv_iconst (pc := 1245) (v := nI 2) F.1 F.2.1 dL_law_1245 (by decide) ?_
    refine mm_iadd (pc := 1246) F (z := nI (i + 2)) (nI_add _ _) dL_law_1246 ?_
    refine mm_sld (pc := 1247) F hN hXs hbl hbb (j := i + 2) rfl (by omega) hL dL_law_1247 ?_
    refine mm_if_eqB (pc := 1248) F (tgt := 1255) (by omega) dL_law_1248 (by decide) (fun cz1248 => ?_) (fun cz1248 => ?_)
    ·
      refine lv_iconst (pc := 1255) (v := nI 0) F.1 F.2.1 dL_law_1255 (by decide) ?_
      refine mm_runV (pc := 1256) (As := [.int (nI (ns (i + 1))), .int (nI 0)]) (rest := []) F hN (r_run l b D F.2.2.2.2.2.2.2.1 T th rd σ1 hM1 hW (ns (i + 1)) (hns _) 0 (by decide)) mw_1355 mw_1356 mw_1357 mw_6 mw_1358 ⟨pmX7_run, (Nat.le_of_ble_eq_true rfl), (Nat.le_of_ble_eq_true rfl)⟩ (mm_recv F.2.2.2.2.2.1 hN (mm_r0 hM1) rfl) hl.1 rfl (Nat.le_of_ble_eq_true rfl) ⟨by show (cells + 100) + 3 ≤ 603072; omega, by show (slots + 9000) + 37 ≤ 7215210; omega⟩ dL_law_1256
        (fun _ _ _ _ _ _ h9 => False.elim h9)
        (fun v9 σ2 H locs hp9 hN => ?_)
      obtain ⟨i9, rfl, hi9, hM2, hF2⟩ := mm_Mt.out hp9
      obtain hq9 := hp9
      refine W.eq (g2 := F0 m 1259 ls [.int i9]) rfl ?_
      refine W.widen (k := cells + 100 + 3) (n := slots + 9000 + 37) (Nat.le_refl _) (Nat.le_refl _) ?_
      refine lv_istore (pc := 1259) (lv' := [(7, .int i9), (6, .int (nI (mm_q_run T (ns (i + 1)) 0))), (5, .int (nI i)), (4, .ref d), (3, .ref o), (2, .ref ((rd 0 0))), (1, .ref ((ad 0 0 0))), (0, .ref sb)]) F.1 F.2.1 dL_law_1259 hl (by decide) rfl (fun ls hl => ?_)
      refine lv_aload_n (pc := 1261) F.1 F.2.1 dL_law_1261 rfl (lv_at hl 5 rfl) ?_
      refine mm_runV (pc := 1262) (As := []) (rest := []) F hN (r_thrown l b D F.2.2.2.2.2.2.2.1 (if mm_q_run T (ns (i + 1)) 0 = 0 then (mm_t_run T (ns (i + 1)) 0) else T) (mm_q_run T (ns (i + 1)) 0) rd σ2 hM2 hW2) mw_1260 mw_1261 mw_1262 mw_6 mw_1263 ⟨pmX7_thrown, (Nat.le_of_ble_eq_true rfl), (Nat.le_of_ble_eq_true rfl)⟩ (mm_recv F.2.2.2.2.2.1 hN (mm_r0 hM2) rfl) hl.1 rfl (Nat.le_of_ble_eq_true rfl) ⟨by show (cells + 100 + 3) + 0 ≤ 603072; omega, by show (slots + 9000 + 37) + 0 ≤ 7215210; omega⟩ dL_law_1262
        (fun _ _ _ _ _ _ h9 => False.elim h9)
        (fun v9 σ9 H locs hp9 hN => ?_)
      obtain ⟨rfl, h9⟩ := hp9
      rw [h9] at hN
      refine W.eq (g2 := F0 m 1265 ls [.int (nI (mm_q_run T (ns (i + 1)) 0))]) rfl ?_
      refine W.widen (k := cells + 100 + 3) (n := slots + 9000 + 37) (Nat.le_refl _) (Nat.le_refl _) ?_
      refine lv_iload (pc := 1265) F.1 F.2.1 dL_law_1265 (lv_at hl 1 rfl) ?_
      refine mm_icmp_eqB (pc := 1267) F (x := mm_q_run T (ns (i + 1)) 0) (y := mm_q_run T (ns (i + 1)) 0) (tgt := 1272) (by omega) (by omega) dL_law_1267 (by decide) (fun cz1267 => ?_) (fun cz1267 => ?_)
      ·
        refine lv_iload (pc := 1272) F.1 F.2.1 dL_law_1272 (lv_at hl 1 rfl) ?_
        refine mm_if_neB (pc := 1274) F (tgt := 1289) (by omega) dL_law_1274 (by decide) (fun cz1274 => ?_) (fun cz1274 => ?_)
        ·
          refine lv_goto (pc := 1289) (tgt := 2217) F.1 F.2.1 dL_law_1289 (by decide) ?_
          exact W.widen (by omega) (by omega) (kk _ _ ls H locs ⟨⟨z1, ad1, mm_X_kept hX1 (fun a9 e9 he => hF2 a9 0 e9 (by decide) he), hx1⟩, ⟨_, rd, hM2, rfl⟩, ⟨g1, hF2 o 2 _ (by decide) hw1⟩, ⟨gd, hF2 d 2 _ (by decide) hd1⟩, hod, hW2⟩ hN (lv_sub hl [2, 3, 4, 5, 6, 7] rfl))
        ·
          refine lv_aload_n (pc := 1277) F.1 F.2.1 dL_law_1277 rfl (lv_at hl 4 rfl) ?_
          refine lv_iconst (pc := 1278) (v := nI 0) F.1 F.2.1 dL_law_1278 (by decide) ?_
          refine mm_lald (pc := 1279) F hN (hF2 o 2 _ (by decide) hw1) (j := 0) rfl (by decide) (by decide) dL_law_1279 ?_
          refine lv_iload (pc := 1280) F.1 F.2.1 dL_law_1280 (lv_at hl 0 rfl) ?_
          refine lv_i2l (pc := 1282) (v := (i9).toInt64) F.1 F.2.1 dL_law_1282 (rfl) ?_
          refine W.eq (g2 := F0 m 1283 ls [.long ((nI (T.nR)).toInt64), .long ((nI (T.nR)).toInt64)]) (by rw [hg1 cz1274, hi9 cz1274]) ?_
          refine mm_lcmpE (pc := 1283) F.1 F.2.1 dL_law_1283 ?_
          refine mm_if_eq (pc := 1284) F (tgt := 1289) (by omega) dL_law_1284 (by decide) (fun cz1284 => ?_) (fun h9 => absurd h9 (by decide))
          refine lv_goto (pc := 1289) (tgt := 2217) F.1 F.2.1 dL_law_1289 (by decide) ?_
          exact W.widen (by omega) (by omega) (kk _ _ ls H locs ⟨⟨z1, ad1, mm_X_kept hX1 (fun a9 e9 he => hF2 a9 0 e9 (by decide) he), hx1⟩, ⟨_, rd, hM2, rfl⟩, ⟨g1, hF2 o 2 _ (by decide) hw1⟩, ⟨gd, hF2 d 2 _ (by decide) hd1⟩, hod, hW2⟩ hN (lv_sub hl [2, 3, 4, 5, 6, 7] rfl))
      ·
        exact absurd rfl cz1267
    ·
      exact absurd h0 cz1248
  ·
    exact absurd h0 cz1221

set_option maxHeartbeats 4000000 in
set_option maxRecDepth 100000 in
theorem law_18f {p : Program} {l : Launch} {e : Env} {s : State} {m : MethodId} {args : Array Value} {below : List Frame} {meth : Method} {c : Code} {H : Heap} {locs : List Loc} {cells slots : Nat} {Q : State → Prop} {b : Nat} {D : mm_D} {σ : mm_S} {T : mm_T} {x0 m0 o d sb L i : Nat} {ns : Nat → Nat} {ls : Array Slot}
    (F : mm_F p l s m args meth c b D RL cL_law 9) (hXs : va_X sb L (fun j => nI (ns j)) s s.heap) (hbl : sb < s.heap.size) (hbb : sb < b) (hL : L ≤ 2560) (hns : ∀ j, ns j < 2 ^ 32) (hi : i + 5 ≤ L) (hN : mm_N b D s σ H locs) (hV : mm_V σ T x0 m0 o d) (hl : lv_has ls 9 (mm_lc i d o m0 x0 sb)) (hc : cells + 103 ≤ 603072) (hs : slots + 9037 ≤ 7215210)
    (kk : ∀ (T2 : mm_T) (σ2 : mm_S) (ls : Array Slot) (H : Heap) (locs : List Loc), mm_V σ2 T2 x0 m0 o d → mm_N b D s σ2 H locs → lv_has ls 9 (mm_lc i d o m0 x0 sb) → W p l e room_1 s m args below meth c H locs (cells + 103) (slots + 9037) Q (F0 m 2217 ls [])) (h0 : ns (i + 2) = 0)
    : W p l e room_1 s m args below meth c H locs cells slots Q (F0 m 1292 ls []) := by
  obtain ⟨⟨z, ad, hX, rfl⟩, ⟨th, rd, hM, rfl⟩, ⟨go, ho⟩, ⟨gd, hd⟩, hod, hW⟩ := hV
  have hl : lv_has ls 9 [(5, .int (nI i)), (4, .ref d), (3, .ref o), (2, .ref ((rd 0 0))), (1, .ref ((ad 0 0 0))), (0, .ref sb)] := hl
  have hz9 := hns (i + 2)
  refine lv_aload_n (pc := 1292) F.1 F.2.1 dL_law_1292 rfl (lv_at hl 4 rfl) ?_
  refine lv_aload_n (pc := 1293) F.1 F.2.1 dL_law_1293 rfl (lv_at hl 5 rfl) ?_
  refine lv_iload (pc := 1294) F.1 F.2.1 dL_law_1294 (lv_at hl 0 rfl) ?_
  refine lv_iconst (pc := 1296) (v := nI 1) F.1 F.2.1 dL_law_1296 (by decide) ?_
  refine mm_iadd (pc := 1297) F (z := nI (i + 1)) (nI_add _ _) dL_law_1297 ?_
  refine mm_sld (pc := 1298) F hN hXs hbl hbb (j := i + 1) rfl (by omega) hL dL_law_1298 ?_
  refine lv_aload_n (pc := 1299) F.1 F.2.1 dL_law_1299 rfl (lv_at hl 5 rfl) ?_
  refine lv_iload (pc := 1300) F.1 F.2.1 dL_law_1300 (lv_at hl 0 rfl) ?_
  refine lv_iconst (pc := 1302) (v := nI 2) F.1 F.2.1 dL_law_1302 (by decide) ?_
  refine mm_iadd (pc := 1303) F (z := nI (i + 2)) (nI_add _ _) dL_law_1303 ?_
  refine mm_sld (pc := 1304) F hN hXs hbl hbb (j := i + 2) rfl (by omega) hL dL_law_1304 ?_
  refine mm_if_eqB (pc := 1305) F (tgt := 1312) (by omega) dL_law_1305 (by decide) (fun cz1305 => ?_) (fun cz1305 => ?_)
  ·
    refine lv_iconst (pc := 1312) (v := nI 0) F.1 F.2.1 dL_law_1312 (by decide) ?_
    refine lv_aload_n (pc := 1313) F.1 F.2.1 dL_law_1313 rfl (lv_at hl 5 rfl) ?_
    refine lv_iload (pc := 1314) F.1 F.2.1 dL_law_1314 (lv_at hl 0 rfl) ?_
    refine lv_iconst (pc := 1316) (v := nI 3) F.1 F.2.1 dL_law_1316 (by decide) ?_
    refine mm_iadd (pc := 1317) F (z := nI (i + 3)) (nI_add _ _) dL_law_1317 ?_
    refine mm_sld (pc := 1318) F hN hXs hbl hbb (j := i + 3) rfl (by omega) hL dL_law_1318 ?_
    refine lv_aload_n (pc := 1319) F.1 F.2.1 dL_law_1319 rfl (lv_at hl 2 rfl) ?_
    refine mm_runSX (pc := 1320) (As := [.ref ((ad 0 0 0)), .int (nI (ns (i + 1))), .int (nI 0), .int (nI (ns (i + 3))), .ref o]) (rest := []) F hN (w_preview l b D F.2.2.2.2.2.2.2.1 T z ad σ hX hW (ns (i + 1)) (hns _) 0 (by decide) (ns (i + 3)) (hns _) o go ho) mw_988 mw_989 mw_0 mw_990 ⟨pmL_preview, (Nat.le_of_ble_eq_true rfl), (Nat.le_of_ble_eq_true rfl)⟩ hl.1 rfl (Nat.le_of_ble_eq_true rfl) ⟨by show cells + 6 ≤ 603072; omega, by show slots + 40 ≤ 7215210; omega⟩ dL_law_1320
      (fun _ _ _ _ _ _ h9 => False.elim h9) (fun v9 σ1 H locs hp9 hN => ?_)
    obtain ⟨rfl, z1, ad1, g1, hX1, hx1, hw1, hg1, hfr1⟩ := hp9
    refine W.eq (g2 := F0 m 1323 ls [.int (nI (mm_q_preview T (ns (i + 1)) 0 (ns (i + 3))))]) rfl ?_
    refine W.widen (k := cells + 6) (n := slots + 40) (Nat.le_refl _) (Nat.le_refl _) ?_
    have hM1 : mm_M σ1 T th rd := mm_M_kept1 hM (fun a9 e9 he => hfr1 a9 1 e9 (by decide) (fun q9 => by rw [q9, ho] at he; cases he) he)
    have hd1 : σ1 d = mm_ard 2 2 1 gd := hfr1 d 2 _ (by decide) (Ne.symm hod) hd
    have hq4 : mm_q_preview T (ns (i + 1)) 0 (ns (i + 3)) < 4 := mm_q_preview_lt
    have hW2 : mm_WF (if mm_q_preview T (ns (i + 1)) 0 (ns (i + 3)) = 0 then (T) else T) := by split <;> exact hW
    refine lv_istore (pc := 1323) (lv' := [(6, .int (nI (mm_q_preview T (ns (i + 1)) 0 (ns (i + 3))))), (5, .int (nI i)), (4, .ref d), (3, .ref o), (2, .ref ((rd 0 0))), (1, .ref ((ad 0 0 0))), (0, .ref sb)]) F.1 F.2.1 dL_law_1323 hl (by decide) rfl (fun ls hl => ?_)
    refine lv_aload_n (pc := 1325) F.1 F.2.1 dL_law_1325 rfl (lv_at hl 4 rfl) ?_
    refine lv_aload_n (pc := 1326) F.1 F.2.1 dL_law_1326 rfl (lv_at hl 6 rfl) ?_
    refine lv_iload (pc := 1327) F.1 F.2.1 dL_law_1327 (lv_at hl 1 rfl) ?_
    refine lv_iconst (pc := 1329) (v := nI 1) F.1 F.2.1 dL_law_1329 (by decide) ?_
    refine mm_iadd (pc := 1330) F (z := nI (i + 1)) (nI_add _ _) dL_law_1330 ?_
    refine mm_sld (pc := 1331) F hN hXs hbl hbb (j := i + 1) rfl (by omega) hL dL_law_1331 ?_
    refine lv_aload_n (pc := 1332) F.1 F.2.1 dL_law_1332 rfl (lv_at hl 6 rfl) ?_
    refine lv_iload (pc := 1333) F.1 F.2.1 dL_law_1333 (lv_at hl 1 rfl) ?_
    refine lv_iconst (pc := 1335) (v := nI 2) F.1 F.2.1 dL_law_1335 (by decide) ?_
    refine mm_iadd (pc := 1336) F (z := nI (i + 2)) (nI_add _ _) dL_law_1336 ?_
    refine mm_sld (pc := 1337) F hN hXs hbl hbb (j := i + 2) rfl (by omega) hL dL_law_1337 ?_
    refine mm_if_eqB (pc := 1338) F (tgt := 1345) (by omega) dL_law_1338 (by decide) (fun cz1338 => ?_) (fun cz1338 => ?_)
    ·
      refine lv_iconst (pc := 1345) (v := nI 0) F.1 F.2.1 dL_law_1345 (by decide) ?_
      refine lv_aload_n (pc := 1346) F.1 F.2.1 dL_law_1346 rfl (lv_at hl 6 rfl) ?_
      refine lv_iload (pc := 1347) F.1 F.2.1 dL_law_1347 (lv_at hl 1 rfl) ?_
      refine lv_iconst (pc := 1349) (v := nI 3) F.1 F.2.1 dL_law_1349 (by decide) ?_
      refine mm_iadd (pc := 1350) F (z := nI (i + 3)) (nI_add _ _) dL_law_1350 ?_
      refine mm_sld (pc := 1351) F hN hXs hbl hbb (j := i + 3) rfl (by omega) hL dL_law_1351 ?_
      refine mm_runV (pc := 1352) (As := [.int (nI (ns (i + 1))), .int (nI 0), .int (nI (ns (i + 3)))]) (rest := []) F hN (r_preview l b D F.2.2.2.2.2.2.2.1 T th rd σ1 hM1 hW (ns (i + 1)) (hns _) 0 (by decide) (ns (i + 3)) (hns _)) mw_1374 mw_1375 mw_1376 mw_6 mw_1377 ⟨pmX7_preview, (Nat.le_of_ble_eq_true rfl), (Nat.le_of_ble_eq_true rfl)⟩ (mm_recv F.2.2.2.2.2.1 hN (mm_r0 hM1) rfl) hl.1 rfl (Nat.le_of_ble_eq_true rfl) ⟨by show (cells + 6) + 2 ≤ 603072; omega, by show (slots + 40) + 27 ≤ 7215210; omega⟩ dL_law_1352
        (fun _ _ _ _ _ _ h9 => False.elim h9)
        (fun v9 σ2 H locs hp9 hN => ?_)
      obtain ⟨i9, rfl, hi9, hM2, hF2⟩ := mm_Mu.outI hp9
      obtain hq9 := hp9
      refine W.eq (g2 := F0 m 1355 ls [.int i9]) rfl ?_
      refine W.widen (k := cells + 6 + 2) (n := slots + 40 + 27) (Nat.le_refl _) (Nat.le_refl _) ?_
      refine lv_istore (pc := 1355) (lv' := [(7, .int i9), (6, .int (nI (mm_q_preview T (ns (i + 1)) 0 (ns (i + 3))))), (5, .int (nI i)), (4, .ref d), (3, .ref o), (2, .ref ((rd 0 0))), (1, .ref ((ad 0 0 0))), (0, .ref sb)]) F.1 F.2.1 dL_law_1355 hl (by decide) rfl (fun ls hl => ?_)
      refine lv_aload_n (pc := 1357) F.1 F.2.1 dL_law_1357 rfl (lv_at hl 5 rfl) ?_
      refine mm_runV (pc := 1358) (As := []) (rest := []) F hN (r_thrown l b D F.2.2.2.2.2.2.2.1 (if mm_q_preview T (ns (i + 1)) 0 (ns (i + 3)) = 0 then (T) else T) (mm_q_preview T (ns (i + 1)) 0 (ns (i + 3))) rd σ2 hM2 hW2) mw_1260 mw_1261 mw_1262 mw_6 mw_1263 ⟨pmX7_thrown, (Nat.le_of_ble_eq_true rfl), (Nat.le_of_ble_eq_true rfl)⟩ (mm_recv F.2.2.2.2.2.1 hN (mm_r0 hM2) rfl) hl.1 rfl (Nat.le_of_ble_eq_true rfl) ⟨by show (cells + 6 + 2) + 0 ≤ 603072; omega, by show (slots + 40 + 27) + 0 ≤ 7215210; omega⟩ dL_law_1358
        (fun _ _ _ _ _ _ h9 => False.elim h9)
        (fun v9 σ9 H locs hp9 hN => ?_)
      obtain ⟨rfl, h9⟩ := hp9
      rw [h9] at hN
      refine W.eq (g2 := F0 m 1361 ls [.int (nI (mm_q_preview T (ns (i + 1)) 0 (ns (i + 3))))]) rfl ?_
      refine W.widen (k := cells + 6 + 2) (n := slots + 40 + 27) (Nat.le_refl _) (Nat.le_refl _) ?_
      refine lv_iload (pc := 1361) F.1 F.2.1 dL_law_1361 (lv_at hl 1 rfl) ?_
      refine mm_icmp_eqB (pc := 1363) F (x := mm_q_preview T (ns (i + 1)) 0 (ns (i + 3))) (y := mm_q_preview T (ns (i + 1)) 0 (ns (i + 3))) (tgt := 1368) (by omega) (by omega) dL_law_1363 (by decide) (fun cz1363 => ?_) (fun cz1363 => ?_)
      ·
        refine lv_iload (pc := 1368) F.1 F.2.1 dL_law_1368 (lv_at hl 1 rfl) ?_
        refine mm_if_neB (pc := 1370) F (tgt := 1385) (by omega) dL_law_1370 (by decide) (fun cz1370 => ?_) (fun cz1370 => ?_)
        ·
          refine lv_goto (pc := 1385) (tgt := 2217) F.1 F.2.1 dL_law_1385 (by decide) ?_
          exact W.widen (by omega) (by omega) (kk _ _ ls H locs ⟨⟨z1, ad1, mm_X_kept hX1 (fun a9 e9 he => hF2 a9 0 e9 (by decide) he), hx1⟩, ⟨_, rd, hM2, rfl⟩, ⟨g1, hF2 o 2 _ (by decide) hw1⟩, ⟨gd, hF2 d 2 _ (by decide) hd1⟩, hod, hW2⟩ hN (lv_sub hl [2, 3, 4, 5, 6, 7] rfl))
        ·
          refine lv_aload_n (pc := 1373) F.1 F.2.1 dL_law_1373 rfl (lv_at hl 4 rfl) ?_
          refine lv_iconst (pc := 1374) (v := nI 0) F.1 F.2.1 dL_law_1374 (by decide) ?_
          refine mm_lald (pc := 1375) F hN (hF2 o 2 _ (by decide) hw1) (j := 0) rfl (by decide) (by decide) dL_law_1375 ?_
          refine lv_iload (pc := 1376) F.1 F.2.1 dL_law_1376 (lv_at hl 0 rfl) ?_
          refine lv_i2l (pc := 1378) (v := (i9).toInt64) F.1 F.2.1 dL_law_1378 (rfl) ?_
          refine W.eq (g2 := F0 m 1379 ls [.long ((nI (mm_oc T (ns (i + 1)) 0 (ns (i + 3)))).toInt64), .long ((nI (mm_oc T (ns (i + 1)) 0 (ns (i + 3)))).toInt64)]) (by rw [hg1 cz1370, hi9 cz1370]) ?_
          refine mm_lcmpE (pc := 1379) F.1 F.2.1 dL_law_1379 ?_
          refine mm_if_eq (pc := 1380) F (tgt := 1385) (by omega) dL_law_1380 (by decide) (fun cz1380 => ?_) (fun h9 => absurd h9 (by decide))
          refine lv_goto (pc := 1385) (tgt := 2217) F.1 F.2.1 dL_law_1385 (by decide) ?_
          exact W.widen (by omega) (by omega) (kk _ _ ls H locs ⟨⟨z1, ad1, mm_X_kept hX1 (fun a9 e9 he => hF2 a9 0 e9 (by decide) he), hx1⟩, ⟨_, rd, hM2, rfl⟩, ⟨g1, hF2 o 2 _ (by decide) hw1⟩, ⟨gd, hF2 d 2 _ (by decide) hd1⟩, hod, hW2⟩ hN (lv_sub hl [2, 3, 4, 5, 6, 7] rfl))
      ·
        exact absurd rfl cz1363
    ·
      exact absurd h0 cz1338
  ·
    exact absurd h0 cz1305

set_option maxHeartbeats 4000000 in
set_option maxRecDepth 100000 in
theorem law_19f {p : Program} {l : Launch} {e : Env} {s : State} {m : MethodId} {args : Array Value} {below : List Frame} {meth : Method} {c : Code} {H : Heap} {locs : List Loc} {cells slots : Nat} {Q : State → Prop} {b : Nat} {D : mm_D} {σ : mm_S} {T : mm_T} {x0 m0 o d sb L i : Nat} {ns : Nat → Nat} {ls : Array Slot}
    (F : mm_F p l s m args meth c b D RL cL_law 9) (hXs : va_X sb L (fun j => nI (ns j)) s s.heap) (hbl : sb < s.heap.size) (hbb : sb < b) (hL : L ≤ 2560) (hns : ∀ j, ns j < 2 ^ 32) (hi : i + 5 ≤ L) (hN : mm_N b D s σ H locs) (hV : mm_V σ T x0 m0 o d) (hl : lv_has ls 9 (mm_lc i d o m0 x0 sb)) (hc : cells + 103 ≤ 603072) (hs : slots + 9037 ≤ 7215210)
    (kk : ∀ (T2 : mm_T) (σ2 : mm_S) (ls : Array Slot) (H : Heap) (locs : List Loc), mm_V σ2 T2 x0 m0 o d → mm_N b D s σ2 H locs → lv_has ls 9 (mm_lc i d o m0 x0 sb) → W p l e room_1 s m args below meth c H locs (cells + 103) (slots + 9037) Q (F0 m 2217 ls [])) (h0 : ns (i + 2) = 0)
    : W p l e room_1 s m args below meth c H locs cells slots Q (F0 m 1388 ls []) := by
  obtain ⟨⟨z, ad, hX, rfl⟩, ⟨th, rd, hM, rfl⟩, ⟨go, ho⟩, ⟨gd, hd⟩, hod, hW⟩ := hV
  have hl : lv_has ls 9 [(5, .int (nI i)), (4, .ref d), (3, .ref o), (2, .ref ((rd 0 0))), (1, .ref ((ad 0 0 0))), (0, .ref sb)] := hl
  have hz9 := hns (i + 2)
  refine lv_aload_n (pc := 1388) F.1 F.2.1 dL_law_1388 rfl (lv_at hl 4 rfl) ?_
  refine lv_aload_n (pc := 1389) F.1 F.2.1 dL_law_1389 rfl (lv_at hl 5 rfl) ?_
  refine lv_iload (pc := 1390) F.1 F.2.1 dL_law_1390 (lv_at hl 0 rfl) ?_
  refine lv_iconst (pc := 1392) (v := nI 1) F.1 F.2.1 dL_law_1392 (by decide) ?_
  refine mm_iadd (pc := 1393) F (z := nI (i + 1)) (nI_add _ _) dL_law_1393 ?_
  refine mm_sld (pc := 1394) F hN hXs hbl hbb (j := i + 1) rfl (by omega) hL dL_law_1394 ?_
  refine lv_aload_n (pc := 1395) F.1 F.2.1 dL_law_1395 rfl (lv_at hl 5 rfl) ?_
  refine lv_iload (pc := 1396) F.1 F.2.1 dL_law_1396 (lv_at hl 0 rfl) ?_
  refine lv_iconst (pc := 1398) (v := nI 2) F.1 F.2.1 dL_law_1398 (by decide) ?_
  refine mm_iadd (pc := 1399) F (z := nI (i + 2)) (nI_add _ _) dL_law_1399 ?_
  refine mm_sld (pc := 1400) F hN hXs hbl hbb (j := i + 2) rfl (by omega) hL dL_law_1400 ?_
  refine mm_if_eqB (pc := 1401) F (tgt := 1408) (by omega) dL_law_1401 (by decide) (fun cz1401 => ?_) (fun cz1401 => ?_)
  ·
    refine lv_iconst (pc := 1408) (v := nI 0) F.1 F.2.1 dL_law_1408 (by decide) ?_
    refine lv_aload_n (pc := 1409) F.1 F.2.1 dL_law_1409 rfl (lv_at hl 5 rfl) ?_
    refine lv_iload (pc := 1410) F.1 F.2.1 dL_law_1410 (lv_at hl 0 rfl) ?_
    refine lv_iconst (pc := 1412) (v := nI 3) F.1 F.2.1 dL_law_1412 (by decide) ?_
    refine mm_iadd (pc := 1413) F (z := nI (i + 3)) (nI_add _ _) dL_law_1413 ?_
    refine mm_sld (pc := 1414) F hN hXs hbl hbb (j := i + 3) rfl (by omega) hL dL_law_1414 ?_
    refine lv_aload_n (pc := 1415) F.1 F.2.1 dL_law_1415 rfl (lv_at hl 2 rfl) ?_
    refine mm_runSX (pc := 1416) (As := [.ref ((ad 0 0 0)), .int (nI (ns (i + 1))), .int (nI 0), .int (nI (ns (i + 3))), .ref o]) (rest := []) F hN (w_previewAlone l b D F.2.2.2.2.2.2.2.1 T z ad σ hX hW (ns (i + 1)) (hns _) 0 (by decide) (ns (i + 3)) (hns _) o go ho) mw_995 mw_996 mw_0 mw_997 ⟨pmL_previewAlone, (Nat.le_of_ble_eq_true rfl), (Nat.le_of_ble_eq_true rfl)⟩ hl.1 rfl (Nat.le_of_ble_eq_true rfl) ⟨by show cells + 6 ≤ 603072; omega, by show slots + 40 ≤ 7215210; omega⟩ dL_law_1416
      (fun _ _ _ _ _ _ h9 => False.elim h9) (fun v9 σ1 H locs hp9 hN => ?_)
    obtain ⟨rfl, z1, ad1, g1, hX1, hx1, hw1, hg1, hfr1⟩ := hp9
    refine W.eq (g2 := F0 m 1419 ls [.int (nI (mm_q_previewAlone T (ns (i + 1)) 0 (ns (i + 3))))]) rfl ?_
    refine W.widen (k := cells + 6) (n := slots + 40) (Nat.le_refl _) (Nat.le_refl _) ?_
    have hM1 : mm_M σ1 T th rd := mm_M_kept1 hM (fun a9 e9 he => hfr1 a9 1 e9 (by decide) (fun q9 => by rw [q9, ho] at he; cases he) he)
    have hd1 : σ1 d = mm_ard 2 2 1 gd := hfr1 d 2 _ (by decide) (Ne.symm hod) hd
    have hq4 : mm_q_previewAlone T (ns (i + 1)) 0 (ns (i + 3)) < 4 := mm_q_previewAlone_lt
    have hW2 : mm_WF (if mm_q_previewAlone T (ns (i + 1)) 0 (ns (i + 3)) = 0 then (T) else T) := by split <;> exact hW
    refine lv_istore (pc := 1419) (lv' := [(6, .int (nI (mm_q_previewAlone T (ns (i + 1)) 0 (ns (i + 3))))), (5, .int (nI i)), (4, .ref d), (3, .ref o), (2, .ref ((rd 0 0))), (1, .ref ((ad 0 0 0))), (0, .ref sb)]) F.1 F.2.1 dL_law_1419 hl (by decide) rfl (fun ls hl => ?_)
    refine lv_aload_n (pc := 1421) F.1 F.2.1 dL_law_1421 rfl (lv_at hl 4 rfl) ?_
    refine lv_aload_n (pc := 1422) F.1 F.2.1 dL_law_1422 rfl (lv_at hl 6 rfl) ?_
    refine lv_iload (pc := 1423) F.1 F.2.1 dL_law_1423 (lv_at hl 1 rfl) ?_
    refine lv_iconst (pc := 1425) (v := nI 1) F.1 F.2.1 dL_law_1425 (by decide) ?_
    refine mm_iadd (pc := 1426) F (z := nI (i + 1)) (nI_add _ _) dL_law_1426 ?_
    refine mm_sld (pc := 1427) F hN hXs hbl hbb (j := i + 1) rfl (by omega) hL dL_law_1427 ?_
    refine lv_aload_n (pc := 1428) F.1 F.2.1 dL_law_1428 rfl (lv_at hl 6 rfl) ?_
    refine lv_iload (pc := 1429) F.1 F.2.1 dL_law_1429 (lv_at hl 1 rfl) ?_
    refine lv_iconst (pc := 1431) (v := nI 2) F.1 F.2.1 dL_law_1431 (by decide) ?_
    refine mm_iadd (pc := 1432) F (z := nI (i + 2)) (nI_add _ _) dL_law_1432 ?_
    refine mm_sld (pc := 1433) F hN hXs hbl hbb (j := i + 2) rfl (by omega) hL dL_law_1433 ?_
    refine mm_if_eqB (pc := 1434) F (tgt := 1441) (by omega) dL_law_1434 (by decide) (fun cz1434 => ?_) (fun cz1434 => ?_)
    ·
      refine lv_iconst (pc := 1441) (v := nI 0) F.1 F.2.1 dL_law_1441 (by decide) ?_
      refine lv_aload_n (pc := 1442) F.1 F.2.1 dL_law_1442 rfl (lv_at hl 6 rfl) ?_
      refine lv_iload (pc := 1443) F.1 F.2.1 dL_law_1443 (lv_at hl 1 rfl) ?_
      refine lv_iconst (pc := 1445) (v := nI 3) F.1 F.2.1 dL_law_1445 (by decide) ?_
      refine mm_iadd (pc := 1446) F (z := nI (i + 3)) (nI_add _ _) dL_law_1446 ?_
      refine mm_sld (pc := 1447) F hN hXs hbl hbb (j := i + 3) rfl (by omega) hL dL_law_1447 ?_
      refine mm_runV (pc := 1448) (As := [.int (nI (ns (i + 1))), .int (nI 0), .int (nI (ns (i + 3)))]) (rest := []) F hN (r_previewAlone l b D F.2.2.2.2.2.2.2.1 T th rd σ1 hM1 hW (ns (i + 1)) (hns _) 0 (by decide) (ns (i + 3)) (hns _)) mw_1378 mw_1379 mw_1380 mw_6 mw_1381 ⟨pmX7_previewAlone, (Nat.le_of_ble_eq_true rfl), (Nat.le_of_ble_eq_true rfl)⟩ (mm_recv F.2.2.2.2.2.1 hN (mm_r0 hM1) rfl) hl.1 rfl (Nat.le_of_ble_eq_true rfl) ⟨by show (cells + 6) + 2 ≤ 603072; omega, by show (slots + 40) + 27 ≤ 7215210; omega⟩ dL_law_1448
        (fun _ _ _ _ _ _ h9 => False.elim h9)
        (fun v9 σ2 H locs hp9 hN => ?_)
      obtain ⟨i9, rfl, hi9, hM2, hF2⟩ := mm_Mu.outI hp9
      obtain hq9 := hp9
      refine W.eq (g2 := F0 m 1451 ls [.int i9]) rfl ?_
      refine W.widen (k := cells + 6 + 2) (n := slots + 40 + 27) (Nat.le_refl _) (Nat.le_refl _) ?_
      refine lv_istore (pc := 1451) (lv' := [(7, .int i9), (6, .int (nI (mm_q_previewAlone T (ns (i + 1)) 0 (ns (i + 3))))), (5, .int (nI i)), (4, .ref d), (3, .ref o), (2, .ref ((rd 0 0))), (1, .ref ((ad 0 0 0))), (0, .ref sb)]) F.1 F.2.1 dL_law_1451 hl (by decide) rfl (fun ls hl => ?_)
      refine lv_aload_n (pc := 1453) F.1 F.2.1 dL_law_1453 rfl (lv_at hl 5 rfl) ?_
      refine mm_runV (pc := 1454) (As := []) (rest := []) F hN (r_thrown l b D F.2.2.2.2.2.2.2.1 (if mm_q_previewAlone T (ns (i + 1)) 0 (ns (i + 3)) = 0 then (T) else T) (mm_q_previewAlone T (ns (i + 1)) 0 (ns (i + 3))) rd σ2 hM2 hW2) mw_1260 mw_1261 mw_1262 mw_6 mw_1263 ⟨pmX7_thrown, (Nat.le_of_ble_eq_true rfl), (Nat.le_of_ble_eq_true rfl)⟩ (mm_recv F.2.2.2.2.2.1 hN (mm_r0 hM2) rfl) hl.1 rfl (Nat.le_of_ble_eq_true rfl) ⟨by show (cells + 6 + 2) + 0 ≤ 603072; omega, by show (slots + 40 + 27) + 0 ≤ 7215210; omega⟩ dL_law_1454
        (fun _ _ _ _ _ _ h9 => False.elim h9)
        (fun v9 σ9 H locs hp9 hN => ?_)
      obtain ⟨rfl, h9⟩ := hp9
      rw [h9] at hN
      refine W.eq (g2 := F0 m 1457 ls [.int (nI (mm_q_previewAlone T (ns (i + 1)) 0 (ns (i + 3))))]) rfl ?_
      refine W.widen (k := cells + 6 + 2) (n := slots + 40 + 27) (Nat.le_refl _) (Nat.le_refl _) ?_
      refine lv_iload (pc := 1457) F.1 F.2.1 dL_law_1457 (lv_at hl 1 rfl) ?_
      refine mm_icmp_eqB (pc := 1459) F (x := mm_q_previewAlone T (ns (i + 1)) 0 (ns (i + 3))) (y := mm_q_previewAlone T (ns (i + 1)) 0 (ns (i + 3))) (tgt := 1464) (by omega) (by omega) dL_law_1459 (by decide) (fun cz1459 => ?_) (fun cz1459 => ?_)
      ·
        refine lv_iload (pc := 1464) F.1 F.2.1 dL_law_1464 (lv_at hl 1 rfl) ?_
        refine mm_if_neB (pc := 1466) F (tgt := 1481) (by omega) dL_law_1466 (by decide) (fun cz1466 => ?_) (fun cz1466 => ?_)
        ·
          refine lv_goto (pc := 1481) (tgt := 2217) F.1 F.2.1 dL_law_1481 (by decide) ?_
          exact W.widen (by omega) (by omega) (kk _ _ ls H locs ⟨⟨z1, ad1, mm_X_kept hX1 (fun a9 e9 he => hF2 a9 0 e9 (by decide) he), hx1⟩, ⟨_, rd, hM2, rfl⟩, ⟨g1, hF2 o 2 _ (by decide) hw1⟩, ⟨gd, hF2 d 2 _ (by decide) hd1⟩, hod, hW2⟩ hN (lv_sub hl [2, 3, 4, 5, 6, 7] rfl))
        ·
          refine lv_aload_n (pc := 1469) F.1 F.2.1 dL_law_1469 rfl (lv_at hl 4 rfl) ?_
          refine lv_iconst (pc := 1470) (v := nI 0) F.1 F.2.1 dL_law_1470 (by decide) ?_
          refine mm_lald (pc := 1471) F hN (hF2 o 2 _ (by decide) hw1) (j := 0) rfl (by decide) (by decide) dL_law_1471 ?_
          refine lv_iload (pc := 1472) F.1 F.2.1 dL_law_1472 (lv_at hl 0 rfl) ?_
          refine lv_i2l (pc := 1474) (v := (i9).toInt64) F.1 F.2.1 dL_law_1474 (rfl) ?_
          refine W.eq (g2 := F0 m 1475 ls [.long ((nI (mm_oc T (ns (i + 1)) 0 (ns (i + 3)))).toInt64), .long ((nI (mm_oc T (ns (i + 1)) 0 (ns (i + 3)))).toInt64)]) (by rw [hg1 cz1466, hi9 cz1466]) ?_
          refine mm_lcmpE (pc := 1475) F.1 F.2.1 dL_law_1475 ?_
          refine mm_if_eq (pc := 1476) F (tgt := 1481) (by omega) dL_law_1476 (by decide) (fun cz1476 => ?_) (fun h9 => absurd h9 (by decide))
          refine lv_goto (pc := 1481) (tgt := 2217) F.1 F.2.1 dL_law_1481 (by decide) ?_
          exact W.widen (by omega) (by omega) (kk _ _ ls H locs ⟨⟨z1, ad1, mm_X_kept hX1 (fun a9 e9 he => hF2 a9 0 e9 (by decide) he), hx1⟩, ⟨_, rd, hM2, rfl⟩, ⟨g1, hF2 o 2 _ (by decide) hw1⟩, ⟨gd, hF2 d 2 _ (by decide) hd1⟩, hod, hW2⟩ hN (lv_sub hl [2, 3, 4, 5, 6, 7] rfl))
      ·
        exact absurd rfl cz1459
    ·
      exact absurd h0 cz1434
  ·
    exact absurd h0 cz1401

set_option maxHeartbeats 4000000 in
set_option maxRecDepth 100000 in
theorem law_14t {p : Program} {l : Launch} {e : Env} {s : State} {m : MethodId} {args : Array Value} {below : List Frame} {meth : Method} {c : Code} {H : Heap} {locs : List Loc} {cells slots : Nat} {Q : State → Prop} {b : Nat} {D : mm_D} {σ : mm_S} {T : mm_T} {x0 m0 o d sb L i : Nat} {ns : Nat → Nat} {ls : Array Slot}
    (F : mm_F p l s m args meth c b D RL cL_law 9) (hXs : va_X sb L (fun j => nI (ns j)) s s.heap) (hbl : sb < s.heap.size) (hbb : sb < b) (hL : L ≤ 2560) (hns : ∀ j, ns j < 2 ^ 32) (hi : i + 5 ≤ L) (hN : mm_N b D s σ H locs) (hV : mm_V σ T x0 m0 o d) (hl : lv_has ls 9 (mm_lc i d o m0 x0 sb)) (hc : cells + 103 ≤ 603072) (hs : slots + 9037 ≤ 7215210)
    (kk : ∀ (T2 : mm_T) (σ2 : mm_S) (ls : Array Slot) (H : Heap) (locs : List Loc), mm_V σ2 T2 x0 m0 o d → mm_N b D s σ2 H locs → lv_has ls 9 (mm_lc i d o m0 x0 sb) → W p l e room_1 s m args below meth c H locs (cells + 103) (slots + 9037) Q (F0 m 2217 ls [])) (h0 : ¬ ns (i + 1) = 0)
    : W p l e room_1 s m args below meth c H locs cells slots Q (F0 m 1070 ls []) := by
  obtain ⟨⟨z, ad, hX, rfl⟩, ⟨th, rd, hM, rfl⟩, ⟨go, ho⟩, ⟨gd, hd⟩, hod, hW⟩ := hV
  have hl : lv_has ls 9 [(5, .int (nI i)), (4, .ref d), (3, .ref o), (2, .ref ((rd 0 0))), (1, .ref ((ad 0 0 0))), (0, .ref sb)] := hl
  have hz9 := hns (i + 1)
  refine lv_aload_n (pc := 1070) F.1 F.2.1 dL_law_1070 rfl (lv_at hl 4 rfl) ?_
  refine lv_aload_n (pc := 1071) F.1 F.2.1 dL_law_1071 rfl (lv_at hl 5 rfl) ?_
  refine lv_iload (pc := 1072) F.1 F.2.1 dL_law_1072 (lv_at hl 0 rfl) ?_
  refine lv_iconst (pc := 1074) (v := nI 1) F.1 F.2.1 dL_law_1074 (by decide) ?_
  refine mm_iadd (pc := 1075) F (z := nI (i + 1)) (nI_add _ _) dL_law_1075 ?_
  refine mm_sld (pc := 1076) F hN hXs hbl hbb (j := i + 1) rfl (by omega) hL dL_law_1076 ?_
  refine mm_if_eqB (pc := 1077) F (tgt := 1084) (by omega) dL_law_1077 (by decide) (fun cz1077 => ?_) (fun cz1077 => ?_)
  ·
    exact absurd cz1077 h0
  ·
    refine lv_iconst (pc := 1080) (v := nI 1) F.1 F.2.1 dL_law_1080 (by decide) ?_
    refine lv_goto (pc := 1081) (tgt := 1085) F.1 F.2.1 dL_law_1081 (by decide) ?_
    refine lv_aload_n (pc := 1085) F.1 F.2.1 dL_law_1085 rfl (lv_at hl 5 rfl) ?_
    refine lv_iload (pc := 1086) F.1 F.2.1 dL_law_1086 (lv_at hl 0 rfl) ?_
    refine lv_iconst (pc := 1088) (v := nI 2) F.1 F.2.1 dL_law_1088 (by decide) ?_
    refine mm_iadd (pc := 1089) F (z := nI (i + 2)) (nI_add _ _) dL_law_1089 ?_
    refine mm_sld (pc := 1090) F hN hXs hbl hbb (j := i + 2) rfl (by omega) hL dL_law_1090 ?_
    refine lv_aload_n (pc := 1091) F.1 F.2.1 dL_law_1091 rfl (lv_at hl 2 rfl) ?_
    refine mm_runSX (pc := 1092) (As := [.ref ((ad 0 0 0)), .int (nI 1), .int (nI (ns (i + 2))), .ref o]) (rest := []) F hN (w_buyEnv1 l b D F.2.2.2.2.2.2.2.1 T z ad σ hX hW (ns (i + 2)) (hns _) o go ho) mw_636 mw_637 mw_0 mw_638 ⟨pmL_buyEnvelopes, (Nat.le_of_ble_eq_true rfl), (Nat.le_of_ble_eq_true rfl)⟩ hl.1 rfl (Nat.le_of_ble_eq_true rfl) ⟨by show cells + 6 ≤ 603072; omega, by show slots + 40 ≤ 7215210; omega⟩ dL_law_1092
      (fun _ _ _ _ _ _ h9 => False.elim h9) (fun v9 σ1 H locs hp9 hN => ?_)
    obtain ⟨rfl, z1, ad1, g1, hX1, hx1, hw1, hg1, hfr1⟩ := hp9
    refine W.eq (g2 := F0 m 1095 ls [.int (nI (mm_q_buyEnvelopes T 1 (ns (i + 2))))]) rfl ?_
    refine W.widen (k := cells + 6) (n := slots + 40) (Nat.le_refl _) (Nat.le_refl _) ?_
    have hM1 : mm_M σ1 T th rd := mm_M_kept1 hM (fun a9 e9 he => hfr1 a9 1 e9 (by decide) (fun q9 => by rw [q9, ho] at he; cases he) he)
    have hd1 : σ1 d = mm_ard 2 2 1 gd := hfr1 d 2 _ (by decide) (Ne.symm hod) hd
    have hq4 : mm_q_buyEnvelopes T 1 (ns (i + 2)) < 4 := mm_q_buyEnvelopes_lt
    have hW2 : mm_WF (if mm_q_buyEnvelopes T 1 (ns (i + 2)) = 0 then ((T.w 12 (mm_u2 (T 12) 1 0 (T.en 1 + (ns (i + 2))))).w 0 (mm_u2 (T 0) 8 0 (T 0 8 0 + (ns (i + 2))))) else T) := mm_wf_buyEnv1 hW (ns (i + 2)) (hns _)
    refine lv_istore (pc := 1095) (lv' := [(6, .int (nI (mm_q_buyEnvelopes T 1 (ns (i + 2))))), (5, .int (nI i)), (4, .ref d), (3, .ref o), (2, .ref ((rd 0 0))), (1, .ref ((ad 0 0 0))), (0, .ref sb)]) F.1 F.2.1 dL_law_1095 hl (by decide) rfl (fun ls hl => ?_)
    refine lv_aload_n (pc := 1097) F.1 F.2.1 dL_law_1097 rfl (lv_at hl 4 rfl) ?_
    refine lv_aload_n (pc := 1098) F.1 F.2.1 dL_law_1098 rfl (lv_at hl 6 rfl) ?_
    refine lv_iload (pc := 1099) F.1 F.2.1 dL_law_1099 (lv_at hl 1 rfl) ?_
    refine lv_iconst (pc := 1101) (v := nI 1) F.1 F.2.1 dL_law_1101 (by decide) ?_
    refine mm_iadd (pc := 1102) F (z := nI (i + 1)) (nI_add _ _) dL_law_1102 ?_
    refine mm_sld (pc := 1103) F hN hXs hbl hbb (j := i + 1) rfl (by omega) hL dL_law_1103 ?_
    refine mm_if_eqB (pc := 1104) F (tgt := 1111) (by omega) dL_law_1104 (by decide) (fun cz1104 => ?_) (fun cz1104 => ?_)
    ·
      exact absurd cz1104 h0
    ·
      refine lv_iconst (pc := 1107) (v := nI 1) F.1 F.2.1 dL_law_1107 (by decide) ?_
      refine lv_goto (pc := 1108) (tgt := 1112) F.1 F.2.1 dL_law_1108 (by decide) ?_
      refine lv_aload_n (pc := 1112) F.1 F.2.1 dL_law_1112 rfl (lv_at hl 6 rfl) ?_
      refine lv_iload (pc := 1113) F.1 F.2.1 dL_law_1113 (lv_at hl 1 rfl) ?_
      refine lv_iconst (pc := 1115) (v := nI 2) F.1 F.2.1 dL_law_1115 (by decide) ?_
      refine mm_iadd (pc := 1116) F (z := nI (i + 2)) (nI_add _ _) dL_law_1116 ?_
      refine mm_sld (pc := 1117) F hN hXs hbl hbb (j := i + 2) rfl (by omega) hL dL_law_1117 ?_
      refine mm_runV (pc := 1118) (As := [.int (nI 1), .int (nI (ns (i + 2)))]) (rest := []) F hN (r_buyEnv1 l b D F.2.2.2.2.2.2.2.1 T th rd σ1 hM1 hW (ns (i + 2)) (hns _)) mw_1343 mw_1344 mw_1345 mw_6 mw_1346 ⟨pmX7_buyEnvelopes, (Nat.le_of_ble_eq_true rfl), (Nat.le_of_ble_eq_true rfl)⟩ (mm_recv F.2.2.2.2.2.1 hN (mm_r0 hM1) rfl) hl.1 rfl (Nat.le_of_ble_eq_true rfl) ⟨by show (cells + 6) + 0 ≤ 603072; omega, by show (slots + 40) + 0 ≤ 7215210; omega⟩ dL_law_1118
        (fun _ _ _ _ _ _ h9 => False.elim h9)
        (fun v9 σ2 H locs hp9 hN => ?_)
      obtain ⟨i9, rfl, hi9, hM2, hF2⟩ := mm_Mt.out hp9
      obtain hq9 := hp9
      refine W.eq (g2 := F0 m 1121 ls [.int i9]) rfl ?_
      refine W.widen (k := cells + 6) (n := slots + 40) (Nat.le_refl _) (Nat.le_refl _) ?_
      refine lv_istore (pc := 1121) (lv' := [(7, .int i9), (6, .int (nI (mm_q_buyEnvelopes T 1 (ns (i + 2))))), (5, .int (nI i)), (4, .ref d), (3, .ref o), (2, .ref ((rd 0 0))), (1, .ref ((ad 0 0 0))), (0, .ref sb)]) F.1 F.2.1 dL_law_1121 hl (by decide) rfl (fun ls hl => ?_)
      refine lv_aload_n (pc := 1123) F.1 F.2.1 dL_law_1123 rfl (lv_at hl 5 rfl) ?_
      refine mm_runV (pc := 1124) (As := []) (rest := []) F hN (r_thrown l b D F.2.2.2.2.2.2.2.1 (if mm_q_buyEnvelopes T 1 (ns (i + 2)) = 0 then ((T.w 12 (mm_u2 (T 12) 1 0 (T.en 1 + (ns (i + 2))))).w 0 (mm_u2 (T 0) 8 0 (T 0 8 0 + (ns (i + 2))))) else T) (mm_q_buyEnvelopes T 1 (ns (i + 2))) rd σ2 hM2 hW2) mw_1260 mw_1261 mw_1262 mw_6 mw_1263 ⟨pmX7_thrown, (Nat.le_of_ble_eq_true rfl), (Nat.le_of_ble_eq_true rfl)⟩ (mm_recv F.2.2.2.2.2.1 hN (mm_r0 hM2) rfl) hl.1 rfl (Nat.le_of_ble_eq_true rfl) ⟨by show (cells + 6) + 0 ≤ 603072; omega, by show (slots + 40) + 0 ≤ 7215210; omega⟩ dL_law_1124
        (fun _ _ _ _ _ _ h9 => False.elim h9)
        (fun v9 σ9 H locs hp9 hN => ?_)
      obtain ⟨rfl, h9⟩ := hp9
      rw [h9] at hN
      refine W.eq (g2 := F0 m 1127 ls [.int (nI (mm_q_buyEnvelopes T 1 (ns (i + 2))))]) rfl ?_
      refine W.widen (k := cells + 6) (n := slots + 40) (Nat.le_refl _) (Nat.le_refl _) ?_
      refine lv_iload (pc := 1127) F.1 F.2.1 dL_law_1127 (lv_at hl 1 rfl) ?_
      refine mm_icmp_eqB (pc := 1129) F (x := mm_q_buyEnvelopes T 1 (ns (i + 2))) (y := mm_q_buyEnvelopes T 1 (ns (i + 2))) (tgt := 1134) (by omega) (by omega) dL_law_1129 (by decide) (fun cz1129 => ?_) (fun cz1129 => ?_)
      ·
        refine lv_iload (pc := 1134) F.1 F.2.1 dL_law_1134 (lv_at hl 1 rfl) ?_
        refine mm_if_neB (pc := 1136) F (tgt := 1151) (by omega) dL_law_1136 (by decide) (fun cz1136 => ?_) (fun cz1136 => ?_)
        ·
          refine lv_goto (pc := 1151) (tgt := 2217) F.1 F.2.1 dL_law_1151 (by decide) ?_
          exact W.widen (by omega) (by omega) (kk _ _ ls H locs ⟨⟨z1, ad1, mm_X_kept hX1 (fun a9 e9 he => hF2 a9 0 e9 (by decide) he), hx1⟩, ⟨_, rd, hM2, rfl⟩, ⟨g1, hF2 o 2 _ (by decide) hw1⟩, ⟨gd, hF2 d 2 _ (by decide) hd1⟩, hod, hW2⟩ hN (lv_sub hl [2, 3, 4, 5, 6, 7] rfl))
        ·
          refine lv_aload_n (pc := 1139) F.1 F.2.1 dL_law_1139 rfl (lv_at hl 4 rfl) ?_
          refine lv_iconst (pc := 1140) (v := nI 0) F.1 F.2.1 dL_law_1140 (by decide) ?_
          refine mm_lald (pc := 1141) F hN (hF2 o 2 _ (by decide) hw1) (j := 0) rfl (by decide) (by decide) dL_law_1141 ?_
          refine lv_iload (pc := 1142) F.1 F.2.1 dL_law_1142 (lv_at hl 0 rfl) ?_
          refine lv_i2l (pc := 1144) (v := (i9).toInt64) F.1 F.2.1 dL_law_1144 (rfl) ?_
          refine W.eq (g2 := F0 m 1145 ls [.long ((nI (T.en 1 + (ns (i + 2)))).toInt64), .long ((nI (T.en 1 + (ns (i + 2)))).toInt64)]) (by rw [hg1 cz1136, hi9 cz1136]) ?_
          refine mm_lcmpE (pc := 1145) F.1 F.2.1 dL_law_1145 ?_
          refine mm_if_eq (pc := 1146) F (tgt := 1151) (by omega) dL_law_1146 (by decide) (fun cz1146 => ?_) (fun h9 => absurd h9 (by decide))
          refine lv_goto (pc := 1151) (tgt := 2217) F.1 F.2.1 dL_law_1151 (by decide) ?_
          exact W.widen (by omega) (by omega) (kk _ _ ls H locs ⟨⟨z1, ad1, mm_X_kept hX1 (fun a9 e9 he => hF2 a9 0 e9 (by decide) he), hx1⟩, ⟨_, rd, hM2, rfl⟩, ⟨g1, hF2 o 2 _ (by decide) hw1⟩, ⟨gd, hF2 d 2 _ (by decide) hd1⟩, hod, hW2⟩ hN (lv_sub hl [2, 3, 4, 5, 6, 7] rfl))
      ·
        exact absurd rfl cz1129

set_option maxHeartbeats 4000000 in
set_option maxRecDepth 100000 in
theorem law_17t {p : Program} {l : Launch} {e : Env} {s : State} {m : MethodId} {args : Array Value} {below : List Frame} {meth : Method} {c : Code} {H : Heap} {locs : List Loc} {cells slots : Nat} {Q : State → Prop} {b : Nat} {D : mm_D} {σ : mm_S} {T : mm_T} {x0 m0 o d sb L i : Nat} {ns : Nat → Nat} {ls : Array Slot}
    (F : mm_F p l s m args meth c b D RL cL_law 9) (hXs : va_X sb L (fun j => nI (ns j)) s s.heap) (hbl : sb < s.heap.size) (hbb : sb < b) (hL : L ≤ 2560) (hns : ∀ j, ns j < 2 ^ 32) (hi : i + 5 ≤ L) (hN : mm_N b D s σ H locs) (hV : mm_V σ T x0 m0 o d) (hl : lv_has ls 9 (mm_lc i d o m0 x0 sb)) (hc : cells + 103 ≤ 603072) (hs : slots + 9037 ≤ 7215210)
    (kk : ∀ (T2 : mm_T) (σ2 : mm_S) (ls : Array Slot) (H : Heap) (locs : List Loc), mm_V σ2 T2 x0 m0 o d → mm_N b D s σ2 H locs → lv_has ls 9 (mm_lc i d o m0 x0 sb) → W p l e room_1 s m args below meth c H locs (cells + 103) (slots + 9037) Q (F0 m 2217 ls [])) (h0 : ¬ ns (i + 2) = 0)
    : W p l e room_1 s m args below meth c H locs cells slots Q (F0 m 1208 ls []) := by
  obtain ⟨⟨z, ad, hX, rfl⟩, ⟨th, rd, hM, rfl⟩, ⟨go, ho⟩, ⟨gd, hd⟩, hod, hW⟩ := hV
  have hl : lv_has ls 9 [(5, .int (nI i)), (4, .ref d), (3, .ref o), (2, .ref ((rd 0 0))), (1, .ref ((ad 0 0 0))), (0, .ref sb)] := hl
  have hz9 := hns (i + 2)
  refine lv_aload_n (pc := 1208) F.1 F.2.1 dL_law_1208 rfl (lv_at hl 4 rfl) ?_
  refine lv_aload_n (pc := 1209) F.1 F.2.1 dL_law_1209 rfl (lv_at hl 5 rfl) ?_
  refine lv_iload (pc := 1210) F.1 F.2.1 dL_law_1210 (lv_at hl 0 rfl) ?_
  refine lv_iconst (pc := 1212) (v := nI 1) F.1 F.2.1 dL_law_1212 (by decide) ?_
  refine mm_iadd (pc := 1213) F (z := nI (i + 1)) (nI_add _ _) dL_law_1213 ?_
  refine mm_sld (pc := 1214) F hN hXs hbl hbb (j := i + 1) rfl (by omega) hL dL_law_1214 ?_
  refine lv_aload_n (pc := 1215) F.1 F.2.1 dL_law_1215 rfl (lv_at hl 5 rfl) ?_
  refine lv_iload (pc := 1216) F.1 F.2.1 dL_law_1216 (lv_at hl 0 rfl) ?_
  refine lv_iconst (pc := 1218) (v := nI 2) F.1 F.2.1 dL_law_1218 (by decide) ?_
  refine mm_iadd (pc := 1219) F (z := nI (i + 2)) (nI_add _ _) dL_law_1219 ?_
  refine mm_sld (pc := 1220) F hN hXs hbl hbb (j := i + 2) rfl (by omega) hL dL_law_1220 ?_
  refine mm_if_eqB (pc := 1221) F (tgt := 1228) (by omega) dL_law_1221 (by decide) (fun cz1221 => ?_) (fun cz1221 => ?_)
  ·
    exact absurd cz1221 h0
  ·
    refine lv_iconst (pc := 1224) (v := nI 1) F.1 F.2.1 dL_law_1224 (by decide) ?_
    refine lv_goto (pc := 1225) (tgt := 1229) F.1 F.2.1 dL_law_1225 (by decide) ?_
    refine lv_aload_n (pc := 1229) F.1 F.2.1 dL_law_1229 rfl (lv_at hl 2 rfl) ?_
    refine mm_runSX (pc := 1230) (As := [.ref ((ad 0 0 0)), .int (nI (ns (i + 1))), .int (nI 1), .ref o]) (rest := []) F hN (w_run l b D F.2.2.2.2.2.2.2.1 T z ad σ hX hW (ns (i + 1)) (hns _) 1 (by decide) o go ho) mw_644 mw_645 mw_0 mw_646 ⟨pmL_run, (Nat.le_of_ble_eq_true rfl), (Nat.le_of_ble_eq_true rfl)⟩ hl.1 rfl (Nat.le_of_ble_eq_true rfl) ⟨by show cells + 100 ≤ 603072; omega, by show slots + 9000 ≤ 7215210; omega⟩ dL_law_1230
      (fun _ _ _ _ _ _ h9 => False.elim h9) (fun v9 σ1 H locs hp9 hN => ?_)
    obtain ⟨rfl, z1, ad1, g1, hX1, hx1, hw1, hg1, hfr1⟩ := hp9
    refine W.eq (g2 := F0 m 1233 ls [.int (nI (mm_q_run T (ns (i + 1)) 1))]) rfl ?_
    refine W.widen (k := cells + 100) (n := slots + 9000) (Nat.le_refl _) (Nat.le_refl _) ?_
    have hM1 : mm_M σ1 T th rd := mm_M_kept1 hM (fun a9 e9 he => hfr1 a9 1 e9 (by decide) (fun q9 => by rw [q9, ho] at he; cases he) he)
    have hd1 : σ1 d = mm_ard 2 2 1 gd := hfr1 d 2 _ (by decide) (Ne.symm hod) hd
    have hq4 : mm_q_run T (ns (i + 1)) 1 < 4 := mm_q_run_lt
    have hW2 : mm_WF (if mm_q_run T (ns (i + 1)) 1 = 0 then (mm_t_run T (ns (i + 1)) 1) else T) := mm_wf_run hW (ns (i + 1)) (hns _) 1 (by decide)
    refine lv_istore (pc := 1233) (lv' := [(6, .int (nI (mm_q_run T (ns (i + 1)) 1))), (5, .int (nI i)), (4, .ref d), (3, .ref o), (2, .ref ((rd 0 0))), (1, .ref ((ad 0 0 0))), (0, .ref sb)]) F.1 F.2.1 dL_law_1233 hl (by decide) rfl (fun ls hl => ?_)
    refine lv_aload_n (pc := 1235) F.1 F.2.1 dL_law_1235 rfl (lv_at hl 4 rfl) ?_
    refine lv_aload_n (pc := 1236) F.1 F.2.1 dL_law_1236 rfl (lv_at hl 6 rfl) ?_
    refine lv_iload (pc := 1237) F.1 F.2.1 dL_law_1237 (lv_at hl 1 rfl) ?_
    refine lv_iconst (pc := 1239) (v := nI 1) F.1 F.2.1 dL_law_1239 (by decide) ?_
    refine mm_iadd (pc := 1240) F (z := nI (i + 1)) (nI_add _ _) dL_law_1240 ?_
    refine mm_sld (pc := 1241) F hN hXs hbl hbb (j := i + 1) rfl (by omega) hL dL_law_1241 ?_
    refine lv_aload_n (pc := 1242) F.1 F.2.1 dL_law_1242 rfl (lv_at hl 6 rfl) ?_
    refine lv_iload (pc := 1243) F.1 F.2.1 dL_law_1243 (lv_at hl 1 rfl) ?_
    refine lv_iconst (pc := 1245) (v := nI 2) F.1 F.2.1 dL_law_1245 (by decide) ?_
    refine mm_iadd (pc := 1246) F (z := nI (i + 2)) (nI_add _ _) dL_law_1246 ?_
    refine mm_sld (pc := 1247) F hN hXs hbl hbb (j := i + 2) rfl (by omega) hL dL_law_1247 ?_
    refine mm_if_eqB (pc := 1248) F (tgt := 1255) (by omega) dL_law_1248 (by decide) (fun cz1248 => ?_) (fun cz1248 => ?_)
    ·
      exact absurd cz1248 h0
    ·
      refine lv_iconst (pc := 1251) (v := nI 1) F.1 F.2.1 dL_law_1251 (by decide) ?_
      refine lv_goto (pc := 1252) (tgt := 1256) F.1 F.2.1 dL_law_1252 (by decide) ?_
      refine mm_runV (pc := 1256) (As := [.int (nI (ns (i + 1))), .int (nI 1)]) (rest := []) F hN (r_run l b D F.2.2.2.2.2.2.2.1 T th rd σ1 hM1 hW (ns (i + 1)) (hns _) 1 (by decide)) mw_1355 mw_1356 mw_1357 mw_6 mw_1358 ⟨pmX7_run, (Nat.le_of_ble_eq_true rfl), (Nat.le_of_ble_eq_true rfl)⟩ (mm_recv F.2.2.2.2.2.1 hN (mm_r0 hM1) rfl) hl.1 rfl (Nat.le_of_ble_eq_true rfl) ⟨by show (cells + 100) + 3 ≤ 603072; omega, by show (slots + 9000) + 37 ≤ 7215210; omega⟩ dL_law_1256
        (fun _ _ _ _ _ _ h9 => False.elim h9)
        (fun v9 σ2 H locs hp9 hN => ?_)
      obtain ⟨i9, rfl, hi9, hM2, hF2⟩ := mm_Mt.out hp9
      obtain hq9 := hp9
      refine W.eq (g2 := F0 m 1259 ls [.int i9]) rfl ?_
      refine W.widen (k := cells + 100 + 3) (n := slots + 9000 + 37) (Nat.le_refl _) (Nat.le_refl _) ?_
      refine lv_istore (pc := 1259) (lv' := [(7, .int i9), (6, .int (nI (mm_q_run T (ns (i + 1)) 1))), (5, .int (nI i)), (4, .ref d), (3, .ref o), (2, .ref ((rd 0 0))), (1, .ref ((ad 0 0 0))), (0, .ref sb)]) F.1 F.2.1 dL_law_1259 hl (by decide) rfl (fun ls hl => ?_)
      refine lv_aload_n (pc := 1261) F.1 F.2.1 dL_law_1261 rfl (lv_at hl 5 rfl) ?_
      refine mm_runV (pc := 1262) (As := []) (rest := []) F hN (r_thrown l b D F.2.2.2.2.2.2.2.1 (if mm_q_run T (ns (i + 1)) 1 = 0 then (mm_t_run T (ns (i + 1)) 1) else T) (mm_q_run T (ns (i + 1)) 1) rd σ2 hM2 hW2) mw_1260 mw_1261 mw_1262 mw_6 mw_1263 ⟨pmX7_thrown, (Nat.le_of_ble_eq_true rfl), (Nat.le_of_ble_eq_true rfl)⟩ (mm_recv F.2.2.2.2.2.1 hN (mm_r0 hM2) rfl) hl.1 rfl (Nat.le_of_ble_eq_true rfl) ⟨by show (cells + 100 + 3) + 0 ≤ 603072; omega, by show (slots + 9000 + 37) + 0 ≤ 7215210; omega⟩ dL_law_1262
        (fun _ _ _ _ _ _ h9 => False.elim h9)
        (fun v9 σ9 H locs hp9 hN => ?_)
      obtain ⟨rfl, h9⟩ := hp9
      rw [h9] at hN
      refine W.eq (g2 := F0 m 1265 ls [.int (nI (mm_q_run T (ns (i + 1)) 1))]) rfl ?_
      refine W.widen (k := cells + 100 + 3) (n := slots + 9000 + 37) (Nat.le_refl _) (Nat.le_refl _) ?_
      refine lv_iload (pc := 1265) F.1 F.2.1 dL_law_1265 (lv_at hl 1 rfl) ?_
      refine mm_icmp_eqB (pc := 1267) F (x := mm_q_run T (ns (i + 1)) 1) (y := mm_q_run T (ns (i + 1)) 1) (tgt := 1272) (by omega) (by omega) dL_law_1267 (by decide) (fun cz1267 => ?_) (fun cz1267 => ?_)
      ·
        refine lv_iload (pc := 1272) F.1 F.2.1 dL_law_1272 (lv_at hl 1 rfl) ?_
        refine mm_if_neB (pc := 1274) F (tgt := 1289) (by omega) dL_law_1274 (by decide) (fun cz1274 => ?_) (fun cz1274 => ?_)
        ·
          refine lv_goto (pc := 1289) (tgt := 2217) F.1 F.2.1 dL_law_1289 (by decide) ?_
          exact W.widen (by omega) (by omega) (kk _ _ ls H locs ⟨⟨z1, ad1, mm_X_kept hX1 (fun a9 e9 he => hF2 a9 0 e9 (by decide) he), hx1⟩, ⟨_, rd, hM2, rfl⟩, ⟨g1, hF2 o 2 _ (by decide) hw1⟩, ⟨gd, hF2 d 2 _ (by decide) hd1⟩, hod, hW2⟩ hN (lv_sub hl [2, 3, 4, 5, 6, 7] rfl))
        ·
          refine lv_aload_n (pc := 1277) F.1 F.2.1 dL_law_1277 rfl (lv_at hl 4 rfl) ?_
          refine lv_iconst (pc := 1278) (v := nI 0) F.1 F.2.1 dL_law_1278 (by decide) ?_
          refine mm_lald (pc := 1279) F hN (hF2 o 2 _ (by decide) hw1) (j := 0) rfl (by decide) (by decide) dL_law_1279 ?_
          refine lv_iload (pc := 1280) F.1 F.2.1 dL_law_1280 (lv_at hl 0 rfl) ?_
          refine lv_i2l (pc := 1282) (v := (i9).toInt64) F.1 F.2.1 dL_law_1282 (rfl) ?_
          refine W.eq (g2 := F0 m 1283 ls [.long ((nI (T.nR)).toInt64), .long ((nI (T.nR)).toInt64)]) (by rw [hg1 cz1274, hi9 cz1274]) ?_
          refine mm_lcmpE (pc := 1283) F.1 F.2.1 dL_law_1283 ?_
          refine mm_if_eq (pc := 1284) F (tgt := 1289) (by omega) dL_law_1284 (by decide) (fun cz1284 => ?_) (fun h9 => absurd h9 (by decide))
          refine lv_goto (pc := 1289) (tgt := 2217) F.1 F.2.1 dL_law_1289 (by decide) ?_
          exact W.widen (by omega) (by omega) (kk _ _ ls H locs ⟨⟨z1, ad1, mm_X_kept hX1 (fun a9 e9 he => hF2 a9 0 e9 (by decide) he), hx1⟩, ⟨_, rd, hM2, rfl⟩, ⟨g1, hF2 o 2 _ (by decide) hw1⟩, ⟨gd, hF2 d 2 _ (by decide) hd1⟩, hod, hW2⟩ hN (lv_sub hl [2, 3, 4, 5, 6, 7] rfl))
      ·
        exact absurd rfl cz1267

set_option maxHeartbeats 4000000 in
set_option maxRecDepth 100000 in
theorem law_18t {p : Program} {l : Launch} {e : Env} {s : State} {m : MethodId} {args : Array Value} {below : List Frame} {meth : Method} {c : Code} {H : Heap} {locs : List Loc} {cells slots : Nat} {Q : State → Prop} {b : Nat} {D : mm_D} {σ : mm_S} {T : mm_T} {x0 m0 o d sb L i : Nat} {ns : Nat → Nat} {ls : Array Slot}
    (F : mm_F p l s m args meth c b D RL cL_law 9) (hXs : va_X sb L (fun j => nI (ns j)) s s.heap) (hbl : sb < s.heap.size) (hbb : sb < b) (hL : L ≤ 2560) (hns : ∀ j, ns j < 2 ^ 32) (hi : i + 5 ≤ L) (hN : mm_N b D s σ H locs) (hV : mm_V σ T x0 m0 o d) (hl : lv_has ls 9 (mm_lc i d o m0 x0 sb)) (hc : cells + 103 ≤ 603072) (hs : slots + 9037 ≤ 7215210)
    (kk : ∀ (T2 : mm_T) (σ2 : mm_S) (ls : Array Slot) (H : Heap) (locs : List Loc), mm_V σ2 T2 x0 m0 o d → mm_N b D s σ2 H locs → lv_has ls 9 (mm_lc i d o m0 x0 sb) → W p l e room_1 s m args below meth c H locs (cells + 103) (slots + 9037) Q (F0 m 2217 ls [])) (h0 : ¬ ns (i + 2) = 0)
    : W p l e room_1 s m args below meth c H locs cells slots Q (F0 m 1292 ls []) := by
  obtain ⟨⟨z, ad, hX, rfl⟩, ⟨th, rd, hM, rfl⟩, ⟨go, ho⟩, ⟨gd, hd⟩, hod, hW⟩ := hV
  have hl : lv_has ls 9 [(5, .int (nI i)), (4, .ref d), (3, .ref o), (2, .ref ((rd 0 0))), (1, .ref ((ad 0 0 0))), (0, .ref sb)] := hl
  have hz9 := hns (i + 2)
  refine lv_aload_n (pc := 1292) F.1 F.2.1 dL_law_1292 rfl (lv_at hl 4 rfl) ?_
  refine lv_aload_n (pc := 1293) F.1 F.2.1 dL_law_1293 rfl (lv_at hl 5 rfl) ?_
  refine lv_iload (pc := 1294) F.1 F.2.1 dL_law_1294 (lv_at hl 0 rfl) ?_
  refine lv_iconst (pc := 1296) (v := nI 1) F.1 F.2.1 dL_law_1296 (by decide) ?_
  refine mm_iadd (pc := 1297) F (z := nI (i + 1)) (nI_add _ _) dL_law_1297 ?_
  refine mm_sld (pc := 1298) F hN hXs hbl hbb (j := i + 1) rfl (by omega) hL dL_law_1298 ?_
  refine lv_aload_n (pc := 1299) F.1 F.2.1 dL_law_1299 rfl (lv_at hl 5 rfl) ?_
  refine lv_iload (pc := 1300) F.1 F.2.1 dL_law_1300 (lv_at hl 0 rfl) ?_
  refine lv_iconst (pc := 1302) (v := nI 2) F.1 F.2.1 dL_law_1302 (by decide) ?_
  refine mm_iadd (pc := 1303) F (z := nI (i + 2)) (nI_add _ _) dL_law_1303 ?_
  refine mm_sld (pc := 1304) F hN hXs hbl hbb (j := i + 2) rfl (by omega) hL dL_law_1304 ?_
  refine mm_if_eqB (pc := 1305) F (tgt := 1312) (by omega) dL_law_1305 (by decide) (fun cz1305 => ?_) (fun cz1305 => ?_)
  ·
    exact absurd cz1305 h0
  ·
    refine lv_iconst (pc := 1308) (v := nI 1) F.1 F.2.1 dL_law_1308 (by decide) ?_
    refine lv_goto (pc := 1309) (tgt := 1313) F.1 F.2.1 dL_law_1309 (by decide) ?_
    refine lv_aload_n (pc := 1313) F.1 F.2.1 dL_law_1313 rfl (lv_at hl 5 rfl) ?_
    refine lv_iload (pc := 1314) F.1 F.2.1 dL_law_1314 (lv_at hl 0 rfl) ?_
    refine lv_iconst (pc := 1316) (v := nI 3) F.1 F.2.1 dL_law_1316 (by decide) ?_
    refine mm_iadd (pc := 1317) F (z := nI (i + 3)) (nI_add _ _) dL_law_1317 ?_
    refine mm_sld (pc := 1318) F hN hXs hbl hbb (j := i + 3) rfl (by omega) hL dL_law_1318 ?_
    refine lv_aload_n (pc := 1319) F.1 F.2.1 dL_law_1319 rfl (lv_at hl 2 rfl) ?_
    refine mm_runSX (pc := 1320) (As := [.ref ((ad 0 0 0)), .int (nI (ns (i + 1))), .int (nI 1), .int (nI (ns (i + 3))), .ref o]) (rest := []) F hN (w_preview l b D F.2.2.2.2.2.2.2.1 T z ad σ hX hW (ns (i + 1)) (hns _) 1 (by decide) (ns (i + 3)) (hns _) o go ho) mw_988 mw_989 mw_0 mw_990 ⟨pmL_preview, (Nat.le_of_ble_eq_true rfl), (Nat.le_of_ble_eq_true rfl)⟩ hl.1 rfl (Nat.le_of_ble_eq_true rfl) ⟨by show cells + 6 ≤ 603072; omega, by show slots + 40 ≤ 7215210; omega⟩ dL_law_1320
      (fun _ _ _ _ _ _ h9 => False.elim h9) (fun v9 σ1 H locs hp9 hN => ?_)
    obtain ⟨rfl, z1, ad1, g1, hX1, hx1, hw1, hg1, hfr1⟩ := hp9
    refine W.eq (g2 := F0 m 1323 ls [.int (nI (mm_q_preview T (ns (i + 1)) 1 (ns (i + 3))))]) rfl ?_
    refine W.widen (k := cells + 6) (n := slots + 40) (Nat.le_refl _) (Nat.le_refl _) ?_
    have hM1 : mm_M σ1 T th rd := mm_M_kept1 hM (fun a9 e9 he => hfr1 a9 1 e9 (by decide) (fun q9 => by rw [q9, ho] at he; cases he) he)
    have hd1 : σ1 d = mm_ard 2 2 1 gd := hfr1 d 2 _ (by decide) (Ne.symm hod) hd
    have hq4 : mm_q_preview T (ns (i + 1)) 1 (ns (i + 3)) < 4 := mm_q_preview_lt
    have hW2 : mm_WF (if mm_q_preview T (ns (i + 1)) 1 (ns (i + 3)) = 0 then (T) else T) := by split <;> exact hW
    refine lv_istore (pc := 1323) (lv' := [(6, .int (nI (mm_q_preview T (ns (i + 1)) 1 (ns (i + 3))))), (5, .int (nI i)), (4, .ref d), (3, .ref o), (2, .ref ((rd 0 0))), (1, .ref ((ad 0 0 0))), (0, .ref sb)]) F.1 F.2.1 dL_law_1323 hl (by decide) rfl (fun ls hl => ?_)
    refine lv_aload_n (pc := 1325) F.1 F.2.1 dL_law_1325 rfl (lv_at hl 4 rfl) ?_
    refine lv_aload_n (pc := 1326) F.1 F.2.1 dL_law_1326 rfl (lv_at hl 6 rfl) ?_
    refine lv_iload (pc := 1327) F.1 F.2.1 dL_law_1327 (lv_at hl 1 rfl) ?_
    refine lv_iconst (pc := 1329) (v := nI 1) F.1 F.2.1 dL_law_1329 (by decide) ?_
    refine mm_iadd (pc := 1330) F (z := nI (i + 1)) (nI_add _ _) dL_law_1330 ?_
    refine mm_sld (pc := 1331) F hN hXs hbl hbb (j := i + 1) rfl (by omega) hL dL_law_1331 ?_
    refine lv_aload_n (pc := 1332) F.1 F.2.1 dL_law_1332 rfl (lv_at hl 6 rfl) ?_
    refine lv_iload (pc := 1333) F.1 F.2.1 dL_law_1333 (lv_at hl 1 rfl) ?_
    refine lv_iconst (pc := 1335) (v := nI 2) F.1 F.2.1 dL_law_1335 (by decide) ?_
    refine mm_iadd (pc := 1336) F (z := nI (i + 2)) (nI_add _ _) dL_law_1336 ?_
    refine mm_sld (pc := 1337) F hN hXs hbl hbb (j := i + 2) rfl (by omega) hL dL_law_1337 ?_
    refine mm_if_eqB (pc := 1338) F (tgt := 1345) (by omega) dL_law_1338 (by decide) (fun cz1338 => ?_) (fun cz1338 => ?_)
    ·
      exact absurd cz1338 h0
    ·
      refine lv_iconst (pc := 1341) (v := nI 1) F.1 F.2.1 dL_law_1341 (by decide) ?_
      refine lv_goto (pc := 1342) (tgt := 1346) F.1 F.2.1 dL_law_1342 (by decide) ?_
      refine lv_aload_n (pc := 1346) F.1 F.2.1 dL_law_1346 rfl (lv_at hl 6 rfl) ?_
      refine lv_iload (pc := 1347) F.1 F.2.1 dL_law_1347 (lv_at hl 1 rfl) ?_
      refine lv_iconst (pc := 1349) (v := nI 3) F.1 F.2.1 dL_law_1349 (by decide) ?_
      refine mm_iadd (pc := 1350) F (z := nI (i + 3)) (nI_add _ _) dL_law_1350 ?_
      refine mm_sld (pc := 1351) F hN hXs hbl hbb (j := i + 3) rfl (by omega) hL dL_law_1351 ?_
      refine mm_runV (pc := 1352) (As := [.int (nI (ns (i + 1))), .int (nI 1), .int (nI (ns (i + 3)))]) (rest := []) F hN (r_preview l b D F.2.2.2.2.2.2.2.1 T th rd σ1 hM1 hW (ns (i + 1)) (hns _) 1 (by decide) (ns (i + 3)) (hns _)) mw_1374 mw_1375 mw_1376 mw_6 mw_1377 ⟨pmX7_preview, (Nat.le_of_ble_eq_true rfl), (Nat.le_of_ble_eq_true rfl)⟩ (mm_recv F.2.2.2.2.2.1 hN (mm_r0 hM1) rfl) hl.1 rfl (Nat.le_of_ble_eq_true rfl) ⟨by show (cells + 6) + 2 ≤ 603072; omega, by show (slots + 40) + 27 ≤ 7215210; omega⟩ dL_law_1352
        (fun _ _ _ _ _ _ h9 => False.elim h9)
        (fun v9 σ2 H locs hp9 hN => ?_)
      obtain ⟨i9, rfl, hi9, hM2, hF2⟩ := mm_Mu.outI hp9
      obtain hq9 := hp9
      refine W.eq (g2 := F0 m 1355 ls [.int i9]) rfl ?_
      refine W.widen (k := cells + 6 + 2) (n := slots + 40 + 27) (Nat.le_refl _) (Nat.le_refl _) ?_
      refine lv_istore (pc := 1355) (lv' := [(7, .int i9), (6, .int (nI (mm_q_preview T (ns (i + 1)) 1 (ns (i + 3))))), (5, .int (nI i)), (4, .ref d), (3, .ref o), (2, .ref ((rd 0 0))), (1, .ref ((ad 0 0 0))), (0, .ref sb)]) F.1 F.2.1 dL_law_1355 hl (by decide) rfl (fun ls hl => ?_)
      refine lv_aload_n (pc := 1357) F.1 F.2.1 dL_law_1357 rfl (lv_at hl 5 rfl) ?_
      refine mm_runV (pc := 1358) (As := []) (rest := []) F hN (r_thrown l b D F.2.2.2.2.2.2.2.1 (if mm_q_preview T (ns (i + 1)) 1 (ns (i + 3)) = 0 then (T) else T) (mm_q_preview T (ns (i + 1)) 1 (ns (i + 3))) rd σ2 hM2 hW2) mw_1260 mw_1261 mw_1262 mw_6 mw_1263 ⟨pmX7_thrown, (Nat.le_of_ble_eq_true rfl), (Nat.le_of_ble_eq_true rfl)⟩ (mm_recv F.2.2.2.2.2.1 hN (mm_r0 hM2) rfl) hl.1 rfl (Nat.le_of_ble_eq_true rfl) ⟨by show (cells + 6 + 2) + 0 ≤ 603072; omega, by show (slots + 40 + 27) + 0 ≤ 7215210; omega⟩ dL_law_1358
        (fun _ _ _ _ _ _ h9 => False.elim h9)
        (fun v9 σ9 H locs hp9 hN => ?_)
      obtain ⟨rfl, h9⟩ := hp9
      rw [h9] at hN
      refine W.eq (g2 := F0 m 1361 ls [.int (nI (mm_q_preview T (ns (i + 1)) 1 (ns (i + 3))))]) rfl ?_
      refine W.widen (k := cells + 6 + 2) (n := slots + 40 + 27) (Nat.le_refl _) (Nat.le_refl _) ?_
      refine lv_iload (pc := 1361) F.1 F.2.1 dL_law_1361 (lv_at hl 1 rfl) ?_
      refine mm_icmp_eqB (pc := 1363) F (x := mm_q_preview T (ns (i + 1)) 1 (ns (i + 3))) (y := mm_q_preview T (ns (i + 1)) 1 (ns (i + 3))) (tgt := 1368) (by omega) (by omega) dL_law_1363 (by decide) (fun cz1363 => ?_) (fun cz1363 => ?_)
      ·
        refine lv_iload (pc := 1368) F.1 F.2.1 dL_law_1368 (lv_at hl 1 rfl) ?_
        refine mm_if_neB (pc := 1370) F (tgt := 1385) (by omega) dL_law_1370 (by decide) (fun cz1370 => ?_) (fun cz1370 => ?_)
        ·
          refine lv_goto (pc := 1385) (tgt := 2217) F.1 F.2.1 dL_law_1385 (by decide) ?_
          exact W.widen (by omega) (by omega) (kk _ _ ls H locs ⟨⟨z1, ad1, mm_X_kept hX1 (fun a9 e9 he => hF2 a9 0 e9 (by decide) he), hx1⟩, ⟨_, rd, hM2, rfl⟩, ⟨g1, hF2 o 2 _ (by decide) hw1⟩, ⟨gd, hF2 d 2 _ (by decide) hd1⟩, hod, hW2⟩ hN (lv_sub hl [2, 3, 4, 5, 6, 7] rfl))
        ·
          refine lv_aload_n (pc := 1373) F.1 F.2.1 dL_law_1373 rfl (lv_at hl 4 rfl) ?_
          refine lv_iconst (pc := 1374) (v := nI 0) F.1 F.2.1 dL_law_1374 (by decide) ?_
          refine mm_lald (pc := 1375) F hN (hF2 o 2 _ (by decide) hw1) (j := 0) rfl (by decide) (by decide) dL_law_1375 ?_
          refine lv_iload (pc := 1376) F.1 F.2.1 dL_law_1376 (lv_at hl 0 rfl) ?_
          refine lv_i2l (pc := 1378) (v := (i9).toInt64) F.1 F.2.1 dL_law_1378 (rfl) ?_
          refine W.eq (g2 := F0 m 1379 ls [.long ((nI (mm_oc T (ns (i + 1)) 1 (ns (i + 3)))).toInt64), .long ((nI (mm_oc T (ns (i + 1)) 1 (ns (i + 3)))).toInt64)]) (by rw [hg1 cz1370, hi9 cz1370]) ?_
          refine mm_lcmpE (pc := 1379) F.1 F.2.1 dL_law_1379 ?_
          refine mm_if_eq (pc := 1380) F (tgt := 1385) (by omega) dL_law_1380 (by decide) (fun cz1380 => ?_) (fun h9 => absurd h9 (by decide))
          refine lv_goto (pc := 1385) (tgt := 2217) F.1 F.2.1 dL_law_1385 (by decide) ?_
          exact W.widen (by omega) (by omega) (kk _ _ ls H locs ⟨⟨z1, ad1, mm_X_kept hX1 (fun a9 e9 he => hF2 a9 0 e9 (by decide) he), hx1⟩, ⟨_, rd, hM2, rfl⟩, ⟨g1, hF2 o 2 _ (by decide) hw1⟩, ⟨gd, hF2 d 2 _ (by decide) hd1⟩, hod, hW2⟩ hN (lv_sub hl [2, 3, 4, 5, 6, 7] rfl))
      ·
        exact absurd rfl cz1363

set_option maxHeartbeats 4000000 in
set_option maxRecDepth 100000 in
theorem law_19t {p : Program} {l : Launch} {e : Env} {s : State} {m : MethodId} {args : Array Value} {below : List Frame} {meth : Method} {c : Code} {H : Heap} {locs : List Loc} {cells slots : Nat} {Q : State → Prop} {b : Nat} {D : mm_D} {σ : mm_S} {T : mm_T} {x0 m0 o d sb L i : Nat} {ns : Nat → Nat} {ls : Array Slot}
    (F : mm_F p l s m args meth c b D RL cL_law 9) (hXs : va_X sb L (fun j => nI (ns j)) s s.heap) (hbl : sb < s.heap.size) (hbb : sb < b) (hL : L ≤ 2560) (hns : ∀ j, ns j < 2 ^ 32) (hi : i + 5 ≤ L) (hN : mm_N b D s σ H locs) (hV : mm_V σ T x0 m0 o d) (hl : lv_has ls 9 (mm_lc i d o m0 x0 sb)) (hc : cells + 103 ≤ 603072) (hs : slots + 9037 ≤ 7215210)
    (kk : ∀ (T2 : mm_T) (σ2 : mm_S) (ls : Array Slot) (H : Heap) (locs : List Loc), mm_V σ2 T2 x0 m0 o d → mm_N b D s σ2 H locs → lv_has ls 9 (mm_lc i d o m0 x0 sb) → W p l e room_1 s m args below meth c H locs (cells + 103) (slots + 9037) Q (F0 m 2217 ls [])) (h0 : ¬ ns (i + 2) = 0)
    : W p l e room_1 s m args below meth c H locs cells slots Q (F0 m 1388 ls []) := by
  obtain ⟨⟨z, ad, hX, rfl⟩, ⟨th, rd, hM, rfl⟩, ⟨go, ho⟩, ⟨gd, hd⟩, hod, hW⟩ := hV
  have hl : lv_has ls 9 [(5, .int (nI i)), (4, .ref d), (3, .ref o), (2, .ref ((rd 0 0))), (1, .ref ((ad 0 0 0))), (0, .ref sb)] := hl
  have hz9 := hns (i + 2)
  refine lv_aload_n (pc := 1388) F.1 F.2.1 dL_law_1388 rfl (lv_at hl 4 rfl) ?_
  refine lv_aload_n (pc := 1389) F.1 F.2.1 dL_law_1389 rfl (lv_at hl 5 rfl) ?_
  refine lv_iload (pc := 1390) F.1 F.2.1 dL_law_1390 (lv_at hl 0 rfl) ?_
  refine lv_iconst (pc := 1392) (v := nI 1) F.1 F.2.1 dL_law_1392 (by decide) ?_
  refine mm_iadd (pc := 1393) F (z := nI (i + 1)) (nI_add _ _) dL_law_1393 ?_
  refine mm_sld (pc := 1394) F hN hXs hbl hbb (j := i + 1) rfl (by omega) hL dL_law_1394 ?_
  refine lv_aload_n (pc := 1395) F.1 F.2.1 dL_law_1395 rfl (lv_at hl 5 rfl) ?_
  refine lv_iload (pc := 1396) F.1 F.2.1 dL_law_1396 (lv_at hl 0 rfl) ?_
  refine lv_iconst (pc := 1398) (v := nI 2) F.1 F.2.1 dL_law_1398 (by decide) ?_
  refine mm_iadd (pc := 1399) F (z := nI (i + 2)) (nI_add _ _) dL_law_1399 ?_
  refine mm_sld (pc := 1400) F hN hXs hbl hbb (j := i + 2) rfl (by omega) hL dL_law_1400 ?_
  refine mm_if_eqB (pc := 1401) F (tgt := 1408) (by omega) dL_law_1401 (by decide) (fun cz1401 => ?_) (fun cz1401 => ?_)
  ·
    exact absurd cz1401 h0
  ·
    refine lv_iconst (pc := 1404) (v := nI 1) F.1 F.2.1 dL_law_1404 (by decide) ?_
    refine lv_goto (pc := 1405) (tgt := 1409) F.1 F.2.1 dL_law_1405 (by decide) ?_
    refine lv_aload_n (pc := 1409) F.1 F.2.1 dL_law_1409 rfl (lv_at hl 5 rfl) ?_
    refine lv_iload (pc := 1410) F.1 F.2.1 dL_law_1410 (lv_at hl 0 rfl) ?_
    refine lv_iconst (pc := 1412) (v := nI 3) F.1 F.2.1 dL_law_1412 (by decide) ?_
    refine mm_iadd (pc := 1413) F (z := nI (i + 3)) (nI_add _ _) dL_law_1413 ?_
    refine mm_sld (pc := 1414) F hN hXs hbl hbb (j := i + 3) rfl (by omega) hL dL_law_1414 ?_
    refine lv_aload_n (pc := 1415) F.1 F.2.1 dL_law_1415 rfl (lv_at hl 2 rfl) ?_
    refine mm_runSX (pc := 1416) (As := [.ref ((ad 0 0 0)), .int (nI (ns (i + 1))), .int (nI 1), .int (nI (ns (i + 3))), .ref o]) (rest := []) F hN (w_previewAlone l b D F.2.2.2.2.2.2.2.1 T z ad σ hX hW (ns (i + 1)) (hns _) 1 (by decide) (ns (i + 3)) (hns _) o go ho) mw_995 mw_996 mw_0 mw_997 ⟨pmL_previewAlone, (Nat.le_of_ble_eq_true rfl), (Nat.le_of_ble_eq_true rfl)⟩ hl.1 rfl (Nat.le_of_ble_eq_true rfl) ⟨by show cells + 6 ≤ 603072; omega, by show slots + 40 ≤ 7215210; omega⟩ dL_law_1416
      (fun _ _ _ _ _ _ h9 => False.elim h9) (fun v9 σ1 H locs hp9 hN => ?_)
    obtain ⟨rfl, z1, ad1, g1, hX1, hx1, hw1, hg1, hfr1⟩ := hp9
    refine W.eq (g2 := F0 m 1419 ls [.int (nI (mm_q_previewAlone T (ns (i + 1)) 1 (ns (i + 3))))]) rfl ?_
    refine W.widen (k := cells + 6) (n := slots + 40) (Nat.le_refl _) (Nat.le_refl _) ?_
    have hM1 : mm_M σ1 T th rd := mm_M_kept1 hM (fun a9 e9 he => hfr1 a9 1 e9 (by decide) (fun q9 => by rw [q9, ho] at he; cases he) he)
    have hd1 : σ1 d = mm_ard 2 2 1 gd := hfr1 d 2 _ (by decide) (Ne.symm hod) hd
    have hq4 : mm_q_previewAlone T (ns (i + 1)) 1 (ns (i + 3)) < 4 := mm_q_previewAlone_lt
    have hW2 : mm_WF (if mm_q_previewAlone T (ns (i + 1)) 1 (ns (i + 3)) = 0 then (T) else T) := by split <;> exact hW
    refine lv_istore (pc := 1419) (lv' := [(6, .int (nI (mm_q_previewAlone T (ns (i + 1)) 1 (ns (i + 3))))), (5, .int (nI i)), (4, .ref d), (3, .ref o), (2, .ref ((rd 0 0))), (1, .ref ((ad 0 0 0))), (0, .ref sb)]) F.1 F.2.1 dL_law_1419 hl (by decide) rfl (fun ls hl => ?_)
    refine lv_aload_n (pc := 1421) F.1 F.2.1 dL_law_1421 rfl (lv_at hl 4 rfl) ?_
    refine lv_aload_n (pc := 1422) F.1 F.2.1 dL_law_1422 rfl (lv_at hl 6 rfl) ?_
    refine lv_iload (pc := 1423) F.1 F.2.1 dL_law_1423 (lv_at hl 1 rfl) ?_
    refine lv_iconst (pc := 1425) (v := nI 1) F.1 F.2.1 dL_law_1425 (by decide) ?_
    refine mm_iadd (pc := 1426) F (z := nI (i + 1)) (nI_add _ _) dL_law_1426 ?_
    refine mm_sld (pc := 1427) F hN hXs hbl hbb (j := i + 1) rfl (by omega) hL dL_law_1427 ?_
    refine lv_aload_n (pc := 1428) F.1 F.2.1 dL_law_1428 rfl (lv_at hl 6 rfl) ?_
    refine lv_iload (pc := 1429) F.1 F.2.1 dL_law_1429 (lv_at hl 1 rfl) ?_
    refine lv_iconst (pc := 1431) (v := nI 2) F.1 F.2.1 dL_law_1431 (by decide) ?_
    refine mm_iadd (pc := 1432) F (z := nI (i + 2)) (nI_add _ _) dL_law_1432 ?_
    refine mm_sld (pc := 1433) F hN hXs hbl hbb (j := i + 2) rfl (by omega) hL dL_law_1433 ?_
    refine mm_if_eqB (pc := 1434) F (tgt := 1441) (by omega) dL_law_1434 (by decide) (fun cz1434 => ?_) (fun cz1434 => ?_)
    ·
      exact absurd cz1434 h0
    ·
      refine lv_iconst (pc := 1437) (v := nI 1) F.1 F.2.1 dL_law_1437 (by decide) ?_
      refine lv_goto (pc := 1438) (tgt := 1442) F.1 F.2.1 dL_law_1438 (by decide) ?_
      refine lv_aload_n (pc := 1442) F.1 F.2.1 dL_law_1442 rfl (lv_at hl 6 rfl) ?_
      refine lv_iload (pc := 1443) F.1 F.2.1 dL_law_1443 (lv_at hl 1 rfl) ?_
      refine lv_iconst (pc := 1445) (v := nI 3) F.1 F.2.1 dL_law_1445 (by decide) ?_
      refine mm_iadd (pc := 1446) F (z := nI (i + 3)) (nI_add _ _) dL_law_1446 ?_
      refine mm_sld (pc := 1447) F hN hXs hbl hbb (j := i + 3) rfl (by omega) hL dL_law_1447 ?_
      refine mm_runV (pc := 1448) (As := [.int (nI (ns (i + 1))), .int (nI 1), .int (nI (ns (i + 3)))]) (rest := []) F hN (r_previewAlone l b D F.2.2.2.2.2.2.2.1 T th rd σ1 hM1 hW (ns (i + 1)) (hns _) 1 (by decide) (ns (i + 3)) (hns _)) mw_1378 mw_1379 mw_1380 mw_6 mw_1381 ⟨pmX7_previewAlone, (Nat.le_of_ble_eq_true rfl), (Nat.le_of_ble_eq_true rfl)⟩ (mm_recv F.2.2.2.2.2.1 hN (mm_r0 hM1) rfl) hl.1 rfl (Nat.le_of_ble_eq_true rfl) ⟨by show (cells + 6) + 2 ≤ 603072; omega, by show (slots + 40) + 27 ≤ 7215210; omega⟩ dL_law_1448
        (fun _ _ _ _ _ _ h9 => False.elim h9)
        (fun v9 σ2 H locs hp9 hN => ?_)
      obtain ⟨i9, rfl, hi9, hM2, hF2⟩ := mm_Mu.outI hp9
      obtain hq9 := hp9
      refine W.eq (g2 := F0 m 1451 ls [.int i9]) rfl ?_
      refine W.widen (k := cells + 6 + 2) (n := slots + 40 + 27) (Nat.le_refl _) (Nat.le_refl _) ?_
      refine lv_istore (pc := 1451) (lv' := [(7, .int i9), (6, .int (nI (mm_q_previewAlone T (ns (i + 1)) 1 (ns (i + 3))))), (5, .int (nI i)), (4, .ref d), (3, .ref o), (2, .ref ((rd 0 0))), (1, .ref ((ad 0 0 0))), (0, .ref sb)]) F.1 F.2.1 dL_law_1451 hl (by decide) rfl (fun ls hl => ?_)
      refine lv_aload_n (pc := 1453) F.1 F.2.1 dL_law_1453 rfl (lv_at hl 5 rfl) ?_
      refine mm_runV (pc := 1454) (As := []) (rest := []) F hN (r_thrown l b D F.2.2.2.2.2.2.2.1 (if mm_q_previewAlone T (ns (i + 1)) 1 (ns (i + 3)) = 0 then (T) else T) (mm_q_previewAlone T (ns (i + 1)) 1 (ns (i + 3))) rd σ2 hM2 hW2) mw_1260 mw_1261 mw_1262 mw_6 mw_1263 ⟨pmX7_thrown, (Nat.le_of_ble_eq_true rfl), (Nat.le_of_ble_eq_true rfl)⟩ (mm_recv F.2.2.2.2.2.1 hN (mm_r0 hM2) rfl) hl.1 rfl (Nat.le_of_ble_eq_true rfl) ⟨by show (cells + 6 + 2) + 0 ≤ 603072; omega, by show (slots + 40 + 27) + 0 ≤ 7215210; omega⟩ dL_law_1454
        (fun _ _ _ _ _ _ h9 => False.elim h9)
        (fun v9 σ9 H locs hp9 hN => ?_)
      obtain ⟨rfl, h9⟩ := hp9
      rw [h9] at hN
      refine W.eq (g2 := F0 m 1457 ls [.int (nI (mm_q_previewAlone T (ns (i + 1)) 1 (ns (i + 3))))]) rfl ?_
      refine W.widen (k := cells + 6 + 2) (n := slots + 40 + 27) (Nat.le_refl _) (Nat.le_refl _) ?_
      refine lv_iload (pc := 1457) F.1 F.2.1 dL_law_1457 (lv_at hl 1 rfl) ?_
      refine mm_icmp_eqB (pc := 1459) F (x := mm_q_previewAlone T (ns (i + 1)) 1 (ns (i + 3))) (y := mm_q_previewAlone T (ns (i + 1)) 1 (ns (i + 3))) (tgt := 1464) (by omega) (by omega) dL_law_1459 (by decide) (fun cz1459 => ?_) (fun cz1459 => ?_)
      ·
        refine lv_iload (pc := 1464) F.1 F.2.1 dL_law_1464 (lv_at hl 1 rfl) ?_
        refine mm_if_neB (pc := 1466) F (tgt := 1481) (by omega) dL_law_1466 (by decide) (fun cz1466 => ?_) (fun cz1466 => ?_)
        ·
          refine lv_goto (pc := 1481) (tgt := 2217) F.1 F.2.1 dL_law_1481 (by decide) ?_
          exact W.widen (by omega) (by omega) (kk _ _ ls H locs ⟨⟨z1, ad1, mm_X_kept hX1 (fun a9 e9 he => hF2 a9 0 e9 (by decide) he), hx1⟩, ⟨_, rd, hM2, rfl⟩, ⟨g1, hF2 o 2 _ (by decide) hw1⟩, ⟨gd, hF2 d 2 _ (by decide) hd1⟩, hod, hW2⟩ hN (lv_sub hl [2, 3, 4, 5, 6, 7] rfl))
        ·
          refine lv_aload_n (pc := 1469) F.1 F.2.1 dL_law_1469 rfl (lv_at hl 4 rfl) ?_
          refine lv_iconst (pc := 1470) (v := nI 0) F.1 F.2.1 dL_law_1470 (by decide) ?_
          refine mm_lald (pc := 1471) F hN (hF2 o 2 _ (by decide) hw1) (j := 0) rfl (by decide) (by decide) dL_law_1471 ?_
          refine lv_iload (pc := 1472) F.1 F.2.1 dL_law_1472 (lv_at hl 0 rfl) ?_
          refine lv_i2l (pc := 1474) (v := (i9).toInt64) F.1 F.2.1 dL_law_1474 (rfl) ?_
          refine W.eq (g2 := F0 m 1475 ls [.long ((nI (mm_oc T (ns (i + 1)) 1 (ns (i + 3)))).toInt64), .long ((nI (mm_oc T (ns (i + 1)) 1 (ns (i + 3)))).toInt64)]) (by rw [hg1 cz1466, hi9 cz1466]) ?_
          refine mm_lcmpE (pc := 1475) F.1 F.2.1 dL_law_1475 ?_
          refine mm_if_eq (pc := 1476) F (tgt := 1481) (by omega) dL_law_1476 (by decide) (fun cz1476 => ?_) (fun h9 => absurd h9 (by decide))
          refine lv_goto (pc := 1481) (tgt := 2217) F.1 F.2.1 dL_law_1481 (by decide) ?_
          exact W.widen (by omega) (by omega) (kk _ _ ls H locs ⟨⟨z1, ad1, mm_X_kept hX1 (fun a9 e9 he => hF2 a9 0 e9 (by decide) he), hx1⟩, ⟨_, rd, hM2, rfl⟩, ⟨g1, hF2 o 2 _ (by decide) hw1⟩, ⟨gd, hF2 d 2 _ (by decide) hd1⟩, hod, hW2⟩ hN (lv_sub hl [2, 3, 4, 5, 6, 7] rfl))
      ·
        exact absurd rfl cz1459

