set_option maxHeartbeats 4000000 in
set_option maxRecDepth 100000 in
theorem c_Ent (l : Launch) (b : Nat) (D : mm_D) (hst : l.stackTraces = false) (o y pe ho t pa pg lo pc us nu fl dr co : Nat) (v1 w0 w2 w3 w4 w5 : Value) (fg fa : Nat → Nat) (hfl : fl < 8) (hdr : dr < 65536) (σ : mm_S) (hY : σ y = mm_obj o 1 [.int (nI 0), .null, .int (nI 0), .int (nI 0), .int (nI 0), .int (nI 0), .int (nI 0)]) (hPe : σ pe = mm_obj o 2 [.ref ho, .int (nI fl), v1, .int (nI dr)]) (hHo : σ ho = mm_obj o 0 [w0, .int (nI co), w2, w3, w4, w5]) (hT : σ t = mm_obj o 5 [.ref pa, .ref pg, .ref lo, .int (nI pc), .int (nI us)]) (hPg : σ pg = mm_a8 o fg) (hPa : σ pa = mm_a8 o fa) : mm_K l b D yX1_init (.code yX1_init cX1_init 4 none) ({ frames := 1, cells := 0, slots := 0, locals := 24 } : Room) [.ref y, .int (nI nu), .ref pe, .ref t] σ
    (fun v σ2 => v = none ∧ σ2 = mm_u σ y (mm_obj o 1 [.int (nI nu), .ref pe, .int (nI dr), .int (nI co), .int (nI (fg fl)), .int (nI (fa fl)), .int (nI 0)]))
    (fun _ _ => False) := by
  refine mm_of (cc := cX1_init) (nL := 4) (ret := none) (by decide) rfl (Nat.le_of_ble_eq_true rfl) hst ?_
  intro p e s m args below meth c ls F ht hr hin hN hl
  have hl : lv_has ls 4 [(0, .ref y), (1, .int (nI nu)), (2, .ref pe), (3, .ref t)] := hl
  have npe : pe ≠ y := fun e => by rw [e, hY] at hPe; cases hPe
  have nho : ho ≠ y := fun e => by rw [e, hY] at hHo; cases hHo
  have nt : t ≠ y := fun e => by rw [e, hY] at hT; cases hT
  have npg : pg ≠ y := fun e => by rw [e, hY] at hPg; cases hPg
  have npa : pa ≠ y := fun e => by rw [e, hY] at hPa; cases hPa
  refine lv_aload_n (pc := 0) F.1 F.2.1 dX1_init_0 rfl (lv_at hl 0 rfl) ?_
  refine W.objInit F.1 F.2.1 F.2.2.2.1 (F.2.2.2.2.1 _ mw_617) (F.2.2.2.2.1 _ mw_40) (F.2.2.2.2.1 _ mw_41) rfl (by rw [F.2.2.1]; exact hl.1) rfl (g := F0 m 1 ls [.ref y]) dX1_init_1 (Nat.le_of_ble_eq_true rfl) (Nat.le_of_ble_eq_true rfl) ?_
  refine W.eq (g2 := F0 m 4 ls []) rfl ?_
  refine lv_aload_n (pc := 4) F.1 F.2.1 dX1_init_4 rfl (lv_at hl 0 rfl) ?_
  refine lv_iload_n (pc := 5) F.1 F.2.1 dX1_init_5 rfl (lv_at hl 1 rfl) ?_
  refine mm_putF (pc := 6) F hN (hY) (ci := 1) rfl 0 (by decide) mw_623 rfl hin rfl (ty := .int) (by decide +kernel) (rfl) (rfl) (Nat.le_of_ble_eq_true rfl) dX1_init_6 (fun H locs hN => ?_)
  have hN : mm_N b D s (mm_u σ y (mm_obj o 1 [.int (nI nu), .null, .int (nI 0), .int (nI 0), .int (nI 0), .int (nI 0), .int (nI 0)])) _ _ := hN
  have hN : mm_N b D s (mm_u σ y (mm_obj o 1 [.int (nI nu), .null, .int (nI 0), .int (nI 0), .int (nI 0), .int (nI 0), .int (nI 0)])) _ _ := hN
  refine lv_aload_n (pc := 9) F.1 F.2.1 dX1_init_9 rfl (lv_at hl 0 rfl) ?_
  refine lv_aload_n (pc := 10) F.1 F.2.1 dX1_init_10 rfl (lv_at hl 2 rfl) ?_
  refine mm_putF (pc := 11) F hN (mm_u_eq) (ci := 1) rfl 1 (by decide) mw_625 rfl hin rfl (ty := (.object "Mailmerge$Person")) (by decide +kernel) (rfl) (rfl) (Nat.le_of_ble_eq_true rfl) dX1_init_11 (fun H locs hN => ?_)
  have hN : mm_N b D s (mm_u ((mm_u σ y (mm_obj o 1 [.int (nI nu), .null, .int (nI 0), .int (nI 0), .int (nI 0), .int (nI 0), .int (nI 0)]))) y (mm_obj o 1 [.int (nI nu), .ref pe, .int (nI 0), .int (nI 0), .int (nI 0), .int (nI 0), .int (nI 0)])) _ _ := hN
  rw [mm_uu] at hN
  have hN : mm_N b D s (mm_u σ y (mm_obj o 1 [.int (nI nu), .ref pe, .int (nI 0), .int (nI 0), .int (nI 0), .int (nI 0), .int (nI 0)])) _ _ := hN
  refine lv_aload_n (pc := 14) F.1 F.2.1 dX1_init_14 rfl (lv_at hl 0 rfl) ?_
  refine lv_aload_n (pc := 15) F.1 F.2.1 dX1_init_15 rfl (lv_at hl 2 rfl) ?_
  refine mm_get (pc := 16) F hN ((mm_u_ne npe).trans hPe) (ci := 2) rfl 3 (by decide) mw_410 rfl dX1_init_16 ?_
  refine mm_putF (pc := 19) F hN (mm_u_eq) (ci := 1) rfl 2 (by decide) mw_628 rfl hin rfl (ty := .char) (by decide +kernel) (mm_narC hdr) (mm_fitC hdr) (Nat.le_of_ble_eq_true rfl) dX1_init_19 (fun H locs hN => ?_)
  have hN : mm_N b D s (mm_u ((mm_u σ y (mm_obj o 1 [.int (nI nu), .ref pe, .int (nI 0), .int (nI 0), .int (nI 0), .int (nI 0), .int (nI 0)]))) y (mm_obj o 1 [.int (nI nu), .ref pe, .int (nI dr), .int (nI 0), .int (nI 0), .int (nI 0), .int (nI 0)])) _ _ := hN
  rw [mm_uu] at hN
  have hN : mm_N b D s (mm_u σ y (mm_obj o 1 [.int (nI nu), .ref pe, .int (nI dr), .int (nI 0), .int (nI 0), .int (nI 0), .int (nI 0)])) _ _ := hN
  refine lv_aload_n (pc := 22) F.1 F.2.1 dX1_init_22 rfl (lv_at hl 0 rfl) ?_
  refine lv_aload_n (pc := 23) F.1 F.2.1 dX1_init_23 rfl (lv_at hl 2 rfl) ?_
  refine mm_get (pc := 24) F hN ((mm_u_ne npe).trans hPe) (ci := 2) rfl 0 (by decide) mw_402 rfl dX1_init_24 ?_
  refine mm_get (pc := 27) F hN ((mm_u_ne nho).trans hHo) (ci := 0) rfl 1 (by decide) mw_225 rfl dX1_init_27 ?_
  refine mm_putF (pc := 30) F hN (mm_u_eq) (ci := 1) rfl 3 (by decide) mw_630 rfl hin rfl (ty := .int) (by decide +kernel) (rfl) (rfl) (Nat.le_of_ble_eq_true rfl) dX1_init_30 (fun H locs hN => ?_)
  have hN : mm_N b D s (mm_u ((mm_u σ y (mm_obj o 1 [.int (nI nu), .ref pe, .int (nI dr), .int (nI 0), .int (nI 0), .int (nI 0), .int (nI 0)]))) y (mm_obj o 1 [.int (nI nu), .ref pe, .int (nI dr), .int (nI co), .int (nI 0), .int (nI 0), .int (nI 0)])) _ _ := hN
  rw [mm_uu] at hN
  have hN : mm_N b D s (mm_u σ y (mm_obj o 1 [.int (nI nu), .ref pe, .int (nI dr), .int (nI co), .int (nI 0), .int (nI 0), .int (nI 0)])) _ _ := hN
  refine lv_aload_n (pc := 33) F.1 F.2.1 dX1_init_33 rfl (lv_at hl 0 rfl) ?_
  refine lv_aload_n (pc := 34) F.1 F.2.1 dX1_init_34 rfl (lv_at hl 3 rfl) ?_
  refine lv_aload_n (pc := 35) F.1 F.2.1 dX1_init_35 rfl (lv_at hl 2 rfl) ?_
  refine mm_get (pc := 36) F hN ((mm_u_ne npe).trans hPe) (ci := 2) rfl 1 (by decide) mw_406 rfl dX1_init_36 ?_
  refine mm_runV (pc := 39) (As := [.int (nI fl)]) (rest := [.ref y]) F hN (c_pagesW l b D hst o t pa pg lo pc us fl fg hfl _ ((mm_u_ne nt).trans hT) ((mm_u_ne npg).trans hPg)) mw_618 mw_515 mw_516 mw_28 mw_517 ⟨pmX5_pagesWith, (Nat.le_of_ble_eq_true rfl), (Nat.le_of_ble_eq_true rfl)⟩ (mm_recv F.2.2.2.2.2.1 hN ((mm_u_ne nt).trans hT) rfl) hl.1 rfl (Nat.le_of_ble_eq_true rfl) ⟨(Nat.le_of_ble_eq_true rfl), (Nat.le_of_ble_eq_true rfl)⟩ dX1_init_39
    (fun _ _ _ _ _ _ h9 => False.elim h9)
    (fun v9 σ9 H locs hp9 hN => ?_)
  obtain ⟨rfl, h9⟩ := hp9
  rw [h9] at hN
  refine W.eq (g2 := F0 m 42 ls [.int (nI (fg fl)), .ref y]) rfl ?_
  refine W.widen (k := 0) (n := 0) (Nat.le_of_ble_eq_true rfl) (Nat.le_of_ble_eq_true rfl) ?_
  refine mm_putF (pc := 42) F hN (mm_u_eq) (ci := 1) rfl 4 (by decide) mw_632 rfl hin rfl (ty := .int) (by decide +kernel) (rfl) (rfl) (Nat.le_of_ble_eq_true rfl) dX1_init_42 (fun H locs hN => ?_)
  have hN : mm_N b D s (mm_u ((mm_u σ y (mm_obj o 1 [.int (nI nu), .ref pe, .int (nI dr), .int (nI co), .int (nI 0), .int (nI 0), .int (nI 0)]))) y (mm_obj o 1 [.int (nI nu), .ref pe, .int (nI dr), .int (nI co), .int (nI (fg fl)), .int (nI 0), .int (nI 0)])) _ _ := hN
  rw [mm_uu] at hN
  have hN : mm_N b D s (mm_u σ y (mm_obj o 1 [.int (nI nu), .ref pe, .int (nI dr), .int (nI co), .int (nI (fg fl)), .int (nI 0), .int (nI 0)])) _ _ := hN
  refine lv_aload_n (pc := 45) F.1 F.2.1 dX1_init_45 rfl (lv_at hl 0 rfl) ?_
  refine lv_aload_n (pc := 46) F.1 F.2.1 dX1_init_46 rfl (lv_at hl 3 rfl) ?_
  refine lv_aload_n (pc := 47) F.1 F.2.1 dX1_init_47 rfl (lv_at hl 2 rfl) ?_
  refine mm_get (pc := 48) F hN ((mm_u_ne npe).trans hPe) (ci := 2) rfl 1 (by decide) mw_406 rfl dX1_init_48 ?_
  refine mm_runV (pc := 51) (As := [.int (nI fl)]) (rest := [.ref y]) F hN (c_partsW l b D hst o t pa pg lo pc us fl fa hfl _ ((mm_u_ne nt).trans hT) ((mm_u_ne npa).trans hPa)) mw_619 mw_620 mw_621 mw_28 mw_622 ⟨pmX5_partsWith, (Nat.le_of_ble_eq_true rfl), (Nat.le_of_ble_eq_true rfl)⟩ (mm_recv F.2.2.2.2.2.1 hN ((mm_u_ne nt).trans hT) rfl) hl.1 rfl (Nat.le_of_ble_eq_true rfl) ⟨(Nat.le_of_ble_eq_true rfl), (Nat.le_of_ble_eq_true rfl)⟩ dX1_init_51
    (fun _ _ _ _ _ _ h9 => False.elim h9)
    (fun v9 σ9 H locs hp9 hN => ?_)
  obtain ⟨rfl, h9⟩ := hp9
  rw [h9] at hN
  refine W.eq (g2 := F0 m 54 ls [.int (nI (fa fl)), .ref y]) rfl ?_
  refine W.widen (k := 0) (n := 0) (Nat.le_of_ble_eq_true rfl) (Nat.le_of_ble_eq_true rfl) ?_
  refine mm_putF (pc := 54) F hN (mm_u_eq) (ci := 1) rfl 5 (by decide) mw_635 rfl hin rfl (ty := .int) (by decide +kernel) (rfl) (rfl) (Nat.le_of_ble_eq_true rfl) dX1_init_54 (fun H locs hN => ?_)
  have hN : mm_N b D s (mm_u ((mm_u σ y (mm_obj o 1 [.int (nI nu), .ref pe, .int (nI dr), .int (nI co), .int (nI (fg fl)), .int (nI 0), .int (nI 0)]))) y (mm_obj o 1 [.int (nI nu), .ref pe, .int (nI dr), .int (nI co), .int (nI (fg fl)), .int (nI (fa fl)), .int (nI 0)])) _ _ := hN
  rw [mm_uu] at hN
  have hN : mm_N b D s (mm_u σ y (mm_obj o 1 [.int (nI nu), .ref pe, .int (nI dr), .int (nI co), .int (nI (fg fl)), .int (nI (fa fl)), .int (nI 0)])) _ _ := hN
  exact mm_vret (pc := 57) F hr hN (⟨rfl, rfl⟩) (Nat.le_of_ble_eq_true rfl) (Nat.le_of_ble_eq_true rfl) dX1_init_57

set_option maxHeartbeats 4000000 in
set_option maxRecDepth 100000 in
theorem c_Run (l : Launch) (b : Nat) (D : mm_D) (hst : l.stackTraces = false) (o r rb : Nat) (σ : mm_S) (hR : σ r = mm_obj o 3 [.int (nI 0), .null, .null, .null]) : mm_K l b D yX3_init (.code yX3_init cX3_init 2 none) ({ frames := 4, cells := 3, slots := 9, locals := 80 } : Room) [.ref r, .int (nI rb)] σ
    (fun v σ2 => v = none ∧ ∃ eL pL qL : Nat, σ eL = none ∧ σ pL = none ∧ σ qL = none ∧ pL ≠ eL ∧ qL ≠ eL ∧ qL ≠ pL ∧ eL ≠ r ∧ pL ≠ r ∧ qL ≠ r ∧ σ2 = mm_u (mm_u (mm_u (mm_u σ r (mm_obj o 3 [.int (nI rb), .ref eL, .ref pL, .ref qL])) eL (mm_lst o [])) pL (mm_lst o [])) qL (mm_lst o []))
    (fun _ _ => False) := by
  refine mm_of (cc := cX3_init) (nL := 2) (ret := none) (by decide) rfl (Nat.le_of_ble_eq_true rfl) hst ?_
  intro p e s m args below meth c ls F ht hr hin hN hl
  have hl : lv_has ls 2 [(0, .ref r), (1, .int (nI rb))] := hl
  refine lv_aload_n (pc := 0) F.1 F.2.1 dX3_init_0 rfl (lv_at hl 0 rfl) ?_
  refine W.objInit F.1 F.2.1 F.2.2.2.1 (F.2.2.2.2.1 _ mw_594) (F.2.2.2.2.1 _ mw_40) (F.2.2.2.2.1 _ mw_41) rfl (by rw [F.2.2.1]; exact hl.1) rfl (g := F0 m 1 ls [.ref r]) dX3_init_1 (Nat.le_of_ble_eq_true rfl) (Nat.le_of_ble_eq_true rfl) ?_
  refine W.eq (g2 := F0 m 4 ls []) rfl ?_
  refine lv_aload_n (pc := 4) F.1 F.2.1 dX3_init_4 rfl (lv_at hl 0 rfl) ?_
  refine lv_iload_n (pc := 5) F.1 F.2.1 dX3_init_5 rfl (lv_at hl 1 rfl) ?_
  refine mm_putF (pc := 6) F hN (hR) (ci := 3) rfl 0 (by decide) mw_597 rfl hin rfl (ty := .int) (by decide +kernel) (rfl) (rfl) (Nat.le_of_ble_eq_true rfl) dX3_init_6 (fun H locs hN => ?_)
  have hN : mm_N b D s (mm_u σ r (mm_obj o 3 [.int (nI rb), .null, .null, .null])) _ _ := hN
  refine lv_aload_n (pc := 9) F.1 F.2.1 dX3_init_9 rfl (lv_at hl 0 rfl) ?_
  refine mm_new (pc := 10) F hN o (ci := 8) (fs := [.int (nI 0), .null, .int (nI 0)]) rfl tyJx4a65c tyJx4a65c_ok (fun j9 h9 => by rcases (show j9 = 0 ∨ j9 = 1 ∨ j9 = 2 by omega) with rfl | rfl | rfl <;> rfl) mw_595 mw_43 mw_4 (Nat.le_of_ble_eq_true rfl) (Nat.le_of_ble_eq_true rfl) dX3_init_10 (fun q1 H hq1 hN => ?_)
  have hN : mm_N b D s (mm_u ((mm_u σ r (mm_obj o 3 [.int (nI rb), .null, .null, .null]))) q1 (mm_obj o 8 [.int (nI 0), .null, .int (nI 0)])) _ _ := hN
  have nq1 : q1 ≠ r := fun e => by rw [e] at hq1; exact absurd hq1 (by rw [mm_u_eq]; intro h9; cases h9)
  have zq1 : σ q1 = none := by rw [← hq1]; exact (((mm_u_ne nq1))).symm
  refine lv_dup (pc := 13) F.1 F.2.1 dX3_init_13 rfl ?_
  refine mm_runI (pc := 14) (As := []) (rest := [.ref q1, .ref r]) F hN (c_ALinit l b D hst o q1 _ mm_u_eq) rfl mw_596 mw_45 mw_4 mw_46 ⟨pmJx4a65c_init_da8c8, (Nat.le_of_ble_eq_true rfl), (Nat.le_of_ble_eq_true rfl)⟩ hl.1 rfl (Nat.le_of_ble_eq_true rfl) ⟨(Nat.le_of_ble_eq_true rfl), (Nat.le_of_ble_eq_true rfl)⟩ dX3_init_14
    (fun _ _ _ _ _ _ h9 => False.elim h9)
    (fun v9 σ9 H locs hp9 hN => ?_)
  obtain ⟨rfl, hσ9⟩ := hp9
  refine W.eq (g2 := F0 m 17 ls [.ref q1, .ref r]) rfl ?_
  refine W.widen (k := 1) (n := 3) (Nat.le_of_ble_eq_true rfl) (Nat.le_of_ble_eq_true rfl) ?_
  rw [hσ9, mm_uu] at hN
  have hN : mm_N b D s (mm_u (mm_u σ r (mm_obj o 3 [.int (nI rb), .null, .null, .null])) q1 (mm_lst o [])) _ _ := hN
  refine mm_putF (pc := 17) F hN ((mm_u_ne (Ne.symm nq1)).trans (mm_u_eq)) (ci := 3) rfl 1 (by decide) mw_598 rfl hin rfl (ty := (.object "java/util/ArrayList")) (by decide +kernel) (rfl) (rfl) (Nat.le_of_ble_eq_true rfl) dX3_init_17 (fun H locs hN => ?_)
  have hN : mm_N b D s (mm_u ((mm_u (mm_u σ r (mm_obj o 3 [.int (nI rb), .null, .null, .null])) q1 (mm_lst o []))) r (mm_obj o 3 [.int (nI rb), .ref q1, .null, .null])) _ _ := hN
  have hN := mm_NS hN (show mm_u ((mm_u (mm_u σ r (mm_obj o 3 [.int (nI rb), .null, .null, .null])) q1 (mm_lst o []))) r (mm_obj o 3 [.int (nI rb), .ref q1, .null, .null]) = (mm_u (mm_u σ r (mm_obj o 3 [.int (nI rb), .ref q1, .null, .null])) q1 (mm_lst o [])) by rw [mm_uc nq1, mm_uu])
  refine lv_aload_n (pc := 20) F.1 F.2.1 dX3_init_20 rfl (lv_at hl 0 rfl) ?_
  refine mm_new (pc := 21) F hN o (ci := 8) (fs := [.int (nI 0), .null, .int (nI 0)]) rfl tyJx4a65c tyJx4a65c_ok (fun j9 h9 => by rcases (show j9 = 0 ∨ j9 = 1 ∨ j9 = 2 by omega) with rfl | rfl | rfl <;> rfl) mw_595 mw_43 mw_4 (Nat.le_of_ble_eq_true rfl) (Nat.le_of_ble_eq_true rfl) dX3_init_21 (fun q2 H hq2 hN => ?_)
  have hN : mm_N b D s (mm_u ((mm_u (mm_u σ r (mm_obj o 3 [.int (nI rb), .ref q1, .null, .null])) q1 (mm_lst o []))) q2 (mm_obj o 8 [.int (nI 0), .null, .int (nI 0)])) _ _ := hN
  have nq2 : q2 ≠ r := fun e => by rw [e] at hq2; exact absurd hq2 (by rw [(mm_u_ne (Ne.symm nq1)).trans (mm_u_eq)]; intro h9; cases h9)
  have nq2q1 : q2 ≠ q1 := fun e => by rw [e] at hq2; exact absurd hq2 (by rw [mm_u_eq]; intro h9; cases h9)
  have zq2 : σ q2 = none := by rw [← hq2]; exact (((mm_u_ne nq2q1).trans ((mm_u_ne nq2)))).symm
  refine lv_dup (pc := 24) F.1 F.2.1 dX3_init_24 rfl ?_
  refine mm_runI (pc := 25) (As := []) (rest := [.ref q2, .ref r]) F hN (c_ALinit l b D hst o q2 _ mm_u_eq) rfl mw_596 mw_45 mw_4 mw_46 ⟨pmJx4a65c_init_da8c8, (Nat.le_of_ble_eq_true rfl), (Nat.le_of_ble_eq_true rfl)⟩ hl.1 rfl (Nat.le_of_ble_eq_true rfl) ⟨(Nat.le_of_ble_eq_true rfl), (Nat.le_of_ble_eq_true rfl)⟩ dX3_init_25
    (fun _ _ _ _ _ _ h9 => False.elim h9)
    (fun v9 σ9 H locs hp9 hN => ?_)
  obtain ⟨rfl, hσ9⟩ := hp9
  refine W.eq (g2 := F0 m 28 ls [.ref q2, .ref r]) rfl ?_
  refine W.widen (k := 2) (n := 6) (Nat.le_of_ble_eq_true rfl) (Nat.le_of_ble_eq_true rfl) ?_
  rw [hσ9, mm_uu] at hN
  have hN : mm_N b D s (mm_u (mm_u (mm_u σ r (mm_obj o 3 [.int (nI rb), .ref q1, .null, .null])) q1 (mm_lst o [])) q2 (mm_lst o [])) _ _ := hN
  refine mm_putF (pc := 28) F hN ((mm_u_ne (Ne.symm nq2)).trans ((mm_u_ne (Ne.symm nq1)).trans (mm_u_eq))) (ci := 3) rfl 2 (by decide) mw_600 rfl hin rfl (ty := (.object "java/util/ArrayList")) (by decide +kernel) (rfl) (rfl) (Nat.le_of_ble_eq_true rfl) dX3_init_28 (fun H locs hN => ?_)
  have hN : mm_N b D s (mm_u ((mm_u (mm_u (mm_u σ r (mm_obj o 3 [.int (nI rb), .ref q1, .null, .null])) q1 (mm_lst o [])) q2 (mm_lst o []))) r (mm_obj o 3 [.int (nI rb), .ref q1, .ref q2, .null])) _ _ := hN
  have hN := mm_NS hN (show mm_u ((mm_u (mm_u (mm_u σ r (mm_obj o 3 [.int (nI rb), .ref q1, .null, .null])) q1 (mm_lst o [])) q2 (mm_lst o []))) r (mm_obj o 3 [.int (nI rb), .ref q1, .ref q2, .null]) = (mm_u (mm_u (mm_u σ r (mm_obj o 3 [.int (nI rb), .ref q1, .ref q2, .null])) q1 (mm_lst o [])) q2 (mm_lst o [])) by rw [mm_uc nq2, mm_uc nq1, mm_uu])
  refine lv_aload_n (pc := 31) F.1 F.2.1 dX3_init_31 rfl (lv_at hl 0 rfl) ?_
  refine mm_new (pc := 32) F hN o (ci := 8) (fs := [.int (nI 0), .null, .int (nI 0)]) rfl tyJx4a65c tyJx4a65c_ok (fun j9 h9 => by rcases (show j9 = 0 ∨ j9 = 1 ∨ j9 = 2 by omega) with rfl | rfl | rfl <;> rfl) mw_595 mw_43 mw_4 (Nat.le_of_ble_eq_true rfl) (Nat.le_of_ble_eq_true rfl) dX3_init_32 (fun q3 H hq3 hN => ?_)
  have hN : mm_N b D s (mm_u ((mm_u (mm_u (mm_u σ r (mm_obj o 3 [.int (nI rb), .ref q1, .ref q2, .null])) q1 (mm_lst o [])) q2 (mm_lst o []))) q3 (mm_obj o 8 [.int (nI 0), .null, .int (nI 0)])) _ _ := hN
  have nq3 : q3 ≠ r := fun e => by rw [e] at hq3; exact absurd hq3 (by rw [(mm_u_ne (Ne.symm nq2)).trans ((mm_u_ne (Ne.symm nq1)).trans (mm_u_eq))]; intro h9; cases h9)
  have nq3q1 : q3 ≠ q1 := fun e => by rw [e] at hq3; exact absurd hq3 (by rw [mm_u_ne (Ne.symm nq2q1)]; rw [mm_u_eq]; intro h9; cases h9)
  have nq3q2 : q3 ≠ q2 := fun e => by rw [e] at hq3; exact absurd hq3 (by rw [mm_u_eq]; intro h9; cases h9)
  have zq3 : σ q3 = none := by rw [← hq3]; exact (((mm_u_ne nq3q2).trans ((mm_u_ne nq3q1).trans ((mm_u_ne nq3))))).symm
  refine lv_dup (pc := 35) F.1 F.2.1 dX3_init_35 rfl ?_
  refine mm_runI (pc := 36) (As := []) (rest := [.ref q3, .ref r]) F hN (c_ALinit l b D hst o q3 _ mm_u_eq) rfl mw_596 mw_45 mw_4 mw_46 ⟨pmJx4a65c_init_da8c8, (Nat.le_of_ble_eq_true rfl), (Nat.le_of_ble_eq_true rfl)⟩ hl.1 rfl (Nat.le_of_ble_eq_true rfl) ⟨(Nat.le_of_ble_eq_true rfl), (Nat.le_of_ble_eq_true rfl)⟩ dX3_init_36
    (fun _ _ _ _ _ _ h9 => False.elim h9)
    (fun v9 σ9 H locs hp9 hN => ?_)
  obtain ⟨rfl, hσ9⟩ := hp9
  refine W.eq (g2 := F0 m 39 ls [.ref q3, .ref r]) rfl ?_
  refine W.widen (k := 3) (n := 9) (Nat.le_of_ble_eq_true rfl) (Nat.le_of_ble_eq_true rfl) ?_
  rw [hσ9, mm_uu] at hN
  have hN : mm_N b D s (mm_u (mm_u (mm_u (mm_u σ r (mm_obj o 3 [.int (nI rb), .ref q1, .ref q2, .null])) q1 (mm_lst o [])) q2 (mm_lst o [])) q3 (mm_lst o [])) _ _ := hN
  refine mm_putF (pc := 39) F hN ((mm_u_ne (Ne.symm nq3)).trans ((mm_u_ne (Ne.symm nq2)).trans ((mm_u_ne (Ne.symm nq1)).trans (mm_u_eq)))) (ci := 3) rfl 3 (by decide) mw_602 rfl hin rfl (ty := (.object "java/util/ArrayList")) (by decide +kernel) (rfl) (rfl) (Nat.le_of_ble_eq_true rfl) dX3_init_39 (fun H locs hN => ?_)
  have hN : mm_N b D s (mm_u ((mm_u (mm_u (mm_u (mm_u σ r (mm_obj o 3 [.int (nI rb), .ref q1, .ref q2, .null])) q1 (mm_lst o [])) q2 (mm_lst o [])) q3 (mm_lst o []))) r (mm_obj o 3 [.int (nI rb), .ref q1, .ref q2, .ref q3])) _ _ := hN
  have hN := mm_NS hN (show mm_u ((mm_u (mm_u (mm_u (mm_u σ r (mm_obj o 3 [.int (nI rb), .ref q1, .ref q2, .null])) q1 (mm_lst o [])) q2 (mm_lst o [])) q3 (mm_lst o []))) r (mm_obj o 3 [.int (nI rb), .ref q1, .ref q2, .ref q3]) = (mm_u (mm_u (mm_u (mm_u σ r (mm_obj o 3 [.int (nI rb), .ref q1, .ref q2, .ref q3])) q1 (mm_lst o [])) q2 (mm_lst o [])) q3 (mm_lst o [])) by rw [mm_uc nq3, mm_uc nq2, mm_uc nq1, mm_uu])
  exact mm_vret (pc := 42) F hr hN (⟨rfl, q1, q2, q3, zq1, zq2, zq3, nq2q1, nq3q1, nq3q2, nq1, nq2, nq3, rfl⟩) (Nat.le_of_ble_eq_true rfl) (Nat.le_of_ble_eq_true rfl) dX3_init_42

set_option maxHeartbeats 4000000 in
set_option maxRecDepth 100000 in
theorem c_countBack (l : Launch) (b : Nat) (D : mm_D) (hst : l.stackTraces = false) (o r rb eL pL qL : Nat) (L : List Nat) (f : Nat → Nat → Nat) (σ : mm_S) (hR : σ r = mm_obj o 3 [.int (nI rb), .ref eL, .ref pL, .ref qL]) (hL : σ pL = mm_lst o L) (hE : mm_en σ o L f) : mm_K l b D yX3_countBack (.code yX3_countBack cX3_countBack 3 (some .int)) ({ frames := 3, cells := 0, slots := 0, locals := 84 } : Room) [.ref r] σ
    (fun v σ2 => v = some (.int (nI (mm_sm (f 6) L.length))) ∧ σ2 = σ)
    (fun _ _ => False) := by
  refine mm_of (cc := cX3_countBack) (nL := 3) (ret := (some .int)) (by decide) rfl (Nat.le_of_ble_eq_true rfl) hst ?_
  intro p e s m args below meth c ls F ht hr hin hN hl
  have hl : lv_has ls 3 [(0, .ref r)] := hl
  have hn := hE.1
  refine lv_iconst (pc := 0) (v := nI 0) F.1 F.2.1 dX3_countBack_0 (by decide) ?_
  refine lv_istore_n (pc := 1) (lv' := [(1, .int (nI 0)), (0, .ref r)]) F.1 F.2.1 dX3_countBack_1 rfl hl (by decide) rfl (fun ls hl => ?_)
  refine lv_iconst (pc := 2) (v := nI 0) F.1 F.2.1 dX3_countBack_2 (by decide) ?_
  refine lv_istore_n (pc := 3) (lv' := [(2, .int (nI 0)), (1, .int (nI 0)), (0, .ref r)]) F.1 F.2.1 dX3_countBack_3 rfl hl (by decide) rfl (fun ls hl => ?_)
  have lp4 : ∀ (k4 i : Nat) (ct : Nat) (ls : Array Slot) (H : Heap) (locs : List Loc), L.length < i + k4 → i ≤ L.length → (ct = mm_sm (f 6) i) → mm_N b D s σ H locs → lv_has ls 3 [(0, .ref r), (1, .int (nI ct)), (2, .int (nI i))] →
      W p l e ({ frames := 3, cells := 0, slots := 0, locals := 84 } : Room) s m args below meth c H locs (0) (0) (mm_Q b D (fun v σ2 => v = some (.int (nI (mm_sm (f 6) L.length))) ∧ σ2 = σ) (fun _ _ => False) below args s ({ frames := 3, cells := 0, slots := 0, locals := 84 } : Room)) (F0 m 4 ls []) := by
    intro k4
    induction k4 with
    | zero => intro i ct ls H locs hk4 hi4 hct hN hl; omega
    | succ k4 ih4 =>
      intro i ct ls H locs hk4 hi4 hct hN hl
      refine lv_iload_n (pc := 4) F.1 F.2.1 dX3_countBack_4 rfl (lv_at hl 2 rfl) ?_
      refine lv_aload_n (pc := 5) F.1 F.2.1 dX3_countBack_5 rfl (lv_at hl 0 rfl) ?_
      refine mm_get (pc := 6) F hN (hR) (ci := 3) rfl 2 (by decide) mw_600 rfl dX3_countBack_6 ?_
      refine mm_runV (pc := 9) (As := []) (rest := [.int (nI i)]) F hN (c_ALsize l b D hst o pL L σ hL) mw_667 mw_197 mw_198 mw_4 mw_199 ⟨pmJx4a65c_size_8abf5, (Nat.le_of_ble_eq_true rfl), (Nat.le_of_ble_eq_true rfl)⟩ (mm_recvL F.2.2.2.2.2.1 hN hL) hl.1 rfl (Nat.le_of_ble_eq_true rfl) ⟨(Nat.le_of_ble_eq_true rfl), (Nat.le_of_ble_eq_true rfl)⟩ dX3_countBack_9
        (fun _ _ _ _ _ _ h9 => False.elim h9)
        (fun v9 σ9 H locs hp9 hN => ?_)
      obtain ⟨rfl, h9⟩ := hp9
      rw [h9] at hN
      refine W.eq (g2 := F0 m 12 ls [.int (nI L.length), .int (nI i)]) rfl ?_
      refine W.widen (k := 0) (n := 0) (Nat.le_of_ble_eq_true rfl) (Nat.le_of_ble_eq_true rfl) ?_
      refine mm_icmp_ge (pc := 12) F (x := i) (y := L.length) (tgt := 41) (by omega) (by omega) dX3_countBack_12 (by decide) (fun cz12 => ?_) (fun cz12 => ?_)
      ·
        have hi9 : i = L.length := by omega
        refine lv_iload_n (pc := 41) F.1 F.2.1 dX3_countBack_41 rfl (lv_at hl 1 rfl) ?_
        exact mm_iret (pc := 42) F hr hN (⟨by rw [hct, hi9], rfl⟩) (Nat.le_of_ble_eq_true rfl) (Nat.le_of_ble_eq_true rfl) dX3_countBack_42
      ·
        obtain ⟨hEi, b2, b3, b4, b5, b6⟩ := hE.2 i (by omega)
        refine lv_aload_n (pc := 15) F.1 F.2.1 dX3_countBack_15 rfl (lv_at hl 0 rfl) ?_
        refine mm_get (pc := 16) F hN (hR) (ci := 3) rfl 2 (by decide) mw_600 rfl dX3_countBack_16 ?_
        refine lv_iload_n (pc := 19) F.1 F.2.1 dX3_countBack_19 rfl (lv_at hl 2 rfl) ?_
        refine mm_runV (pc := 20) (As := [.int (nI i)]) (rest := []) F hN (c_ALget l b D hst o pL i (L.getD i 0) L σ hL (mm_gd (by omega))) mw_668 mw_358 mw_359 mw_4 mw_360 ⟨pmJx4a65c_get_915e3, (Nat.le_of_ble_eq_true rfl), (Nat.le_of_ble_eq_true rfl)⟩ (mm_recvL F.2.2.2.2.2.1 hN hL) hl.1 rfl (Nat.le_of_ble_eq_true rfl) ⟨(Nat.le_of_ble_eq_true rfl), (Nat.le_of_ble_eq_true rfl)⟩ dX3_countBack_20
          (fun _ _ _ _ _ _ h9 => False.elim h9)
          (fun v9 σ9 H locs hp9 hN => ?_)
        obtain ⟨rfl, h9⟩ := hp9
        rw [h9] at hN
        refine W.eq (g2 := F0 m 23 ls [.ref ((L.getD i 0))]) rfl ?_
        refine W.widen (k := 0) (n := 0) (Nat.le_of_ble_eq_true rfl) (Nat.le_of_ble_eq_true rfl) ?_
        refine mm_cast (pc := 23) F hN (hEi) (ci := 1) rfl mw_669 dX3_countBack_23 ?_
        refine mm_get (pc := 26) F hN (hEi) (ci := 1) rfl 6 (by decide) mw_637 rfl dX3_countBack_26 ?_
        refine mm_if_eq (pc := 29) F (tgt := 35) (by omega) dX3_countBack_29 (by decide) (fun cz29 => ?_) (fun cz29 => ?_)
        ·
          refine lv_iinc (pc := 35) (v := nI (i + 1)) (lv' := [(2, .int (nI (i + 1))), (0, .ref r), (1, .int (nI ct))]) F.1 F.2.1 dX3_countBack_35 hl (k := 2) rfl (by rw [← nI_add]; rfl) (by decide) rfl (fun ls hl => ?_)
          refine lv_goto (pc := 38) (tgt := 4) F.1 F.2.1 dX3_countBack_38 (by decide) ?_
          exact ih4 (i + 1) ct ls _ _ (by omega) (by omega) (by show _ = mm_sm (f 6) i + (f 6) i; omega) hN (lv_sub hl [1, 2, 0] rfl)
        ·
          refine lv_iinc (pc := 32) (v := nI (ct + 1)) (lv' := [(1, .int (nI (ct + 1))), (0, .ref r), (2, .int (nI i))]) F.1 F.2.1 dX3_countBack_32 hl (k := 1) rfl (by rw [← nI_add]; rfl) (by decide) rfl (fun ls hl => ?_)
          refine lv_iinc (pc := 35) (v := nI (i + 1)) (lv' := [(2, .int (nI (i + 1))), (1, .int (nI (ct + 1))), (0, .ref r)]) F.1 F.2.1 dX3_countBack_35 hl (k := 2) rfl (by rw [← nI_add]; rfl) (by decide) rfl (fun ls hl => ?_)
          refine lv_goto (pc := 38) (tgt := 4) F.1 F.2.1 dX3_countBack_38 (by decide) ?_
          exact ih4 (i + 1) (ct + 1) ls _ _ (by omega) (by omega) (by show _ = mm_sm (f 6) i + (f 6) i; omega) hN (lv_sub hl [2, 1, 0] rfl)
  exact lp4 (L.length + 1) 0 0 ls _ _ (by omega) (by omega) (rfl) hN (lv_sub hl [2, 1, 0] rfl)

set_option maxHeartbeats 4000000 in
set_option maxRecDepth 100000 in
theorem c_countPages (l : Launch) (b : Nat) (D : mm_D) (hst : l.stackTraces = false) (o r rb eL pL qL : Nat) (L : List Nat) (f : Nat → Nat → Nat) (σ : mm_S) (hR : σ r = mm_obj o 3 [.int (nI rb), .ref eL, .ref pL, .ref qL]) (hL : σ pL = mm_lst o L) (hE : mm_en σ o L f) : mm_K l b D yX3_countPages (.code yX3_countPages cX3_countPages 3 (some .int)) ({ frames := 3, cells := 0, slots := 0, locals := 84 } : Room) [.ref r] σ
    (fun v σ2 => v = some (.int (nI (mm_sm (f 4) L.length))) ∧ σ2 = σ)
    (fun _ _ => False) := by
  refine mm_of (cc := cX3_countPages) (nL := 3) (ret := (some .int)) (by decide) rfl (Nat.le_of_ble_eq_true rfl) hst ?_
  intro p e s m args below meth c ls F ht hr hin hN hl
  have hl : lv_has ls 3 [(0, .ref r)] := hl
  have hn := hE.1
  refine lv_iconst (pc := 0) (v := nI 0) F.1 F.2.1 dX3_countPages_0 (by decide) ?_
  refine lv_istore_n (pc := 1) (lv' := [(1, .int (nI 0)), (0, .ref r)]) F.1 F.2.1 dX3_countPages_1 rfl hl (by decide) rfl (fun ls hl => ?_)
  refine lv_iconst (pc := 2) (v := nI 0) F.1 F.2.1 dX3_countPages_2 (by decide) ?_
  refine lv_istore_n (pc := 3) (lv' := [(2, .int (nI 0)), (1, .int (nI 0)), (0, .ref r)]) F.1 F.2.1 dX3_countPages_3 rfl hl (by decide) rfl (fun ls hl => ?_)
  have lp4 : ∀ (k4 i : Nat) (ct : Nat) (ls : Array Slot) (H : Heap) (locs : List Loc), L.length < i + k4 → i ≤ L.length → (ct = mm_sm (f 4) i) → mm_N b D s σ H locs → lv_has ls 3 [(0, .ref r), (1, .int (nI ct)), (2, .int (nI i))] →
      W p l e ({ frames := 3, cells := 0, slots := 0, locals := 84 } : Room) s m args below meth c H locs (0) (0) (mm_Q b D (fun v σ2 => v = some (.int (nI (mm_sm (f 4) L.length))) ∧ σ2 = σ) (fun _ _ => False) below args s ({ frames := 3, cells := 0, slots := 0, locals := 84 } : Room)) (F0 m 4 ls []) := by
    intro k4
    induction k4 with
    | zero => intro i ct ls H locs hk4 hi4 hct hN hl; omega
    | succ k4 ih4 =>
      intro i ct ls H locs hk4 hi4 hct hN hl
      refine lv_iload_n (pc := 4) F.1 F.2.1 dX3_countPages_4 rfl (lv_at hl 2 rfl) ?_
      refine lv_aload_n (pc := 5) F.1 F.2.1 dX3_countPages_5 rfl (lv_at hl 0 rfl) ?_
      refine mm_get (pc := 6) F hN (hR) (ci := 3) rfl 2 (by decide) mw_600 rfl dX3_countPages_6 ?_
      refine mm_runV (pc := 9) (As := []) (rest := [.int (nI i)]) F hN (c_ALsize l b D hst o pL L σ hL) mw_667 mw_197 mw_198 mw_4 mw_199 ⟨pmJx4a65c_size_8abf5, (Nat.le_of_ble_eq_true rfl), (Nat.le_of_ble_eq_true rfl)⟩ (mm_recvL F.2.2.2.2.2.1 hN hL) hl.1 rfl (Nat.le_of_ble_eq_true rfl) ⟨(Nat.le_of_ble_eq_true rfl), (Nat.le_of_ble_eq_true rfl)⟩ dX3_countPages_9
        (fun _ _ _ _ _ _ h9 => False.elim h9)
        (fun v9 σ9 H locs hp9 hN => ?_)
      obtain ⟨rfl, h9⟩ := hp9
      rw [h9] at hN
      refine W.eq (g2 := F0 m 12 ls [.int (nI L.length), .int (nI i)]) rfl ?_
      refine W.widen (k := 0) (n := 0) (Nat.le_of_ble_eq_true rfl) (Nat.le_of_ble_eq_true rfl) ?_
      refine mm_icmp_ge (pc := 12) F (x := i) (y := L.length) (tgt := 38) (by omega) (by omega) dX3_countPages_12 (by decide) (fun cz12 => ?_) (fun cz12 => ?_)
      ·
        have hi9 : i = L.length := by omega
        refine lv_iload_n (pc := 38) F.1 F.2.1 dX3_countPages_38 rfl (lv_at hl 1 rfl) ?_
        exact mm_iret (pc := 39) F hr hN (⟨by rw [hct, hi9], rfl⟩) (Nat.le_of_ble_eq_true rfl) (Nat.le_of_ble_eq_true rfl) dX3_countPages_39
      ·
        obtain ⟨hEi, b2, b3, b4, b5, b6⟩ := hE.2 i (by omega)
        refine lv_iload_n (pc := 15) F.1 F.2.1 dX3_countPages_15 rfl (lv_at hl 1 rfl) ?_
        refine lv_aload_n (pc := 16) F.1 F.2.1 dX3_countPages_16 rfl (lv_at hl 0 rfl) ?_
        refine mm_get (pc := 17) F hN (hR) (ci := 3) rfl 2 (by decide) mw_600 rfl dX3_countPages_17 ?_
        refine lv_iload_n (pc := 20) F.1 F.2.1 dX3_countPages_20 rfl (lv_at hl 2 rfl) ?_
        refine mm_runV (pc := 21) (As := [.int (nI i)]) (rest := [.int (nI ct)]) F hN (c_ALget l b D hst o pL i (L.getD i 0) L σ hL (mm_gd (by omega))) mw_668 mw_358 mw_359 mw_4 mw_360 ⟨pmJx4a65c_get_915e3, (Nat.le_of_ble_eq_true rfl), (Nat.le_of_ble_eq_true rfl)⟩ (mm_recvL F.2.2.2.2.2.1 hN hL) hl.1 rfl (Nat.le_of_ble_eq_true rfl) ⟨(Nat.le_of_ble_eq_true rfl), (Nat.le_of_ble_eq_true rfl)⟩ dX3_countPages_21
          (fun _ _ _ _ _ _ h9 => False.elim h9)
          (fun v9 σ9 H locs hp9 hN => ?_)
        obtain ⟨rfl, h9⟩ := hp9
        rw [h9] at hN
        refine W.eq (g2 := F0 m 24 ls [.ref ((L.getD i 0)), .int (nI ct)]) rfl ?_
        refine W.widen (k := 0) (n := 0) (Nat.le_of_ble_eq_true rfl) (Nat.le_of_ble_eq_true rfl) ?_
        refine mm_cast (pc := 24) F hN (hEi) (ci := 1) rfl mw_669 dX3_countPages_24 ?_
        refine mm_get (pc := 27) F hN (hEi) (ci := 1) rfl 4 (by decide) mw_633 rfl dX3_countPages_27 ?_
        refine mm_iadd (pc := 30) F (z := nI (ct + (f 4 i))) (nI_add _ _) dX3_countPages_30 ?_
        refine lv_istore_n (pc := 31) (lv' := [(1, .int (nI (ct + (f 4 i)))), (0, .ref r), (2, .int (nI i))]) F.1 F.2.1 dX3_countPages_31 rfl hl (by decide) rfl (fun ls hl => ?_)
        refine lv_iinc (pc := 32) (v := nI (i + 1)) (lv' := [(2, .int (nI (i + 1))), (1, .int (nI (ct + (f 4 i)))), (0, .ref r)]) F.1 F.2.1 dX3_countPages_32 hl (k := 2) rfl (by rw [← nI_add]; rfl) (by decide) rfl (fun ls hl => ?_)
        refine lv_goto (pc := 35) (tgt := 4) F.1 F.2.1 dX3_countPages_35 (by decide) ?_
        exact ih4 (i + 1) (ct + (f 4 i)) ls _ _ (by omega) (by omega) (by show _ = mm_sm (f 4) i + (f 4) i; omega) hN (lv_sub hl [2, 1, 0] rfl)
  exact lp4 (L.length + 1) 0 0 ls _ _ (by omega) (by omega) (rfl) hN (lv_sub hl [2, 1, 0] rfl)

set_option maxHeartbeats 4000000 in
set_option maxRecDepth 100000 in
theorem c_upToCode (l : Launch) (b : Nat) (D : mm_D) (hst : l.stackTraces = false) (o r rb eL pL qL : Nat) (L : List Nat) (f : Nat → Nat → Nat) (σ : mm_S) (hR : σ r = mm_obj o 3 [.int (nI rb), .ref eL, .ref pL, .ref qL]) (hL : σ pL = mm_lst o L) (hE : mm_en σ o L f) (co : Nat) (hco : co < 100) : mm_K l b D yX3_countUpToCode (.code yX3_countUpToCode cX3_countUpToCode 4 (some .int)) ({ frames := 3, cells := 0, slots := 0, locals := 84 } : Room) [.ref r, .int (nI co)] σ
    (fun v σ2 => v = some (.int (nI (mm_sm (fun i => if f 3 i ≤ co then 1 else 0) L.length))) ∧ σ2 = σ)
    (fun _ _ => False) := by
  refine mm_of (cc := cX3_countUpToCode) (nL := 4) (ret := (some .int)) (by decide) rfl (Nat.le_of_ble_eq_true rfl) hst ?_
  intro p e s m args below meth c ls F ht hr hin hN hl
  have hl : lv_has ls 4 [(0, .ref r), (1, .int (nI co))] := hl
  have hn := hE.1
  refine lv_iconst (pc := 0) (v := nI 0) F.1 F.2.1 dX3_countUpToCode_0 (by decide) ?_
  refine lv_istore_n (pc := 1) (lv' := [(2, .int (nI 0)), (0, .ref r), (1, .int (nI co))]) F.1 F.2.1 dX3_countUpToCode_1 rfl hl (by decide) rfl (fun ls hl => ?_)
  refine lv_iconst (pc := 2) (v := nI 0) F.1 F.2.1 dX3_countUpToCode_2 (by decide) ?_
  refine lv_istore_n (pc := 3) (lv' := [(3, .int (nI 0)), (2, .int (nI 0)), (0, .ref r), (1, .int (nI co))]) F.1 F.2.1 dX3_countUpToCode_3 rfl hl (by decide) rfl (fun ls hl => ?_)
  have lp4 : ∀ (k4 i : Nat) (ct : Nat) (ls : Array Slot) (H : Heap) (locs : List Loc), L.length < i + k4 → i ≤ L.length → (ct = mm_sm (fun i => if f 3 i ≤ co then 1 else 0) i) → mm_N b D s σ H locs → lv_has ls 4 [(0, .ref r), (1, .int (nI co)), (2, .int (nI ct)), (3, .int (nI i))] →
      W p l e ({ frames := 3, cells := 0, slots := 0, locals := 84 } : Room) s m args below meth c H locs (0) (0) (mm_Q b D (fun v σ2 => v = some (.int (nI (mm_sm (fun i => if f 3 i ≤ co then 1 else 0) L.length))) ∧ σ2 = σ) (fun _ _ => False) below args s ({ frames := 3, cells := 0, slots := 0, locals := 84 } : Room)) (F0 m 4 ls []) := by
    intro k4
    induction k4 with
    | zero => intro i ct ls H locs hk4 hi4 hct hN hl; omega
    | succ k4 ih4 =>
      intro i ct ls H locs hk4 hi4 hct hN hl
      refine lv_iload_n (pc := 4) F.1 F.2.1 dX3_countUpToCode_4 rfl (lv_at hl 3 rfl) ?_
      refine lv_aload_n (pc := 5) F.1 F.2.1 dX3_countUpToCode_5 rfl (lv_at hl 0 rfl) ?_
      refine mm_get (pc := 6) F hN (hR) (ci := 3) rfl 2 (by decide) mw_600 rfl dX3_countUpToCode_6 ?_
      refine mm_runV (pc := 9) (As := []) (rest := [.int (nI i)]) F hN (c_ALsize l b D hst o pL L σ hL) mw_667 mw_197 mw_198 mw_4 mw_199 ⟨pmJx4a65c_size_8abf5, (Nat.le_of_ble_eq_true rfl), (Nat.le_of_ble_eq_true rfl)⟩ (mm_recvL F.2.2.2.2.2.1 hN hL) hl.1 rfl (Nat.le_of_ble_eq_true rfl) ⟨(Nat.le_of_ble_eq_true rfl), (Nat.le_of_ble_eq_true rfl)⟩ dX3_countUpToCode_9
        (fun _ _ _ _ _ _ h9 => False.elim h9)
        (fun v9 σ9 H locs hp9 hN => ?_)
      obtain ⟨rfl, h9⟩ := hp9
      rw [h9] at hN
      refine W.eq (g2 := F0 m 12 ls [.int (nI L.length), .int (nI i)]) rfl ?_
      refine W.widen (k := 0) (n := 0) (Nat.le_of_ble_eq_true rfl) (Nat.le_of_ble_eq_true rfl) ?_
      refine mm_icmp_ge (pc := 12) F (x := i) (y := L.length) (tgt := 42) (by omega) (by omega) dX3_countUpToCode_12 (by decide) (fun cz12 => ?_) (fun cz12 => ?_)
      ·
        have hi9 : i = L.length := by omega
        refine lv_iload_n (pc := 42) F.1 F.2.1 dX3_countUpToCode_42 rfl (lv_at hl 2 rfl) ?_
        exact mm_iret (pc := 43) F hr hN (⟨by rw [hct, hi9], rfl⟩) (Nat.le_of_ble_eq_true rfl) (Nat.le_of_ble_eq_true rfl) dX3_countUpToCode_43
      ·
        obtain ⟨hEi, b2, b3, b4, b5, b6⟩ := hE.2 i (by omega)
        refine lv_aload_n (pc := 15) F.1 F.2.1 dX3_countUpToCode_15 rfl (lv_at hl 0 rfl) ?_
        refine mm_get (pc := 16) F hN (hR) (ci := 3) rfl 2 (by decide) mw_600 rfl dX3_countUpToCode_16 ?_
        refine lv_iload_n (pc := 19) F.1 F.2.1 dX3_countUpToCode_19 rfl (lv_at hl 3 rfl) ?_
        refine mm_runV (pc := 20) (As := [.int (nI i)]) (rest := []) F hN (c_ALget l b D hst o pL i (L.getD i 0) L σ hL (mm_gd (by omega))) mw_668 mw_358 mw_359 mw_4 mw_360 ⟨pmJx4a65c_get_915e3, (Nat.le_of_ble_eq_true rfl), (Nat.le_of_ble_eq_true rfl)⟩ (mm_recvL F.2.2.2.2.2.1 hN hL) hl.1 rfl (Nat.le_of_ble_eq_true rfl) ⟨(Nat.le_of_ble_eq_true rfl), (Nat.le_of_ble_eq_true rfl)⟩ dX3_countUpToCode_20
          (fun _ _ _ _ _ _ h9 => False.elim h9)
          (fun v9 σ9 H locs hp9 hN => ?_)
        obtain ⟨rfl, h9⟩ := hp9
        rw [h9] at hN
        refine W.eq (g2 := F0 m 23 ls [.ref ((L.getD i 0))]) rfl ?_
        refine W.widen (k := 0) (n := 0) (Nat.le_of_ble_eq_true rfl) (Nat.le_of_ble_eq_true rfl) ?_
        refine mm_cast (pc := 23) F hN (hEi) (ci := 1) rfl mw_669 dX3_countUpToCode_23 ?_
        refine mm_get (pc := 26) F hN (hEi) (ci := 1) rfl 3 (by decide) mw_631 rfl dX3_countUpToCode_26 ?_
        refine lv_iload_n (pc := 29) F.1 F.2.1 dX3_countUpToCode_29 rfl (lv_at hl 1 rfl) ?_
        refine mm_icmp_gt (pc := 30) F (x := f 3 i) (y := co) (tgt := 36) (by omega) (by omega) dX3_countUpToCode_30 (by decide) (fun cz30 => ?_) (fun cz30 => ?_)
        ·
          refine lv_iinc (pc := 36) (v := nI (i + 1)) (lv' := [(3, .int (nI (i + 1))), (0, .ref r), (1, .int (nI co)), (2, .int (nI ct))]) F.1 F.2.1 dX3_countUpToCode_36 hl (k := 3) rfl (by rw [← nI_add]; rfl) (by decide) rfl (fun ls hl => ?_)
          refine lv_goto (pc := 39) (tgt := 4) F.1 F.2.1 dX3_countUpToCode_39 (by decide) ?_
          exact ih4 (i + 1) ct ls _ _ (by omega) (by omega) (by show _ = mm_sm (fun i => if f 3 i ≤ co then 1 else 0) i + (fun i => if f 3 i ≤ co then 1 else 0) i; show _ = _ + (if f 3 i ≤ co then 1 else 0); first | (rw [if_pos (by omega)]; omega) | (rw [if_neg (by omega)]; omega)) hN (lv_sub hl [1, 2, 3, 0] rfl)
        ·
          refine lv_iinc (pc := 33) (v := nI (ct + 1)) (lv' := [(2, .int (nI (ct + 1))), (0, .ref r), (1, .int (nI co)), (3, .int (nI i))]) F.1 F.2.1 dX3_countUpToCode_33 hl (k := 2) rfl (by rw [← nI_add]; rfl) (by decide) rfl (fun ls hl => ?_)
          refine lv_iinc (pc := 36) (v := nI (i + 1)) (lv' := [(3, .int (nI (i + 1))), (2, .int (nI (ct + 1))), (0, .ref r), (1, .int (nI co))]) F.1 F.2.1 dX3_countUpToCode_36 hl (k := 3) rfl (by rw [← nI_add]; rfl) (by decide) rfl (fun ls hl => ?_)
          refine lv_goto (pc := 39) (tgt := 4) F.1 F.2.1 dX3_countUpToCode_39 (by decide) ?_
          exact ih4 (i + 1) (ct + 1) ls _ _ (by omega) (by omega) (by show _ = mm_sm (fun i => if f 3 i ≤ co then 1 else 0) i + (fun i => if f 3 i ≤ co then 1 else 0) i; show _ = _ + (if f 3 i ≤ co then 1 else 0); first | (rw [if_pos (by omega)]; omega) | (rw [if_neg (by omega)]; omega)) hN (lv_sub hl [2, 3, 1, 0] rfl)
  exact lp4 (L.length + 1) 0 0 ls _ _ (by omega) (by omega) (rfl) hN (lv_sub hl [2, 3, 1, 0] rfl)

set_option maxHeartbeats 4000000 in
set_option maxRecDepth 100000 in
theorem c_onRouteR (l : Launch) (b : Nat) (D : mm_D) (hst : l.stackTraces = false) (o r rb eL pL qL : Nat) (L : List Nat) (f : Nat → Nat → Nat) (σ : mm_S) (hR : σ r = mm_obj o 3 [.int (nI rb), .ref eL, .ref pL, .ref qL]) (hL : σ pL = mm_lst o L) (hE : mm_en σ o L f) (te : Nat) (hte : te < 100) : mm_K l b D yX3_countOnRoute (.code yX3_countOnRoute cX3_countOnRoute 4 (some .int)) ({ frames := 3, cells := 0, slots := 0, locals := 84 } : Room) [.ref r, .int (nI te)] σ
    (fun v σ2 => v = some (.int (nI (mm_sm (fun i => if f 3 i / 10 = te then 1 else 0) L.length))) ∧ σ2 = σ)
    (fun _ _ => False) := by
  refine mm_of (cc := cX3_countOnRoute) (nL := 4) (ret := (some .int)) (by decide) rfl (Nat.le_of_ble_eq_true rfl) hst ?_
  intro p e s m args below meth c ls F ht hr hin hN hl
  have hl : lv_has ls 4 [(0, .ref r), (1, .int (nI te))] := hl
  have hn := hE.1
  refine lv_iconst (pc := 0) (v := nI 0) F.1 F.2.1 dX3_countOnRoute_0 (by decide) ?_
  refine lv_istore_n (pc := 1) (lv' := [(2, .int (nI 0)), (0, .ref r), (1, .int (nI te))]) F.1 F.2.1 dX3_countOnRoute_1 rfl hl (by decide) rfl (fun ls hl => ?_)
  refine lv_iconst (pc := 2) (v := nI 0) F.1 F.2.1 dX3_countOnRoute_2 (by decide) ?_
  refine lv_istore_n (pc := 3) (lv' := [(3, .int (nI 0)), (2, .int (nI 0)), (0, .ref r), (1, .int (nI te))]) F.1 F.2.1 dX3_countOnRoute_3 rfl hl (by decide) rfl (fun ls hl => ?_)
  have lp4 : ∀ (k4 i : Nat) (ct : Nat) (ls : Array Slot) (H : Heap) (locs : List Loc), L.length < i + k4 → i ≤ L.length → (ct = mm_sm (fun i => if f 3 i / 10 = te then 1 else 0) i) → mm_N b D s σ H locs → lv_has ls 4 [(0, .ref r), (1, .int (nI te)), (2, .int (nI ct)), (3, .int (nI i))] →
      W p l e ({ frames := 3, cells := 0, slots := 0, locals := 84 } : Room) s m args below meth c H locs (0) (0) (mm_Q b D (fun v σ2 => v = some (.int (nI (mm_sm (fun i => if f 3 i / 10 = te then 1 else 0) L.length))) ∧ σ2 = σ) (fun _ _ => False) below args s ({ frames := 3, cells := 0, slots := 0, locals := 84 } : Room)) (F0 m 4 ls []) := by
    intro k4
    induction k4 with
    | zero => intro i ct ls H locs hk4 hi4 hct hN hl; omega
    | succ k4 ih4 =>
      intro i ct ls H locs hk4 hi4 hct hN hl
      refine lv_iload_n (pc := 4) F.1 F.2.1 dX3_countOnRoute_4 rfl (lv_at hl 3 rfl) ?_
      refine lv_aload_n (pc := 5) F.1 F.2.1 dX3_countOnRoute_5 rfl (lv_at hl 0 rfl) ?_
      refine mm_get (pc := 6) F hN (hR) (ci := 3) rfl 2 (by decide) mw_600 rfl dX3_countOnRoute_6 ?_
      refine mm_runV (pc := 9) (As := []) (rest := [.int (nI i)]) F hN (c_ALsize l b D hst o pL L σ hL) mw_667 mw_197 mw_198 mw_4 mw_199 ⟨pmJx4a65c_size_8abf5, (Nat.le_of_ble_eq_true rfl), (Nat.le_of_ble_eq_true rfl)⟩ (mm_recvL F.2.2.2.2.2.1 hN hL) hl.1 rfl (Nat.le_of_ble_eq_true rfl) ⟨(Nat.le_of_ble_eq_true rfl), (Nat.le_of_ble_eq_true rfl)⟩ dX3_countOnRoute_9
        (fun _ _ _ _ _ _ h9 => False.elim h9)
        (fun v9 σ9 H locs hp9 hN => ?_)
      obtain ⟨rfl, h9⟩ := hp9
      rw [h9] at hN
      refine W.eq (g2 := F0 m 12 ls [.int (nI L.length), .int (nI i)]) rfl ?_
      refine W.widen (k := 0) (n := 0) (Nat.le_of_ble_eq_true rfl) (Nat.le_of_ble_eq_true rfl) ?_
      refine mm_icmp_ge (pc := 12) F (x := i) (y := L.length) (tgt := 42) (by omega) (by omega) dX3_countOnRoute_12 (by decide) (fun cz12 => ?_) (fun cz12 => ?_)
      ·
        have hi9 : i = L.length := by omega
        refine lv_iload_n (pc := 42) F.1 F.2.1 dX3_countOnRoute_42 rfl (lv_at hl 2 rfl) ?_
        exact mm_iret (pc := 43) F hr hN (⟨by rw [hct, hi9], rfl⟩) (Nat.le_of_ble_eq_true rfl) (Nat.le_of_ble_eq_true rfl) dX3_countOnRoute_43
      ·
        obtain ⟨hEi, b2, b3, b4, b5, b6⟩ := hE.2 i (by omega)
        refine lv_aload_n (pc := 15) F.1 F.2.1 dX3_countOnRoute_15 rfl (lv_at hl 0 rfl) ?_
        refine mm_get (pc := 16) F hN (hR) (ci := 3) rfl 2 (by decide) mw_600 rfl dX3_countOnRoute_16 ?_
        refine lv_iload_n (pc := 19) F.1 F.2.1 dX3_countOnRoute_19 rfl (lv_at hl 3 rfl) ?_
        refine mm_runV (pc := 20) (As := [.int (nI i)]) (rest := []) F hN (c_ALget l b D hst o pL i (L.getD i 0) L σ hL (mm_gd (by omega))) mw_668 mw_358 mw_359 mw_4 mw_360 ⟨pmJx4a65c_get_915e3, (Nat.le_of_ble_eq_true rfl), (Nat.le_of_ble_eq_true rfl)⟩ (mm_recvL F.2.2.2.2.2.1 hN hL) hl.1 rfl (Nat.le_of_ble_eq_true rfl) ⟨(Nat.le_of_ble_eq_true rfl), (Nat.le_of_ble_eq_true rfl)⟩ dX3_countOnRoute_20
          (fun _ _ _ _ _ _ h9 => False.elim h9)
          (fun v9 σ9 H locs hp9 hN => ?_)
        obtain ⟨rfl, h9⟩ := hp9
        rw [h9] at hN
        refine W.eq (g2 := F0 m 23 ls [.ref ((L.getD i 0))]) rfl ?_
        refine W.widen (k := 0) (n := 0) (Nat.le_of_ble_eq_true rfl) (Nat.le_of_ble_eq_true rfl) ?_
        refine mm_cast (pc := 23) F hN (hEi) (ci := 1) rfl mw_669 dX3_countOnRoute_23 ?_
        refine mm_runV (pc := 26) (As := []) (rest := []) F hN (c_tens l b D hst o (L.getD i 0) (f 2 i) (f 3 i) (f 4 i) (f 5 i) (f 6 i) _ _ σ hEi b3) mw_1028 mw_1029 mw_1030 mw_30 mw_1031 ⟨pmX1_tens, (Nat.le_of_ble_eq_true rfl), (Nat.le_of_ble_eq_true rfl)⟩ (mm_recv F.2.2.2.2.2.1 hN hEi rfl) hl.1 rfl (Nat.le_of_ble_eq_true rfl) ⟨(Nat.le_of_ble_eq_true rfl), (Nat.le_of_ble_eq_true rfl)⟩ dX3_countOnRoute_26
          (fun _ _ _ _ _ _ h9 => False.elim h9)
          (fun v9 σ9 H locs hp9 hN => ?_)
        obtain ⟨rfl, h9⟩ := hp9
        rw [h9] at hN
        refine W.eq (g2 := F0 m 29 ls [.int (nI (f 3 i / 10))]) rfl ?_
        refine W.widen (k := 0) (n := 0) (Nat.le_of_ble_eq_true rfl) (Nat.le_of_ble_eq_true rfl) ?_
        refine lv_iload_n (pc := 29) F.1 F.2.1 dX3_countOnRoute_29 rfl (lv_at hl 1 rfl) ?_
        refine mm_icmp_ne (pc := 30) F (x := f 3 i / 10) (y := te) (tgt := 36) (by omega) (by omega) dX3_countOnRoute_30 (by decide) (fun cz30 => ?_) (fun cz30 => ?_)
        ·
          refine lv_iinc (pc := 36) (v := nI (i + 1)) (lv' := [(3, .int (nI (i + 1))), (0, .ref r), (1, .int (nI te)), (2, .int (nI ct))]) F.1 F.2.1 dX3_countOnRoute_36 hl (k := 3) rfl (by rw [← nI_add]; rfl) (by decide) rfl (fun ls hl => ?_)
          refine lv_goto (pc := 39) (tgt := 4) F.1 F.2.1 dX3_countOnRoute_39 (by decide) ?_
          exact ih4 (i + 1) ct ls _ _ (by omega) (by omega) (by show _ = mm_sm (fun i => if f 3 i / 10 = te then 1 else 0) i + (fun i => if f 3 i / 10 = te then 1 else 0) i; show _ = _ + (if f 3 i / 10 = te then 1 else 0); first | (rw [if_pos (by omega)]; omega) | (rw [if_neg (by omega)]; omega)) hN (lv_sub hl [1, 2, 3, 0] rfl)
        ·
          refine lv_iinc (pc := 33) (v := nI (ct + 1)) (lv' := [(2, .int (nI (ct + 1))), (0, .ref r), (1, .int (nI te)), (3, .int (nI i))]) F.1 F.2.1 dX3_countOnRoute_33 hl (k := 2) rfl (by rw [← nI_add]; rfl) (by decide) rfl (fun ls hl => ?_)
          refine lv_iinc (pc := 36) (v := nI (i + 1)) (lv' := [(3, .int (nI (i + 1))), (2, .int (nI (ct + 1))), (0, .ref r), (1, .int (nI te))]) F.1 F.2.1 dX3_countOnRoute_36 hl (k := 3) rfl (by rw [← nI_add]; rfl) (by decide) rfl (fun ls hl => ?_)
          refine lv_goto (pc := 39) (tgt := 4) F.1 F.2.1 dX3_countOnRoute_39 (by decide) ?_
          exact ih4 (i + 1) (ct + 1) ls _ _ (by omega) (by omega) (by show _ = mm_sm (fun i => if f 3 i / 10 = te then 1 else 0) i + (fun i => if f 3 i / 10 = te then 1 else 0) i; show _ = _ + (if f 3 i / 10 = te then 1 else 0); first | (rw [if_pos (by omega)]; omega) | (rw [if_neg (by omega)]; omega)) hN (lv_sub hl [2, 3, 1, 0] rfl)
  exact lp4 (L.length + 1) 0 0 ls _ _ (by omega) (by omega) (rfl) hN (lv_sub hl [2, 3, 1, 0] rfl)

set_option maxHeartbeats 4000000 in
set_option maxRecDepth 100000 in
theorem c_arrived (l : Launch) (b : Nat) (D : mm_D) (hst : l.stackTraces = false) (o r rb eL pL qL : Nat) (L : List Nat) (f : Nat → Nat → Nat) (σ : mm_S) (hR : σ r = mm_obj o 3 [.int (nI rb), .ref eL, .ref pL, .ref qL]) (hL : σ pL = mm_lst o L) (hE : mm_en σ o L f) (g : Nat → Nat) (h : Nat) (hG : ∀ i, i < L.length → ∃ x1 x2 x3 : Value, σ (f 1 i) = mm_obj o 2 [.ref (g i), x1, x2, x3]) : mm_K l b D yX3_hasArrivedAt (.code yX3_hasArrivedAt cX3_hasArrivedAt 4 (some .boolean)) ({ frames := 3, cells := 0, slots := 0, locals := 84 } : Room) [.ref r, .ref h] σ
    (fun v σ2 => v = some (.int (nI (if mm_ex (fun i => decide (g i = h ∧ f 6 i = 0)) L.length = true then 1 else 0))) ∧ σ2 = σ)
    (fun _ _ => False) := by
  refine mm_of (cc := cX3_hasArrivedAt) (nL := 4) (ret := (some .boolean)) (by decide) rfl (Nat.le_of_ble_eq_true rfl) hst ?_
  intro p e s m args below meth c ls F ht hr hin hN hl
  have hl : lv_has ls 4 [(0, .ref r), (1, .ref h)] := hl
  have hn := hE.1
  refine lv_iconst (pc := 0) (v := nI 0) F.1 F.2.1 dX3_hasArrivedAt_0 (by decide) ?_
  refine lv_istore_n (pc := 1) (lv' := [(2, .int (nI 0)), (0, .ref r), (1, .ref h)]) F.1 F.2.1 dX3_hasArrivedAt_1 rfl hl (by decide) rfl (fun ls hl => ?_)
  have lp2 : ∀ (k2 i : Nat) (ls : Array Slot) (H : Heap) (locs : List Loc), L.length < i + k2 → i ≤ L.length → (mm_ex (fun i => decide (g i = h ∧ f 6 i = 0)) i = false) → mm_N b D s σ H locs → lv_has ls 4 [(0, .ref r), (1, .ref h), (2, .int (nI i))] →
      W p l e ({ frames := 3, cells := 0, slots := 0, locals := 84 } : Room) s m args below meth c H locs (0) (0) (mm_Q b D (fun v σ2 => v = some (.int (nI (if mm_ex (fun i => decide (g i = h ∧ f 6 i = 0)) L.length = true then 1 else 0))) ∧ σ2 = σ) (fun _ _ => False) below args s ({ frames := 3, cells := 0, slots := 0, locals := 84 } : Room)) (F0 m 2 ls []) := by
    intro k2
    induction k2 with
    | zero => intro i  ls H locs hk2 hi2 hex hN hl; omega
    | succ k2 ih2 =>
      intro i  ls H locs hk2 hi2 hex hN hl
      refine lv_iload_n (pc := 2) F.1 F.2.1 dX3_hasArrivedAt_2 rfl (lv_at hl 2 rfl) ?_
      refine lv_aload_n (pc := 3) F.1 F.2.1 dX3_hasArrivedAt_3 rfl (lv_at hl 0 rfl) ?_
      refine mm_get (pc := 4) F hN (hR) (ci := 3) rfl 2 (by decide) mw_600 rfl dX3_hasArrivedAt_4 ?_
      refine mm_runV (pc := 7) (As := []) (rest := [.int (nI i)]) F hN (c_ALsize l b D hst o pL L σ hL) mw_667 mw_197 mw_198 mw_4 mw_199 ⟨pmJx4a65c_size_8abf5, (Nat.le_of_ble_eq_true rfl), (Nat.le_of_ble_eq_true rfl)⟩ (mm_recvL F.2.2.2.2.2.1 hN hL) hl.1 rfl (Nat.le_of_ble_eq_true rfl) ⟨(Nat.le_of_ble_eq_true rfl), (Nat.le_of_ble_eq_true rfl)⟩ dX3_hasArrivedAt_7
        (fun _ _ _ _ _ _ h9 => False.elim h9)
        (fun v9 σ9 H locs hp9 hN => ?_)
      obtain ⟨rfl, h9⟩ := hp9
      rw [h9] at hN
      refine W.eq (g2 := F0 m 10 ls [.int (nI L.length), .int (nI i)]) rfl ?_
      refine W.widen (k := 0) (n := 0) (Nat.le_of_ble_eq_true rfl) (Nat.le_of_ble_eq_true rfl) ?_
      refine mm_icmp_ge (pc := 10) F (x := i) (y := L.length) (tgt := 51) (by omega) (by omega) dX3_hasArrivedAt_10 (by decide) (fun cz10 => ?_) (fun cz10 => ?_)
      ·
        have hi9 : i = L.length := by omega
        refine lv_iconst (pc := 51) (v := nI 0) F.1 F.2.1 dX3_hasArrivedAt_51 (by decide) ?_
        exact mm_zret (pc := 52) F (ty := .boolean) hr hN (by decide) (⟨by rw [← hi9, hex]; rfl, rfl⟩) (Nat.le_of_ble_eq_true rfl) (Nat.le_of_ble_eq_true rfl) dX3_hasArrivedAt_52
      ·
        obtain ⟨hEi, b2, b3, b4, b5, b6⟩ := hE.2 i (by omega)
        obtain ⟨x1, x2, x3, hPi⟩ := hG i (by omega)
        refine lv_aload_n (pc := 13) F.1 F.2.1 dX3_hasArrivedAt_13 rfl (lv_at hl 0 rfl) ?_
        refine mm_get (pc := 14) F hN (hR) (ci := 3) rfl 2 (by decide) mw_600 rfl dX3_hasArrivedAt_14 ?_
        refine lv_iload_n (pc := 17) F.1 F.2.1 dX3_hasArrivedAt_17 rfl (lv_at hl 2 rfl) ?_
        refine mm_runV (pc := 18) (As := [.int (nI i)]) (rest := []) F hN (c_ALget l b D hst o pL i (L.getD i 0) L σ hL (mm_gd (by omega))) mw_668 mw_358 mw_359 mw_4 mw_360 ⟨pmJx4a65c_get_915e3, (Nat.le_of_ble_eq_true rfl), (Nat.le_of_ble_eq_true rfl)⟩ (mm_recvL F.2.2.2.2.2.1 hN hL) hl.1 rfl (Nat.le_of_ble_eq_true rfl) ⟨(Nat.le_of_ble_eq_true rfl), (Nat.le_of_ble_eq_true rfl)⟩ dX3_hasArrivedAt_18
          (fun _ _ _ _ _ _ h9 => False.elim h9)
          (fun v9 σ9 H locs hp9 hN => ?_)
        obtain ⟨rfl, h9⟩ := hp9
        rw [h9] at hN
        refine W.eq (g2 := F0 m 21 ls [.ref ((L.getD i 0))]) rfl ?_
        refine W.widen (k := 0) (n := 0) (Nat.le_of_ble_eq_true rfl) (Nat.le_of_ble_eq_true rfl) ?_
        refine mm_cast (pc := 21) F hN (hEi) (ci := 1) rfl mw_669 dX3_hasArrivedAt_21 ?_
        refine lv_astore_n (pc := 24) (lv' := [(3, .ref ((L.getD i 0))), (0, .ref r), (1, .ref h), (2, .int (nI i))]) F.1 F.2.1 dX3_hasArrivedAt_24 rfl hl (by decide) rfl (fun ls hl => ?_)
        refine lv_aload_n (pc := 25) F.1 F.2.1 dX3_hasArrivedAt_25 rfl (lv_at hl 0 rfl) ?_
        refine mm_get (pc := 26) F hN (hEi) (ci := 1) rfl 1 (by decide) mw_626 rfl dX3_hasArrivedAt_26 ?_
        refine mm_get (pc := 29) F hN (hPi) (ci := 2) rfl 0 (by decide) mw_404 rfl dX3_hasArrivedAt_29 ?_
        refine lv_aload_n (pc := 32) F.1 F.2.1 dX3_hasArrivedAt_32 rfl (lv_at hl 2 rfl) ?_
        refine mm_acmp_ne (pc := 33) F (rx := (g i)) (ry := h) (tgt := 45) dX3_hasArrivedAt_33 (by decide) (fun cz33 => ?_) (fun cz33 => ?_)
        ·
          refine lv_iinc (pc := 45) (v := nI (i + 1)) (lv' := [(2, .int (nI (i + 1))), (3, .ref ((L.getD i 0))), (0, .ref r), (1, .ref h)]) F.1 F.2.1 dX3_hasArrivedAt_45 hl (k := 3) rfl (by rw [← nI_add]; rfl) (by decide) rfl (fun ls hl => ?_)
          refine lv_goto (pc := 48) (tgt := 2) F.1 F.2.1 dX3_hasArrivedAt_48 (by decide) ?_
          exact ih2 (i + 1) ls _ _ (by omega) (by omega) (mm_ex_no hex (by rw [decide_eq_true_iff]; rintro ⟨z1, z2⟩; first | exact cz33 z1 | exact cz40 z2)) hN (lv_sub hl [2, 3, 0] rfl)
        ·
          refine lv_aload_n (pc := 36) F.1 F.2.1 dX3_hasArrivedAt_36 rfl (lv_at hl 0 rfl) ?_
          refine mm_get (pc := 37) F hN (hEi) (ci := 1) rfl 6 (by decide) mw_637 rfl dX3_hasArrivedAt_37 ?_
          refine mm_if_ne (pc := 40) F (tgt := 45) (by omega) dX3_hasArrivedAt_40 (by decide) (fun cz40 => ?_) (fun cz40 => ?_)
          ·
            refine lv_iinc (pc := 45) (v := nI (i + 1)) (lv' := [(2, .int (nI (i + 1))), (3, .ref ((L.getD i 0))), (0, .ref r), (1, .ref h)]) F.1 F.2.1 dX3_hasArrivedAt_45 hl (k := 3) rfl (by rw [← nI_add]; rfl) (by decide) rfl (fun ls hl => ?_)
            refine lv_goto (pc := 48) (tgt := 2) F.1 F.2.1 dX3_hasArrivedAt_48 (by decide) ?_
            exact ih2 (i + 1) ls _ _ (by omega) (by omega) (mm_ex_no hex (by rw [decide_eq_true_iff]; rintro ⟨z1, z2⟩; first | exact cz33 z1 | exact cz40 z2)) hN (lv_sub hl [2, 3, 0] rfl)
          ·
            refine lv_iconst (pc := 43) (v := nI 1) F.1 F.2.1 dX3_hasArrivedAt_43 (by decide) ?_
            exact mm_zret (pc := 44) F (ty := .boolean) hr hN (by decide) (⟨by rw [if_pos (mm_ex_of (i := i) (by omega) (decide_eq_true ⟨cz33, cz40⟩))], rfl⟩) (Nat.le_of_ble_eq_true rfl) (Nat.le_of_ble_eq_true rfl) dX3_hasArrivedAt_44
  exact lp2 (L.length + 1) 0 ls _ _ (by omega) (by omega) (rfl) hN (lv_sub hl [1, 2, 0] rfl)

set_option maxHeartbeats 4000000 in
set_option maxRecDepth 100000 in
theorem c_centsFor (l : Launch) (b : Nat) (D : mm_D) (hst : l.stackTraces = false) (o r rb eL pL qL : Nat) (L : List Nat) (f : Nat → Nat → Nat) (σ : mm_S) (hR : σ r = mm_obj o 3 [.int (nI rb), .ref eL, .ref pL, .ref qL]) (hL : σ pL = mm_lst o L) (hE : mm_en σ o L f) (a oc co pg pa bk : Nat) (nu pe : Value) (hA : σ a = mm_obj o 1 [nu, pe, .int (nI oc), .int (nI co), .int (nI pg), .int (nI pa), .int (nI bk)]) (hco : co < 100) (hpg : pg < 100) (hrb : rb < 100) : mm_K l b D yX3_centsFor (.code yX3_centsFor cX3_centsFor 3 (some .int)) ({ frames := 4, cells := 0, slots := 0, locals := 120 } : Room) [.ref r, .ref a] σ
    (fun v σ2 => v = some (.int (nI (mm_cf (mm_sm (fun i => if f 3 i / 10 = co / 10 then 1 else 0) L.length) rb pg))) ∧ σ2 = σ)
    (fun _ _ => False) := by
  refine mm_of (cc := cX3_centsFor) (nL := 3) (ret := (some .int)) (by decide) rfl (Nat.le_of_ble_eq_true rfl) hst ?_
  intro p e s m args below meth c ls F ht hr hin hN hl
  have hl : lv_has ls 3 [(0, .ref r), (1, .ref a)] := hl
  have hn := hE.1
  have hcr : mm_sm (fun i => if f 3 i / 10 = co / 10 then 1 else 0) L.length ≤ 1 * L.length := mm_sm_le (fun i _ => by show (if _ then 1 else 0) ≤ 1; split <;> omega)
  have hce := mm_cent_le pg
  refine lv_aload_n (pc := 0) F.1 F.2.1 dX3_centsFor_0 rfl (lv_at hl 1 rfl) ?_
  refine mm_runV (pc := 1) (As := []) (rest := []) F hN (c_cents l b D hst o a oc co pg pa bk nu pe σ hA hpg) mw_1041 mw_1042 mw_1043 mw_30 mw_1044 ⟨pmX1_fullCents, (Nat.le_of_ble_eq_true rfl), (Nat.le_of_ble_eq_true rfl)⟩ (mm_recv F.2.2.2.2.2.1 hN hA rfl) hl.1 rfl (Nat.le_of_ble_eq_true rfl) ⟨(Nat.le_of_ble_eq_true rfl), (Nat.le_of_ble_eq_true rfl)⟩ dX3_centsFor_1
    (fun _ _ _ _ _ _ h9 => False.elim h9)
    (fun v9 σ9 H locs hp9 hN => ?_)
  obtain ⟨rfl, h9⟩ := hp9
  rw [h9] at hN
  refine W.eq (g2 := F0 m 4 ls [.int (nI (mm_cent pg))]) rfl ?_
  refine W.widen (k := 0) (n := 0) (Nat.le_of_ble_eq_true rfl) (Nat.le_of_ble_eq_true rfl) ?_
  refine lv_istore_n (pc := 4) (lv' := [(2, .int (nI (mm_cent pg))), (0, .ref r), (1, .ref a)]) F.1 F.2.1 dX3_centsFor_4 rfl hl (by decide) rfl (fun ls hl => ?_)
  refine lv_aload_n (pc := 5) F.1 F.2.1 dX3_centsFor_5 rfl (lv_at hl 1 rfl) ?_
  refine lv_aload_n (pc := 6) F.1 F.2.1 dX3_centsFor_6 rfl (lv_at hl 2 rfl) ?_
  refine mm_runV (pc := 7) (As := []) (rest := [.ref r]) F hN (c_tens l b D hst o a oc co pg pa bk nu pe σ hA hco) mw_1028 mw_1029 mw_1030 mw_30 mw_1031 ⟨pmX1_tens, (Nat.le_of_ble_eq_true rfl), (Nat.le_of_ble_eq_true rfl)⟩ (mm_recv F.2.2.2.2.2.1 hN hA rfl) hl.1 rfl (Nat.le_of_ble_eq_true rfl) ⟨(Nat.le_of_ble_eq_true rfl), (Nat.le_of_ble_eq_true rfl)⟩ dX3_centsFor_7
    (fun _ _ _ _ _ _ h9 => False.elim h9)
    (fun v9 σ9 H locs hp9 hN => ?_)
  obtain ⟨rfl, h9⟩ := hp9
  rw [h9] at hN
  refine W.eq (g2 := F0 m 10 ls [.int (nI (co / 10)), .ref r]) rfl ?_
  refine W.widen (k := 0) (n := 0) (Nat.le_of_ble_eq_true rfl) (Nat.le_of_ble_eq_true rfl) ?_
  refine mm_runV (pc := 10) (As := [.int (nI (co / 10))]) (rest := []) F hN (c_onRouteR l b D hst o r rb eL pL qL L f σ hR hL hE (co / 10) (by omega)) mw_1046 mw_1025 mw_1026 mw_29 mw_1027 ⟨pmX3_countOnRoute, (Nat.le_of_ble_eq_true rfl), (Nat.le_of_ble_eq_true rfl)⟩ (mm_recv F.2.2.2.2.2.1 hN hR rfl) hl.1 rfl (Nat.le_of_ble_eq_true rfl) ⟨(Nat.le_of_ble_eq_true rfl), (Nat.le_of_ble_eq_true rfl)⟩ dX3_centsFor_10
    (fun _ _ _ _ _ _ h9 => False.elim h9)
    (fun v9 σ9 H locs hp9 hN => ?_)
  obtain ⟨rfl, h9⟩ := hp9
  rw [h9] at hN
  refine W.eq (g2 := F0 m 13 ls [.int (nI (mm_sm (fun i => if f 3 i / 10 = co / 10 then 1 else 0) L.length))]) rfl ?_
  refine W.widen (k := 0) (n := 0) (Nat.le_of_ble_eq_true rfl) (Nat.le_of_ble_eq_true rfl) ?_
  refine lv_aload_n (pc := 13) F.1 F.2.1 dX3_centsFor_13 rfl (lv_at hl 1 rfl) ?_
  refine mm_get (pc := 14) F hN (hR) (ci := 3) rfl 0 (by decide) mw_597 rfl dX3_centsFor_14 ?_
  refine mm_icmp_lt (pc := 17) F (x := mm_sm (fun i => if f 3 i / 10 = co / 10 then 1 else 0) L.length) (y := rb) (tgt := 26) (by omega) (by omega) dX3_centsFor_17 (by decide) (fun cz17 => ?_) (fun cz17 => ?_)
  ·
    refine lv_iload_n (pc := 26) F.1 F.2.1 dX3_centsFor_26 rfl (lv_at hl 0 rfl) ?_
    exact mm_iret (pc := 27) F hr hN (⟨by rw [mm_cf, if_neg (by omega)], rfl⟩) (Nat.le_of_ble_eq_true rfl) (Nat.le_of_ble_eq_true rfl) dX3_centsFor_27
  ·
    refine lv_iload_n (pc := 20) F.1 F.2.1 dX3_centsFor_20 rfl (lv_at hl 0 rfl) ?_
    refine lv_iload_n (pc := 21) F.1 F.2.1 dX3_centsFor_21 rfl (lv_at hl 0 rfl) ?_
    refine lv_iconst (pc := 22) (v := nI 5) F.1 F.2.1 dX3_centsFor_22 (by decide) ?_
    refine mm_idiv (pc := 23) F (z := nI ((mm_cent pg) / 5)) (pk_div (by omega) (by omega) (by omega)) (by decide) dX3_centsFor_23 ?_
    refine mm_isub (pc := 24) F (z := nI ((mm_cent pg) - ((mm_cent pg) / 5))) (pk_sub (by omega)) dX3_centsFor_24 ?_
    refine lv_istore_n (pc := 25) (lv' := [(2, .int (nI ((mm_cent pg) - ((mm_cent pg) / 5)))), (0, .ref r), (1, .ref a)]) F.1 F.2.1 dX3_centsFor_25 rfl hl (by decide) rfl (fun ls hl => ?_)
    refine lv_iload_n (pc := 26) F.1 F.2.1 dX3_centsFor_26 rfl (lv_at hl 0 rfl) ?_
    exact mm_iret (pc := 27) F hr hN (⟨by rw [mm_cf, if_pos (by omega)], rfl⟩) (Nat.le_of_ble_eq_true rfl) (Nat.le_of_ble_eq_true rfl) dX3_centsFor_27

set_option maxHeartbeats 4000000 in
set_option maxRecDepth 100000 in
theorem c_centsAll (l : Launch) (b : Nat) (D : mm_D) (hst : l.stackTraces = false) (o r rb eL pL qL : Nat) (L : List Nat) (f : Nat → Nat → Nat) (σ : mm_S) (hR : σ r = mm_obj o 3 [.int (nI rb), .ref eL, .ref pL, .ref qL]) (hL : σ pL = mm_lst o L) (hE : mm_en σ o L f) (hrb : rb < 100) : mm_K l b D yX3_centsForAll (.code yX3_centsForAll cX3_centsForAll 4 (some .long)) ({ frames := 5, cells := 0, slots := 0, locals := 160 } : Room) [.ref r] σ
    (fun v σ2 => v = some (.long (lN (mm_sm (fun i => mm_cf (mm_sm (fun j => if f 3 j / 10 = f 3 i / 10 then 1 else 0) L.length) rb (f 4 i)) L.length))) ∧ σ2 = σ)
    (fun _ _ => False) := by
  refine mm_of (cc := cX3_centsForAll) (nL := 4) (ret := (some .long)) (by decide) rfl (Nat.le_of_ble_eq_true rfl) hst ?_
  intro p e s m args below meth c ls F ht hr hin hN hl
  have hl : lv_has ls 4 [(0, .ref r)] := hl
  have hn := hE.1
  refine lv_lconst (pc := 0) (v := lN 0) F.1 F.2.1 dX3_centsForAll_0 (by decide) ?_
  refine lv_lstore_n (pc := 1) (lv' := [(1, .long (lN 0)), (0, .ref r)]) F.1 F.2.1 dX3_centsForAll_1 rfl hl (by decide) rfl (fun ls hl => ?_)
  refine lv_iconst (pc := 2) (v := nI 0) F.1 F.2.1 dX3_centsForAll_2 (by decide) ?_
  refine lv_istore_n (pc := 3) (lv' := [(3, .int (nI 0)), (1, .long (lN 0)), (0, .ref r)]) F.1 F.2.1 dX3_centsForAll_3 rfl hl (by decide) rfl (fun ls hl => ?_)
  have lp4 : ∀ (k4 i : Nat) (ct : Nat) (ls : Array Slot) (H : Heap) (locs : List Loc), L.length < i + k4 → i ≤ L.length → (ct = mm_sm (fun i => mm_cf (mm_sm (fun j => if f 3 j / 10 = f 3 i / 10 then 1 else 0) L.length) rb (f 4 i)) i) → mm_N b D s σ H locs → lv_has ls 4 [(0, .ref r), (1, .long (lN ct)), (3, .int (nI i))] →
      W p l e ({ frames := 5, cells := 0, slots := 0, locals := 160 } : Room) s m args below meth c H locs (0) (0) (mm_Q b D (fun v σ2 => v = some (.long (lN (mm_sm (fun i => mm_cf (mm_sm (fun j => if f 3 j / 10 = f 3 i / 10 then 1 else 0) L.length) rb (f 4 i)) L.length))) ∧ σ2 = σ) (fun _ _ => False) below args s ({ frames := 5, cells := 0, slots := 0, locals := 160 } : Room)) (F0 m 4 ls []) := by
    intro k4
    induction k4 with
    | zero => intro i ct ls H locs hk4 hi4 hct hN hl; omega
    | succ k4 ih4 =>
      intro i ct ls H locs hk4 hi4 hct hN hl
      refine lv_iload_n (pc := 4) F.1 F.2.1 dX3_centsForAll_4 rfl (lv_at hl 2 rfl) ?_
      refine lv_aload_n (pc := 5) F.1 F.2.1 dX3_centsForAll_5 rfl (lv_at hl 0 rfl) ?_
      refine mm_get (pc := 6) F hN (hR) (ci := 3) rfl 2 (by decide) mw_600 rfl dX3_centsForAll_6 ?_
      refine mm_runV (pc := 9) (As := []) (rest := [.int (nI i)]) F hN (c_ALsize l b D hst o pL L σ hL) mw_667 mw_197 mw_198 mw_4 mw_199 ⟨pmJx4a65c_size_8abf5, (Nat.le_of_ble_eq_true rfl), (Nat.le_of_ble_eq_true rfl)⟩ (mm_recvL F.2.2.2.2.2.1 hN hL) hl.1 rfl (Nat.le_of_ble_eq_true rfl) ⟨(Nat.le_of_ble_eq_true rfl), (Nat.le_of_ble_eq_true rfl)⟩ dX3_centsForAll_9
        (fun _ _ _ _ _ _ h9 => False.elim h9)
        (fun v9 σ9 H locs hp9 hN => ?_)
      obtain ⟨rfl, h9⟩ := hp9
      rw [h9] at hN
      refine W.eq (g2 := F0 m 12 ls [.int (nI L.length), .int (nI i)]) rfl ?_
      refine W.widen (k := 0) (n := 0) (Nat.le_of_ble_eq_true rfl) (Nat.le_of_ble_eq_true rfl) ?_
      refine mm_icmp_ge (pc := 12) F (x := i) (y := L.length) (tgt := 40) (by omega) (by omega) dX3_centsForAll_12 (by decide) (fun cz12 => ?_) (fun cz12 => ?_)
      ·
        have hi9 : i = L.length := by omega
        refine lv_lload_n (pc := 40) F.1 F.2.1 dX3_centsForAll_40 rfl (lv_at hl 1 rfl) ?_
        exact mm_lret (pc := 41) F hr hN (⟨by rw [hct, hi9], rfl⟩) (Nat.le_of_ble_eq_true rfl) (Nat.le_of_ble_eq_true rfl) dX3_centsForAll_41
      ·
        obtain ⟨hEi, b2, b3, b4, b5, b6⟩ := hE.2 i (by omega)
        refine lv_lload_n (pc := 15) F.1 F.2.1 dX3_centsForAll_15 rfl (lv_at hl 1 rfl) ?_
        refine lv_aload_n (pc := 16) F.1 F.2.1 dX3_centsForAll_16 rfl (lv_at hl 0 rfl) ?_
        refine lv_aload_n (pc := 17) F.1 F.2.1 dX3_centsForAll_17 rfl (lv_at hl 0 rfl) ?_
        refine mm_get (pc := 18) F hN (hR) (ci := 3) rfl 2 (by decide) mw_600 rfl dX3_centsForAll_18 ?_
        refine lv_iload_n (pc := 21) F.1 F.2.1 dX3_centsForAll_21 rfl (lv_at hl 2 rfl) ?_
        refine mm_runV (pc := 22) (As := [.int (nI i)]) (rest := [.ref r, .long (lN ct)]) F hN (c_ALget l b D hst o pL i (L.getD i 0) L σ hL (mm_gd (by omega))) mw_668 mw_358 mw_359 mw_4 mw_360 ⟨pmJx4a65c_get_915e3, (Nat.le_of_ble_eq_true rfl), (Nat.le_of_ble_eq_true rfl)⟩ (mm_recvL F.2.2.2.2.2.1 hN hL) hl.1 rfl (Nat.le_of_ble_eq_true rfl) ⟨(Nat.le_of_ble_eq_true rfl), (Nat.le_of_ble_eq_true rfl)⟩ dX3_centsForAll_22
          (fun _ _ _ _ _ _ h9 => False.elim h9)
          (fun v9 σ9 H locs hp9 hN => ?_)
        obtain ⟨rfl, h9⟩ := hp9
        rw [h9] at hN
        refine W.eq (g2 := F0 m 25 ls [.ref ((L.getD i 0)), .ref r, .long (lN ct)]) rfl ?_
        refine W.widen (k := 0) (n := 0) (Nat.le_of_ble_eq_true rfl) (Nat.le_of_ble_eq_true rfl) ?_
        refine mm_cast (pc := 25) F hN (hEi) (ci := 1) rfl mw_669 dX3_centsForAll_25 ?_
        refine mm_runV (pc := 28) (As := [.ref ((L.getD i 0))]) (rest := [.long (lN ct)]) F hN (c_centsFor l b D hst o r rb eL pL qL L f σ hR hL hE (L.getD i 0) (f 2 i) (f 3 i) (f 4 i) (f 5 i) (f 6 i) _ _ hEi b3 b4 hrb) mw_1062 mw_1038 mw_1039 mw_29 mw_1040 ⟨pmX3_centsFor, (Nat.le_of_ble_eq_true rfl), (Nat.le_of_ble_eq_true rfl)⟩ (mm_recv F.2.2.2.2.2.1 hN hR rfl) hl.1 rfl (Nat.le_of_ble_eq_true rfl) ⟨(Nat.le_of_ble_eq_true rfl), (Nat.le_of_ble_eq_true rfl)⟩ dX3_centsForAll_28
          (fun _ _ _ _ _ _ h9 => False.elim h9)
          (fun v9 σ9 H locs hp9 hN => ?_)
        obtain ⟨rfl, h9⟩ := hp9
        rw [h9] at hN
        refine W.eq (g2 := F0 m 31 ls [.int (nI (mm_cf (mm_sm (fun j => if f 3 j / 10 = f 3 i / 10 then 1 else 0) L.length) rb (f 4 i))), .long (lN ct)]) rfl ?_
        refine W.widen (k := 0) (n := 0) (Nat.le_of_ble_eq_true rfl) (Nat.le_of_ble_eq_true rfl) ?_
        have hcf := mm_cf_le (mm_sm (fun j => if f 3 j / 10 = f 3 i / 10 then 1 else 0) L.length) rb (f 4 i)
        refine lv_i2l (pc := 31) (v := lN (mm_cf (mm_sm (fun j => if f 3 j / 10 = f 3 i / 10 then 1 else 0) L.length) rb (f 4 i))) F.1 F.2.1 dX3_centsForAll_31 (nI_l (by omega)) ?_
        refine lv_ladd (pc := 32) F.1 F.2.1 dX3_centsForAll_32 ?_
        refine W.eq (g2 := F0 m 33 ls [.long (lN (ct + (mm_cf (mm_sm (fun j => if f 3 j / 10 = f 3 i / 10 then 1 else 0) L.length) rb (f 4 i))))]) (by rw [lN_add]) ?_
        refine lv_lstore_n (pc := 33) (lv' := [(1, .long (lN (ct + (mm_cf (mm_sm (fun j => if f 3 j / 10 = f 3 i / 10 then 1 else 0) L.length) rb (f 4 i))))), (0, .ref r), (3, .int (nI i))]) F.1 F.2.1 dX3_centsForAll_33 rfl hl (by decide) rfl (fun ls hl => ?_)
        refine lv_iinc (pc := 34) (v := nI (i + 1)) (lv' := [(3, .int (nI (i + 1))), (1, .long (lN (ct + (mm_cf (mm_sm (fun j => if f 3 j / 10 = f 3 i / 10 then 1 else 0) L.length) rb (f 4 i))))), (0, .ref r)]) F.1 F.2.1 dX3_centsForAll_34 hl (k := 2) rfl (by rw [← nI_add]; rfl) (by decide) rfl (fun ls hl => ?_)
        refine lv_goto (pc := 37) (tgt := 4) F.1 F.2.1 dX3_centsForAll_37 (by decide) ?_
        exact ih4 (i + 1) (ct + (mm_cf (mm_sm (fun j => if f 3 j / 10 = f 3 i / 10 then 1 else 0) L.length) rb (f 4 i))) ls _ _ (by omega) (by omega) (by rw [hct]; rfl) hN (lv_sub hl [2, 1, 0] rfl)
  exact lp4 (L.length + 1) 0 0 ls _ _ (by omega) (by omega) (rfl) hN (lv_sub hl [2, 1, 0] rfl)

