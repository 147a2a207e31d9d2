/-- a new object's numbers -/
def mm_T0 : mm_T := fun k i j => if k = 0 ∧ i = 5 ∧ j = 0 then 3 else 0
theorem mm_WF0 : mm_WF mm_T0 :=
  ⟨by decide, by decide, by decide, by decide, by decide, fun k => by show (if (12 : Nat) = 0 ∧ _ then 3 else 0) ≤ 5000; rw [if_neg (fun e => absurd e.1 (by decide))]; decide, by decide, fun i hi => absurd hi (Nat.not_lt_zero _), fun i hi => absurd hi (Nat.not_lt_zero _), fun i hi => absurd hi (Nat.not_lt_zero _), fun i hi => absurd hi (Nat.not_lt_zero _), by decide, by decide, by decide, fun i _ => ⟨if_neg (fun e => absurd e.1 (by decide)), if_neg (fun e => absurd e.1 (by decide))⟩, fun i _ => ⟨if_neg (fun e => absurd e.1 (by decide)), if_neg (fun e => absurd e.1 (by decide))⟩⟩
def mm_a0 (x q1 q2 q3 q4 q5 q6 q7 : Nat) : Nat → Nat → Nat → Nat := fun _ i _ => if i = 0 then x else if i = 1 then q1 else if i = 2 then q2 else if i = 3 then q3 else if i = 4 then q4 else if i = 5 then q5 else if i = 6 then q6 else q7
theorem mm_X00 {σ : mm_S} {x q1 q2 q3 q4 q5 q6 q7 : Nat} (h0 : σ x = mm_obj 0 6 [.ref q1, .ref q2, .ref q3, .ref q4, .ref q5, .ref q6, .ref q7, .int (nI 3)]) (h1 : σ q1 = mm_lst 0 []) (h2 : σ q2 = mm_lst 0 []) (h3 : σ q3 = mm_lst 0 []) (h4 : σ q4 = mm_lst 0 [])
    (h5 : σ q5 = mm_obj 0 4 [.int (nI 0), .int (nI 0), .int (nI 0)]) (h6 : σ q6 = mm_obj 0 4 [.int (nI 0), .int (nI 0), .int (nI 0)]) (h7 : σ q7 = mm_obj 0 4 [.int (nI 0), .int (nI 0), .int (nI 0)])
    (hd : ∀ i j, i < 8 → j < 8 → mm_a0 x q1 q2 q3 q4 q5 q6 q7 0 i 0 = mm_a0 x q1 q2 q3 q4 q5 q6 q7 0 j 0 → i = j) : mm_X σ mm_T0 (fun _ _ => 0) (mm_a0 x q1 q2 q3 q4 q5 q6 q7) := by
  refine ⟨fun k i j hl => ?_, fun k i j k' i' j' hl hl' e => ?_⟩
  · match k, hl with
    | 0, hl =>
      obtain ⟨hi, rfl⟩ : i < 8 ∧ j = 0 := hl
      match i, hi with
      | 0, _ => exact h0
      | 1, _ => exact h1
      | 2, _ => exact h2
      | 3, _ => exact h3
      | 4, _ => exact h4
      | 5, _ => exact h5
      | 6, _ => exact h6
      | 7, _ => exact h7
      | i + 8, h => exact absurd h (by omega)
    | 1, hl => exact absurd hl.1 (Nat.not_lt_zero _)
    | 2, hl => exact absurd hl.1 (Nat.not_lt_zero _)
    | 3, hl => exact absurd hl.1 (Nat.not_lt_zero _)
    | 4, hl => exact absurd hl.1 (Nat.not_lt_zero _)
    | 5, hl => exact absurd hl.1 (Nat.not_lt_zero _)
    | 6, hl => exact absurd hl.1 (Nat.not_lt_zero _)
    | 7, hl => exact absurd hl.1 (Nat.not_lt_zero _)
    | n + 8, hl => exact False.elim hl
  · have h0 : ∀ k i j, mm_lv mm_T0 k i j → k = 0 ∧ i < 8 ∧ j = 0 := fun k i j hl => by
      match k, hl with
      | 0, hl => exact ⟨rfl, hl⟩
      | 1, hl => exact absurd hl.1 (Nat.not_lt_zero _)
      | 2, hl => exact absurd hl.1 (Nat.not_lt_zero _)
      | 3, hl => exact absurd hl.1 (Nat.not_lt_zero _)
      | 4, hl => exact absurd hl.1 (Nat.not_lt_zero _)
      | 5, hl => exact absurd hl.1 (Nat.not_lt_zero _)
      | 6, hl => exact absurd hl.1 (Nat.not_lt_zero _)
      | 7, hl => exact absurd hl.1 (Nat.not_lt_zero _)
      | n + 8, hl => exact False.elim hl
    obtain ⟨rfl, hi, rfl⟩ := h0 _ _ _ hl
    obtain ⟨rfl, hi', rfl⟩ := h0 _ _ _ hl'
    exact ⟨rfl, hd i i' hi hi' e, rfl⟩
set_option maxHeartbeats 4000000 in
set_option maxRecDepth 100000 in
theorem c_new (l : Launch) (b : Nat) (D : mm_D) (hst : l.stackTraces = false) (x : Nat) (σ : mm_S) (hx : σ x = mm_obj 0 6 [.null, .null, .null, .null, .null, .null, .null, .int (nI 0)]) : mm_K l b D yX6_init (.code yX6_init cX6_init 1 none) ({ frames := 4, cells := 7, slots := 21, locals := 80 } : Room) [.ref x] σ
    (fun v σ2 => v = none ∧ ∃ ad : Nat → Nat → Nat → Nat, mm_X σ2 mm_T0 (fun _ _ => 0) ad ∧ ad 0 0 0 = x ∧ mm_Fr 0 σ σ2)
    (fun _ _ => False) := by
  refine mm_of (cc := cX6_init) (nL := 1) (ret := none) (by decide) rfl (Nat.le_of_ble_eq_true rfl) hst ?_
  intro p e s m args below meth c ls F ht hr hin hN hl
  have hl : lv_has ls 1 [(0, .ref x)] := hl
  refine lv_aload_n (pc := 0) F.1 F.2.1 dX6_init_0 rfl (lv_at hl 0 rfl) ?_
  refine W.objInit F.1 F.2.1 F.2.2.2.1 (F.2.2.2.2.1 _ mw_39) (F.2.2.2.2.1 _ mw_40) (F.2.2.2.2.1 _ mw_41) rfl (by rw [F.2.2.1]; exact hl.1) rfl (g := F0 m 1 ls [.ref x]) dX6_init_1 (Nat.le_of_ble_eq_true rfl) (Nat.le_of_ble_eq_true rfl) ?_
  refine W.eq (g2 := F0 m 4 ls []) rfl ?_
  refine lv_aload_n (pc := 4) F.1 F.2.1 dX6_init_4 rfl (lv_at hl 0 rfl) ?_
  refine mm_new (pc := 5) F hN 0 (ci := 8) (fs := [.int (nI 0), .null, .int (nI 0)]) rfl tyJx4a65c tyJx4a65c_ok (fun j9 h9 => by rcases (show j9 = 0 ∨ j9 = 1 ∨ j9 = 2 by omega) with rfl | rfl | rfl <;> rfl) mw_42 mw_43 mw_4 (Nat.le_of_ble_eq_true rfl) (Nat.le_of_ble_eq_true rfl) dX6_init_5 (fun q1 H hq1 hN => ?_)
  have hN : mm_N b D s (mm_u σ q1 (mm_obj 0 8 [.int (nI 0), .null, .int (nI 0)])) _ _ := hN
  obtain ⟨q1, e_q1⟩ : ∃ x, x = q1 := ⟨_, rfl⟩
  rw [← e_q1]
  rw [← e_q1] at hN hq1
  obtain ⟨σ_1, eσ_1⟩ : ∃ q, q = mm_u σ q1 (mm_obj 0 8 [.int (nI 0), .null, .int (nI 0)]) := ⟨_, rfl⟩
  rw [← eσ_1] at hN
  have n_x_q1 : x ≠ q1 := fun e => by rw [e, hq1] at hx; cases hx
  have p_x_1 : σ_1 x = mm_obj 0 6 [.null, .null, .null, .null, .null, .null, .null, .int (nI 0)] := by rw [eσ_1]; exact (mm_u_ne n_x_q1).trans hx
  have p_q1_1 : σ_1 q1 = mm_obj 0 8 [.int (nI 0), .null, .int (nI 0)] := by rw [eσ_1]; exact mm_u_eq
  have hF_1 : mm_Fr 0 σ σ_1 := by rw [eσ_1]; exact (mm_Fr.rf (σ := σ)).tr (mm_Fr.new hq1)
  refine lv_dup (pc := 8) F.1 F.2.1 dX6_init_8 rfl ?_
  refine mm_runI (pc := 9) (As := []) (rest := [.ref q1, .ref x]) F hN (c_ALinit l b D hst 0 q1 _ p_q1_1) rfl mw_44 mw_45 mw_4 mw_46 ⟨pmJx4a65c_init_da8c8, (Nat.le_of_ble_eq_true rfl), (Nat.le_of_ble_eq_true rfl)⟩ hl.1 rfl (Nat.le_of_ble_eq_true rfl) ⟨(Nat.le_of_ble_eq_true rfl), (Nat.le_of_ble_eq_true rfl)⟩ dX6_init_9
    (fun _ _ _ _ _ _ h9 => False.elim h9)
    (fun v9 σ9 H locs hp9 hN => ?_)
  obtain ⟨rfl, hσ9⟩ := hp9
  refine W.eq (g2 := F0 m 12 ls [.ref q1, .ref x]) rfl ?_
  refine W.widen (k := 1) (n := 3) (Nat.le_of_ble_eq_true rfl) (Nat.le_of_ble_eq_true rfl) ?_
  rw [hσ9] at hN
  obtain ⟨σ_2, eσ_2⟩ : ∃ q, q = mm_u σ_1 q1 (mm_lst 0 []) := ⟨_, rfl⟩
  rw [← eσ_2] at hN
  have p_x_2 : σ_2 x = mm_obj 0 6 [.null, .null, .null, .null, .null, .null, .null, .int (nI 0)] := by rw [eσ_2]; exact (mm_u_ne n_x_q1).trans p_x_1
  have p_q1_2 : σ_2 q1 = mm_lst 0 [] := by rw [eσ_2]; exact mm_u_eq
  have hF_2 : mm_Fr 0 σ σ_2 := by rw [eσ_2]; exact hF_1.tr (mm_Fr.u p_q1_1)
  refine mm_putF (pc := 12) F hN (p_x_2) (ci := 6) rfl 0 (by decide) mw_85 rfl hin rfl (ty := (.object "java/util/ArrayList")) (by decide +kernel) (rfl) (rfl) (Nat.le_of_ble_eq_true rfl) dX6_init_12 (fun H locs hN => ?_)
  have hN : mm_N b D s (mm_u σ_2 x (mm_obj 0 6 [.ref q1, .null, .null, .null, .null, .null, .null, .int (nI 0)])) _ _ := hN
  obtain ⟨σ_3, eσ_3⟩ : ∃ q, q = mm_u σ_2 x (mm_obj 0 6 [.ref q1, .null, .null, .null, .null, .null, .null, .int (nI 0)]) := ⟨_, rfl⟩
  rw [← eσ_3] at hN
  have p_q1_3 : σ_3 q1 = mm_lst 0 [] := by rw [eσ_3]; exact (mm_u_ne (Ne.symm n_x_q1)).trans p_q1_2
  have p_x_3 : σ_3 x = mm_obj 0 6 [.ref q1, .null, .null, .null, .null, .null, .null, .int (nI 0)] := by rw [eσ_3]; exact mm_u_eq
  have hF_3 : mm_Fr 0 σ σ_3 := by rw [eσ_3]; exact hF_2.tr (mm_Fr.u p_x_2)
  refine lv_aload_n (pc := 15) F.1 F.2.1 dX6_init_15 rfl (lv_at hl 0 rfl) ?_
  refine mm_new (pc := 16) F hN 0 (ci := 8) (fs := [.int (nI 0), .null, .int (nI 0)]) rfl tyJx4a65c tyJx4a65c_ok (fun j9 h9 => by rcases (show j9 = 0 ∨ j9 = 1 ∨ j9 = 2 by omega) with rfl | rfl | rfl <;> rfl) mw_42 mw_43 mw_4 (Nat.le_of_ble_eq_true rfl) (Nat.le_of_ble_eq_true rfl) dX6_init_16 (fun q5 H hq5 hN => ?_)
  have hN : mm_N b D s (mm_u σ_3 q5 (mm_obj 0 8 [.int (nI 0), .null, .int (nI 0)])) _ _ := hN
  obtain ⟨q2, e_q2⟩ : ∃ x, x = q5 := ⟨_, rfl⟩
  rw [← e_q2]
  rw [← e_q2] at hN hq5
  obtain ⟨σ_5, eσ_5⟩ : ∃ q, q = mm_u σ_3 q2 (mm_obj 0 8 [.int (nI 0), .null, .int (nI 0)]) := ⟨_, rfl⟩
  rw [← eσ_5] at hN
  have n_q1_q2 : q1 ≠ q2 := fun e => by rw [e, hq5] at p_q1_3; cases p_q1_3
  have p_q1_5 : σ_5 q1 = mm_lst 0 [] := by rw [eσ_5]; exact (mm_u_ne n_q1_q2).trans p_q1_3
  have n_x_q2 : x ≠ q2 := fun e => by rw [e, hq5] at p_x_3; cases p_x_3
  have p_x_5 : σ_5 x = mm_obj 0 6 [.ref q1, .null, .null, .null, .null, .null, .null, .int (nI 0)] := by rw [eσ_5]; exact (mm_u_ne n_x_q2).trans p_x_3
  have p_q2_5 : σ_5 q2 = mm_obj 0 8 [.int (nI 0), .null, .int (nI 0)] := by rw [eσ_5]; exact mm_u_eq
  have hF_5 : mm_Fr 0 σ σ_5 := by rw [eσ_5]; exact hF_3.tr (mm_Fr.new hq5)
  refine lv_dup (pc := 19) F.1 F.2.1 dX6_init_19 rfl ?_
  refine mm_runI (pc := 20) (As := []) (rest := [.ref q2, .ref x]) F hN (c_ALinit l b D hst 0 q2 _ p_q2_5) rfl mw_44 mw_45 mw_4 mw_46 ⟨pmJx4a65c_init_da8c8, (Nat.le_of_ble_eq_true rfl), (Nat.le_of_ble_eq_true rfl)⟩ hl.1 rfl (Nat.le_of_ble_eq_true rfl) ⟨(Nat.le_of_ble_eq_true rfl), (Nat.le_of_ble_eq_true rfl)⟩ dX6_init_20
    (fun _ _ _ _ _ _ h9 => False.elim h9)
    (fun v9 σ9 H locs hp9 hN => ?_)
  obtain ⟨rfl, hσ9⟩ := hp9
  refine W.eq (g2 := F0 m 23 ls [.ref q2, .ref x]) rfl ?_
  refine W.widen (k := 2) (n := 6) (Nat.le_of_ble_eq_true rfl) (Nat.le_of_ble_eq_true rfl) ?_
  rw [hσ9] at hN
  obtain ⟨σ_6, eσ_6⟩ : ∃ q, q = mm_u σ_5 q2 (mm_lst 0 []) := ⟨_, rfl⟩
  rw [← eσ_6] at hN
  have p_q1_6 : σ_6 q1 = mm_lst 0 [] := by rw [eσ_6]; exact (mm_u_ne n_q1_q2).trans p_q1_5
  have p_x_6 : σ_6 x = mm_obj 0 6 [.ref q1, .null, .null, .null, .null, .null, .null, .int (nI 0)] := by rw [eσ_6]; exact (mm_u_ne n_x_q2).trans p_x_5
  have p_q2_6 : σ_6 q2 = mm_lst 0 [] := by rw [eσ_6]; exact mm_u_eq
  have hF_6 : mm_Fr 0 σ σ_6 := by rw [eσ_6]; exact hF_5.tr (mm_Fr.u p_q2_5)
  refine mm_putF (pc := 23) F hN (p_x_6) (ci := 6) rfl 1 (by decide) mw_86 rfl hin rfl (ty := (.object "java/util/ArrayList")) (by decide +kernel) (rfl) (rfl) (Nat.le_of_ble_eq_true rfl) dX6_init_23 (fun H locs hN => ?_)
  have hN : mm_N b D s (mm_u σ_6 x (mm_obj 0 6 [.ref q1, .ref q2, .null, .null, .null, .null, .null, .int (nI 0)])) _ _ := hN
  obtain ⟨σ_7, eσ_7⟩ : ∃ q, q = mm_u σ_6 x (mm_obj 0 6 [.ref q1, .ref q2, .null, .null, .null, .null, .null, .int (nI 0)]) := ⟨_, rfl⟩
  rw [← eσ_7] at hN
  have p_q1_7 : σ_7 q1 = mm_lst 0 [] := by rw [eσ_7]; exact (mm_u_ne (Ne.symm n_x_q1)).trans p_q1_6
  have p_q2_7 : σ_7 q2 = mm_lst 0 [] := by rw [eσ_7]; exact (mm_u_ne (Ne.symm n_x_q2)).trans p_q2_6
  have p_x_7 : σ_7 x = mm_obj 0 6 [.ref q1, .ref q2, .null, .null, .null, .null, .null, .int (nI 0)] := by rw [eσ_7]; exact mm_u_eq
  have hF_7 : mm_Fr 0 σ σ_7 := by rw [eσ_7]; exact hF_6.tr (mm_Fr.u p_x_6)
  refine lv_aload_n (pc := 26) F.1 F.2.1 dX6_init_26 rfl (lv_at hl 0 rfl) ?_
  refine mm_new (pc := 27) F hN 0 (ci := 8) (fs := [.int (nI 0), .null, .int (nI 0)]) rfl tyJx4a65c tyJx4a65c_ok (fun j9 h9 => by rcases (show j9 = 0 ∨ j9 = 1 ∨ j9 = 2 by omega) with rfl | rfl | rfl <;> rfl) mw_42 mw_43 mw_4 (Nat.le_of_ble_eq_true rfl) (Nat.le_of_ble_eq_true rfl) dX6_init_27 (fun q9 H hq9 hN => ?_)
  have hN : mm_N b D s (mm_u σ_7 q9 (mm_obj 0 8 [.int (nI 0), .null, .int (nI 0)])) _ _ := hN
  obtain ⟨q3, e_q3⟩ : ∃ x, x = q9 := ⟨_, rfl⟩
  rw [← e_q3]
  rw [← e_q3] at hN hq9
  obtain ⟨σ_9, eσ_9⟩ : ∃ q, q = mm_u σ_7 q3 (mm_obj 0 8 [.int (nI 0), .null, .int (nI 0)]) := ⟨_, rfl⟩
  rw [← eσ_9] at hN
  have n_q1_q3 : q1 ≠ q3 := fun e => by rw [e, hq9] at p_q1_7; cases p_q1_7
  have p_q1_9 : σ_9 q1 = mm_lst 0 [] := by rw [eσ_9]; exact (mm_u_ne n_q1_q3).trans p_q1_7
  have n_q2_q3 : q2 ≠ q3 := fun e => by rw [e, hq9] at p_q2_7; cases p_q2_7
  have p_q2_9 : σ_9 q2 = mm_lst 0 [] := by rw [eσ_9]; exact (mm_u_ne n_q2_q3).trans p_q2_7
  have n_x_q3 : x ≠ q3 := fun e => by rw [e, hq9] at p_x_7; cases p_x_7
  have p_x_9 : σ_9 x = mm_obj 0 6 [.ref q1, .ref q2, .null, .null, .null, .null, .null, .int (nI 0)] := by rw [eσ_9]; exact (mm_u_ne n_x_q3).trans p_x_7
  have p_q3_9 : σ_9 q3 = mm_obj 0 8 [.int (nI 0), .null, .int (nI 0)] := by rw [eσ_9]; exact mm_u_eq
  have hF_9 : mm_Fr 0 σ σ_9 := by rw [eσ_9]; exact hF_7.tr (mm_Fr.new hq9)
  refine lv_dup (pc := 30) F.1 F.2.1 dX6_init_30 rfl ?_
  refine mm_runI (pc := 31) (As := []) (rest := [.ref q3, .ref x]) F hN (c_ALinit l b D hst 0 q3 _ p_q3_9) rfl mw_44 mw_45 mw_4 mw_46 ⟨pmJx4a65c_init_da8c8, (Nat.le_of_ble_eq_true rfl), (Nat.le_of_ble_eq_true rfl)⟩ hl.1 rfl (Nat.le_of_ble_eq_true rfl) ⟨(Nat.le_of_ble_eq_true rfl), (Nat.le_of_ble_eq_true rfl)⟩ dX6_init_31
    (fun _ _ _ _ _ _ h9 => False.elim h9)
    (fun v9 σ9 H locs hp9 hN => ?_)
  obtain ⟨rfl, hσ9⟩ := hp9
  refine W.eq (g2 := F0 m 34 ls [.ref q3, .ref x]) rfl ?_
  refine W.widen (k := 3) (n := 9) (Nat.le_of_ble_eq_true rfl) (Nat.le_of_ble_eq_true rfl) ?_
  rw [hσ9] at hN
  obtain ⟨σ_10, eσ_10⟩ : ∃ q, q = mm_u σ_9 q3 (mm_lst 0 []) := ⟨_, rfl⟩
  rw [← eσ_10] at hN
  have p_q1_10 : σ_10 q1 = mm_lst 0 [] := by rw [eσ_10]; exact (mm_u_ne n_q1_q3).trans p_q1_9
  have p_q2_10 : σ_10 q2 = mm_lst 0 [] := by rw [eσ_10]; exact (mm_u_ne n_q2_q3).trans p_q2_9
  have p_x_10 : σ_10 x = mm_obj 0 6 [.ref q1, .ref q2, .null, .null, .null, .null, .null, .int (nI 0)] := by rw [eσ_10]; exact (mm_u_ne n_x_q3).trans p_x_9
  have p_q3_10 : σ_10 q3 = mm_lst 0 [] := by rw [eσ_10]; exact mm_u_eq
  have hF_10 : mm_Fr 0 σ σ_10 := by rw [eσ_10]; exact hF_9.tr (mm_Fr.u p_q3_9)
  refine mm_putF (pc := 34) F hN (p_x_10) (ci := 6) rfl 2 (by decide) mw_87 rfl hin rfl (ty := (.object "java/util/ArrayList")) (by decide +kernel) (rfl) (rfl) (Nat.le_of_ble_eq_true rfl) dX6_init_34 (fun H locs hN => ?_)
  have hN : mm_N b D s (mm_u σ_10 x (mm_obj 0 6 [.ref q1, .ref q2, .ref q3, .null, .null, .null, .null, .int (nI 0)])) _ _ := hN
  obtain ⟨σ_11, eσ_11⟩ : ∃ q, q = mm_u σ_10 x (mm_obj 0 6 [.ref q1, .ref q2, .ref q3, .null, .null, .null, .null, .int (nI 0)]) := ⟨_, rfl⟩
  rw [← eσ_11] at hN
  have p_q1_11 : σ_11 q1 = mm_lst 0 [] := by rw [eσ_11]; exact (mm_u_ne (Ne.symm n_x_q1)).trans p_q1_10
  have p_q2_11 : σ_11 q2 = mm_lst 0 [] := by rw [eσ_11]; exact (mm_u_ne (Ne.symm n_x_q2)).trans p_q2_10
  have p_q3_11 : σ_11 q3 = mm_lst 0 [] := by rw [eσ_11]; exact (mm_u_ne (Ne.symm n_x_q3)).trans p_q3_10
  have p_x_11 : σ_11 x = mm_obj 0 6 [.ref q1, .ref q2, .ref q3, .null, .null, .null, .null, .int (nI 0)] := by rw [eσ_11]; exact mm_u_eq
  have hF_11 : mm_Fr 0 σ σ_11 := by rw [eσ_11]; exact hF_10.tr (mm_Fr.u p_x_10)
  refine lv_aload_n (pc := 37) F.1 F.2.1 dX6_init_37 rfl (lv_at hl 0 rfl) ?_
  refine mm_new (pc := 38) F hN 0 (ci := 8) (fs := [.int (nI 0), .null, .int (nI 0)]) rfl tyJx4a65c tyJx4a65c_ok (fun j9 h9 => by rcases (show j9 = 0 ∨ j9 = 1 ∨ j9 = 2 by omega) with rfl | rfl | rfl <;> rfl) mw_42 mw_43 mw_4 (Nat.le_of_ble_eq_true rfl) (Nat.le_of_ble_eq_true rfl) dX6_init_38 (fun q13 H hq13 hN => ?_)
  have hN : mm_N b D s (mm_u σ_11 q13 (mm_obj 0 8 [.int (nI 0), .null, .int (nI 0)])) _ _ := hN
  obtain ⟨q4, e_q4⟩ : ∃ x, x = q13 := ⟨_, rfl⟩
  rw [← e_q4]
  rw [← e_q4] at hN hq13
  obtain ⟨σ_13, eσ_13⟩ : ∃ q, q = mm_u σ_11 q4 (mm_obj 0 8 [.int (nI 0), .null, .int (nI 0)]) := ⟨_, rfl⟩
  rw [← eσ_13] at hN
  have n_q1_q4 : q1 ≠ q4 := fun e => by rw [e, hq13] at p_q1_11; cases p_q1_11
  have p_q1_13 : σ_13 q1 = mm_lst 0 [] := by rw [eσ_13]; exact (mm_u_ne n_q1_q4).trans p_q1_11
  have n_q2_q4 : q2 ≠ q4 := fun e => by rw [e, hq13] at p_q2_11; cases p_q2_11
  have p_q2_13 : σ_13 q2 = mm_lst 0 [] := by rw [eσ_13]; exact (mm_u_ne n_q2_q4).trans p_q2_11
  have n_q3_q4 : q3 ≠ q4 := fun e => by rw [e, hq13] at p_q3_11; cases p_q3_11
  have p_q3_13 : σ_13 q3 = mm_lst 0 [] := by rw [eσ_13]; exact (mm_u_ne n_q3_q4).trans p_q3_11
  have n_x_q4 : x ≠ q4 := fun e => by rw [e, hq13] at p_x_11; cases p_x_11
  have p_x_13 : σ_13 x = mm_obj 0 6 [.ref q1, .ref q2, .ref q3, .null, .null, .null, .null, .int (nI 0)] := by rw [eσ_13]; exact (mm_u_ne n_x_q4).trans p_x_11
  have p_q4_13 : σ_13 q4 = mm_obj 0 8 [.int (nI 0), .null, .int (nI 0)] := by rw [eσ_13]; exact mm_u_eq
  have hF_13 : mm_Fr 0 σ σ_13 := by rw [eσ_13]; exact hF_11.tr (mm_Fr.new hq13)
  refine lv_dup (pc := 41) F.1 F.2.1 dX6_init_41 rfl ?_
  refine mm_runI (pc := 42) (As := []) (rest := [.ref q4, .ref x]) F hN (c_ALinit l b D hst 0 q4 _ p_q4_13) rfl mw_44 mw_45 mw_4 mw_46 ⟨pmJx4a65c_init_da8c8, (Nat.le_of_ble_eq_true rfl), (Nat.le_of_ble_eq_true rfl)⟩ hl.1 rfl (Nat.le_of_ble_eq_true rfl) ⟨(Nat.le_of_ble_eq_true rfl), (Nat.le_of_ble_eq_true rfl)⟩ dX6_init_42
    (fun _ _ _ _ _ _ h9 => False.elim h9)
    (fun v9 σ9 H locs hp9 hN => ?_)
  obtain ⟨rfl, hσ9⟩ := hp9
  refine W.eq (g2 := F0 m 45 ls [.ref q4, .ref x]) rfl ?_
  refine W.widen (k := 4) (n := 12) (Nat.le_of_ble_eq_true rfl) (Nat.le_of_ble_eq_true rfl) ?_
  rw [hσ9] at hN
  obtain ⟨σ_14, eσ_14⟩ : ∃ q, q = mm_u σ_13 q4 (mm_lst 0 []) := ⟨_, rfl⟩
  rw [← eσ_14] at hN
  have p_q1_14 : σ_14 q1 = mm_lst 0 [] := by rw [eσ_14]; exact (mm_u_ne n_q1_q4).trans p_q1_13
  have p_q2_14 : σ_14 q2 = mm_lst 0 [] := by rw [eσ_14]; exact (mm_u_ne n_q2_q4).trans p_q2_13
  have p_q3_14 : σ_14 q3 = mm_lst 0 [] := by rw [eσ_14]; exact (mm_u_ne n_q3_q4).trans p_q3_13
  have p_x_14 : σ_14 x = mm_obj 0 6 [.ref q1, .ref q2, .ref q3, .null, .null, .null, .null, .int (nI 0)] := by rw [eσ_14]; exact (mm_u_ne n_x_q4).trans p_x_13
  have p_q4_14 : σ_14 q4 = mm_lst 0 [] := by rw [eσ_14]; exact mm_u_eq
  have hF_14 : mm_Fr 0 σ σ_14 := by rw [eσ_14]; exact hF_13.tr (mm_Fr.u p_q4_13)
  refine mm_putF (pc := 45) F hN (p_x_14) (ci := 6) rfl 3 (by decide) mw_88 rfl hin rfl (ty := (.object "java/util/ArrayList")) (by decide +kernel) (rfl) (rfl) (Nat.le_of_ble_eq_true rfl) dX6_init_45 (fun H locs hN => ?_)
  have hN : mm_N b D s (mm_u σ_14 x (mm_obj 0 6 [.ref q1, .ref q2, .ref q3, .ref q4, .null, .null, .null, .int (nI 0)])) _ _ := hN
  obtain ⟨σ_15, eσ_15⟩ : ∃ q, q = mm_u σ_14 x (mm_obj 0 6 [.ref q1, .ref q2, .ref q3, .ref q4, .null, .null, .null, .int (nI 0)]) := ⟨_, rfl⟩
  rw [← eσ_15] at hN
  have p_q1_15 : σ_15 q1 = mm_lst 0 [] := by rw [eσ_15]; exact (mm_u_ne (Ne.symm n_x_q1)).trans p_q1_14
  have p_q2_15 : σ_15 q2 = mm_lst 0 [] := by rw [eσ_15]; exact (mm_u_ne (Ne.symm n_x_q2)).trans p_q2_14
  have p_q3_15 : σ_15 q3 = mm_lst 0 [] := by rw [eσ_15]; exact (mm_u_ne (Ne.symm n_x_q3)).trans p_q3_14
  have p_q4_15 : σ_15 q4 = mm_lst 0 [] := by rw [eσ_15]; exact (mm_u_ne (Ne.symm n_x_q4)).trans p_q4_14
  have p_x_15 : σ_15 x = mm_obj 0 6 [.ref q1, .ref q2, .ref q3, .ref q4, .null, .null, .null, .int (nI 0)] := by rw [eσ_15]; exact mm_u_eq
  have hF_15 : mm_Fr 0 σ σ_15 := by rw [eσ_15]; exact hF_14.tr (mm_Fr.u p_x_14)
  refine lv_aload_n (pc := 48) F.1 F.2.1 dX6_init_48 rfl (lv_at hl 0 rfl) ?_
  refine mm_new (pc := 49) F hN 0 (ci := 4) (fs := [.int (nI 0), .int (nI 0), .int (nI 0)]) rfl tyX4 tyX4_ok (fun j9 h9 => by rcases (show j9 = 0 ∨ j9 = 1 ∨ j9 = 2 by omega) with rfl | rfl | rfl <;> rfl) mw_68 mw_69 mw_5 (Nat.le_of_ble_eq_true rfl) (Nat.le_of_ble_eq_true rfl) dX6_init_49 (fun q17 H hq17 hN => ?_)
  have hN : mm_N b D s (mm_u σ_15 q17 (mm_obj 0 4 [.int (nI 0), .int (nI 0), .int (nI 0)])) _ _ := hN
  obtain ⟨q5, e_q5⟩ : ∃ x, x = q17 := ⟨_, rfl⟩
  rw [← e_q5]
  rw [← e_q5] at hN hq17
  obtain ⟨σ_17, eσ_17⟩ : ∃ q, q = mm_u σ_15 q5 (mm_obj 0 4 [.int (nI 0), .int (nI 0), .int (nI 0)]) := ⟨_, rfl⟩
  rw [← eσ_17] at hN
  have n_q1_q5 : q1 ≠ q5 := fun e => by rw [e, hq17] at p_q1_15; cases p_q1_15
  have p_q1_17 : σ_17 q1 = mm_lst 0 [] := by rw [eσ_17]; exact (mm_u_ne n_q1_q5).trans p_q1_15
  have n_q2_q5 : q2 ≠ q5 := fun e => by rw [e, hq17] at p_q2_15; cases p_q2_15
  have p_q2_17 : σ_17 q2 = mm_lst 0 [] := by rw [eσ_17]; exact (mm_u_ne n_q2_q5).trans p_q2_15
  have n_q3_q5 : q3 ≠ q5 := fun e => by rw [e, hq17] at p_q3_15; cases p_q3_15
  have p_q3_17 : σ_17 q3 = mm_lst 0 [] := by rw [eσ_17]; exact (mm_u_ne n_q3_q5).trans p_q3_15
  have n_q4_q5 : q4 ≠ q5 := fun e => by rw [e, hq17] at p_q4_15; cases p_q4_15
  have p_q4_17 : σ_17 q4 = mm_lst 0 [] := by rw [eσ_17]; exact (mm_u_ne n_q4_q5).trans p_q4_15
  have n_x_q5 : x ≠ q5 := fun e => by rw [e, hq17] at p_x_15; cases p_x_15
  have p_x_17 : σ_17 x = mm_obj 0 6 [.ref q1, .ref q2, .ref q3, .ref q4, .null, .null, .null, .int (nI 0)] := by rw [eσ_17]; exact (mm_u_ne n_x_q5).trans p_x_15
  have p_q5_17 : σ_17 q5 = mm_obj 0 4 [.int (nI 0), .int (nI 0), .int (nI 0)] := by rw [eσ_17]; exact mm_u_eq
  have hF_17 : mm_Fr 0 σ σ_17 := by rw [eσ_17]; exact hF_15.tr (mm_Fr.new hq17)
  refine lv_dup (pc := 52) F.1 F.2.1 dX6_init_52 rfl ?_
  refine mm_runIN (pc := 53) (As := []) (rest := [.ref q5, .ref x]) F hN (c_Sto l b D hst q5 _) rfl mw_70 mw_71 mw_5 mw_72 ⟨pmX4_init, (Nat.le_of_ble_eq_true rfl), (Nat.le_of_ble_eq_true rfl)⟩ hl.1 rfl (Nat.le_of_ble_eq_true rfl) ⟨(Nat.le_of_ble_eq_true rfl), (Nat.le_of_ble_eq_true rfl)⟩ dX6_init_53
    (fun _ _ _ _ _ _ h9 => False.elim h9)
    (fun v9 σ9 H locs hp9 hN => ?_)
  obtain ⟨rfl, h9⟩ := hp9
  rw [h9] at hN
  refine W.eq (g2 := F0 m 56 ls [.ref q5, .ref x]) rfl ?_
  refine W.widen (k := 5) (n := 15) (Nat.le_of_ble_eq_true rfl) (Nat.le_of_ble_eq_true rfl) ?_
  refine mm_putF (pc := 56) F hN (p_x_17) (ci := 6) rfl 4 (by decide) mw_89 rfl hin rfl (ty := (.object "Mailmerge$Stock")) (by decide +kernel) (rfl) (rfl) (Nat.le_of_ble_eq_true rfl) dX6_init_56 (fun H locs hN => ?_)
  have hN : mm_N b D s (mm_u σ_17 x (mm_obj 0 6 [.ref q1, .ref q2, .ref q3, .ref q4, .ref q5, .null, .null, .int (nI 0)])) _ _ := hN
  obtain ⟨σ_18, eσ_18⟩ : ∃ q, q = mm_u σ_17 x (mm_obj 0 6 [.ref q1, .ref q2, .ref q3, .ref q4, .ref q5, .null, .null, .int (nI 0)]) := ⟨_, rfl⟩
  rw [← eσ_18] at hN
  have p_q1_18 : σ_18 q1 = mm_lst 0 [] := by rw [eσ_18]; exact (mm_u_ne (Ne.symm n_x_q1)).trans p_q1_17
  have p_q2_18 : σ_18 q2 = mm_lst 0 [] := by rw [eσ_18]; exact (mm_u_ne (Ne.symm n_x_q2)).trans p_q2_17
  have p_q3_18 : σ_18 q3 = mm_lst 0 [] := by rw [eσ_18]; exact (mm_u_ne (Ne.symm n_x_q3)).trans p_q3_17
  have p_q4_18 : σ_18 q4 = mm_lst 0 [] := by rw [eσ_18]; exact (mm_u_ne (Ne.symm n_x_q4)).trans p_q4_17
  have p_q5_18 : σ_18 q5 = mm_obj 0 4 [.int (nI 0), .int (nI 0), .int (nI 0)] := by rw [eσ_18]; exact (mm_u_ne (Ne.symm n_x_q5)).trans p_q5_17
  have p_x_18 : σ_18 x = mm_obj 0 6 [.ref q1, .ref q2, .ref q3, .ref q4, .ref q5, .null, .null, .int (nI 0)] := by rw [eσ_18]; exact mm_u_eq
  have hF_18 : mm_Fr 0 σ σ_18 := by rw [eσ_18]; exact hF_17.tr (mm_Fr.u p_x_17)
  refine lv_aload_n (pc := 59) F.1 F.2.1 dX6_init_59 rfl (lv_at hl 0 rfl) ?_
  refine mm_new (pc := 60) F hN 0 (ci := 4) (fs := [.int (nI 0), .int (nI 0), .int (nI 0)]) rfl tyX4 tyX4_ok (fun j9 h9 => by rcases (show j9 = 0 ∨ j9 = 1 ∨ j9 = 2 by omega) with rfl | rfl | rfl <;> rfl) mw_68 mw_69 mw_5 (Nat.le_of_ble_eq_true rfl) (Nat.le_of_ble_eq_true rfl) dX6_init_60 (fun q20 H hq20 hN => ?_)
  have hN : mm_N b D s (mm_u σ_18 q20 (mm_obj 0 4 [.int (nI 0), .int (nI 0), .int (nI 0)])) _ _ := hN
  obtain ⟨q6, e_q6⟩ : ∃ x, x = q20 := ⟨_, rfl⟩
  rw [← e_q6]
  rw [← e_q6] at hN hq20
  obtain ⟨σ_20, eσ_20⟩ : ∃ q, q = mm_u σ_18 q6 (mm_obj 0 4 [.int (nI 0), .int (nI 0), .int (nI 0)]) := ⟨_, rfl⟩
  rw [← eσ_20] at hN
  have n_q1_q6 : q1 ≠ q6 := fun e => by rw [e, hq20] at p_q1_18; cases p_q1_18
  have p_q1_20 : σ_20 q1 = mm_lst 0 [] := by rw [eσ_20]; exact (mm_u_ne n_q1_q6).trans p_q1_18
  have n_q2_q6 : q2 ≠ q6 := fun e => by rw [e, hq20] at p_q2_18; cases p_q2_18
  have p_q2_20 : σ_20 q2 = mm_lst 0 [] := by rw [eσ_20]; exact (mm_u_ne n_q2_q6).trans p_q2_18
  have n_q3_q6 : q3 ≠ q6 := fun e => by rw [e, hq20] at p_q3_18; cases p_q3_18
  have p_q3_20 : σ_20 q3 = mm_lst 0 [] := by rw [eσ_20]; exact (mm_u_ne n_q3_q6).trans p_q3_18
  have n_q4_q6 : q4 ≠ q6 := fun e => by rw [e, hq20] at p_q4_18; cases p_q4_18
  have p_q4_20 : σ_20 q4 = mm_lst 0 [] := by rw [eσ_20]; exact (mm_u_ne n_q4_q6).trans p_q4_18
  have n_q5_q6 : q5 ≠ q6 := fun e => by rw [e, hq20] at p_q5_18; cases p_q5_18
  have p_q5_20 : σ_20 q5 = mm_obj 0 4 [.int (nI 0), .int (nI 0), .int (nI 0)] := by rw [eσ_20]; exact (mm_u_ne n_q5_q6).trans p_q5_18
  have n_x_q6 : x ≠ q6 := fun e => by rw [e, hq20] at p_x_18; cases p_x_18
  have p_x_20 : σ_20 x = mm_obj 0 6 [.ref q1, .ref q2, .ref q3, .ref q4, .ref q5, .null, .null, .int (nI 0)] := by rw [eσ_20]; exact (mm_u_ne n_x_q6).trans p_x_18
  have p_q6_20 : σ_20 q6 = mm_obj 0 4 [.int (nI 0), .int (nI 0), .int (nI 0)] := by rw [eσ_20]; exact mm_u_eq
  have hF_20 : mm_Fr 0 σ σ_20 := by rw [eσ_20]; exact hF_18.tr (mm_Fr.new hq20)
  refine lv_dup (pc := 63) F.1 F.2.1 dX6_init_63 rfl ?_
  refine mm_runIN (pc := 64) (As := []) (rest := [.ref q6, .ref x]) F hN (c_Sto l b D hst q6 _) rfl mw_70 mw_71 mw_5 mw_72 ⟨pmX4_init, (Nat.le_of_ble_eq_true rfl), (Nat.le_of_ble_eq_true rfl)⟩ hl.1 rfl (Nat.le_of_ble_eq_true rfl) ⟨(Nat.le_of_ble_eq_true rfl), (Nat.le_of_ble_eq_true rfl)⟩ dX6_init_64
    (fun _ _ _ _ _ _ h9 => False.elim h9)
    (fun v9 σ9 H locs hp9 hN => ?_)
  obtain ⟨rfl, h9⟩ := hp9
  rw [h9] at hN
  refine W.eq (g2 := F0 m 67 ls [.ref q6, .ref x]) rfl ?_
  refine W.widen (k := 6) (n := 18) (Nat.le_of_ble_eq_true rfl) (Nat.le_of_ble_eq_true rfl) ?_
  refine mm_putF (pc := 67) F hN (p_x_20) (ci := 6) rfl 5 (by decide) mw_90 rfl hin rfl (ty := (.object "Mailmerge$Stock")) (by decide +kernel) (rfl) (rfl) (Nat.le_of_ble_eq_true rfl) dX6_init_67 (fun H locs hN => ?_)
  have hN : mm_N b D s (mm_u σ_20 x (mm_obj 0 6 [.ref q1, .ref q2, .ref q3, .ref q4, .ref q5, .ref q6, .null, .int (nI 0)])) _ _ := hN
  obtain ⟨σ_21, eσ_21⟩ : ∃ q, q = mm_u σ_20 x (mm_obj 0 6 [.ref q1, .ref q2, .ref q3, .ref q4, .ref q5, .ref q6, .null, .int (nI 0)]) := ⟨_, rfl⟩
  rw [← eσ_21] at hN
  have p_q1_21 : σ_21 q1 = mm_lst 0 [] := by rw [eσ_21]; exact (mm_u_ne (Ne.symm n_x_q1)).trans p_q1_20
  have p_q2_21 : σ_21 q2 = mm_lst 0 [] := by rw [eσ_21]; exact (mm_u_ne (Ne.symm n_x_q2)).trans p_q2_20
  have p_q3_21 : σ_21 q3 = mm_lst 0 [] := by rw [eσ_21]; exact (mm_u_ne (Ne.symm n_x_q3)).trans p_q3_20
  have p_q4_21 : σ_21 q4 = mm_lst 0 [] := by rw [eσ_21]; exact (mm_u_ne (Ne.symm n_x_q4)).trans p_q4_20
  have p_q5_21 : σ_21 q5 = mm_obj 0 4 [.int (nI 0), .int (nI 0), .int (nI 0)] := by rw [eσ_21]; exact (mm_u_ne (Ne.symm n_x_q5)).trans p_q5_20
  have p_q6_21 : σ_21 q6 = mm_obj 0 4 [.int (nI 0), .int (nI 0), .int (nI 0)] := by rw [eσ_21]; exact (mm_u_ne (Ne.symm n_x_q6)).trans p_q6_20
  have p_x_21 : σ_21 x = mm_obj 0 6 [.ref q1, .ref q2, .ref q3, .ref q4, .ref q5, .ref q6, .null, .int (nI 0)] := by rw [eσ_21]; exact mm_u_eq
  have hF_21 : mm_Fr 0 σ σ_21 := by rw [eσ_21]; exact hF_20.tr (mm_Fr.u p_x_20)
  refine lv_aload_n (pc := 70) F.1 F.2.1 dX6_init_70 rfl (lv_at hl 0 rfl) ?_
  refine mm_new (pc := 71) F hN 0 (ci := 4) (fs := [.int (nI 0), .int (nI 0), .int (nI 0)]) rfl tyX4 tyX4_ok (fun j9 h9 => by rcases (show j9 = 0 ∨ j9 = 1 ∨ j9 = 2 by omega) with rfl | rfl | rfl <;> rfl) mw_68 mw_69 mw_5 (Nat.le_of_ble_eq_true rfl) (Nat.le_of_ble_eq_true rfl) dX6_init_71 (fun q23 H hq23 hN => ?_)
  have hN : mm_N b D s (mm_u σ_21 q23 (mm_obj 0 4 [.int (nI 0), .int (nI 0), .int (nI 0)])) _ _ := hN
  obtain ⟨q7, e_q7⟩ : ∃ x, x = q23 := ⟨_, rfl⟩
  rw [← e_q7]
  rw [← e_q7] at hN hq23
  obtain ⟨σ_23, eσ_23⟩ : ∃ q, q = mm_u σ_21 q7 (mm_obj 0 4 [.int (nI 0), .int (nI 0), .int (nI 0)]) := ⟨_, rfl⟩
  rw [← eσ_23] at hN
  have n_q1_q7 : q1 ≠ q7 := fun e => by rw [e, hq23] at p_q1_21; cases p_q1_21
  have p_q1_23 : σ_23 q1 = mm_lst 0 [] := by rw [eσ_23]; exact (mm_u_ne n_q1_q7).trans p_q1_21
  have n_q2_q7 : q2 ≠ q7 := fun e => by rw [e, hq23] at p_q2_21; cases p_q2_21
  have p_q2_23 : σ_23 q2 = mm_lst 0 [] := by rw [eσ_23]; exact (mm_u_ne n_q2_q7).trans p_q2_21
  have n_q3_q7 : q3 ≠ q7 := fun e => by rw [e, hq23] at p_q3_21; cases p_q3_21
  have p_q3_23 : σ_23 q3 = mm_lst 0 [] := by rw [eσ_23]; exact (mm_u_ne n_q3_q7).trans p_q3_21
  have n_q4_q7 : q4 ≠ q7 := fun e => by rw [e, hq23] at p_q4_21; cases p_q4_21
  have p_q4_23 : σ_23 q4 = mm_lst 0 [] := by rw [eσ_23]; exact (mm_u_ne n_q4_q7).trans p_q4_21
  have n_q5_q7 : q5 ≠ q7 := fun e => by rw [e, hq23] at p_q5_21; cases p_q5_21
  have p_q5_23 : σ_23 q5 = mm_obj 0 4 [.int (nI 0), .int (nI 0), .int (nI 0)] := by rw [eσ_23]; exact (mm_u_ne n_q5_q7).trans p_q5_21
  have n_q6_q7 : q6 ≠ q7 := fun e => by rw [e, hq23] at p_q6_21; cases p_q6_21
  have p_q6_23 : σ_23 q6 = mm_obj 0 4 [.int (nI 0), .int (nI 0), .int (nI 0)] := by rw [eσ_23]; exact (mm_u_ne n_q6_q7).trans p_q6_21
  have n_x_q7 : x ≠ q7 := fun e => by rw [e, hq23] at p_x_21; cases p_x_21
  have p_x_23 : σ_23 x = mm_obj 0 6 [.ref q1, .ref q2, .ref q3, .ref q4, .ref q5, .ref q6, .null, .int (nI 0)] := by rw [eσ_23]; exact (mm_u_ne n_x_q7).trans p_x_21
  have p_q7_23 : σ_23 q7 = mm_obj 0 4 [.int (nI 0), .int (nI 0), .int (nI 0)] := by rw [eσ_23]; exact mm_u_eq
  have hF_23 : mm_Fr 0 σ σ_23 := by rw [eσ_23]; exact hF_21.tr (mm_Fr.new hq23)
  refine lv_dup (pc := 74) F.1 F.2.1 dX6_init_74 rfl ?_
  refine mm_runIN (pc := 75) (As := []) (rest := [.ref q7, .ref x]) F hN (c_Sto l b D hst q7 _) rfl mw_70 mw_71 mw_5 mw_72 ⟨pmX4_init, (Nat.le_of_ble_eq_true rfl), (Nat.le_of_ble_eq_true rfl)⟩ hl.1 rfl (Nat.le_of_ble_eq_true rfl) ⟨(Nat.le_of_ble_eq_true rfl), (Nat.le_of_ble_eq_true rfl)⟩ dX6_init_75
    (fun _ _ _ _ _ _ h9 => False.elim h9)
    (fun v9 σ9 H locs hp9 hN => ?_)
  obtain ⟨rfl, h9⟩ := hp9
  rw [h9] at hN
  refine W.eq (g2 := F0 m 78 ls [.ref q7, .ref x]) rfl ?_
  refine W.widen (k := 7) (n := 21) (Nat.le_of_ble_eq_true rfl) (Nat.le_of_ble_eq_true rfl) ?_
  refine mm_putF (pc := 78) F hN (p_x_23) (ci := 6) rfl 6 (by decide) mw_91 rfl hin rfl (ty := (.object "Mailmerge$Stock")) (by decide +kernel) (rfl) (rfl) (Nat.le_of_ble_eq_true rfl) dX6_init_78 (fun H locs hN => ?_)
  have hN : mm_N b D s (mm_u σ_23 x (mm_obj 0 6 [.ref q1, .ref q2, .ref q3, .ref q4, .ref q5, .ref q6, .ref q7, .int (nI 0)])) _ _ := hN
  obtain ⟨σ_24, eσ_24⟩ : ∃ q, q = mm_u σ_23 x (mm_obj 0 6 [.ref q1, .ref q2, .ref q3, .ref q4, .ref q5, .ref q6, .ref q7, .int (nI 0)]) := ⟨_, rfl⟩
  rw [← eσ_24] at hN
  have p_q1_24 : σ_24 q1 = mm_lst 0 [] := by rw [eσ_24]; exact (mm_u_ne (Ne.symm n_x_q1)).trans p_q1_23
  have p_q2_24 : σ_24 q2 = mm_lst 0 [] := by rw [eσ_24]; exact (mm_u_ne (Ne.symm n_x_q2)).trans p_q2_23
  have p_q3_24 : σ_24 q3 = mm_lst 0 [] := by rw [eσ_24]; exact (mm_u_ne (Ne.symm n_x_q3)).trans p_q3_23
  have p_q4_24 : σ_24 q4 = mm_lst 0 [] := by rw [eσ_24]; exact (mm_u_ne (Ne.symm n_x_q4)).trans p_q4_23
  have p_q5_24 : σ_24 q5 = mm_obj 0 4 [.int (nI 0), .int (nI 0), .int (nI 0)] := by rw [eσ_24]; exact (mm_u_ne (Ne.symm n_x_q5)).trans p_q5_23
  have p_q6_24 : σ_24 q6 = mm_obj 0 4 [.int (nI 0), .int (nI 0), .int (nI 0)] := by rw [eσ_24]; exact (mm_u_ne (Ne.symm n_x_q6)).trans p_q6_23
  have p_q7_24 : σ_24 q7 = mm_obj 0 4 [.int (nI 0), .int (nI 0), .int (nI 0)] := by rw [eσ_24]; exact (mm_u_ne (Ne.symm n_x_q7)).trans p_q7_23
  have p_x_24 : σ_24 x = mm_obj 0 6 [.ref q1, .ref q2, .ref q3, .ref q4, .ref q5, .ref q6, .ref q7, .int (nI 0)] := by rw [eσ_24]; exact mm_u_eq
  have hF_24 : mm_Fr 0 σ σ_24 := by rw [eσ_24]; exact hF_23.tr (mm_Fr.u p_x_23)
  refine lv_aload_n (pc := 81) F.1 F.2.1 dX6_init_81 rfl (lv_at hl 0 rfl) ?_
  refine lv_iconst (pc := 82) (v := nI 3) F.1 F.2.1 dX6_init_82 (by decide) ?_
  refine mm_put (pc := 83) F hN (p_x_24) (ci := 6) rfl 7 (by decide) mw_92 rfl (ty := .int) (by decide +kernel) (rfl) (rfl) (Nat.le_of_ble_eq_true rfl) dX6_init_83 (fun H locs hN => ?_)
  have hN : mm_N b D s (mm_u σ_24 x (mm_obj 0 6 [.ref q1, .ref q2, .ref q3, .ref q4, .ref q5, .ref q6, .ref q7, .int (nI 3)])) _ _ := hN
  obtain ⟨σ_25, eσ_25⟩ : ∃ q, q = mm_u σ_24 x (mm_obj 0 6 [.ref q1, .ref q2, .ref q3, .ref q4, .ref q5, .ref q6, .ref q7, .int (nI 3)]) := ⟨_, rfl⟩
  rw [← eσ_25] at hN
  have p_q1_25 : σ_25 q1 = mm_lst 0 [] := by rw [eσ_25]; exact (mm_u_ne (Ne.symm n_x_q1)).trans p_q1_24
  have p_q2_25 : σ_25 q2 = mm_lst 0 [] := by rw [eσ_25]; exact (mm_u_ne (Ne.symm n_x_q2)).trans p_q2_24
  have p_q3_25 : σ_25 q3 = mm_lst 0 [] := by rw [eσ_25]; exact (mm_u_ne (Ne.symm n_x_q3)).trans p_q3_24
  have p_q4_25 : σ_25 q4 = mm_lst 0 [] := by rw [eσ_25]; exact (mm_u_ne (Ne.symm n_x_q4)).trans p_q4_24
  have p_q5_25 : σ_25 q5 = mm_obj 0 4 [.int (nI 0), .int (nI 0), .int (nI 0)] := by rw [eσ_25]; exact (mm_u_ne (Ne.symm n_x_q5)).trans p_q5_24
  have p_q6_25 : σ_25 q6 = mm_obj 0 4 [.int (nI 0), .int (nI 0), .int (nI 0)] := by rw [eσ_25]; exact (mm_u_ne (Ne.symm n_x_q6)).trans p_q6_24
  have p_q7_25 : σ_25 q7 = mm_obj 0 4 [.int (nI 0), .int (nI 0), .int (nI 0)] := by rw [eσ_25]; exact (mm_u_ne (Ne.symm n_x_q7)).trans p_q7_24
  have p_x_25 : σ_25 x = mm_obj 0 6 [.ref q1, .ref q2, .ref q3, .ref q4, .ref q5, .ref q6, .ref q7, .int (nI 3)] := by rw [eσ_25]; exact mm_u_eq
  have hF_25 : mm_Fr 0 σ σ_25 := by rw [eσ_25]; exact hF_24.tr (mm_Fr.u p_x_24)
  have hd : ∀ i j, i < 8 → j < 8 → mm_a0 x q1 q2 q3 q4 q5 q6 q7 0 i 0 = mm_a0 x q1 q2 q3 q4 q5 q6 q7 0 j 0 → i = j := by
    intro i j hi hj e
    rcases (show i = 0 ∨ i = 1 ∨ i = 2 ∨ i = 3 ∨ i = 4 ∨ i = 5 ∨ i = 6 ∨ i = 7 by omega) with rfl | rfl | rfl | rfl | rfl | rfl | rfl | rfl <;> rcases (show j = 0 ∨ j = 1 ∨ j = 2 ∨ j = 3 ∨ j = 4 ∨ j = 5 ∨ j = 6 ∨ j = 7 by omega) with rfl | rfl | rfl | rfl | rfl | rfl | rfl | rfl
    · exact rfl
    · exact absurd e n_x_q1
    · exact absurd e n_x_q2
    · exact absurd e n_x_q3
    · exact absurd e n_x_q4
    · exact absurd e n_x_q5
    · exact absurd e n_x_q6
    · exact absurd e n_x_q7
    · exact absurd e (Ne.symm n_x_q1)
    · exact rfl
    · exact absurd e n_q1_q2
    · exact absurd e n_q1_q3
    · exact absurd e n_q1_q4
    · exact absurd e n_q1_q5
    · exact absurd e n_q1_q6
    · exact absurd e n_q1_q7
    · exact absurd e (Ne.symm n_x_q2)
    · exact absurd e (Ne.symm n_q1_q2)
    · exact rfl
    · exact absurd e n_q2_q3
    · exact absurd e n_q2_q4
    · exact absurd e n_q2_q5
    · exact absurd e n_q2_q6
    · exact absurd e n_q2_q7
    · exact absurd e (Ne.symm n_x_q3)
    · exact absurd e (Ne.symm n_q1_q3)
    · exact absurd e (Ne.symm n_q2_q3)
    · exact rfl
    · exact absurd e n_q3_q4
    · exact absurd e n_q3_q5
    · exact absurd e n_q3_q6
    · exact absurd e n_q3_q7
    · exact absurd e (Ne.symm n_x_q4)
    · exact absurd e (Ne.symm n_q1_q4)
    · exact absurd e (Ne.symm n_q2_q4)
    · exact absurd e (Ne.symm n_q3_q4)
    · exact rfl
    · exact absurd e n_q4_q5
    · exact absurd e n_q4_q6
    · exact absurd e n_q4_q7
    · exact absurd e (Ne.symm n_x_q5)
    · exact absurd e (Ne.symm n_q1_q5)
    · exact absurd e (Ne.symm n_q2_q5)
    · exact absurd e (Ne.symm n_q3_q5)
    · exact absurd e (Ne.symm n_q4_q5)
    · exact rfl
    · exact absurd e n_q5_q6
    · exact absurd e n_q5_q7
    · exact absurd e (Ne.symm n_x_q6)
    · exact absurd e (Ne.symm n_q1_q6)
    · exact absurd e (Ne.symm n_q2_q6)
    · exact absurd e (Ne.symm n_q3_q6)
    · exact absurd e (Ne.symm n_q4_q6)
    · exact absurd e (Ne.symm n_q5_q6)
    · exact rfl
    · exact absurd e n_q6_q7
    · exact absurd e (Ne.symm n_x_q7)
    · exact absurd e (Ne.symm n_q1_q7)
    · exact absurd e (Ne.symm n_q2_q7)
    · exact absurd e (Ne.symm n_q3_q7)
    · exact absurd e (Ne.symm n_q4_q7)
    · exact absurd e (Ne.symm n_q5_q7)
    · exact absurd e (Ne.symm n_q6_q7)
    · exact rfl
  exact mm_vret (pc := 86) F hr hN (⟨rfl, mm_a0 x q1 q2 q3 q4 q5 q6 q7, mm_X00 p_x_25 p_q1_25 p_q2_25 p_q3_25 p_q4_25 p_q5_25 p_q6_25 p_q7_25 hd, rfl, hF_25⟩) (Nat.le_of_ble_eq_true rfl) (Nat.le_of_ble_eq_true rfl) dX6_init_86

