set_option maxHeartbeats 4000000 in
set_option maxRecDepth 100000 in
theorem c_newM (l : Launch) (b : Nat) (D : mm_D) (hst : l.stackTraces = false) (x : Nat) (σ : mm_S) (hx : σ x = mm_obj 1 7 [.null, .null, .null, .int (nI 0), .null, .null, .null, .int (nI 0), .null, .null, .null, .null, .null, .int (nI 0), .int (nI 0), .null, .int (nI 0), .null, .null, .null, .null, .null, .null, .null, .int (nI 0), .int (nI 0)]) : mm_KM l b D yX7_init (.code yX7_init cX7_init 1 none) ({ frames := 2, cells := 91, slots := 1736, locals := 40 } : Room) [.ref x] σ
    (fun v σ2 => v = none ∧ ∃ rd : Nat → Nat → Nat, mm_M σ2 mm_T0 0 rd ∧ rd 0 0 = x ∧ mm_Fr 1 σ σ2)
    (fun _ _ => False) := by
  refine mm_ofM (cc := cX7_init) (nL := 1) (ret := none) (by decide) rfl (Nat.le_of_ble_eq_true rfl) hst ?_
  intro p e s m args below meth c ls F ht hr hin hN hl hJ
  have hl : lv_has ls 1 [(0, .ref x)] := hl
  have hB0 : mm_B σ (fun _ _ => x) [] := ⟨(fun k h => by cases h), (fun k h => by cases h), (fun k i h => by cases h), (fun k i k1 i1 h => by cases h), (fun k h => by cases h)⟩
  refine lv_aload_n (pc := 0) F.1 F.2.1 dX7_init_0 rfl (lv_at hl 0 rfl) ?_
  refine W.objInit F.1 F.2.1 F.2.2.2.1 (F.2.2.2.2.1 _ mw_1172) (F.2.2.2.2.1 _ mw_40) (F.2.2.2.2.1 _ mw_41) rfl (by rw [F.2.2.1]; exact hl.1) rfl (g := F0 m 1 ls [.ref x]) dX7_init_1 (Nat.le_of_ble_eq_true rfl) (Nat.le_of_ble_eq_true rfl) ?_
  refine W.eq (g2 := F0 m 4 ls []) rfl ?_
  refine lv_aload_n (pc := 4) F.1 F.2.1 dX7_init_4 rfl (lv_at hl 0 rfl) ?_
  refine lv_bipush (pc := 5) (v := nI 12) F.1 F.2.1 dX7_init_5 (by decide) ?_
  refine mm_newa (pc := 7) F hN 1 0 (12) (x := (12, .inl (fun _ => 0))) (atype := .int) rfl (by omega) mw_594 rfl (by intro C h; cases h) (by decide) (rfl) ((Nat.le_of_ble_eq_true rfl)) ((Nat.le_of_ble_eq_true rfl)) dX7_init_7 (fun q1 H hq1 hN => ?_)
  have hN : mm_N b D s (mm_u σ q1 (mm_arr 1 0 (12, .inl (fun _ => 0)))) _ _ := hN
  obtain ⟨a1, ea1⟩ : ∃ z, z = q1 := ⟨_, rfl⟩
  rw [← ea1]
  rw [← ea1] at hN hq1
  obtain ⟨σ_2, es2⟩ : ∃ z, z = mm_u σ a1 (mm_arr 1 0 (12, .inl (fun _ => 0))) := ⟨_, rfl⟩
  rw [← es2] at hN
  have hB2 : mm_B σ_2 (mm_rdu (fun _ _ => x) 1 a1 (fun _ => 0)) (1 :: []) := by rw [es2]; exact mm_B_new1 hB0 (k := 1) rfl (by decide) hq1
  have px2 : σ_2 x = mm_obj 1 7 [.null, .null, .null, .int (nI 0), .null, .null, .null, .int (nI 0), .null, .null, .null, .null, .null, .int (nI 0), .int (nI 0), .null, .int (nI 0), .null, .null, .null, .null, .null, .null, .null, .int (nI 0), .int (nI 0)] := by rw [es2]; exact (mm_u_ne (fun e => by have h9 := hx; rw [e, hq1] at h9; cases h9)).trans hx
  have hF2 : mm_Fr 1 σ σ_2 := by rw [es2]; exact ((mm_Fr.rf (σ := σ))).tr (mm_Fr.new hq1)
  refine mm_putF (pc := 9) F hN (px2) (ci := 7) rfl 0 (by decide) mw_1179 rfl hin rfl (ty := (.array .int)) (by decide +kernel) (rfl) (rfl) (Nat.le_of_ble_eq_true rfl) dX7_init_9 (fun H locs hN => ?_)
  have hN : mm_N b D s (mm_u σ_2 x (mm_obj 1 7 [.ref a1, .null, .null, .int (nI 0), .null, .null, .null, .int (nI 0), .null, .null, .null, .null, .null, .int (nI 0), .int (nI 0), .null, .int (nI 0), .null, .null, .null, .null, .null, .null, .null, .int (nI 0), .int (nI 0)])) _ _ := hN
  obtain ⟨σ_3, es3⟩ : ∃ z, z = mm_u σ_2 x (mm_obj 1 7 [.ref a1, .null, .null, .int (nI 0), .null, .null, .null, .int (nI 0), .null, .null, .null, .null, .null, .int (nI 0), .int (nI 0), .null, .int (nI 0), .null, .null, .null, .null, .null, .null, .null, .int (nI 0), .int (nI 0)]) := ⟨_, rfl⟩
  rw [← es3] at hN
  have hB3 : mm_B σ_3 (mm_rdu (fun _ _ => x) 1 a1 (fun _ => 0)) (1 :: []) := by rw [es3]; exact mm_B_put hB2 px2
  have px3 : σ_3 x = mm_obj 1 7 [.ref a1, .null, .null, .int (nI 0), .null, .null, .null, .int (nI 0), .null, .null, .null, .null, .null, .int (nI 0), .int (nI 0), .null, .int (nI 0), .null, .null, .null, .null, .null, .null, .null, .int (nI 0), .int (nI 0)] := by rw [es3]; exact mm_u_eq
  have hF3 : mm_Fr 1 σ σ_3 := by rw [es3]; exact (hF2).tr (mm_Fr.u px2)
  refine lv_aload_n (pc := 12) F.1 F.2.1 dX7_init_12 rfl (lv_at hl 0 rfl) ?_
  refine lv_bipush (pc := 13) (v := nI 12) F.1 F.2.1 dX7_init_13 (by decide) ?_
  refine mm_newa (pc := 15) F hN 1 0 (12) (x := (12, .inl (fun _ => 0))) (atype := .int) rfl (by omega) mw_594 rfl (by intro C h; cases h) (by decide) (rfl) ((Nat.le_of_ble_eq_true rfl)) ((Nat.le_of_ble_eq_true rfl)) dX7_init_15 (fun q4 H hq4 hN => ?_)
  have hN : mm_N b D s (mm_u σ_3 q4 (mm_arr 1 0 (12, .inl (fun _ => 0)))) _ _ := hN
  obtain ⟨a2, ea2⟩ : ∃ z, z = q4 := ⟨_, rfl⟩
  rw [← ea2]
  rw [← ea2] at hN hq4
  obtain ⟨σ_5, es5⟩ : ∃ z, z = mm_u σ_3 a2 (mm_arr 1 0 (12, .inl (fun _ => 0))) := ⟨_, rfl⟩
  rw [← es5] at hN
  have hB5 : mm_B σ_5 (mm_rdu (mm_rdu (fun _ _ => x) 1 a1 (fun _ => 0)) 2 a2 (fun _ => 0)) (2 :: (1 :: [])) := by rw [es5]; exact mm_B_new1 hB3 (k := 2) rfl (by decide) hq4
  have px5 : σ_5 x = mm_obj 1 7 [.ref a1, .null, .null, .int (nI 0), .null, .null, .null, .int (nI 0), .null, .null, .null, .null, .null, .int (nI 0), .int (nI 0), .null, .int (nI 0), .null, .null, .null, .null, .null, .null, .null, .int (nI 0), .int (nI 0)] := by rw [es5]; exact (mm_u_ne (fun e => by have h9 := px3; rw [e, hq4] at h9; cases h9)).trans px3
  have hF5 : mm_Fr 1 σ σ_5 := by rw [es5]; exact (hF3).tr (mm_Fr.new hq4)
  refine mm_putF (pc := 17) F hN (px5) (ci := 7) rfl 1 (by decide) mw_1180 rfl hin rfl (ty := (.array .int)) (by decide +kernel) (rfl) (rfl) (Nat.le_of_ble_eq_true rfl) dX7_init_17 (fun H locs hN => ?_)
  have hN : mm_N b D s (mm_u σ_5 x (mm_obj 1 7 [.ref a1, .ref a2, .null, .int (nI 0), .null, .null, .null, .int (nI 0), .null, .null, .null, .null, .null, .int (nI 0), .int (nI 0), .null, .int (nI 0), .null, .null, .null, .null, .null, .null, .null, .int (nI 0), .int (nI 0)])) _ _ := hN
  obtain ⟨σ_6, es6⟩ : ∃ z, z = mm_u σ_5 x (mm_obj 1 7 [.ref a1, .ref a2, .null, .int (nI 0), .null, .null, .null, .int (nI 0), .null, .null, .null, .null, .null, .int (nI 0), .int (nI 0), .null, .int (nI 0), .null, .null, .null, .null, .null, .null, .null, .int (nI 0), .int (nI 0)]) := ⟨_, rfl⟩
  rw [← es6] at hN
  have hB6 : mm_B σ_6 (mm_rdu (mm_rdu (fun _ _ => x) 1 a1 (fun _ => 0)) 2 a2 (fun _ => 0)) (2 :: (1 :: [])) := by rw [es6]; exact mm_B_put hB5 px5
  have px6 : σ_6 x = mm_obj 1 7 [.ref a1, .ref a2, .null, .int (nI 0), .null, .null, .null, .int (nI 0), .null, .null, .null, .null, .null, .int (nI 0), .int (nI 0), .null, .int (nI 0), .null, .null, .null, .null, .null, .null, .null, .int (nI 0), .int (nI 0)] := by rw [es6]; exact mm_u_eq
  have hF6 : mm_Fr 1 σ σ_6 := by rw [es6]; exact (hF5).tr (mm_Fr.u px5)
  refine lv_aload_n (pc := 20) F.1 F.2.1 dX7_init_20 rfl (lv_at hl 0 rfl) ?_
  refine lv_bipush (pc := 21) (v := nI 12) F.1 F.2.1 dX7_init_21 (by decide) ?_
  refine mm_newa (pc := 23) F hN 1 4 (12) (x := (12, .inl (fun _ => 0))) (atype := .boolean) rfl (by omega) mw_1258 rfl (by intro C h; cases h) (by decide) (rfl) ((Nat.le_of_ble_eq_true rfl)) ((Nat.le_of_ble_eq_true rfl)) dX7_init_23 (fun q7 H hq7 hN => ?_)
  have hN : mm_N b D s (mm_u σ_6 q7 (mm_arr 1 4 (12, .inl (fun _ => 0)))) _ _ := hN
  obtain ⟨a3, ea3⟩ : ∃ z, z = q7 := ⟨_, rfl⟩
  rw [← ea3]
  rw [← ea3] at hN hq7
  obtain ⟨σ_8, es8⟩ : ∃ z, z = mm_u σ_6 a3 (mm_arr 1 4 (12, .inl (fun _ => 0))) := ⟨_, rfl⟩
  rw [← es8] at hN
  have hB8 : mm_B σ_8 (mm_rdu (mm_rdu (mm_rdu (fun _ _ => x) 1 a1 (fun _ => 0)) 2 a2 (fun _ => 0)) 3 a3 (fun _ => 0)) (3 :: (2 :: (1 :: []))) := by rw [es8]; exact mm_B_new1 hB6 (k := 3) rfl (by decide) hq7
  have px8 : σ_8 x = mm_obj 1 7 [.ref a1, .ref a2, .null, .int (nI 0), .null, .null, .null, .int (nI 0), .null, .null, .null, .null, .null, .int (nI 0), .int (nI 0), .null, .int (nI 0), .null, .null, .null, .null, .null, .null, .null, .int (nI 0), .int (nI 0)] := by rw [es8]; exact (mm_u_ne (fun e => by have h9 := px6; rw [e, hq7] at h9; cases h9)).trans px6
  have hF8 : mm_Fr 1 σ σ_8 := by rw [es8]; exact (hF6).tr (mm_Fr.new hq7)
  refine mm_putF (pc := 25) F hN (px8) (ci := 7) rfl 2 (by decide) mw_1181 rfl hin rfl (ty := (.array .boolean)) (by decide +kernel) (rfl) (rfl) (Nat.le_of_ble_eq_true rfl) dX7_init_25 (fun H locs hN => ?_)
  have hN : mm_N b D s (mm_u σ_8 x (mm_obj 1 7 [.ref a1, .ref a2, .ref a3, .int (nI 0), .null, .null, .null, .int (nI 0), .null, .null, .null, .null, .null, .int (nI 0), .int (nI 0), .null, .int (nI 0), .null, .null, .null, .null, .null, .null, .null, .int (nI 0), .int (nI 0)])) _ _ := hN
  obtain ⟨σ_9, es9⟩ : ∃ z, z = mm_u σ_8 x (mm_obj 1 7 [.ref a1, .ref a2, .ref a3, .int (nI 0), .null, .null, .null, .int (nI 0), .null, .null, .null, .null, .null, .int (nI 0), .int (nI 0), .null, .int (nI 0), .null, .null, .null, .null, .null, .null, .null, .int (nI 0), .int (nI 0)]) := ⟨_, rfl⟩
  rw [← es9] at hN
  have hB9 : mm_B σ_9 (mm_rdu (mm_rdu (mm_rdu (fun _ _ => x) 1 a1 (fun _ => 0)) 2 a2 (fun _ => 0)) 3 a3 (fun _ => 0)) (3 :: (2 :: (1 :: []))) := by rw [es9]; exact mm_B_put hB8 px8
  have px9 : σ_9 x = mm_obj 1 7 [.ref a1, .ref a2, .ref a3, .int (nI 0), .null, .null, .null, .int (nI 0), .null, .null, .null, .null, .null, .int (nI 0), .int (nI 0), .null, .int (nI 0), .null, .null, .null, .null, .null, .null, .null, .int (nI 0), .int (nI 0)] := by rw [es9]; exact mm_u_eq
  have hF9 : mm_Fr 1 σ σ_9 := by rw [es9]; exact (hF8).tr (mm_Fr.u px8)
  refine lv_aload_n (pc := 28) F.1 F.2.1 dX7_init_28 rfl (lv_at hl 0 rfl) ?_
  refine lv_bipush (pc := 29) (v := nI 24) F.1 F.2.1 dX7_init_29 (by decide) ?_
  refine mm_newa (pc := 31) F hN 1 0 (24) (x := (24, .inl (fun _ => 0))) (atype := .int) rfl (by omega) mw_594 rfl (by intro C h; cases h) (by decide) (rfl) ((Nat.le_of_ble_eq_true rfl)) ((Nat.le_of_ble_eq_true rfl)) dX7_init_31 (fun q10 H hq10 hN => ?_)
  have hN : mm_N b D s (mm_u σ_9 q10 (mm_arr 1 0 (24, .inl (fun _ => 0)))) _ _ := hN
  obtain ⟨a4, ea4⟩ : ∃ z, z = q10 := ⟨_, rfl⟩
  rw [← ea4]
  rw [← ea4] at hN hq10
  obtain ⟨σ_11, es11⟩ : ∃ z, z = mm_u σ_9 a4 (mm_arr 1 0 (24, .inl (fun _ => 0))) := ⟨_, rfl⟩
  rw [← es11] at hN
  have hB11 : mm_B σ_11 (mm_rdu (mm_rdu (mm_rdu (mm_rdu (fun _ _ => x) 1 a1 (fun _ => 0)) 2 a2 (fun _ => 0)) 3 a3 (fun _ => 0)) 4 a4 (fun _ => 0)) (4 :: (3 :: (2 :: (1 :: [])))) := by rw [es11]; exact mm_B_new1 hB9 (k := 4) rfl (by decide) hq10
  have px11 : σ_11 x = mm_obj 1 7 [.ref a1, .ref a2, .ref a3, .int (nI 0), .null, .null, .null, .int (nI 0), .null, .null, .null, .null, .null, .int (nI 0), .int (nI 0), .null, .int (nI 0), .null, .null, .null, .null, .null, .null, .null, .int (nI 0), .int (nI 0)] := by rw [es11]; exact (mm_u_ne (fun e => by have h9 := px9; rw [e, hq10] at h9; cases h9)).trans px9
  have hF11 : mm_Fr 1 σ σ_11 := by rw [es11]; exact (hF9).tr (mm_Fr.new hq10)
  refine mm_putF (pc := 33) F hN (px11) (ci := 7) rfl 4 (by decide) mw_1183 rfl hin rfl (ty := (.array .int)) (by decide +kernel) (rfl) (rfl) (Nat.le_of_ble_eq_true rfl) dX7_init_33 (fun H locs hN => ?_)
  have hN : mm_N b D s (mm_u σ_11 x (mm_obj 1 7 [.ref a1, .ref a2, .ref a3, .int (nI 0), .ref a4, .null, .null, .int (nI 0), .null, .null, .null, .null, .null, .int (nI 0), .int (nI 0), .null, .int (nI 0), .null, .null, .null, .null, .null, .null, .null, .int (nI 0), .int (nI 0)])) _ _ := hN
  obtain ⟨σ_12, es12⟩ : ∃ z, z = mm_u σ_11 x (mm_obj 1 7 [.ref a1, .ref a2, .ref a3, .int (nI 0), .ref a4, .null, .null, .int (nI 0), .null, .null, .null, .null, .null, .int (nI 0), .int (nI 0), .null, .int (nI 0), .null, .null, .null, .null, .null, .null, .null, .int (nI 0), .int (nI 0)]) := ⟨_, rfl⟩
  rw [← es12] at hN
  have hB12 : mm_B σ_12 (mm_rdu (mm_rdu (mm_rdu (mm_rdu (fun _ _ => x) 1 a1 (fun _ => 0)) 2 a2 (fun _ => 0)) 3 a3 (fun _ => 0)) 4 a4 (fun _ => 0)) (4 :: (3 :: (2 :: (1 :: [])))) := by rw [es12]; exact mm_B_put hB11 px11
  have px12 : σ_12 x = mm_obj 1 7 [.ref a1, .ref a2, .ref a3, .int (nI 0), .ref a4, .null, .null, .int (nI 0), .null, .null, .null, .null, .null, .int (nI 0), .int (nI 0), .null, .int (nI 0), .null, .null, .null, .null, .null, .null, .null, .int (nI 0), .int (nI 0)] := by rw [es12]; exact mm_u_eq
  have hF12 : mm_Fr 1 σ σ_12 := by rw [es12]; exact (hF11).tr (mm_Fr.u px11)
  refine lv_aload_n (pc := 36) F.1 F.2.1 dX7_init_36 rfl (lv_at hl 0 rfl) ?_
  refine lv_bipush (pc := 37) (v := nI 24) F.1 F.2.1 dX7_init_37 (by decide) ?_
  refine mm_newa (pc := 39) F hN 1 0 (24) (x := (24, .inl (fun _ => 0))) (atype := .int) rfl (by omega) mw_594 rfl (by intro C h; cases h) (by decide) (rfl) ((Nat.le_of_ble_eq_true rfl)) ((Nat.le_of_ble_eq_true rfl)) dX7_init_39 (fun q13 H hq13 hN => ?_)
  have hN : mm_N b D s (mm_u σ_12 q13 (mm_arr 1 0 (24, .inl (fun _ => 0)))) _ _ := hN
  obtain ⟨a5, ea5⟩ : ∃ z, z = q13 := ⟨_, rfl⟩
  rw [← ea5]
  rw [← ea5] at hN hq13
  obtain ⟨σ_14, es14⟩ : ∃ z, z = mm_u σ_12 a5 (mm_arr 1 0 (24, .inl (fun _ => 0))) := ⟨_, rfl⟩
  rw [← es14] at hN
  have hB14 : mm_B σ_14 (mm_rdu (mm_rdu (mm_rdu (mm_rdu (mm_rdu (fun _ _ => x) 1 a1 (fun _ => 0)) 2 a2 (fun _ => 0)) 3 a3 (fun _ => 0)) 4 a4 (fun _ => 0)) 5 a5 (fun _ => 0)) (5 :: (4 :: (3 :: (2 :: (1 :: []))))) := by rw [es14]; exact mm_B_new1 hB12 (k := 5) rfl (by decide) hq13
  have px14 : σ_14 x = mm_obj 1 7 [.ref a1, .ref a2, .ref a3, .int (nI 0), .ref a4, .null, .null, .int (nI 0), .null, .null, .null, .null, .null, .int (nI 0), .int (nI 0), .null, .int (nI 0), .null, .null, .null, .null, .null, .null, .null, .int (nI 0), .int (nI 0)] := by rw [es14]; exact (mm_u_ne (fun e => by have h9 := px12; rw [e, hq13] at h9; cases h9)).trans px12
  have hF14 : mm_Fr 1 σ σ_14 := by rw [es14]; exact (hF12).tr (mm_Fr.new hq13)
  refine mm_putF (pc := 41) F hN (px14) (ci := 7) rfl 5 (by decide) mw_1184 rfl hin rfl (ty := (.array .int)) (by decide +kernel) (rfl) (rfl) (Nat.le_of_ble_eq_true rfl) dX7_init_41 (fun H locs hN => ?_)
  have hN : mm_N b D s (mm_u σ_14 x (mm_obj 1 7 [.ref a1, .ref a2, .ref a3, .int (nI 0), .ref a4, .ref a5, .null, .int (nI 0), .null, .null, .null, .null, .null, .int (nI 0), .int (nI 0), .null, .int (nI 0), .null, .null, .null, .null, .null, .null, .null, .int (nI 0), .int (nI 0)])) _ _ := hN
  obtain ⟨σ_15, es15⟩ : ∃ z, z = mm_u σ_14 x (mm_obj 1 7 [.ref a1, .ref a2, .ref a3, .int (nI 0), .ref a4, .ref a5, .null, .int (nI 0), .null, .null, .null, .null, .null, .int (nI 0), .int (nI 0), .null, .int (nI 0), .null, .null, .null, .null, .null, .null, .null, .int (nI 0), .int (nI 0)]) := ⟨_, rfl⟩
  rw [← es15] at hN
  have hB15 : mm_B σ_15 (mm_rdu (mm_rdu (mm_rdu (mm_rdu (mm_rdu (fun _ _ => x) 1 a1 (fun _ => 0)) 2 a2 (fun _ => 0)) 3 a3 (fun _ => 0)) 4 a4 (fun _ => 0)) 5 a5 (fun _ => 0)) (5 :: (4 :: (3 :: (2 :: (1 :: []))))) := by rw [es15]; exact mm_B_put hB14 px14
  have px15 : σ_15 x = mm_obj 1 7 [.ref a1, .ref a2, .ref a3, .int (nI 0), .ref a4, .ref a5, .null, .int (nI 0), .null, .null, .null, .null, .null, .int (nI 0), .int (nI 0), .null, .int (nI 0), .null, .null, .null, .null, .null, .null, .null, .int (nI 0), .int (nI 0)] := by rw [es15]; exact mm_u_eq
  have hF15 : mm_Fr 1 σ σ_15 := by rw [es15]; exact (hF14).tr (mm_Fr.u px14)
  refine lv_aload_n (pc := 44) F.1 F.2.1 dX7_init_44 rfl (lv_at hl 0 rfl) ?_
  refine lv_bipush (pc := 45) (v := nI 24) F.1 F.2.1 dX7_init_45 (by decide) ?_
  refine mm_newa (pc := 47) F hN 1 3 (24) (x := (24, .inl (fun _ => 0))) (atype := .char) rfl (by omega) mw_1259 rfl (by intro C h; cases h) (by decide) (rfl) ((Nat.le_of_ble_eq_true rfl)) ((Nat.le_of_ble_eq_true rfl)) dX7_init_47 (fun q16 H hq16 hN => ?_)
  have hN : mm_N b D s (mm_u σ_15 q16 (mm_arr 1 3 (24, .inl (fun _ => 0)))) _ _ := hN
  obtain ⟨a6, ea6⟩ : ∃ z, z = q16 := ⟨_, rfl⟩
  rw [← ea6]
  rw [← ea6] at hN hq16
  obtain ⟨σ_17, es17⟩ : ∃ z, z = mm_u σ_15 a6 (mm_arr 1 3 (24, .inl (fun _ => 0))) := ⟨_, rfl⟩
  rw [← es17] at hN
  have hB17 : mm_B σ_17 (mm_rdu (mm_rdu (mm_rdu (mm_rdu (mm_rdu (mm_rdu (fun _ _ => x) 1 a1 (fun _ => 0)) 2 a2 (fun _ => 0)) 3 a3 (fun _ => 0)) 4 a4 (fun _ => 0)) 5 a5 (fun _ => 0)) 6 a6 (fun _ => 0)) (6 :: (5 :: (4 :: (3 :: (2 :: (1 :: [])))))) := by rw [es17]; exact mm_B_new1 hB15 (k := 6) rfl (by decide) hq16
  have px17 : σ_17 x = mm_obj 1 7 [.ref a1, .ref a2, .ref a3, .int (nI 0), .ref a4, .ref a5, .null, .int (nI 0), .null, .null, .null, .null, .null, .int (nI 0), .int (nI 0), .null, .int (nI 0), .null, .null, .null, .null, .null, .null, .null, .int (nI 0), .int (nI 0)] := by rw [es17]; exact (mm_u_ne (fun e => by have h9 := px15; rw [e, hq16] at h9; cases h9)).trans px15
  have hF17 : mm_Fr 1 σ σ_17 := by rw [es17]; exact (hF15).tr (mm_Fr.new hq16)
  refine mm_putF (pc := 49) F hN (px17) (ci := 7) rfl 6 (by decide) mw_1185 rfl hin rfl (ty := (.array .char)) (by decide +kernel) (rfl) (rfl) (Nat.le_of_ble_eq_true rfl) dX7_init_49 (fun H locs hN => ?_)
  have hN : mm_N b D s (mm_u σ_17 x (mm_obj 1 7 [.ref a1, .ref a2, .ref a3, .int (nI 0), .ref a4, .ref a5, .ref a6, .int (nI 0), .null, .null, .null, .null, .null, .int (nI 0), .int (nI 0), .null, .int (nI 0), .null, .null, .null, .null, .null, .null, .null, .int (nI 0), .int (nI 0)])) _ _ := hN
  obtain ⟨σ_18, es18⟩ : ∃ z, z = mm_u σ_17 x (mm_obj 1 7 [.ref a1, .ref a2, .ref a3, .int (nI 0), .ref a4, .ref a5, .ref a6, .int (nI 0), .null, .null, .null, .null, .null, .int (nI 0), .int (nI 0), .null, .int (nI 0), .null, .null, .null, .null, .null, .null, .null, .int (nI 0), .int (nI 0)]) := ⟨_, rfl⟩
  rw [← es18] at hN
  have hB18 : mm_B σ_18 (mm_rdu (mm_rdu (mm_rdu (mm_rdu (mm_rdu (mm_rdu (fun _ _ => x) 1 a1 (fun _ => 0)) 2 a2 (fun _ => 0)) 3 a3 (fun _ => 0)) 4 a4 (fun _ => 0)) 5 a5 (fun _ => 0)) 6 a6 (fun _ => 0)) (6 :: (5 :: (4 :: (3 :: (2 :: (1 :: [])))))) := by rw [es18]; exact mm_B_put hB17 px17
  have px18 : σ_18 x = mm_obj 1 7 [.ref a1, .ref a2, .ref a3, .int (nI 0), .ref a4, .ref a5, .ref a6, .int (nI 0), .null, .null, .null, .null, .null, .int (nI 0), .int (nI 0), .null, .int (nI 0), .null, .null, .null, .null, .null, .null, .null, .int (nI 0), .int (nI 0)] := by rw [es18]; exact mm_u_eq
  have hF18 : mm_Fr 1 σ σ_18 := by rw [es18]; exact (hF17).tr (mm_Fr.u px17)
  refine lv_aload_n (pc := 52) F.1 F.2.1 dX7_init_52 rfl (lv_at hl 0 rfl) ?_
  refine lv_iconst (pc := 53) (v := nI 4) F.1 F.2.1 dX7_init_53 (by decide) ?_
  refine lv_bipush (pc := 54) (v := nI 8) F.1 F.2.1 dX7_init_54 (by decide) ?_
  refine mm_mna (pc := 56) F hN 5 0 4 8 (ty := .int) (z := (8, .inl (fun _ => 0))) hJ.1 mw_1173 mw_594 rfl rfl (fun C h => by cases h) (by decide) (by decide) (by decide) rfl rfl (fun c => rfl) (Nat.le_of_ble_eq_true rfl) (Nat.le_of_ble_eq_true rfl) dX7_init_56 (fun a7 r7 σ_19 H hq19 hr19 hrq19 hri19 g1 g2 g3 hN => ?_)
  have hB19 : mm_B σ_19 (mm_rdu (mm_rdu (mm_rdu (mm_rdu (mm_rdu (mm_rdu (mm_rdu (fun _ _ => x) 1 a1 (fun _ => 0)) 2 a2 (fun _ => 0)) 3 a3 (fun _ => 0)) 4 a4 (fun _ => 0)) 5 a5 (fun _ => 0)) 6 a6 (fun _ => 0)) 7 a7 r7) (7 :: (6 :: (5 :: (4 :: (3 :: (2 :: (1 :: []))))))) := mm_B_new2 hB18 (k := 7) rfl (by decide) hq19 hr19 hrq19 hri19 g1 g2 g3
  have px19 : σ_19 x = mm_obj 1 7 [.ref a1, .ref a2, .ref a3, .int (nI 0), .ref a4, .ref a5, .ref a6, .int (nI 0), .null, .null, .null, .null, .null, .int (nI 0), .int (nI 0), .null, .int (nI 0), .null, .null, .null, .null, .null, .null, .null, .int (nI 0), .int (nI 0)] := (g3 x (fun e => by have h9 := px18; rw [e, hq19] at h9; cases h9) (fun j hj e => by have h9 := px18; rw [e, hr19 j hj] at h9; cases h9)).trans px18
  have hF19 : mm_Fr 1 σ σ_19 := (hF18).tr (fun z q9 e9 _ hz => (g3 z (fun e => by rw [e, hq19] at hz; cases hz) (fun j hj e => by rw [e, hr19 j hj] at hz; cases hz)).trans hz)
  refine mm_putF (pc := 60) F hN (px19) (ci := 7) rfl 8 (by decide) mw_1187 rfl hin rfl (ty := (.array (.array .int))) (by decide +kernel) (rfl) (rfl) (Nat.le_of_ble_eq_true rfl) dX7_init_60 (fun H locs hN => ?_)
  have hN : mm_N b D s (mm_u σ_19 x (mm_obj 1 7 [.ref a1, .ref a2, .ref a3, .int (nI 0), .ref a4, .ref a5, .ref a6, .int (nI 0), .ref a7, .null, .null, .null, .null, .int (nI 0), .int (nI 0), .null, .int (nI 0), .null, .null, .null, .null, .null, .null, .null, .int (nI 0), .int (nI 0)])) _ _ := hN
  obtain ⟨σ_20, es20⟩ : ∃ z, z = mm_u σ_19 x (mm_obj 1 7 [.ref a1, .ref a2, .ref a3, .int (nI 0), .ref a4, .ref a5, .ref a6, .int (nI 0), .ref a7, .null, .null, .null, .null, .int (nI 0), .int (nI 0), .null, .int (nI 0), .null, .null, .null, .null, .null, .null, .null, .int (nI 0), .int (nI 0)]) := ⟨_, rfl⟩
  rw [← es20] at hN
  have hB20 : mm_B σ_20 (mm_rdu (mm_rdu (mm_rdu (mm_rdu (mm_rdu (mm_rdu (mm_rdu (fun _ _ => x) 1 a1 (fun _ => 0)) 2 a2 (fun _ => 0)) 3 a3 (fun _ => 0)) 4 a4 (fun _ => 0)) 5 a5 (fun _ => 0)) 6 a6 (fun _ => 0)) 7 a7 r7) (7 :: (6 :: (5 :: (4 :: (3 :: (2 :: (1 :: []))))))) := by rw [es20]; exact mm_B_put hB19 px19
  have px20 : σ_20 x = mm_obj 1 7 [.ref a1, .ref a2, .ref a3, .int (nI 0), .ref a4, .ref a5, .ref a6, .int (nI 0), .ref a7, .null, .null, .null, .null, .int (nI 0), .int (nI 0), .null, .int (nI 0), .null, .null, .null, .null, .null, .null, .null, .int (nI 0), .int (nI 0)] := by rw [es20]; exact mm_u_eq
  have hF20 : mm_Fr 1 σ σ_20 := by rw [es20]; exact (hF19).tr (mm_Fr.u px19)
  refine lv_aload_n (pc := 63) F.1 F.2.1 dX7_init_63 rfl (lv_at hl 0 rfl) ?_
  refine lv_iconst (pc := 64) (v := nI 4) F.1 F.2.1 dX7_init_64 (by decide) ?_
  refine lv_bipush (pc := 65) (v := nI 8) F.1 F.2.1 dX7_init_65 (by decide) ?_
  refine mm_mna (pc := 67) F hN 5 0 4 8 (ty := .int) (z := (8, .inl (fun _ => 0))) hJ.1 mw_1173 mw_594 rfl rfl (fun C h => by cases h) (by decide) (by decide) (by decide) rfl rfl (fun c => rfl) (Nat.le_of_ble_eq_true rfl) (Nat.le_of_ble_eq_true rfl) dX7_init_67 (fun a8 r8 σ_21 H hq21 hr21 hrq21 hri21 g1 g2 g3 hN => ?_)
  have hB21 : mm_B σ_21 (mm_rdu (mm_rdu (mm_rdu (mm_rdu (mm_rdu (mm_rdu (mm_rdu (mm_rdu (fun _ _ => x) 1 a1 (fun _ => 0)) 2 a2 (fun _ => 0)) 3 a3 (fun _ => 0)) 4 a4 (fun _ => 0)) 5 a5 (fun _ => 0)) 6 a6 (fun _ => 0)) 7 a7 r7) 8 a8 r8) (8 :: (7 :: (6 :: (5 :: (4 :: (3 :: (2 :: (1 :: [])))))))) := mm_B_new2 hB20 (k := 8) rfl (by decide) hq21 hr21 hrq21 hri21 g1 g2 g3
  have px21 : σ_21 x = mm_obj 1 7 [.ref a1, .ref a2, .ref a3, .int (nI 0), .ref a4, .ref a5, .ref a6, .int (nI 0), .ref a7, .null, .null, .null, .null, .int (nI 0), .int (nI 0), .null, .int (nI 0), .null, .null, .null, .null, .null, .null, .null, .int (nI 0), .int (nI 0)] := (g3 x (fun e => by have h9 := px20; rw [e, hq21] at h9; cases h9) (fun j hj e => by have h9 := px20; rw [e, hr21 j hj] at h9; cases h9)).trans px20
  have hF21 : mm_Fr 1 σ σ_21 := (hF20).tr (fun z q9 e9 _ hz => (g3 z (fun e => by rw [e, hq21] at hz; cases hz) (fun j hj e => by rw [e, hr21 j hj] at hz; cases hz)).trans hz)
  refine mm_putF (pc := 71) F hN (px21) (ci := 7) rfl 9 (by decide) mw_1188 rfl hin rfl (ty := (.array (.array .int))) (by decide +kernel) (rfl) (rfl) (Nat.le_of_ble_eq_true rfl) dX7_init_71 (fun H locs hN => ?_)
  have hN : mm_N b D s (mm_u σ_21 x (mm_obj 1 7 [.ref a1, .ref a2, .ref a3, .int (nI 0), .ref a4, .ref a5, .ref a6, .int (nI 0), .ref a7, .ref a8, .null, .null, .null, .int (nI 0), .int (nI 0), .null, .int (nI 0), .null, .null, .null, .null, .null, .null, .null, .int (nI 0), .int (nI 0)])) _ _ := hN
  obtain ⟨σ_22, es22⟩ : ∃ z, z = mm_u σ_21 x (mm_obj 1 7 [.ref a1, .ref a2, .ref a3, .int (nI 0), .ref a4, .ref a5, .ref a6, .int (nI 0), .ref a7, .ref a8, .null, .null, .null, .int (nI 0), .int (nI 0), .null, .int (nI 0), .null, .null, .null, .null, .null, .null, .null, .int (nI 0), .int (nI 0)]) := ⟨_, rfl⟩
  rw [← es22] at hN
  have hB22 : mm_B σ_22 (mm_rdu (mm_rdu (mm_rdu (mm_rdu (mm_rdu (mm_rdu (mm_rdu (mm_rdu (fun _ _ => x) 1 a1 (fun _ => 0)) 2 a2 (fun _ => 0)) 3 a3 (fun _ => 0)) 4 a4 (fun _ => 0)) 5 a5 (fun _ => 0)) 6 a6 (fun _ => 0)) 7 a7 r7) 8 a8 r8) (8 :: (7 :: (6 :: (5 :: (4 :: (3 :: (2 :: (1 :: [])))))))) := by rw [es22]; exact mm_B_put hB21 px21
  have px22 : σ_22 x = mm_obj 1 7 [.ref a1, .ref a2, .ref a3, .int (nI 0), .ref a4, .ref a5, .ref a6, .int (nI 0), .ref a7, .ref a8, .null, .null, .null, .int (nI 0), .int (nI 0), .null, .int (nI 0), .null, .null, .null, .null, .null, .null, .null, .int (nI 0), .int (nI 0)] := by rw [es22]; exact mm_u_eq
  have hF22 : mm_Fr 1 σ σ_22 := by rw [es22]; exact (hF21).tr (mm_Fr.u px21)
  refine lv_aload_n (pc := 74) F.1 F.2.1 dX7_init_74 rfl (lv_at hl 0 rfl) ?_
  refine lv_iconst (pc := 75) (v := nI 4) F.1 F.2.1 dX7_init_75 (by decide) ?_
  refine lv_bipush (pc := 76) (v := nI 8) F.1 F.2.1 dX7_init_76 (by decide) ?_
  refine mm_mna (pc := 78) F hN 5 0 4 8 (ty := .int) (z := (8, .inl (fun _ => 0))) hJ.1 mw_1173 mw_594 rfl rfl (fun C h => by cases h) (by decide) (by decide) (by decide) rfl rfl (fun c => rfl) (Nat.le_of_ble_eq_true rfl) (Nat.le_of_ble_eq_true rfl) dX7_init_78 (fun a9 r9 σ_23 H hq23 hr23 hrq23 hri23 g1 g2 g3 hN => ?_)
  have hB23 : mm_B σ_23 (mm_rdu (mm_rdu (mm_rdu (mm_rdu (mm_rdu (mm_rdu (mm_rdu (mm_rdu (mm_rdu (fun _ _ => x) 1 a1 (fun _ => 0)) 2 a2 (fun _ => 0)) 3 a3 (fun _ => 0)) 4 a4 (fun _ => 0)) 5 a5 (fun _ => 0)) 6 a6 (fun _ => 0)) 7 a7 r7) 8 a8 r8) 9 a9 r9) (9 :: (8 :: (7 :: (6 :: (5 :: (4 :: (3 :: (2 :: (1 :: []))))))))) := mm_B_new2 hB22 (k := 9) rfl (by decide) hq23 hr23 hrq23 hri23 g1 g2 g3
  have px23 : σ_23 x = mm_obj 1 7 [.ref a1, .ref a2, .ref a3, .int (nI 0), .ref a4, .ref a5, .ref a6, .int (nI 0), .ref a7, .ref a8, .null, .null, .null, .int (nI 0), .int (nI 0), .null, .int (nI 0), .null, .null, .null, .null, .null, .null, .null, .int (nI 0), .int (nI 0)] := (g3 x (fun e => by have h9 := px22; rw [e, hq23] at h9; cases h9) (fun j hj e => by have h9 := px22; rw [e, hr23 j hj] at h9; cases h9)).trans px22
  have hF23 : mm_Fr 1 σ σ_23 := (hF22).tr (fun z q9 e9 _ hz => (g3 z (fun e => by rw [e, hq23] at hz; cases hz) (fun j hj e => by rw [e, hr23 j hj] at hz; cases hz)).trans hz)
  refine mm_putF (pc := 82) F hN (px23) (ci := 7) rfl 10 (by decide) mw_1189 rfl hin rfl (ty := (.array (.array .int))) (by decide +kernel) (rfl) (rfl) (Nat.le_of_ble_eq_true rfl) dX7_init_82 (fun H locs hN => ?_)
  have hN : mm_N b D s (mm_u σ_23 x (mm_obj 1 7 [.ref a1, .ref a2, .ref a3, .int (nI 0), .ref a4, .ref a5, .ref a6, .int (nI 0), .ref a7, .ref a8, .ref a9, .null, .null, .int (nI 0), .int (nI 0), .null, .int (nI 0), .null, .null, .null, .null, .null, .null, .null, .int (nI 0), .int (nI 0)])) _ _ := hN
  obtain ⟨σ_24, es24⟩ : ∃ z, z = mm_u σ_23 x (mm_obj 1 7 [.ref a1, .ref a2, .ref a3, .int (nI 0), .ref a4, .ref a5, .ref a6, .int (nI 0), .ref a7, .ref a8, .ref a9, .null, .null, .int (nI 0), .int (nI 0), .null, .int (nI 0), .null, .null, .null, .null, .null, .null, .null, .int (nI 0), .int (nI 0)]) := ⟨_, rfl⟩
  rw [← es24] at hN
  have hB24 : mm_B σ_24 (mm_rdu (mm_rdu (mm_rdu (mm_rdu (mm_rdu (mm_rdu (mm_rdu (mm_rdu (mm_rdu (fun _ _ => x) 1 a1 (fun _ => 0)) 2 a2 (fun _ => 0)) 3 a3 (fun _ => 0)) 4 a4 (fun _ => 0)) 5 a5 (fun _ => 0)) 6 a6 (fun _ => 0)) 7 a7 r7) 8 a8 r8) 9 a9 r9) (9 :: (8 :: (7 :: (6 :: (5 :: (4 :: (3 :: (2 :: (1 :: []))))))))) := by rw [es24]; exact mm_B_put hB23 px23
  have px24 : σ_24 x = mm_obj 1 7 [.ref a1, .ref a2, .ref a3, .int (nI 0), .ref a4, .ref a5, .ref a6, .int (nI 0), .ref a7, .ref a8, .ref a9, .null, .null, .int (nI 0), .int (nI 0), .null, .int (nI 0), .null, .null, .null, .null, .null, .null, .null, .int (nI 0), .int (nI 0)] := by rw [es24]; exact mm_u_eq
  have hF24 : mm_Fr 1 σ σ_24 := by rw [es24]; exact (hF23).tr (mm_Fr.u px23)
  refine lv_aload_n (pc := 85) F.1 F.2.1 dX7_init_85 rfl (lv_at hl 0 rfl) ?_
  refine lv_iconst (pc := 86) (v := nI 4) F.1 F.2.1 dX7_init_86 (by decide) ?_
  refine mm_newa (pc := 87) F hN 1 0 (4) (x := (4, .inl (fun _ => 0))) (atype := .int) rfl (by omega) mw_594 rfl (by intro C h; cases h) (by decide) (rfl) ((Nat.le_of_ble_eq_true rfl)) ((Nat.le_of_ble_eq_true rfl)) dX7_init_87 (fun q25 H hq25 hN => ?_)
  have hN : mm_N b D s (mm_u σ_24 q25 (mm_arr 1 0 (4, .inl (fun _ => 0)))) _ _ := hN
  obtain ⟨a10, ea10⟩ : ∃ z, z = q25 := ⟨_, rfl⟩
  rw [← ea10]
  rw [← ea10] at hN hq25
  obtain ⟨σ_26, es26⟩ : ∃ z, z = mm_u σ_24 a10 (mm_arr 1 0 (4, .inl (fun _ => 0))) := ⟨_, rfl⟩
  rw [← es26] at hN
  have hB26 : mm_B σ_26 (mm_rdu (mm_rdu (mm_rdu (mm_rdu (mm_rdu (mm_rdu (mm_rdu (mm_rdu (mm_rdu (mm_rdu (fun _ _ => x) 1 a1 (fun _ => 0)) 2 a2 (fun _ => 0)) 3 a3 (fun _ => 0)) 4 a4 (fun _ => 0)) 5 a5 (fun _ => 0)) 6 a6 (fun _ => 0)) 7 a7 r7) 8 a8 r8) 9 a9 r9) 10 a10 (fun _ => 0)) (10 :: (9 :: (8 :: (7 :: (6 :: (5 :: (4 :: (3 :: (2 :: (1 :: [])))))))))) := by rw [es26]; exact mm_B_new1 hB24 (k := 10) rfl (by decide) hq25
  have px26 : σ_26 x = mm_obj 1 7 [.ref a1, .ref a2, .ref a3, .int (nI 0), .ref a4, .ref a5, .ref a6, .int (nI 0), .ref a7, .ref a8, .ref a9, .null, .null, .int (nI 0), .int (nI 0), .null, .int (nI 0), .null, .null, .null, .null, .null, .null, .null, .int (nI 0), .int (nI 0)] := by rw [es26]; exact (mm_u_ne (fun e => by have h9 := px24; rw [e, hq25] at h9; cases h9)).trans px24
  have hF26 : mm_Fr 1 σ σ_26 := by rw [es26]; exact (hF24).tr (mm_Fr.new hq25)
  refine mm_putF (pc := 89) F hN (px26) (ci := 7) rfl 11 (by decide) mw_1190 rfl hin rfl (ty := (.array .int)) (by decide +kernel) (rfl) (rfl) (Nat.le_of_ble_eq_true rfl) dX7_init_89 (fun H locs hN => ?_)
  have hN : mm_N b D s (mm_u σ_26 x (mm_obj 1 7 [.ref a1, .ref a2, .ref a3, .int (nI 0), .ref a4, .ref a5, .ref a6, .int (nI 0), .ref a7, .ref a8, .ref a9, .ref a10, .null, .int (nI 0), .int (nI 0), .null, .int (nI 0), .null, .null, .null, .null, .null, .null, .null, .int (nI 0), .int (nI 0)])) _ _ := hN
  obtain ⟨σ_27, es27⟩ : ∃ z, z = mm_u σ_26 x (mm_obj 1 7 [.ref a1, .ref a2, .ref a3, .int (nI 0), .ref a4, .ref a5, .ref a6, .int (nI 0), .ref a7, .ref a8, .ref a9, .ref a10, .null, .int (nI 0), .int (nI 0), .null, .int (nI 0), .null, .null, .null, .null, .null, .null, .null, .int (nI 0), .int (nI 0)]) := ⟨_, rfl⟩
  rw [← es27] at hN
  have hB27 : mm_B σ_27 (mm_rdu (mm_rdu (mm_rdu (mm_rdu (mm_rdu (mm_rdu (mm_rdu (mm_rdu (mm_rdu (mm_rdu (fun _ _ => x) 1 a1 (fun _ => 0)) 2 a2 (fun _ => 0)) 3 a3 (fun _ => 0)) 4 a4 (fun _ => 0)) 5 a5 (fun _ => 0)) 6 a6 (fun _ => 0)) 7 a7 r7) 8 a8 r8) 9 a9 r9) 10 a10 (fun _ => 0)) (10 :: (9 :: (8 :: (7 :: (6 :: (5 :: (4 :: (3 :: (2 :: (1 :: [])))))))))) := by rw [es27]; exact mm_B_put hB26 px26
  have px27 : σ_27 x = mm_obj 1 7 [.ref a1, .ref a2, .ref a3, .int (nI 0), .ref a4, .ref a5, .ref a6, .int (nI 0), .ref a7, .ref a8, .ref a9, .ref a10, .null, .int (nI 0), .int (nI 0), .null, .int (nI 0), .null, .null, .null, .null, .null, .null, .null, .int (nI 0), .int (nI 0)] := by rw [es27]; exact mm_u_eq
  have hF27 : mm_Fr 1 σ σ_27 := by rw [es27]; exact (hF26).tr (mm_Fr.u px26)
  refine lv_aload_n (pc := 92) F.1 F.2.1 dX7_init_92 rfl (lv_at hl 0 rfl) ?_
  refine lv_iconst (pc := 93) (v := nI 4) F.1 F.2.1 dX7_init_93 (by decide) ?_
  refine mm_newa (pc := 94) F hN 1 4 (4) (x := (4, .inl (fun _ => 0))) (atype := .boolean) rfl (by omega) mw_1258 rfl (by intro C h; cases h) (by decide) (rfl) ((Nat.le_of_ble_eq_true rfl)) ((Nat.le_of_ble_eq_true rfl)) dX7_init_94 (fun q28 H hq28 hN => ?_)
  have hN : mm_N b D s (mm_u σ_27 q28 (mm_arr 1 4 (4, .inl (fun _ => 0)))) _ _ := hN
  obtain ⟨a11, ea11⟩ : ∃ z, z = q28 := ⟨_, rfl⟩
  rw [← ea11]
  rw [← ea11] at hN hq28
  obtain ⟨σ_29, es29⟩ : ∃ z, z = mm_u σ_27 a11 (mm_arr 1 4 (4, .inl (fun _ => 0))) := ⟨_, rfl⟩
  rw [← es29] at hN
  have hB29 : mm_B σ_29 (mm_rdu (mm_rdu (mm_rdu (mm_rdu (mm_rdu (mm_rdu (mm_rdu (mm_rdu (mm_rdu (mm_rdu (mm_rdu (fun _ _ => x) 1 a1 (fun _ => 0)) 2 a2 (fun _ => 0)) 3 a3 (fun _ => 0)) 4 a4 (fun _ => 0)) 5 a5 (fun _ => 0)) 6 a6 (fun _ => 0)) 7 a7 r7) 8 a8 r8) 9 a9 r9) 10 a10 (fun _ => 0)) 11 a11 (fun _ => 0)) (11 :: (10 :: (9 :: (8 :: (7 :: (6 :: (5 :: (4 :: (3 :: (2 :: (1 :: []))))))))))) := by rw [es29]; exact mm_B_new1 hB27 (k := 11) rfl (by decide) hq28
  have px29 : σ_29 x = mm_obj 1 7 [.ref a1, .ref a2, .ref a3, .int (nI 0), .ref a4, .ref a5, .ref a6, .int (nI 0), .ref a7, .ref a8, .ref a9, .ref a10, .null, .int (nI 0), .int (nI 0), .null, .int (nI 0), .null, .null, .null, .null, .null, .null, .null, .int (nI 0), .int (nI 0)] := by rw [es29]; exact (mm_u_ne (fun e => by have h9 := px27; rw [e, hq28] at h9; cases h9)).trans px27
  have hF29 : mm_Fr 1 σ σ_29 := by rw [es29]; exact (hF27).tr (mm_Fr.new hq28)
  refine mm_putF (pc := 96) F hN (px29) (ci := 7) rfl 12 (by decide) mw_1191 rfl hin rfl (ty := (.array .boolean)) (by decide +kernel) (rfl) (rfl) (Nat.le_of_ble_eq_true rfl) dX7_init_96 (fun H locs hN => ?_)
  have hN : mm_N b D s (mm_u σ_29 x (mm_obj 1 7 [.ref a1, .ref a2, .ref a3, .int (nI 0), .ref a4, .ref a5, .ref a6, .int (nI 0), .ref a7, .ref a8, .ref a9, .ref a10, .ref a11, .int (nI 0), .int (nI 0), .null, .int (nI 0), .null, .null, .null, .null, .null, .null, .null, .int (nI 0), .int (nI 0)])) _ _ := hN
  obtain ⟨σ_30, es30⟩ : ∃ z, z = mm_u σ_29 x (mm_obj 1 7 [.ref a1, .ref a2, .ref a3, .int (nI 0), .ref a4, .ref a5, .ref a6, .int (nI 0), .ref a7, .ref a8, .ref a9, .ref a10, .ref a11, .int (nI 0), .int (nI 0), .null, .int (nI 0), .null, .null, .null, .null, .null, .null, .null, .int (nI 0), .int (nI 0)]) := ⟨_, rfl⟩
  rw [← es30] at hN
  have hB30 : mm_B σ_30 (mm_rdu (mm_rdu (mm_rdu (mm_rdu (mm_rdu (mm_rdu (mm_rdu (mm_rdu (mm_rdu (mm_rdu (mm_rdu (fun _ _ => x) 1 a1 (fun _ => 0)) 2 a2 (fun _ => 0)) 3 a3 (fun _ => 0)) 4 a4 (fun _ => 0)) 5 a5 (fun _ => 0)) 6 a6 (fun _ => 0)) 7 a7 r7) 8 a8 r8) 9 a9 r9) 10 a10 (fun _ => 0)) 11 a11 (fun _ => 0)) (11 :: (10 :: (9 :: (8 :: (7 :: (6 :: (5 :: (4 :: (3 :: (2 :: (1 :: []))))))))))) := by rw [es30]; exact mm_B_put hB29 px29
  have px30 : σ_30 x = mm_obj 1 7 [.ref a1, .ref a2, .ref a3, .int (nI 0), .ref a4, .ref a5, .ref a6, .int (nI 0), .ref a7, .ref a8, .ref a9, .ref a10, .ref a11, .int (nI 0), .int (nI 0), .null, .int (nI 0), .null, .null, .null, .null, .null, .null, .null, .int (nI 0), .int (nI 0)] := by rw [es30]; exact mm_u_eq
  have hF30 : mm_Fr 1 σ σ_30 := by rw [es30]; exact (hF29).tr (mm_Fr.u px29)
  refine lv_aload_n (pc := 99) F.1 F.2.1 dX7_init_99 rfl (lv_at hl 0 rfl) ?_
  refine lv_iconst (pc := 100) (v := nI 2) F.1 F.2.1 dX7_init_100 (by decide) ?_
  refine mm_newa (pc := 101) F hN 1 0 (2) (x := (2, .inl (fun _ => 0))) (atype := .int) rfl (by omega) mw_594 rfl (by intro C h; cases h) (by decide) (rfl) ((Nat.le_of_ble_eq_true rfl)) ((Nat.le_of_ble_eq_true rfl)) dX7_init_101 (fun q31 H hq31 hN => ?_)
  have hN : mm_N b D s (mm_u σ_30 q31 (mm_arr 1 0 (2, .inl (fun _ => 0)))) _ _ := hN
  obtain ⟨a12, ea12⟩ : ∃ z, z = q31 := ⟨_, rfl⟩
  rw [← ea12]
  rw [← ea12] at hN hq31
  obtain ⟨σ_32, es32⟩ : ∃ z, z = mm_u σ_30 a12 (mm_arr 1 0 (2, .inl (fun _ => 0))) := ⟨_, rfl⟩
  rw [← es32] at hN
  have hB32 : mm_B σ_32 (mm_rdu (mm_rdu (mm_rdu (mm_rdu (mm_rdu (mm_rdu (mm_rdu (mm_rdu (mm_rdu (mm_rdu (mm_rdu (mm_rdu (fun _ _ => x) 1 a1 (fun _ => 0)) 2 a2 (fun _ => 0)) 3 a3 (fun _ => 0)) 4 a4 (fun _ => 0)) 5 a5 (fun _ => 0)) 6 a6 (fun _ => 0)) 7 a7 r7) 8 a8 r8) 9 a9 r9) 10 a10 (fun _ => 0)) 11 a11 (fun _ => 0)) 12 a12 (fun _ => 0)) (12 :: (11 :: (10 :: (9 :: (8 :: (7 :: (6 :: (5 :: (4 :: (3 :: (2 :: (1 :: [])))))))))))) := by rw [es32]; exact mm_B_new1 hB30 (k := 12) rfl (by decide) hq31
  have px32 : σ_32 x = mm_obj 1 7 [.ref a1, .ref a2, .ref a3, .int (nI 0), .ref a4, .ref a5, .ref a6, .int (nI 0), .ref a7, .ref a8, .ref a9, .ref a10, .ref a11, .int (nI 0), .int (nI 0), .null, .int (nI 0), .null, .null, .null, .null, .null, .null, .null, .int (nI 0), .int (nI 0)] := by rw [es32]; exact (mm_u_ne (fun e => by have h9 := px30; rw [e, hq31] at h9; cases h9)).trans px30
  have hF32 : mm_Fr 1 σ σ_32 := by rw [es32]; exact (hF30).tr (mm_Fr.new hq31)
  refine mm_putF (pc := 103) F hN (px32) (ci := 7) rfl 15 (by decide) mw_1194 rfl hin rfl (ty := (.array .int)) (by decide +kernel) (rfl) (rfl) (Nat.le_of_ble_eq_true rfl) dX7_init_103 (fun H locs hN => ?_)
  have hN : mm_N b D s (mm_u σ_32 x (mm_obj 1 7 [.ref a1, .ref a2, .ref a3, .int (nI 0), .ref a4, .ref a5, .ref a6, .int (nI 0), .ref a7, .ref a8, .ref a9, .ref a10, .ref a11, .int (nI 0), .int (nI 0), .ref a12, .int (nI 0), .null, .null, .null, .null, .null, .null, .null, .int (nI 0), .int (nI 0)])) _ _ := hN
  obtain ⟨σ_33, es33⟩ : ∃ z, z = mm_u σ_32 x (mm_obj 1 7 [.ref a1, .ref a2, .ref a3, .int (nI 0), .ref a4, .ref a5, .ref a6, .int (nI 0), .ref a7, .ref a8, .ref a9, .ref a10, .ref a11, .int (nI 0), .int (nI 0), .ref a12, .int (nI 0), .null, .null, .null, .null, .null, .null, .null, .int (nI 0), .int (nI 0)]) := ⟨_, rfl⟩
  rw [← es33] at hN
  have hB33 : mm_B σ_33 (mm_rdu (mm_rdu (mm_rdu (mm_rdu (mm_rdu (mm_rdu (mm_rdu (mm_rdu (mm_rdu (mm_rdu (mm_rdu (mm_rdu (fun _ _ => x) 1 a1 (fun _ => 0)) 2 a2 (fun _ => 0)) 3 a3 (fun _ => 0)) 4 a4 (fun _ => 0)) 5 a5 (fun _ => 0)) 6 a6 (fun _ => 0)) 7 a7 r7) 8 a8 r8) 9 a9 r9) 10 a10 (fun _ => 0)) 11 a11 (fun _ => 0)) 12 a12 (fun _ => 0)) (12 :: (11 :: (10 :: (9 :: (8 :: (7 :: (6 :: (5 :: (4 :: (3 :: (2 :: (1 :: [])))))))))))) := by rw [es33]; exact mm_B_put hB32 px32
  have px33 : σ_33 x = mm_obj 1 7 [.ref a1, .ref a2, .ref a3, .int (nI 0), .ref a4, .ref a5, .ref a6, .int (nI 0), .ref a7, .ref a8, .ref a9, .ref a10, .ref a11, .int (nI 0), .int (nI 0), .ref a12, .int (nI 0), .null, .null, .null, .null, .null, .null, .null, .int (nI 0), .int (nI 0)] := by rw [es33]; exact mm_u_eq
  have hF33 : mm_Fr 1 σ σ_33 := by rw [es33]; exact (hF32).tr (mm_Fr.u px32)
  refine lv_aload_n (pc := 106) F.1 F.2.1 dX7_init_106 rfl (lv_at hl 0 rfl) ?_
  refine lv_iconst (pc := 107) (v := nI 3) F.1 F.2.1 dX7_init_107 (by decide) ?_
  refine mm_put (pc := 108) F hN (px33) (ci := 7) rfl 16 (by decide) mw_1195 rfl (ty := .int) (by decide +kernel) (rfl) (rfl) (Nat.le_of_ble_eq_true rfl) dX7_init_108 (fun H locs hN => ?_)
  have hN : mm_N b D s (mm_u σ_33 x (mm_obj 1 7 [.ref a1, .ref a2, .ref a3, .int (nI 0), .ref a4, .ref a5, .ref a6, .int (nI 0), .ref a7, .ref a8, .ref a9, .ref a10, .ref a11, .int (nI 0), .int (nI 0), .ref a12, .int (nI 3), .null, .null, .null, .null, .null, .null, .null, .int (nI 0), .int (nI 0)])) _ _ := hN
  obtain ⟨σ_34, es34⟩ : ∃ z, z = mm_u σ_33 x (mm_obj 1 7 [.ref a1, .ref a2, .ref a3, .int (nI 0), .ref a4, .ref a5, .ref a6, .int (nI 0), .ref a7, .ref a8, .ref a9, .ref a10, .ref a11, .int (nI 0), .int (nI 0), .ref a12, .int (nI 3), .null, .null, .null, .null, .null, .null, .null, .int (nI 0), .int (nI 0)]) := ⟨_, rfl⟩
  rw [← es34] at hN
  have hB34 : mm_B σ_34 (mm_rdu (mm_rdu (mm_rdu (mm_rdu (mm_rdu (mm_rdu (mm_rdu (mm_rdu (mm_rdu (mm_rdu (mm_rdu (mm_rdu (fun _ _ => x) 1 a1 (fun _ => 0)) 2 a2 (fun _ => 0)) 3 a3 (fun _ => 0)) 4 a4 (fun _ => 0)) 5 a5 (fun _ => 0)) 6 a6 (fun _ => 0)) 7 a7 r7) 8 a8 r8) 9 a9 r9) 10 a10 (fun _ => 0)) 11 a11 (fun _ => 0)) 12 a12 (fun _ => 0)) (12 :: (11 :: (10 :: (9 :: (8 :: (7 :: (6 :: (5 :: (4 :: (3 :: (2 :: (1 :: [])))))))))))) := by rw [es34]; exact mm_B_put hB33 px33
  have px34 : σ_34 x = mm_obj 1 7 [.ref a1, .ref a2, .ref a3, .int (nI 0), .ref a4, .ref a5, .ref a6, .int (nI 0), .ref a7, .ref a8, .ref a9, .ref a10, .ref a11, .int (nI 0), .int (nI 0), .ref a12, .int (nI 3), .null, .null, .null, .null, .null, .null, .null, .int (nI 0), .int (nI 0)] := by rw [es34]; exact mm_u_eq
  have hF34 : mm_Fr 1 σ σ_34 := by rw [es34]; exact (hF33).tr (mm_Fr.u px33)
  refine lv_aload_n (pc := 111) F.1 F.2.1 dX7_init_111 rfl (lv_at hl 0 rfl) ?_
  refine lv_bipush (pc := 112) (v := nI 10) F.1 F.2.1 dX7_init_112 (by decide) ?_
  refine mm_newa (pc := 114) F hN 1 0 (10) (x := (10, .inl (fun _ => 0))) (atype := .int) rfl (by omega) mw_594 rfl (by intro C h; cases h) (by decide) (rfl) ((Nat.le_of_ble_eq_true rfl)) ((Nat.le_of_ble_eq_true rfl)) dX7_init_114 (fun q35 H hq35 hN => ?_)
  have hN : mm_N b D s (mm_u σ_34 q35 (mm_arr 1 0 (10, .inl (fun _ => 0)))) _ _ := hN
  obtain ⟨a13, ea13⟩ : ∃ z, z = q35 := ⟨_, rfl⟩
  rw [← ea13]
  rw [← ea13] at hN hq35
  obtain ⟨σ_36, es36⟩ : ∃ z, z = mm_u σ_34 a13 (mm_arr 1 0 (10, .inl (fun _ => 0))) := ⟨_, rfl⟩
  rw [← es36] at hN
  have hB36 : mm_B σ_36 (mm_rdu (mm_rdu (mm_rdu (mm_rdu (mm_rdu (mm_rdu (mm_rdu (mm_rdu (mm_rdu (mm_rdu (mm_rdu (mm_rdu (mm_rdu (fun _ _ => x) 1 a1 (fun _ => 0)) 2 a2 (fun _ => 0)) 3 a3 (fun _ => 0)) 4 a4 (fun _ => 0)) 5 a5 (fun _ => 0)) 6 a6 (fun _ => 0)) 7 a7 r7) 8 a8 r8) 9 a9 r9) 10 a10 (fun _ => 0)) 11 a11 (fun _ => 0)) 12 a12 (fun _ => 0)) 13 a13 (fun _ => 0)) (13 :: (12 :: (11 :: (10 :: (9 :: (8 :: (7 :: (6 :: (5 :: (4 :: (3 :: (2 :: (1 :: []))))))))))))) := by rw [es36]; exact mm_B_new1 hB34 (k := 13) rfl (by decide) hq35
  have px36 : σ_36 x = mm_obj 1 7 [.ref a1, .ref a2, .ref a3, .int (nI 0), .ref a4, .ref a5, .ref a6, .int (nI 0), .ref a7, .ref a8, .ref a9, .ref a10, .ref a11, .int (nI 0), .int (nI 0), .ref a12, .int (nI 3), .null, .null, .null, .null, .null, .null, .null, .int (nI 0), .int (nI 0)] := by rw [es36]; exact (mm_u_ne (fun e => by have h9 := px34; rw [e, hq35] at h9; cases h9)).trans px34
  have hF36 : mm_Fr 1 σ σ_36 := by rw [es36]; exact (hF34).tr (mm_Fr.new hq35)
  refine mm_putF (pc := 116) F hN (px36) (ci := 7) rfl 17 (by decide) mw_1196 rfl hin rfl (ty := (.array .int)) (by decide +kernel) (rfl) (rfl) (Nat.le_of_ble_eq_true rfl) dX7_init_116 (fun H locs hN => ?_)
  have hN : mm_N b D s (mm_u σ_36 x (mm_obj 1 7 [.ref a1, .ref a2, .ref a3, .int (nI 0), .ref a4, .ref a5, .ref a6, .int (nI 0), .ref a7, .ref a8, .ref a9, .ref a10, .ref a11, .int (nI 0), .int (nI 0), .ref a12, .int (nI 3), .ref a13, .null, .null, .null, .null, .null, .null, .int (nI 0), .int (nI 0)])) _ _ := hN
  obtain ⟨σ_37, es37⟩ : ∃ z, z = mm_u σ_36 x (mm_obj 1 7 [.ref a1, .ref a2, .ref a3, .int (nI 0), .ref a4, .ref a5, .ref a6, .int (nI 0), .ref a7, .ref a8, .ref a9, .ref a10, .ref a11, .int (nI 0), .int (nI 0), .ref a12, .int (nI 3), .ref a13, .null, .null, .null, .null, .null, .null, .int (nI 0), .int (nI 0)]) := ⟨_, rfl⟩
  rw [← es37] at hN
  have hB37 : mm_B σ_37 (mm_rdu (mm_rdu (mm_rdu (mm_rdu (mm_rdu (mm_rdu (mm_rdu (mm_rdu (mm_rdu (mm_rdu (mm_rdu (mm_rdu (mm_rdu (fun _ _ => x) 1 a1 (fun _ => 0)) 2 a2 (fun _ => 0)) 3 a3 (fun _ => 0)) 4 a4 (fun _ => 0)) 5 a5 (fun _ => 0)) 6 a6 (fun _ => 0)) 7 a7 r7) 8 a8 r8) 9 a9 r9) 10 a10 (fun _ => 0)) 11 a11 (fun _ => 0)) 12 a12 (fun _ => 0)) 13 a13 (fun _ => 0)) (13 :: (12 :: (11 :: (10 :: (9 :: (8 :: (7 :: (6 :: (5 :: (4 :: (3 :: (2 :: (1 :: []))))))))))))) := by rw [es37]; exact mm_B_put hB36 px36
  have px37 : σ_37 x = mm_obj 1 7 [.ref a1, .ref a2, .ref a3, .int (nI 0), .ref a4, .ref a5, .ref a6, .int (nI 0), .ref a7, .ref a8, .ref a9, .ref a10, .ref a11, .int (nI 0), .int (nI 0), .ref a12, .int (nI 3), .ref a13, .null, .null, .null, .null, .null, .null, .int (nI 0), .int (nI 0)] := by rw [es37]; exact mm_u_eq
  have hF37 : mm_Fr 1 σ σ_37 := by rw [es37]; exact (hF36).tr (mm_Fr.u px36)
  refine lv_aload_n (pc := 119) F.1 F.2.1 dX7_init_119 rfl (lv_at hl 0 rfl) ?_
  refine lv_bipush (pc := 120) (v := nI 10) F.1 F.2.1 dX7_init_120 (by decide) ?_
  refine lv_bipush (pc := 122) (v := nI 24) F.1 F.2.1 dX7_init_122 (by decide) ?_
  refine mm_mna (pc := 124) F hN 6 3 10 24 (ty := .char) (z := (24, .inl (fun _ => 0))) hJ.2.1 mw_1175 mw_1259 rfl rfl (fun C h => by cases h) (by decide) (by decide) (by decide) rfl rfl (fun c => rfl) (Nat.le_of_ble_eq_true rfl) (Nat.le_of_ble_eq_true rfl) dX7_init_124 (fun a14 r14 σ_38 H hq38 hr38 hrq38 hri38 g1 g2 g3 hN => ?_)
  have hB38 : mm_B σ_38 (mm_rdu (mm_rdu (mm_rdu (mm_rdu (mm_rdu (mm_rdu (mm_rdu (mm_rdu (mm_rdu (mm_rdu (mm_rdu (mm_rdu (mm_rdu (mm_rdu (fun _ _ => x) 1 a1 (fun _ => 0)) 2 a2 (fun _ => 0)) 3 a3 (fun _ => 0)) 4 a4 (fun _ => 0)) 5 a5 (fun _ => 0)) 6 a6 (fun _ => 0)) 7 a7 r7) 8 a8 r8) 9 a9 r9) 10 a10 (fun _ => 0)) 11 a11 (fun _ => 0)) 12 a12 (fun _ => 0)) 13 a13 (fun _ => 0)) 14 a14 r14) (14 :: (13 :: (12 :: (11 :: (10 :: (9 :: (8 :: (7 :: (6 :: (5 :: (4 :: (3 :: (2 :: (1 :: [])))))))))))))) := mm_B_new2 hB37 (k := 14) rfl (by decide) hq38 hr38 hrq38 hri38 g1 g2 g3
  have px38 : σ_38 x = mm_obj 1 7 [.ref a1, .ref a2, .ref a3, .int (nI 0), .ref a4, .ref a5, .ref a6, .int (nI 0), .ref a7, .ref a8, .ref a9, .ref a10, .ref a11, .int (nI 0), .int (nI 0), .ref a12, .int (nI 3), .ref a13, .null, .null, .null, .null, .null, .null, .int (nI 0), .int (nI 0)] := (g3 x (fun e => by have h9 := px37; rw [e, hq38] at h9; cases h9) (fun j hj e => by have h9 := px37; rw [e, hr38 j hj] at h9; cases h9)).trans px37
  have hF38 : mm_Fr 1 σ σ_38 := (hF37).tr (fun z q9 e9 _ hz => (g3 z (fun e => by rw [e, hq38] at hz; cases hz) (fun j hj e => by rw [e, hr38 j hj] at hz; cases hz)).trans hz)
  refine mm_putF (pc := 128) F hN (px38) (ci := 7) rfl 18 (by decide) mw_1197 rfl hin rfl (ty := (.array (.array .char))) (by decide +kernel) (rfl) (rfl) (Nat.le_of_ble_eq_true rfl) dX7_init_128 (fun H locs hN => ?_)
  have hN : mm_N b D s (mm_u σ_38 x (mm_obj 1 7 [.ref a1, .ref a2, .ref a3, .int (nI 0), .ref a4, .ref a5, .ref a6, .int (nI 0), .ref a7, .ref a8, .ref a9, .ref a10, .ref a11, .int (nI 0), .int (nI 0), .ref a12, .int (nI 3), .ref a13, .ref a14, .null, .null, .null, .null, .null, .int (nI 0), .int (nI 0)])) _ _ := hN
  obtain ⟨σ_39, es39⟩ : ∃ z, z = mm_u σ_38 x (mm_obj 1 7 [.ref a1, .ref a2, .ref a3, .int (nI 0), .ref a4, .ref a5, .ref a6, .int (nI 0), .ref a7, .ref a8, .ref a9, .ref a10, .ref a11, .int (nI 0), .int (nI 0), .ref a12, .int (nI 3), .ref a13, .ref a14, .null, .null, .null, .null, .null, .int (nI 0), .int (nI 0)]) := ⟨_, rfl⟩
  rw [← es39] at hN
  have hB39 : mm_B σ_39 (mm_rdu (mm_rdu (mm_rdu (mm_rdu (mm_rdu (mm_rdu (mm_rdu (mm_rdu (mm_rdu (mm_rdu (mm_rdu (mm_rdu (mm_rdu (mm_rdu (fun _ _ => x) 1 a1 (fun _ => 0)) 2 a2 (fun _ => 0)) 3 a3 (fun _ => 0)) 4 a4 (fun _ => 0)) 5 a5 (fun _ => 0)) 6 a6 (fun _ => 0)) 7 a7 r7) 8 a8 r8) 9 a9 r9) 10 a10 (fun _ => 0)) 11 a11 (fun _ => 0)) 12 a12 (fun _ => 0)) 13 a13 (fun _ => 0)) 14 a14 r14) (14 :: (13 :: (12 :: (11 :: (10 :: (9 :: (8 :: (7 :: (6 :: (5 :: (4 :: (3 :: (2 :: (1 :: [])))))))))))))) := by rw [es39]; exact mm_B_put hB38 px38
  have px39 : σ_39 x = mm_obj 1 7 [.ref a1, .ref a2, .ref a3, .int (nI 0), .ref a4, .ref a5, .ref a6, .int (nI 0), .ref a7, .ref a8, .ref a9, .ref a10, .ref a11, .int (nI 0), .int (nI 0), .ref a12, .int (nI 3), .ref a13, .ref a14, .null, .null, .null, .null, .null, .int (nI 0), .int (nI 0)] := by rw [es39]; exact mm_u_eq
  have hF39 : mm_Fr 1 σ σ_39 := by rw [es39]; exact (hF38).tr (mm_Fr.u px38)
  refine lv_aload_n (pc := 131) F.1 F.2.1 dX7_init_131 rfl (lv_at hl 0 rfl) ?_
  refine lv_bipush (pc := 132) (v := nI 10) F.1 F.2.1 dX7_init_132 (by decide) ?_
  refine lv_bipush (pc := 134) (v := nI 24) F.1 F.2.1 dX7_init_134 (by decide) ?_
  refine mm_mna (pc := 136) F hN 5 0 10 24 (ty := .int) (z := (24, .inl (fun _ => 0))) hJ.1 mw_1173 mw_594 rfl rfl (fun C h => by cases h) (by decide) (by decide) (by decide) rfl rfl (fun c => rfl) (Nat.le_of_ble_eq_true rfl) (Nat.le_of_ble_eq_true rfl) dX7_init_136 (fun a15 r15 σ_40 H hq40 hr40 hrq40 hri40 g1 g2 g3 hN => ?_)
  have hB40 : mm_B σ_40 (mm_rdu (mm_rdu (mm_rdu (mm_rdu (mm_rdu (mm_rdu (mm_rdu (mm_rdu (mm_rdu (mm_rdu (mm_rdu (mm_rdu (mm_rdu (mm_rdu (mm_rdu (fun _ _ => x) 1 a1 (fun _ => 0)) 2 a2 (fun _ => 0)) 3 a3 (fun _ => 0)) 4 a4 (fun _ => 0)) 5 a5 (fun _ => 0)) 6 a6 (fun _ => 0)) 7 a7 r7) 8 a8 r8) 9 a9 r9) 10 a10 (fun _ => 0)) 11 a11 (fun _ => 0)) 12 a12 (fun _ => 0)) 13 a13 (fun _ => 0)) 14 a14 r14) 15 a15 r15) (15 :: (14 :: (13 :: (12 :: (11 :: (10 :: (9 :: (8 :: (7 :: (6 :: (5 :: (4 :: (3 :: (2 :: (1 :: []))))))))))))))) := mm_B_new2 hB39 (k := 15) rfl (by decide) hq40 hr40 hrq40 hri40 g1 g2 g3
  have px40 : σ_40 x = mm_obj 1 7 [.ref a1, .ref a2, .ref a3, .int (nI 0), .ref a4, .ref a5, .ref a6, .int (nI 0), .ref a7, .ref a8, .ref a9, .ref a10, .ref a11, .int (nI 0), .int (nI 0), .ref a12, .int (nI 3), .ref a13, .ref a14, .null, .null, .null, .null, .null, .int (nI 0), .int (nI 0)] := (g3 x (fun e => by have h9 := px39; rw [e, hq40] at h9; cases h9) (fun j hj e => by have h9 := px39; rw [e, hr40 j hj] at h9; cases h9)).trans px39
  have hF40 : mm_Fr 1 σ σ_40 := (hF39).tr (fun z q9 e9 _ hz => (g3 z (fun e => by rw [e, hq40] at hz; cases hz) (fun j hj e => by rw [e, hr40 j hj] at hz; cases hz)).trans hz)
  refine mm_putF (pc := 140) F hN (px40) (ci := 7) rfl 19 (by decide) mw_1198 rfl hin rfl (ty := (.array (.array .int))) (by decide +kernel) (rfl) (rfl) (Nat.le_of_ble_eq_true rfl) dX7_init_140 (fun H locs hN => ?_)
  have hN : mm_N b D s (mm_u σ_40 x (mm_obj 1 7 [.ref a1, .ref a2, .ref a3, .int (nI 0), .ref a4, .ref a5, .ref a6, .int (nI 0), .ref a7, .ref a8, .ref a9, .ref a10, .ref a11, .int (nI 0), .int (nI 0), .ref a12, .int (nI 3), .ref a13, .ref a14, .ref a15, .null, .null, .null, .null, .int (nI 0), .int (nI 0)])) _ _ := hN
  obtain ⟨σ_41, es41⟩ : ∃ z, z = mm_u σ_40 x (mm_obj 1 7 [.ref a1, .ref a2, .ref a3, .int (nI 0), .ref a4, .ref a5, .ref a6, .int (nI 0), .ref a7, .ref a8, .ref a9, .ref a10, .ref a11, .int (nI 0), .int (nI 0), .ref a12, .int (nI 3), .ref a13, .ref a14, .ref a15, .null, .null, .null, .null, .int (nI 0), .int (nI 0)]) := ⟨_, rfl⟩
  rw [← es41] at hN
  have hB41 : mm_B σ_41 (mm_rdu (mm_rdu (mm_rdu (mm_rdu (mm_rdu (mm_rdu (mm_rdu (mm_rdu (mm_rdu (mm_rdu (mm_rdu (mm_rdu (mm_rdu (mm_rdu (mm_rdu (fun _ _ => x) 1 a1 (fun _ => 0)) 2 a2 (fun _ => 0)) 3 a3 (fun _ => 0)) 4 a4 (fun _ => 0)) 5 a5 (fun _ => 0)) 6 a6 (fun _ => 0)) 7 a7 r7) 8 a8 r8) 9 a9 r9) 10 a10 (fun _ => 0)) 11 a11 (fun _ => 0)) 12 a12 (fun _ => 0)) 13 a13 (fun _ => 0)) 14 a14 r14) 15 a15 r15) (15 :: (14 :: (13 :: (12 :: (11 :: (10 :: (9 :: (8 :: (7 :: (6 :: (5 :: (4 :: (3 :: (2 :: (1 :: []))))))))))))))) := by rw [es41]; exact mm_B_put hB40 px40
  have px41 : σ_41 x = mm_obj 1 7 [.ref a1, .ref a2, .ref a3, .int (nI 0), .ref a4, .ref a5, .ref a6, .int (nI 0), .ref a7, .ref a8, .ref a9, .ref a10, .ref a11, .int (nI 0), .int (nI 0), .ref a12, .int (nI 3), .ref a13, .ref a14, .ref a15, .null, .null, .null, .null, .int (nI 0), .int (nI 0)] := by rw [es41]; exact mm_u_eq
  have hF41 : mm_Fr 1 σ σ_41 := by rw [es41]; exact (hF40).tr (mm_Fr.u px40)
  refine lv_aload_n (pc := 143) F.1 F.2.1 dX7_init_143 rfl (lv_at hl 0 rfl) ?_
  refine lv_bipush (pc := 144) (v := nI 10) F.1 F.2.1 dX7_init_144 (by decide) ?_
  refine lv_bipush (pc := 146) (v := nI 24) F.1 F.2.1 dX7_init_146 (by decide) ?_
  refine mm_mna (pc := 148) F hN 5 0 10 24 (ty := .int) (z := (24, .inl (fun _ => 0))) hJ.1 mw_1173 mw_594 rfl rfl (fun C h => by cases h) (by decide) (by decide) (by decide) rfl rfl (fun c => rfl) (Nat.le_of_ble_eq_true rfl) (Nat.le_of_ble_eq_true rfl) dX7_init_148 (fun a16 r16 σ_42 H hq42 hr42 hrq42 hri42 g1 g2 g3 hN => ?_)
  have hB42 : mm_B σ_42 (mm_rdu (mm_rdu (mm_rdu (mm_rdu (mm_rdu (mm_rdu (mm_rdu (mm_rdu (mm_rdu (mm_rdu (mm_rdu (mm_rdu (mm_rdu (mm_rdu (mm_rdu (mm_rdu (fun _ _ => x) 1 a1 (fun _ => 0)) 2 a2 (fun _ => 0)) 3 a3 (fun _ => 0)) 4 a4 (fun _ => 0)) 5 a5 (fun _ => 0)) 6 a6 (fun _ => 0)) 7 a7 r7) 8 a8 r8) 9 a9 r9) 10 a10 (fun _ => 0)) 11 a11 (fun _ => 0)) 12 a12 (fun _ => 0)) 13 a13 (fun _ => 0)) 14 a14 r14) 15 a15 r15) 16 a16 r16) (16 :: (15 :: (14 :: (13 :: (12 :: (11 :: (10 :: (9 :: (8 :: (7 :: (6 :: (5 :: (4 :: (3 :: (2 :: (1 :: [])))))))))))))))) := mm_B_new2 hB41 (k := 16) rfl (by decide) hq42 hr42 hrq42 hri42 g1 g2 g3
  have px42 : σ_42 x = mm_obj 1 7 [.ref a1, .ref a2, .ref a3, .int (nI 0), .ref a4, .ref a5, .ref a6, .int (nI 0), .ref a7, .ref a8, .ref a9, .ref a10, .ref a11, .int (nI 0), .int (nI 0), .ref a12, .int (nI 3), .ref a13, .ref a14, .ref a15, .null, .null, .null, .null, .int (nI 0), .int (nI 0)] := (g3 x (fun e => by have h9 := px41; rw [e, hq42] at h9; cases h9) (fun j hj e => by have h9 := px41; rw [e, hr42 j hj] at h9; cases h9)).trans px41
  have hF42 : mm_Fr 1 σ σ_42 := (hF41).tr (fun z q9 e9 _ hz => (g3 z (fun e => by rw [e, hq42] at hz; cases hz) (fun j hj e => by rw [e, hr42 j hj] at hz; cases hz)).trans hz)
  refine mm_putF (pc := 152) F hN (px42) (ci := 7) rfl 20 (by decide) mw_1199 rfl hin rfl (ty := (.array (.array .int))) (by decide +kernel) (rfl) (rfl) (Nat.le_of_ble_eq_true rfl) dX7_init_152 (fun H locs hN => ?_)
  have hN : mm_N b D s (mm_u σ_42 x (mm_obj 1 7 [.ref a1, .ref a2, .ref a3, .int (nI 0), .ref a4, .ref a5, .ref a6, .int (nI 0), .ref a7, .ref a8, .ref a9, .ref a10, .ref a11, .int (nI 0), .int (nI 0), .ref a12, .int (nI 3), .ref a13, .ref a14, .ref a15, .ref a16, .null, .null, .null, .int (nI 0), .int (nI 0)])) _ _ := hN
  obtain ⟨σ_43, es43⟩ : ∃ z, z = mm_u σ_42 x (mm_obj 1 7 [.ref a1, .ref a2, .ref a3, .int (nI 0), .ref a4, .ref a5, .ref a6, .int (nI 0), .ref a7, .ref a8, .ref a9, .ref a10, .ref a11, .int (nI 0), .int (nI 0), .ref a12, .int (nI 3), .ref a13, .ref a14, .ref a15, .ref a16, .null, .null, .null, .int (nI 0), .int (nI 0)]) := ⟨_, rfl⟩
  rw [← es43] at hN
  have hB43 : mm_B σ_43 (mm_rdu (mm_rdu (mm_rdu (mm_rdu (mm_rdu (mm_rdu (mm_rdu (mm_rdu (mm_rdu (mm_rdu (mm_rdu (mm_rdu (mm_rdu (mm_rdu (mm_rdu (mm_rdu (fun _ _ => x) 1 a1 (fun _ => 0)) 2 a2 (fun _ => 0)) 3 a3 (fun _ => 0)) 4 a4 (fun _ => 0)) 5 a5 (fun _ => 0)) 6 a6 (fun _ => 0)) 7 a7 r7) 8 a8 r8) 9 a9 r9) 10 a10 (fun _ => 0)) 11 a11 (fun _ => 0)) 12 a12 (fun _ => 0)) 13 a13 (fun _ => 0)) 14 a14 r14) 15 a15 r15) 16 a16 r16) (16 :: (15 :: (14 :: (13 :: (12 :: (11 :: (10 :: (9 :: (8 :: (7 :: (6 :: (5 :: (4 :: (3 :: (2 :: (1 :: [])))))))))))))))) := by rw [es43]; exact mm_B_put hB42 px42
  have px43 : σ_43 x = mm_obj 1 7 [.ref a1, .ref a2, .ref a3, .int (nI 0), .ref a4, .ref a5, .ref a6, .int (nI 0), .ref a7, .ref a8, .ref a9, .ref a10, .ref a11, .int (nI 0), .int (nI 0), .ref a12, .int (nI 3), .ref a13, .ref a14, .ref a15, .ref a16, .null, .null, .null, .int (nI 0), .int (nI 0)] := by rw [es43]; exact mm_u_eq
  have hF43 : mm_Fr 1 σ σ_43 := by rw [es43]; exact (hF42).tr (mm_Fr.u px42)
  refine lv_aload_n (pc := 155) F.1 F.2.1 dX7_init_155 rfl (lv_at hl 0 rfl) ?_
  refine lv_bipush (pc := 156) (v := nI 10) F.1 F.2.1 dX7_init_156 (by decide) ?_
  refine lv_bipush (pc := 158) (v := nI 24) F.1 F.2.1 dX7_init_158 (by decide) ?_
  refine mm_mna (pc := 160) F hN 5 0 10 24 (ty := .int) (z := (24, .inl (fun _ => 0))) hJ.1 mw_1173 mw_594 rfl rfl (fun C h => by cases h) (by decide) (by decide) (by decide) rfl rfl (fun c => rfl) (Nat.le_of_ble_eq_true rfl) (Nat.le_of_ble_eq_true rfl) dX7_init_160 (fun a17 r17 σ_44 H hq44 hr44 hrq44 hri44 g1 g2 g3 hN => ?_)
  have hB44 : mm_B σ_44 (mm_rdu (mm_rdu (mm_rdu (mm_rdu (mm_rdu (mm_rdu (mm_rdu (mm_rdu (mm_rdu (mm_rdu (mm_rdu (mm_rdu (mm_rdu (mm_rdu (mm_rdu (mm_rdu (mm_rdu (fun _ _ => x) 1 a1 (fun _ => 0)) 2 a2 (fun _ => 0)) 3 a3 (fun _ => 0)) 4 a4 (fun _ => 0)) 5 a5 (fun _ => 0)) 6 a6 (fun _ => 0)) 7 a7 r7) 8 a8 r8) 9 a9 r9) 10 a10 (fun _ => 0)) 11 a11 (fun _ => 0)) 12 a12 (fun _ => 0)) 13 a13 (fun _ => 0)) 14 a14 r14) 15 a15 r15) 16 a16 r16) 17 a17 r17) (17 :: (16 :: (15 :: (14 :: (13 :: (12 :: (11 :: (10 :: (9 :: (8 :: (7 :: (6 :: (5 :: (4 :: (3 :: (2 :: (1 :: []))))))))))))))))) := mm_B_new2 hB43 (k := 17) rfl (by decide) hq44 hr44 hrq44 hri44 g1 g2 g3
  have px44 : σ_44 x = mm_obj 1 7 [.ref a1, .ref a2, .ref a3, .int (nI 0), .ref a4, .ref a5, .ref a6, .int (nI 0), .ref a7, .ref a8, .ref a9, .ref a10, .ref a11, .int (nI 0), .int (nI 0), .ref a12, .int (nI 3), .ref a13, .ref a14, .ref a15, .ref a16, .null, .null, .null, .int (nI 0), .int (nI 0)] := (g3 x (fun e => by have h9 := px43; rw [e, hq44] at h9; cases h9) (fun j hj e => by have h9 := px43; rw [e, hr44 j hj] at h9; cases h9)).trans px43
  have hF44 : mm_Fr 1 σ σ_44 := (hF43).tr (fun z q9 e9 _ hz => (g3 z (fun e => by rw [e, hq44] at hz; cases hz) (fun j hj e => by rw [e, hr44 j hj] at hz; cases hz)).trans hz)
  refine mm_putF (pc := 164) F hN (px44) (ci := 7) rfl 21 (by decide) mw_1200 rfl hin rfl (ty := (.array (.array .int))) (by decide +kernel) (rfl) (rfl) (Nat.le_of_ble_eq_true rfl) dX7_init_164 (fun H locs hN => ?_)
  have hN : mm_N b D s (mm_u σ_44 x (mm_obj 1 7 [.ref a1, .ref a2, .ref a3, .int (nI 0), .ref a4, .ref a5, .ref a6, .int (nI 0), .ref a7, .ref a8, .ref a9, .ref a10, .ref a11, .int (nI 0), .int (nI 0), .ref a12, .int (nI 3), .ref a13, .ref a14, .ref a15, .ref a16, .ref a17, .null, .null, .int (nI 0), .int (nI 0)])) _ _ := hN
  obtain ⟨σ_45, es45⟩ : ∃ z, z = mm_u σ_44 x (mm_obj 1 7 [.ref a1, .ref a2, .ref a3, .int (nI 0), .ref a4, .ref a5, .ref a6, .int (nI 0), .ref a7, .ref a8, .ref a9, .ref a10, .ref a11, .int (nI 0), .int (nI 0), .ref a12, .int (nI 3), .ref a13, .ref a14, .ref a15, .ref a16, .ref a17, .null, .null, .int (nI 0), .int (nI 0)]) := ⟨_, rfl⟩
  rw [← es45] at hN
  have hB45 : mm_B σ_45 (mm_rdu (mm_rdu (mm_rdu (mm_rdu (mm_rdu (mm_rdu (mm_rdu (mm_rdu (mm_rdu (mm_rdu (mm_rdu (mm_rdu (mm_rdu (mm_rdu (mm_rdu (mm_rdu (mm_rdu (fun _ _ => x) 1 a1 (fun _ => 0)) 2 a2 (fun _ => 0)) 3 a3 (fun _ => 0)) 4 a4 (fun _ => 0)) 5 a5 (fun _ => 0)) 6 a6 (fun _ => 0)) 7 a7 r7) 8 a8 r8) 9 a9 r9) 10 a10 (fun _ => 0)) 11 a11 (fun _ => 0)) 12 a12 (fun _ => 0)) 13 a13 (fun _ => 0)) 14 a14 r14) 15 a15 r15) 16 a16 r16) 17 a17 r17) (17 :: (16 :: (15 :: (14 :: (13 :: (12 :: (11 :: (10 :: (9 :: (8 :: (7 :: (6 :: (5 :: (4 :: (3 :: (2 :: (1 :: []))))))))))))))))) := by rw [es45]; exact mm_B_put hB44 px44
  have px45 : σ_45 x = mm_obj 1 7 [.ref a1, .ref a2, .ref a3, .int (nI 0), .ref a4, .ref a5, .ref a6, .int (nI 0), .ref a7, .ref a8, .ref a9, .ref a10, .ref a11, .int (nI 0), .int (nI 0), .ref a12, .int (nI 3), .ref a13, .ref a14, .ref a15, .ref a16, .ref a17, .null, .null, .int (nI 0), .int (nI 0)] := by rw [es45]; exact mm_u_eq
  have hF45 : mm_Fr 1 σ σ_45 := by rw [es45]; exact (hF44).tr (mm_Fr.u px44)
  refine lv_aload_n (pc := 167) F.1 F.2.1 dX7_init_167 rfl (lv_at hl 0 rfl) ?_
  refine lv_bipush (pc := 168) (v := nI 10) F.1 F.2.1 dX7_init_168 (by decide) ?_
  refine lv_bipush (pc := 170) (v := nI 24) F.1 F.2.1 dX7_init_170 (by decide) ?_
  refine mm_mna (pc := 172) F hN 5 0 10 24 (ty := .int) (z := (24, .inl (fun _ => 0))) hJ.1 mw_1173 mw_594 rfl rfl (fun C h => by cases h) (by decide) (by decide) (by decide) rfl rfl (fun c => rfl) (Nat.le_of_ble_eq_true rfl) (Nat.le_of_ble_eq_true rfl) dX7_init_172 (fun a18 r18 σ_46 H hq46 hr46 hrq46 hri46 g1 g2 g3 hN => ?_)
  have hB46 : mm_B σ_46 (mm_rdu (mm_rdu (mm_rdu (mm_rdu (mm_rdu (mm_rdu (mm_rdu (mm_rdu (mm_rdu (mm_rdu (mm_rdu (mm_rdu (mm_rdu (mm_rdu (mm_rdu (mm_rdu (mm_rdu (mm_rdu (fun _ _ => x) 1 a1 (fun _ => 0)) 2 a2 (fun _ => 0)) 3 a3 (fun _ => 0)) 4 a4 (fun _ => 0)) 5 a5 (fun _ => 0)) 6 a6 (fun _ => 0)) 7 a7 r7) 8 a8 r8) 9 a9 r9) 10 a10 (fun _ => 0)) 11 a11 (fun _ => 0)) 12 a12 (fun _ => 0)) 13 a13 (fun _ => 0)) 14 a14 r14) 15 a15 r15) 16 a16 r16) 17 a17 r17) 18 a18 r18) (18 :: (17 :: (16 :: (15 :: (14 :: (13 :: (12 :: (11 :: (10 :: (9 :: (8 :: (7 :: (6 :: (5 :: (4 :: (3 :: (2 :: (1 :: [])))))))))))))))))) := mm_B_new2 hB45 (k := 18) rfl (by decide) hq46 hr46 hrq46 hri46 g1 g2 g3
  have px46 : σ_46 x = mm_obj 1 7 [.ref a1, .ref a2, .ref a3, .int (nI 0), .ref a4, .ref a5, .ref a6, .int (nI 0), .ref a7, .ref a8, .ref a9, .ref a10, .ref a11, .int (nI 0), .int (nI 0), .ref a12, .int (nI 3), .ref a13, .ref a14, .ref a15, .ref a16, .ref a17, .null, .null, .int (nI 0), .int (nI 0)] := (g3 x (fun e => by have h9 := px45; rw [e, hq46] at h9; cases h9) (fun j hj e => by have h9 := px45; rw [e, hr46 j hj] at h9; cases h9)).trans px45
  have hF46 : mm_Fr 1 σ σ_46 := (hF45).tr (fun z q9 e9 _ hz => (g3 z (fun e => by rw [e, hq46] at hz; cases hz) (fun j hj e => by rw [e, hr46 j hj] at hz; cases hz)).trans hz)
  refine mm_putF (pc := 176) F hN (px46) (ci := 7) rfl 22 (by decide) mw_1201 rfl hin rfl (ty := (.array (.array .int))) (by decide +kernel) (rfl) (rfl) (Nat.le_of_ble_eq_true rfl) dX7_init_176 (fun H locs hN => ?_)
  have hN : mm_N b D s (mm_u σ_46 x (mm_obj 1 7 [.ref a1, .ref a2, .ref a3, .int (nI 0), .ref a4, .ref a5, .ref a6, .int (nI 0), .ref a7, .ref a8, .ref a9, .ref a10, .ref a11, .int (nI 0), .int (nI 0), .ref a12, .int (nI 3), .ref a13, .ref a14, .ref a15, .ref a16, .ref a17, .ref a18, .null, .int (nI 0), .int (nI 0)])) _ _ := hN
  obtain ⟨σ_47, es47⟩ : ∃ z, z = mm_u σ_46 x (mm_obj 1 7 [.ref a1, .ref a2, .ref a3, .int (nI 0), .ref a4, .ref a5, .ref a6, .int (nI 0), .ref a7, .ref a8, .ref a9, .ref a10, .ref a11, .int (nI 0), .int (nI 0), .ref a12, .int (nI 3), .ref a13, .ref a14, .ref a15, .ref a16, .ref a17, .ref a18, .null, .int (nI 0), .int (nI 0)]) := ⟨_, rfl⟩
  rw [← es47] at hN
  have hB47 : mm_B σ_47 (mm_rdu (mm_rdu (mm_rdu (mm_rdu (mm_rdu (mm_rdu (mm_rdu (mm_rdu (mm_rdu (mm_rdu (mm_rdu (mm_rdu (mm_rdu (mm_rdu (mm_rdu (mm_rdu (mm_rdu (mm_rdu (fun _ _ => x) 1 a1 (fun _ => 0)) 2 a2 (fun _ => 0)) 3 a3 (fun _ => 0)) 4 a4 (fun _ => 0)) 5 a5 (fun _ => 0)) 6 a6 (fun _ => 0)) 7 a7 r7) 8 a8 r8) 9 a9 r9) 10 a10 (fun _ => 0)) 11 a11 (fun _ => 0)) 12 a12 (fun _ => 0)) 13 a13 (fun _ => 0)) 14 a14 r14) 15 a15 r15) 16 a16 r16) 17 a17 r17) 18 a18 r18) (18 :: (17 :: (16 :: (15 :: (14 :: (13 :: (12 :: (11 :: (10 :: (9 :: (8 :: (7 :: (6 :: (5 :: (4 :: (3 :: (2 :: (1 :: [])))))))))))))))))) := by rw [es47]; exact mm_B_put hB46 px46
  have px47 : σ_47 x = mm_obj 1 7 [.ref a1, .ref a2, .ref a3, .int (nI 0), .ref a4, .ref a5, .ref a6, .int (nI 0), .ref a7, .ref a8, .ref a9, .ref a10, .ref a11, .int (nI 0), .int (nI 0), .ref a12, .int (nI 3), .ref a13, .ref a14, .ref a15, .ref a16, .ref a17, .ref a18, .null, .int (nI 0), .int (nI 0)] := by rw [es47]; exact mm_u_eq
  have hF47 : mm_Fr 1 σ σ_47 := by rw [es47]; exact (hF46).tr (mm_Fr.u px46)
  refine lv_aload_n (pc := 179) F.1 F.2.1 dX7_init_179 rfl (lv_at hl 0 rfl) ?_
  refine lv_bipush (pc := 180) (v := nI 10) F.1 F.2.1 dX7_init_180 (by decide) ?_
  refine lv_bipush (pc := 182) (v := nI 24) F.1 F.2.1 dX7_init_182 (by decide) ?_
  refine mm_mna (pc := 184) F hN 7 4 10 24 (ty := .boolean) (z := (24, .inl (fun _ => 0))) hJ.2.2 mw_1177 mw_1258 rfl rfl (fun C h => by cases h) (by decide) (by decide) (by decide) rfl rfl (fun c => rfl) (Nat.le_of_ble_eq_true rfl) (Nat.le_of_ble_eq_true rfl) dX7_init_184 (fun a19 r19 σ_48 H hq48 hr48 hrq48 hri48 g1 g2 g3 hN => ?_)
  have hB48 : mm_B σ_48 (mm_rdu (mm_rdu (mm_rdu (mm_rdu (mm_rdu (mm_rdu (mm_rdu (mm_rdu (mm_rdu (mm_rdu (mm_rdu (mm_rdu (mm_rdu (mm_rdu (mm_rdu (mm_rdu (mm_rdu (mm_rdu (mm_rdu (fun _ _ => x) 1 a1 (fun _ => 0)) 2 a2 (fun _ => 0)) 3 a3 (fun _ => 0)) 4 a4 (fun _ => 0)) 5 a5 (fun _ => 0)) 6 a6 (fun _ => 0)) 7 a7 r7) 8 a8 r8) 9 a9 r9) 10 a10 (fun _ => 0)) 11 a11 (fun _ => 0)) 12 a12 (fun _ => 0)) 13 a13 (fun _ => 0)) 14 a14 r14) 15 a15 r15) 16 a16 r16) 17 a17 r17) 18 a18 r18) 19 a19 r19) (19 :: (18 :: (17 :: (16 :: (15 :: (14 :: (13 :: (12 :: (11 :: (10 :: (9 :: (8 :: (7 :: (6 :: (5 :: (4 :: (3 :: (2 :: (1 :: []))))))))))))))))))) := mm_B_new2 hB47 (k := 19) rfl (by decide) hq48 hr48 hrq48 hri48 g1 g2 g3
  have px48 : σ_48 x = mm_obj 1 7 [.ref a1, .ref a2, .ref a3, .int (nI 0), .ref a4, .ref a5, .ref a6, .int (nI 0), .ref a7, .ref a8, .ref a9, .ref a10, .ref a11, .int (nI 0), .int (nI 0), .ref a12, .int (nI 3), .ref a13, .ref a14, .ref a15, .ref a16, .ref a17, .ref a18, .null, .int (nI 0), .int (nI 0)] := (g3 x (fun e => by have h9 := px47; rw [e, hq48] at h9; cases h9) (fun j hj e => by have h9 := px47; rw [e, hr48 j hj] at h9; cases h9)).trans px47
  have hF48 : mm_Fr 1 σ σ_48 := (hF47).tr (fun z q9 e9 _ hz => (g3 z (fun e => by rw [e, hq48] at hz; cases hz) (fun j hj e => by rw [e, hr48 j hj] at hz; cases hz)).trans hz)
  refine mm_putF (pc := 188) F hN (px48) (ci := 7) rfl 23 (by decide) mw_1202 rfl hin rfl (ty := (.array (.array .boolean))) (by decide +kernel) (rfl) (rfl) (Nat.le_of_ble_eq_true rfl) dX7_init_188 (fun H locs hN => ?_)
  have hN : mm_N b D s (mm_u σ_48 x (mm_obj 1 7 [.ref a1, .ref a2, .ref a3, .int (nI 0), .ref a4, .ref a5, .ref a6, .int (nI 0), .ref a7, .ref a8, .ref a9, .ref a10, .ref a11, .int (nI 0), .int (nI 0), .ref a12, .int (nI 3), .ref a13, .ref a14, .ref a15, .ref a16, .ref a17, .ref a18, .ref a19, .int (nI 0), .int (nI 0)])) _ _ := hN
  obtain ⟨σ_49, es49⟩ : ∃ z, z = mm_u σ_48 x (mm_obj 1 7 [.ref a1, .ref a2, .ref a3, .int (nI 0), .ref a4, .ref a5, .ref a6, .int (nI 0), .ref a7, .ref a8, .ref a9, .ref a10, .ref a11, .int (nI 0), .int (nI 0), .ref a12, .int (nI 3), .ref a13, .ref a14, .ref a15, .ref a16, .ref a17, .ref a18, .ref a19, .int (nI 0), .int (nI 0)]) := ⟨_, rfl⟩
  rw [← es49] at hN
  have hB49 : mm_B σ_49 (mm_rdu (mm_rdu (mm_rdu (mm_rdu (mm_rdu (mm_rdu (mm_rdu (mm_rdu (mm_rdu (mm_rdu (mm_rdu (mm_rdu (mm_rdu (mm_rdu (mm_rdu (mm_rdu (mm_rdu (mm_rdu (mm_rdu (fun _ _ => x) 1 a1 (fun _ => 0)) 2 a2 (fun _ => 0)) 3 a3 (fun _ => 0)) 4 a4 (fun _ => 0)) 5 a5 (fun _ => 0)) 6 a6 (fun _ => 0)) 7 a7 r7) 8 a8 r8) 9 a9 r9) 10 a10 (fun _ => 0)) 11 a11 (fun _ => 0)) 12 a12 (fun _ => 0)) 13 a13 (fun _ => 0)) 14 a14 r14) 15 a15 r15) 16 a16 r16) 17 a17 r17) 18 a18 r18) 19 a19 r19) (19 :: (18 :: (17 :: (16 :: (15 :: (14 :: (13 :: (12 :: (11 :: (10 :: (9 :: (8 :: (7 :: (6 :: (5 :: (4 :: (3 :: (2 :: (1 :: []))))))))))))))))))) := by rw [es49]; exact mm_B_put hB48 px48
  have px49 : σ_49 x = mm_obj 1 7 [.ref a1, .ref a2, .ref a3, .int (nI 0), .ref a4, .ref a5, .ref a6, .int (nI 0), .ref a7, .ref a8, .ref a9, .ref a10, .ref a11, .int (nI 0), .int (nI 0), .ref a12, .int (nI 3), .ref a13, .ref a14, .ref a15, .ref a16, .ref a17, .ref a18, .ref a19, .int (nI 0), .int (nI 0)] := by rw [es49]; exact mm_u_eq
  have hF49 : mm_Fr 1 σ σ_49 := by rw [es49]; exact (hF48).tr (mm_Fr.u px48)
  have hL : ∀ k, mm_dm k ≠ 0 → k ∈ (19 :: (18 :: (17 :: (16 :: (15 :: (14 :: (13 :: (12 :: (11 :: (10 :: (9 :: (8 :: (7 :: (6 :: (5 :: (4 :: (3 :: (2 :: (1 :: []))))))))))))))))))) := fun k hk => by
    match k, hk with
    | 1, _ => exact (by decide)
    | 2, _ => exact (by decide)
    | 3, _ => exact (by decide)
    | 4, _ => exact (by decide)
    | 5, _ => exact (by decide)
    | 6, _ => exact (by decide)
    | 7, _ => exact (by decide)
    | 8, _ => exact (by decide)
    | 9, _ => exact (by decide)
    | 10, _ => exact (by decide)
    | 11, _ => exact (by decide)
    | 12, _ => exact (by decide)
    | 13, _ => exact (by decide)
    | 14, _ => exact (by decide)
    | 15, _ => exact (by decide)
    | 16, _ => exact (by decide)
    | 17, _ => exact (by decide)
    | 18, _ => exact (by decide)
    | 19, _ => exact (by decide)
    | 0, hk => exact absurd rfl hk
    | k + 20, hk => exact absurd rfl hk
  exact mm_vret (pc := 191) F hr hN (⟨rfl, (mm_rdu (mm_rdu (mm_rdu (mm_rdu (mm_rdu (mm_rdu (mm_rdu (mm_rdu (mm_rdu (mm_rdu (mm_rdu (mm_rdu (mm_rdu (mm_rdu (mm_rdu (mm_rdu (mm_rdu (mm_rdu (mm_rdu (fun _ _ => x) 1 a1 (fun _ => 0)) 2 a2 (fun _ => 0)) 3 a3 (fun _ => 0)) 4 a4 (fun _ => 0)) 5 a5 (fun _ => 0)) 6 a6 (fun _ => 0)) 7 a7 r7) 8 a8 r8) 9 a9 r9) 10 a10 (fun _ => 0)) 11 a11 (fun _ => 0)) 12 a12 (fun _ => 0)) 13 a13 (fun _ => 0)) 14 a14 r14) 15 a15 r15) 16 a16 r16) 17 a17 r17) 18 a18 r18) 19 a19 r19), mm_B_M hB49 (x := x) rfl px49 hL, rfl, hF49⟩) (Nat.le_of_ble_eq_true rfl) (Nat.le_of_ble_eq_true rfl) dX7_init_191
