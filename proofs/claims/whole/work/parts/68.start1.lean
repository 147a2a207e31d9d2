set_option maxHeartbeats 4000000 in
set_option maxRecDepth 100000 in
theorem law_go {p : Program} {l : Launch} {e : Env} {s : State} {m : MethodId} {args : Array Value} {below : List Frame} {meth : Method} {c : Code} {Q : State → Prop} {D : mm_D} {sb L : Nat} {xs : Nat → Int32} {ls : Array Slot}
    (F : mm_F p l s m args meth c s.heap.size D RL cL_law 9) (hJ : mm_J s) (hXs : va_X sb L xs s s.heap) (hbl : sb < s.heap.size) (hL : L ≤ 2560) (hl : lv_has ls 9 [(0, .ref sb)])
    (hend : ∀ (σ : mm_S) (ls : Array Slot) (H : Heap) (locs : List Loc) (cells slots : Nat), mm_N s.heap.size D s σ H locs → cells ≤ 603072 → slots ≤ 7215210 → W p l e room_1 s m args below meth c H locs cells slots Q (F0 m 2224 ls [.int (nI 1)])) :
    W p l e room_1 s m args below meth c s.heap [] 0 0 Q (F0 m 0 ls []) := by
  obtain ⟨b, hb⟩ : ∃ b, b = s.heap.size := ⟨_, rfl⟩
  have hbb : sb < b := by rw [hb]; exact hbl
  have hN : mm_N b D s (fun _ => none) s.heap [] := ⟨⟨Nat.le_of_eq hb, fun _ => none, fun a o e he => by cases he⟩, va_S.rf⟩
  rw [← hb] at F hend
  have hst := F.2.2.2.2.2.2.2.1
  obtain ⟨ns, hns, rfl⟩ : ∃ ns : Nat → Nat, (∀ j, ns j < 2 ^ 32) ∧ xs = fun j => nI (ns j) := ⟨fun j => (xs j).toUInt32.toNat, fun j => (xs j).toUInt32.toNat_lt, funext fun j => by show xs j = ⟨UInt32.ofNat (xs j).toUInt32.toNat⟩; rw [UInt32.ofNat_toNat]⟩
  refine mm_new (pc := 0) F hN 0 (ci := 6) (fs := [.null, .null, .null, .null, .null, .null, .null, .int (nI 0)]) rfl tyX6 tyX6_ok (fun j9 h9 => by rcases (show j9 = 0 ∨ j9 = 1 ∨ j9 = 2 ∨ j9 = 3 ∨ j9 = 4 ∨ j9 = 5 ∨ j9 = 6 ∨ j9 = 7 by omega) with rfl | rfl | rfl | rfl | rfl | rfl | rfl | rfl <;> rfl) mw_34 mw_35 mw_1 (Nat.le_of_ble_eq_true rfl) (Nat.le_of_ble_eq_true rfl) dL_law_0 (fun q1 H hq1 hN => ?_)
  have hN : mm_N b D s (mm_u ((fun _ => none)) q1 (mm_obj 0 6 [.null, .null, .null, .null, .null, .null, .null, .int (nI 0)])) _ _ := hN
  obtain ⟨σ2, eσ2⟩ : ∃ z, z = mm_u ((fun _ => none)) q1 (mm_obj 0 6 [.null, .null, .null, .null, .null, .null, .null, .int (nI 0)]) := ⟨_, rfl⟩
  rw [← eσ2] at hN
  have hσ2 : σ2 q1 = mm_obj 0 6 [.null, .null, .null, .null, .null, .null, .null, .int (nI 0)] := by rw [eσ2]; exact mm_u_eq
  refine lv_dup (pc := 3) F.1 F.2.1 dL_law_3 rfl ?_
  refine mm_runI (pc := 4) (As := []) (rest := [.ref q1]) F hN (c_new l b D hst q1 σ2 hσ2) rfl mw_36 mw_37 mw_1 mw_38 ⟨pmX6_init, (Nat.le_of_ble_eq_true rfl), (Nat.le_of_ble_eq_true rfl)⟩ hl.1 rfl (Nat.le_of_ble_eq_true rfl) ⟨(Nat.le_of_ble_eq_true rfl), (Nat.le_of_ble_eq_true rfl)⟩ dL_law_4
    (fun _ _ _ _ _ _ h9 => False.elim h9)
    (fun v9 σ3 H locs hp9 hN => ?_)
  obtain ⟨rfl, ad, hX, hx, hF0⟩ := hp9
  refine W.eq (g2 := F0 m 7 ls [.ref q1]) rfl ?_
  refine W.widen (k := 8) (n := 29) (Nat.le_of_ble_eq_true rfl) (Nat.le_of_ble_eq_true rfl) ?_
  refine lv_astore_n (pc := 7) (lv' := [(1, .ref q1), (0, .ref sb)]) F.1 F.2.1 dL_law_7 rfl hl (by decide) rfl (fun ls hl => ?_)
  refine mm_new (pc := 8) F hN 1 (ci := 7) (fs := [.null, .null, .null, .int (nI 0), .null, .null, .null, .int (nI 0), .null, .null, .null, .null, .null, .int (nI 0), .int (nI 0), .null, .int (nI 0), .null, .null, .null, .null, .null, .null, .null, .int (nI 0), .int (nI 0)]) rfl tyX7 tyX7_ok (fun j9 h9 => by rcases (show j9 = 0 ∨ j9 = 1 ∨ j9 = 2 ∨ j9 = 3 ∨ j9 = 4 ∨ j9 = 5 ∨ j9 = 6 ∨ j9 = 7 ∨ j9 = 8 ∨ j9 = 9 ∨ j9 = 10 ∨ j9 = 11 ∨ j9 = 12 ∨ j9 = 13 ∨ j9 = 14 ∨ j9 = 15 ∨ j9 = 16 ∨ j9 = 17 ∨ j9 = 18 ∨ j9 = 19 ∨ j9 = 20 ∨ j9 = 21 ∨ j9 = 22 ∨ j9 = 23 ∨ j9 = 24 ∨ j9 = 25 by omega) with rfl | rfl | rfl | rfl | rfl | rfl | rfl | rfl | rfl | rfl | rfl | rfl | rfl | rfl | rfl | rfl | rfl | rfl | rfl | rfl | rfl | rfl | rfl | rfl | rfl | rfl <;> rfl) mw_1167 mw_1168 mw_6 (Nat.le_of_ble_eq_true rfl) (Nat.le_of_ble_eq_true rfl) dL_law_8 (fun q3 H hq3 hN => ?_)
  have hN : mm_N b D s (mm_u σ3 q3 (mm_obj 1 7 [.null, .null, .null, .int (nI 0), .null, .null, .null, .int (nI 0), .null, .null, .null, .null, .null, .int (nI 0), .int (nI 0), .null, .int (nI 0), .null, .null, .null, .null, .null, .null, .null, .int (nI 0), .int (nI 0)])) _ _ := hN
  obtain ⟨σ5, eσ5⟩ : ∃ z9, z9 = mm_u σ3 q3 (mm_obj 1 7 [.null, .null, .null, .int (nI 0), .null, .null, .null, .int (nI 0), .null, .null, .null, .null, .null, .int (nI 0), .int (nI 0), .null, .int (nI 0), .null, .null, .null, .null, .null, .null, .null, .int (nI 0), .int (nI 0)]) := ⟨_, rfl⟩
  rw [← eσ5] at hN
  have hm5 : σ5 q3 = mm_obj 1 7 [.null, .null, .null, .int (nI 0), .null, .null, .null, .int (nI 0), .null, .null, .null, .null, .null, .int (nI 0), .int (nI 0), .null, .int (nI 0), .null, .null, .null, .null, .null, .null, .null, .int (nI 0), .int (nI 0)] := by rw [eσ5]; exact mm_u_eq
  have hX5 : mm_X σ5 mm_T0 (fun _ _ => 0) ad := mm_X_kept hX (fun a9 e9 he => by rw [eσ5, mm_u_ne (fun z9 => by rw [z9, hq3] at he; cases he)]; exact he)
  refine lv_dup (pc := 11) F.1 F.2.1 dL_law_11 rfl ?_
  refine mm_runIM (pc := 12) (As := []) (rest := [.ref q3]) F hN hJ (c_newM l b D hst q3 σ5 hm5) rfl mw_1169 mw_1170 mw_6 mw_1171 ⟨pmX7_init, (Nat.le_of_ble_eq_true rfl), (Nat.le_of_ble_eq_true rfl)⟩ hl.1 rfl (Nat.le_of_ble_eq_true rfl) ⟨(Nat.le_of_ble_eq_true rfl), (Nat.le_of_ble_eq_true rfl)⟩ dL_law_12
    (fun _ _ _ _ _ _ h9 => False.elim h9) (fun v9 σ6 H locs hp9 hN => ?_)
  obtain ⟨rfl, rd, hM, hm, hF1⟩ := hp9
  have hX6 : mm_X σ6 mm_T0 (fun _ _ => 0) ad := mm_X_kept hX5 (fun a9 e9 he => hF1 a9 0 e9 (by decide) he)
  refine W.eq (g2 := F0 m 15 ls [.ref q3]) rfl ?_
  refine W.widen (k := 100) (n := 1791) (Nat.le_of_ble_eq_true rfl) (Nat.le_of_ble_eq_true rfl) ?_
  refine lv_astore_n (pc := 15) (lv' := [(2, .ref q3), (1, .ref q1), (0, .ref sb)]) F.1 F.2.1 dL_law_15 rfl hl (by decide) rfl (fun ls hl => ?_)
  refine lv_iconst (pc := 16) (v := nI 1) F.1 F.2.1 dL_law_16 (by decide) ?_
  refine mm_newa (pc := 17) F hN 2 1 (1) (x := (1, .inr (.inl (fun _ => 0)))) (atype := .long) rfl (by omega) mw_1449 rfl (by intro C h; cases h) (by decide) (rfl) ((Nat.le_of_ble_eq_true rfl)) ((Nat.le_of_ble_eq_true rfl)) dL_law_17 (fun q4 H hq4 hN => ?_)
  have hN : mm_N b D s (mm_u σ6 q4 (mm_arr 2 1 (1, .inr (.inl (fun _ => 0))))) _ _ := hN
  obtain ⟨σ7, eσ7⟩ : ∃ z9, z9 = mm_u σ6 q4 (mm_arr 2 1 (1, .inr (.inl (fun _ => 0)))) := ⟨_, rfl⟩
  rw [← eσ7] at hN
  have ho7 : σ7 q4 = mm_arj 2 1 1 (fun _ => 0) := by rw [eσ7]; exact mm_u_eq
  have kp7 : ∀ a9 z8, σ6 a9 = some z8 → σ7 a9 = some z8 := fun a9 z8 he => by rw [eσ7, mm_u_ne (fun z9 => by rw [z9, hq4] at he; cases he)]; exact he
  refine lv_astore_n (pc := 19) (lv' := [(3, .ref q4), (2, .ref q3), (1, .ref q1), (0, .ref sb)]) F.1 F.2.1 dL_law_19 rfl hl (by decide) rfl (fun ls hl => ?_)
  refine lv_iconst (pc := 20) (v := nI 1) F.1 F.2.1 dL_law_20 (by decide) ?_
  refine mm_newa (pc := 21) F hN 2 2 (1) (x := (1, .inr (.inr (.inr (.inl (fun _ => 0)))))) (atype := .double) rfl (by omega) mw_1450 rfl (by intro C h; cases h) (by decide) (rfl) ((Nat.le_of_ble_eq_true rfl)) ((Nat.le_of_ble_eq_true rfl)) dL_law_21 (fun q5 H hq5 hN => ?_)
  have hN : mm_N b D s (mm_u σ7 q5 (mm_arr 2 2 (1, .inr (.inr (.inr (.inl (fun _ => 0))))))) _ _ := hN
  obtain ⟨σ8, eσ8⟩ : ∃ z9, z9 = mm_u σ7 q5 (mm_arr 2 2 (1, .inr (.inr (.inr (.inl (fun _ => 0)))))) := ⟨_, rfl⟩
  rw [← eσ8] at hN
  have hd8 : σ8 q5 = mm_ard 2 2 1 (fun _ => 0) := by rw [eσ8]; exact mm_u_eq
  have kp8 : ∀ a9 z8, σ7 a9 = some z8 → σ8 a9 = some z8 := fun a9 z8 he => by rw [eσ8, mm_u_ne (fun z9 => by rw [z9, hq5] at he; cases he)]; exact he
  have hod : q4 ≠ q5 := fun z9 => by rw [← z9, ho7] at hq5; cases hq5
  refine lv_astore (pc := 23) (lv' := [(4, .ref q5), (3, .ref q4), (2, .ref q3), (1, .ref q1), (0, .ref sb)]) F.1 F.2.1 dL_law_23 hl (by decide) rfl (fun ls hl => ?_)
  refine lv_iconst (pc := 25) (v := nI 0) F.1 F.2.1 dL_law_25 (by decide) ?_
  refine lv_istore (pc := 26) (lv' := [(5, .int (nI 0)), (4, .ref q5), (3, .ref q4), (2, .ref q3), (1, .ref q1), (0, .ref sb)]) F.1 F.2.1 dL_law_26 hl (by decide) rfl (fun ls hl => ?_)
  have hV : mm_V σ8 mm_T0 q1 q3 q4 q5 := ⟨⟨_, ad, mm_X_kept hX6 (fun a9 e9 he => kp8 _ _ (kp7 _ _ he)), hx⟩, ⟨0, rd, mm_M_kept1 hM (fun a9 e9 he => kp8 _ _ (kp7 _ _ he)), hm⟩, ⟨_, kp8 _ _ ho7⟩, ⟨_, hd8⟩, hod, mm_WF0⟩
  exact law_loop F hXs hbl hbb hL hns hend 512 0 mm_T0 σ8 ls H _ _ _ (Nat.zero_le _) (by omega) (Nat.le_of_ble_eq_true rfl) (Nat.le_of_ble_eq_true rfl) hN hV (lv_sub hl [0, 1, 2, 3, 4, 5] rfl)
