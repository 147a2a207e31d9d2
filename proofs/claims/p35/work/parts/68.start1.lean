set_option maxHeartbeats 4000000 in
set_option maxRecDepth 100000 in
theorem law_go {p : Program} {l : Launch} {e : Env} {s : State} {m : MethodId} {args : Array Value} {below : List Frame} {meth : Method} {c : Code} {Q : State → Prop} {D : mm_D} {ls : Array Slot}
    (F : mm_F p l s m args meth c s.heap.size D RL cL_law 20) (hl : lv_has ls 20 [(0, .ref (D.2.1 400))])
    (hfin : ∀ (σ : mm_S) (ls : Array Slot) (H : Heap) (locs : List Loc) (cells slots : Nat), mm_N s.heap.size D s σ H locs → cells ≤ 600312 → slots ≤ 7293410 → W p l e room_1 s m args below meth c H locs cells slots Q (F0 m 1655 ls [.int (nI 1)])) :
    W p l e room_1 s m args below meth c s.heap [] 0 0 Q (F0 m 0 ls []) := by
  obtain ⟨b, hb⟩ : ∃ b, b = s.heap.size := ⟨_, rfl⟩
  have hN : mm_N b D s (fun _ => none) s.heap [] := ⟨⟨Nat.le_of_eq hb, fun _ => none, fun a o e he => by cases he⟩, va_S.rf⟩
  rw [← hb] at F hfin
  have hst := F.2.2.2.2.2.2.2.1
  refine mm_new (pc := 0) F hN 0 (ci := 6) (fs := [.null, .null, .null, .null, .null, .null, .null, .int (nI 0)]) rfl tyX6 tyX6_ok (fun j9 h9 => by rcases (show j9 = 0 ∨ j9 = 1 ∨ j9 = 2 ∨ j9 = 3 ∨ j9 = 4 ∨ j9 = 5 ∨ j9 = 6 ∨ j9 = 7 by omega) with rfl | rfl | rfl | rfl | rfl | rfl | rfl | rfl <;> rfl) mw_34 mw_35 mw_1 (Nat.le_of_ble_eq_true rfl) (Nat.le_of_ble_eq_true rfl) dL_law_0 (fun q1 H hq1 hN => ?_)
  have hN : mm_N b D s (mm_u ((fun _ => none)) q1 (mm_obj 0 6 [.null, .null, .null, .null, .null, .null, .null, .int (nI 0)])) _ _ := hN
  obtain ⟨σ2, eσ2⟩ : ∃ z, z = mm_u ((fun _ => none)) q1 (mm_obj 0 6 [.null, .null, .null, .null, .null, .null, .null, .int (nI 0)]) := ⟨_, rfl⟩
  rw [← eσ2] at hN
  have hσ2 : σ2 q1 = mm_obj 0 6 [.null, .null, .null, .null, .null, .null, .null, .int (nI 0)] := by rw [eσ2]; exact mm_u_eq
  refine lv_dup (pc := 3) F.1 F.2.1 dL_law_3 rfl ?_
  refine mm_runI (pc := 4) (As := []) (rest := [.ref q1]) F hN (c_new l b D hst q1 σ2 hσ2) rfl mw_36 mw_37 mw_1 mw_38 ⟨pmX6_init, (Nat.le_of_ble_eq_true rfl), (Nat.le_of_ble_eq_true rfl)⟩ hl.1 rfl (Nat.le_of_ble_eq_true rfl) ⟨(Nat.le_of_ble_eq_true rfl), (Nat.le_of_ble_eq_true rfl)⟩ dL_law_4
    (fun _ _ _ _ _ _ h9 => False.elim h9)
    (fun v9 σ3 H locs hp9 hN => ?_)
  obtain ⟨rfl, ad, hX, hx, hF0⟩ := hp9
  refine W.eq (g2 := F0 m 7 ls [.ref q1]) rfl ?_
  refine W.widen (k := 8) (n := 29) (Nat.le_of_ble_eq_true rfl) (Nat.le_of_ble_eq_true rfl) ?_
  have hV : lq_V σ3 mm_T0 q1 := ⟨_, ad, hX, hx⟩
  refine lv_astore_n (pc := 7) (lv' := [(1, .ref q1), (0, .ref ((D.2.1 400)))]) F.1 F.2.1 dL_law_7 rfl hl (by decide) rfl (fun ls hl => ?_)
  refine lv_iconst (pc := 8) (v := nI 0) F.1 F.2.1 dL_law_8 (by decide) ?_
  refine lv_istore_n (pc := 9) (lv' := [(2, .int (nI 0)), (1, .ref q1), (0, .ref ((D.2.1 400)))]) F.1 F.2.1 dL_law_9 rfl hl (by decide) rfl (fun ls hl => ?_)
  refine lv_aload_n (pc := 10) F.1 F.2.1 dL_law_10 rfl (lv_at hl 2 rfl) ?_
  refine lv_iconst (pc := 11) (v := nI 0) F.1 F.2.1 dL_law_11 (by decide) ?_
  refine mm_runS (pc := 12) (As := [.ref ((D.2.1 400)), .int (nI 0)]) (rest := []) F hN (e_at l b D hst 0 (by decide) σ3) mw_110 mw_111 mw_0 mw_112 ⟨pmL_at, (Nat.le_of_ble_eq_true rfl), (Nat.le_of_ble_eq_true rfl)⟩ hl.1 rfl (Nat.le_of_ble_eq_true rfl) ⟨(Nat.le_of_ble_eq_true rfl), (Nat.le_of_ble_eq_true rfl)⟩ dL_law_12
    (fun _ _ _ _ _ _ h9 => False.elim h9) (fun v9 σ9 H locs hp9 hN => ?_)
  obtain ⟨⟨x9, rfl⟩, h9⟩ := hp9
  refine W.eq (g2 := F0 m 15 ls [.int x9]) rfl ?_
  refine W.widen (k := 8) (n := 29) (Nat.le_of_ble_eq_true rfl) (Nat.le_of_ble_eq_true rfl) ?_
  rw [h9] at hN
  refine lv_bipush (pc := 15) (v := nI 58) F.1 F.2.1 dL_law_15 (by decide) ?_
  refine mm_runS (pc := 17) (As := [.int x9, .int (nI 58)]) (rest := []) F hN (e_some l b D hst x9 58 (by decide) (by decide) σ3) mw_113 mw_114 mw_0 mw_115 ⟨pmL_some, (Nat.le_of_ble_eq_true rfl), (Nat.le_of_ble_eq_true rfl)⟩ hl.1 rfl (Nat.le_of_ble_eq_true rfl) ⟨(Nat.le_of_ble_eq_true rfl), (Nat.le_of_ble_eq_true rfl)⟩ dL_law_17
    (fun _ _ _ _ _ _ h9 => False.elim h9) (fun v9 σ9 H locs hp9 hN => ?_)
  obtain ⟨⟨st, hst8, rfl⟩, h9⟩ := hp9
  refine W.eq (g2 := F0 m 20 ls [.int (nI st)]) rfl ?_
  refine W.widen (k := 8) (n := 29) (Nat.le_of_ble_eq_true rfl) (Nat.le_of_ble_eq_true rfl) ?_
  rw [h9] at hN
  refine lv_istore_n (pc := 20) (lv' := [(3, .int (nI st)), (2, .int (nI 0)), (1, .ref q1), (0, .ref ((D.2.1 400)))]) F.1 F.2.1 dL_law_20 rfl hl (by decide) rfl (fun ls hl => ?_)
  refine lv_iconst (pc := 21) (v := nI 0) F.1 F.2.1 dL_law_21 (by decide) ?_
  refine lv_istore (pc := 22) (lv' := [(4, .int (nI 0)), (3, .int (nI st)), (2, .int (nI 0)), (1, .ref q1), (0, .ref ((D.2.1 400)))]) F.1 F.2.1 dL_law_22 hl (by decide) rfl (fun ls hl => ?_)
  exact W.widen (Nat.le_of_ble_eq_true rfl) (Nat.le_of_ble_eq_true rfl) (law_loop F hst8 (fun T σ ls H locs hV hW hI hN hl => law_end F hN hV hW hI hl hfin) 58 0 mm_T0 σ3 ls H locs (by omega) (Nat.zero_le _) hV mm_WF0 lq_I0 hN (lv_sub hl [4, 3, 2, 1, 0] rfl))
