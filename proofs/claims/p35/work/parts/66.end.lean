set_option maxHeartbeats 4000000 in
set_option maxRecDepth 100000 in
theorem law_end {p : Program} {l : Launch} {e : Env} {s : State} {m : MethodId} {args : Array Value} {below : List Frame} {meth : Method} {c : Code} {H : Heap} {locs : List Loc} {Q : State → Prop} {b : Nat} {D : mm_D} {σ : mm_S} {T : mm_T} {x0 : Nat} {ls : Array Slot}
    (F : mm_F p l s m args meth c b D RL cL_law 20) (hN : mm_N b D s σ H locs) (hV : lq_V σ T x0) (hW : mm_WF T) (hI : lq_I T) (hl : lv_has ls 20 [(1, .ref x0), (2, .int (nI T.nA))])
    (hfin : ∀ (σ : mm_S) (ls : Array Slot) (H : Heap) (locs : List Loc) (cells slots : Nat), mm_N b D s σ H locs → cells ≤ 600312 → slots ≤ 7293410 → W p l e room_1 s m args below meth c H locs cells slots Q (F0 m 1655 ls [.int (nI 1)])) : W p l e room_1 s m args below meth c H locs 540000 6500000 Q (F0 m 905 ls []) := by
  have hl : lv_has ls 20 [(1, .ref x0), (2, .int (nI T.nA))] := hl
  have wnA := hW.hnA
  have wnP := hW.hnP
  have wnT := hW.hnT
  have wnR := hW.hnR
  have wpa := hW.hpa
  have wen0 := hW.hen 0
  have wen1 := hW.hen 1
  have wbo := hW.hbo
  refine lv_aload_n (pc := 905) F.1 F.2.1 dL_law_905 rfl (lv_at hl 0 rfl) ?_
  refine mm_runS (pc := 906) (As := [.ref x0]) (rest := []) F hN (e_sound l b D F.2.2.2.2.2.2.2.1 T x0 σ hV hW hI) mw_1134 mw_1135 mw_0 mw_1136 ⟨pmL_isSound, (Nat.le_of_ble_eq_true rfl), (Nat.le_of_ble_eq_true rfl)⟩ hl.1 rfl (Nat.le_of_ble_eq_true rfl) ⟨(Nat.le_of_ble_eq_true rfl), (Nat.le_of_ble_eq_true rfl)⟩ dL_law_906
    (fun _ _ _ _ _ _ h9 => False.elim h9) (fun v9 σ1 H locs hp9 hN => ?_)
  obtain ⟨rfl, hx1⟩ := hp9
  refine W.eq (g2 := F0 m 909 ls [.int (nI 1)]) rfl ?_
  refine W.widen (k := 565000) (n := 6720000) (Nat.le_of_ble_eq_true rfl) (Nat.le_of_ble_eq_true rfl) ?_
  have hV1 := hx1.v
  refine mm_if_ne (pc := 909) F (tgt := 914) (by omega) dL_law_909 (by decide) (fun cz909 => ?_) (fun h9 => absurd h9 (by decide))
  refine lv_aload_n (pc := 914) F.1 F.2.1 dL_law_914 rfl (lv_at hl 0 rfl) ?_
  refine mm_runS (pc := 915) (As := [.ref x0]) (rest := []) F hN (e_sum l b D F.2.2.2.2.2.2.2.1 T x0 σ1 hV1 hW) mw_1108 mw_1109 mw_0 mw_1110 ⟨pmL_sum, (Nat.le_of_ble_eq_true rfl), (Nat.le_of_ble_eq_true rfl)⟩ hl.1 rfl (Nat.le_of_ble_eq_true rfl) ⟨(Nat.le_of_ble_eq_true rfl), (Nat.le_of_ble_eq_true rfl)⟩ dL_law_915
    (fun _ _ _ _ _ _ h9 => False.elim h9) (fun v9 σ2 H locs hp9 hN => ?_)
  obtain ⟨rfl, hx2⟩ := hp9
  refine W.eq (g2 := F0 m 918 ls [.long (lq_sum T)]) rfl ?_
  refine W.widen (k := 566400) (n := 6731000) (Nat.le_of_ble_eq_true rfl) (Nat.le_of_ble_eq_true rfl) ?_
  have hV2 := hx2.v
  refine lv_lstore (pc := 918) (lv' := [(4, .long (lq_sum T)), (1, .ref x0), (2, .int (nI T.nA))]) F.1 F.2.1 dL_law_918 hl (by decide) rfl (fun ls hl => ?_)
  refine lv_aload_n (pc := 920) F.1 F.2.1 dL_law_920 rfl (lv_at hl 1 rfl) ?_
  refine lv_iconst (pc := 921) (v := nI 0) F.1 F.2.1 dL_law_921 (by decide) ?_
  refine mm_runS (pc := 922) (As := [.ref x0, .int (nI 0)]) (rest := []) F hN (e_many0 l b D F.2.2.2.2.2.2.2.1 T x0 σ2 hV2 hW) mw_1105 mw_1106 mw_0 mw_1107 ⟨pmL_many, (Nat.le_of_ble_eq_true rfl), (Nat.le_of_ble_eq_true rfl)⟩ hl.1 rfl (Nat.le_of_ble_eq_true rfl) ⟨(Nat.le_of_ble_eq_true rfl), (Nat.le_of_ble_eq_true rfl)⟩ dL_law_922
    (fun _ _ _ _ _ _ h9 => False.elim h9) (fun v9 σ3 H locs hp9 hN => ?_)
  obtain ⟨rfl, hx3⟩ := hp9
  refine W.eq (g2 := F0 m 925 ls [.int (nI T.nP)]) rfl ?_
  refine W.widen (k := 566550) (n := 6732000) (Nat.le_of_ble_eq_true rfl) (Nat.le_of_ble_eq_true rfl) ?_
  have hV3 := hx3.v
  have hF3 := mm_Fr.tr mm_Fr.rf hx3.fr
  refine lv_istore (pc := 925) (lv' := [(6, .int (nI T.nP)), (4, .long (lq_sum T)), (1, .ref x0), (2, .int (nI T.nA))]) F.1 F.2.1 dL_law_925 hl (by decide) rfl (fun ls hl => ?_)
  refine lv_aload_n (pc := 927) F.1 F.2.1 dL_law_927 rfl (lv_at hl 2 rfl) ?_
  refine lv_iconst (pc := 928) (v := nI 1) F.1 F.2.1 dL_law_928 (by decide) ?_
  refine mm_runS (pc := 929) (As := [.ref x0, .int (nI 1)]) (rest := []) F hN (e_many1 l b D F.2.2.2.2.2.2.2.1 T x0 σ3 hV3 hW) mw_1105 mw_1106 mw_0 mw_1107 ⟨pmL_many, (Nat.le_of_ble_eq_true rfl), (Nat.le_of_ble_eq_true rfl)⟩ hl.1 rfl (Nat.le_of_ble_eq_true rfl) ⟨(Nat.le_of_ble_eq_true rfl), (Nat.le_of_ble_eq_true rfl)⟩ dL_law_929
    (fun _ _ _ _ _ _ h9 => False.elim h9) (fun v9 σ4 H locs hp9 hN => ?_)
  obtain ⟨rfl, hx4⟩ := hp9
  refine W.eq (g2 := F0 m 932 ls [.int (nI T.nR)]) rfl ?_
  refine W.widen (k := 566700) (n := 6733000) (Nat.le_of_ble_eq_true rfl) (Nat.le_of_ble_eq_true rfl) ?_
  have hV4 := hx4.v
  have hF4 := mm_Fr.tr hF3 hx4.fr
  refine lv_istore (pc := 932) (lv' := [(7, .int (nI T.nR)), (6, .int (nI T.nP)), (4, .long (lq_sum T)), (1, .ref x0), (2, .int (nI T.nA))]) F.1 F.2.1 dL_law_932 hl (by decide) rfl (fun ls hl => ?_)
  refine lv_aload_n (pc := 934) F.1 F.2.1 dL_law_934 rfl (lv_at hl 3 rfl) ?_
  refine lv_iconst (pc := 935) (v := nI 2) F.1 F.2.1 dL_law_935 (by decide) ?_
  refine mm_runS (pc := 936) (As := [.ref x0, .int (nI 2)]) (rest := []) F hN (e_many2 l b D F.2.2.2.2.2.2.2.1 T x0 σ4 hV4 hW) mw_1105 mw_1106 mw_0 mw_1107 ⟨pmL_many, (Nat.le_of_ble_eq_true rfl), (Nat.le_of_ble_eq_true rfl)⟩ hl.1 rfl (Nat.le_of_ble_eq_true rfl) ⟨(Nat.le_of_ble_eq_true rfl), (Nat.le_of_ble_eq_true rfl)⟩ dL_law_936
    (fun _ _ _ _ _ _ h9 => False.elim h9) (fun v9 σ5 H locs hp9 hN => ?_)
  obtain ⟨rfl, hx5⟩ := hp9
  refine W.eq (g2 := F0 m 939 ls [.int (nI T.nT)]) rfl ?_
  refine W.widen (k := 566850) (n := 6734000) (Nat.le_of_ble_eq_true rfl) (Nat.le_of_ble_eq_true rfl) ?_
  have hV5 := hx5.v
  have hF5 := mm_Fr.tr hF4 hx5.fr
  refine lv_istore (pc := 939) (lv' := [(8, .int (nI T.nT)), (7, .int (nI T.nR)), (6, .int (nI T.nP)), (4, .long (lq_sum T)), (1, .ref x0), (2, .int (nI T.nA))]) F.1 F.2.1 dL_law_939 hl (by decide) rfl (fun ls hl => ?_)
  refine lv_aload_n (pc := 941) F.1 F.2.1 dL_law_941 rfl (lv_at hl 4 rfl) ?_
  refine lv_bipush (pc := 942) (v := nI 100) F.1 F.2.1 dL_law_942 (by decide) ?_
  refine mm_runSX (pc := 944) (As := [.ref x0, .int (nI 100)]) (rest := []) F hN (e_address l b D F.2.2.2.2.2.2.2.1 T x0 σ5 hV5 hW 100 (by decide)) mw_116 mw_117 mw_0 mw_118 ⟨pmL_address, (Nat.le_of_ble_eq_true rfl), (Nat.le_of_ble_eq_true rfl)⟩ hl.1 rfl (Nat.le_of_ble_eq_true rfl) ⟨(Nat.le_of_ble_eq_true rfl), (Nat.le_of_ble_eq_true rfl)⟩ dL_law_944
    (fun _ _ _ _ _ _ h9 => False.elim h9) (fun v9 σ6 H locs hp9 hN => ?_)
  obtain ⟨rfl, hx6⟩ := hp9
  refine W.eq (g2 := F0 m 947 ls [.int (lq_i (mm_q_addAddress T 100) (T.nA))]) rfl ?_
  refine W.widen (k := 566856) (n := 6734300) (Nat.le_of_ble_eq_true rfl) (Nat.le_of_ble_eq_true rfl) ?_
  have hV6 := hx6.v
  have hF6 := mm_Fr.tr hF5 hx6.fr
  have hq6 : mm_q_addAddress T 100 = 1 := by unfold mm_q_addAddress; (repeat' split) <;> omega
  have hV6 : lq_V σ6 T x0 := by have h8 := hx6.v; rw [if_neg (by rw [hq6]; decide)] at h8; exact h8
  refine W.eq (g2 := F0 m 947 ls [.int ((-1001))]) (by rw [lq_i1 hq6]) ?_
  refine lv_sipush (pc := 947) (v := (-1001)) F.1 F.2.1 dL_law_947 (by decide) ?_
  refine lv_icmp_ne (pc := 950) (tgt := 1304) F.1 F.2.1 dL_law_950 (by decide) (fun h9 => absurd h9 (by decide)) (fun cz950 => ?_)
  refine lv_aload_n (pc := 953) F.1 F.2.1 dL_law_953 rfl (lv_at hl 4 rfl) ?_
  refine lv_iconst (pc := 954) (v := nI 4294967295) F.1 F.2.1 dL_law_954 (by decide) ?_
  refine mm_runSX (pc := 955) (As := [.ref x0, .int (nI 4294967295)]) (rest := []) F hN (e_address l b D F.2.2.2.2.2.2.2.1 T x0 σ6 hV6 hW 4294967295 (by decide)) mw_116 mw_117 mw_0 mw_118 ⟨pmL_address, (Nat.le_of_ble_eq_true rfl), (Nat.le_of_ble_eq_true rfl)⟩ hl.1 rfl (Nat.le_of_ble_eq_true rfl) ⟨(Nat.le_of_ble_eq_true rfl), (Nat.le_of_ble_eq_true rfl)⟩ dL_law_955
    (fun _ _ _ _ _ _ h9 => False.elim h9) (fun v9 σ7 H locs hp9 hN => ?_)
  obtain ⟨rfl, hx7⟩ := hp9
  refine W.eq (g2 := F0 m 958 ls [.int (lq_i (mm_q_addAddress T 4294967295) (T.nA))]) rfl ?_
  refine W.widen (k := 566862) (n := 6734600) (Nat.le_of_ble_eq_true rfl) (Nat.le_of_ble_eq_true rfl) ?_
  have hV7 := hx7.v
  have hF7 := mm_Fr.tr hF6 hx7.fr
  have hq7 : mm_q_addAddress T 4294967295 = 1 := by unfold mm_q_addAddress; (repeat' split) <;> omega
  have hV7 : lq_V σ7 T x0 := by have h8 := hx7.v; rw [if_neg (by rw [hq7]; decide)] at h8; exact h8
  refine W.eq (g2 := F0 m 958 ls [.int ((-1001))]) (by rw [lq_i1 hq7]) ?_
  refine lv_sipush (pc := 958) (v := (-1001)) F.1 F.2.1 dL_law_958 (by decide) ?_
  refine lv_icmp_ne (pc := 961) (tgt := 1304) F.1 F.2.1 dL_law_961 (by decide) (fun h9 => absurd h9 (by decide)) (fun cz961 => ?_)
  refine lv_aload_n (pc := 964) F.1 F.2.1 dL_law_964 rfl (lv_at hl 4 rfl) ?_
  refine lv_bipush (pc := 965) (v := nI 106) F.1 F.2.1 dL_law_965 (by decide) ?_
  refine lv_iload_n (pc := 967) F.1 F.2.1 dL_law_967 rfl (lv_at hl 5 rfl) ?_
  refine lv_iload_n (pc := 968) F.1 F.2.1 dL_law_968 rfl (lv_at hl 5 rfl) ?_
  refine mm_runSX (pc := 969) (As := [.ref x0, .int (nI 106), .int (nI T.nA), .int (nI T.nA)]) (rest := []) F hN (e_join l b D F.2.2.2.2.2.2.2.1 T x0 σ7 hV7 hW T.nA (by omega) T.nA (by omega)) mw_309 mw_310 mw_0 mw_311 ⟨pmL_sets, (Nat.le_of_ble_eq_true rfl), (Nat.le_of_ble_eq_true rfl)⟩ hl.1 rfl (Nat.le_of_ble_eq_true rfl) ⟨(Nat.le_of_ble_eq_true rfl), (Nat.le_of_ble_eq_true rfl)⟩ dL_law_969
    (fun _ _ _ _ _ _ h9 => False.elim h9) (fun v9 σ8 H locs hp9 hN => ?_)
  obtain ⟨rfl, hx8⟩ := hp9
  refine W.eq (g2 := F0 m 972 ls [.int (lq_i (mm_q_join T T.nA T.nA) (mm_sm (fun p => if T.ho p = T.nA then 1 else 0) T.nP))]) rfl ?_
  refine W.widen (k := 566870) (n := 6734900) (Nat.le_of_ble_eq_true rfl) (Nat.le_of_ble_eq_true rfl) ?_
  have hV8 := hx8.v
  have hF8 := mm_Fr.tr hF7 hx8.fr
  have hq8 : mm_q_join T T.nA T.nA = 1 := by unfold mm_q_join; (repeat' split) <;> omega
  have hV8 : lq_V σ8 T x0 := by have h8 := hx8.v; rw [if_neg (by rw [hq8]; decide)] at h8; exact h8
  refine W.eq (g2 := F0 m 972 ls [.int ((-1001))]) (by rw [lq_i1 hq8]) ?_
  refine lv_sipush (pc := 972) (v := (-1001)) F.1 F.2.1 dL_law_972 (by decide) ?_
  refine lv_icmp_ne (pc := 975) (tgt := 1304) F.1 F.2.1 dL_law_975 (by decide) (fun h9 => absurd h9 (by decide)) (fun cz975 => ?_)
  refine lv_aload_n (pc := 978) F.1 F.2.1 dL_law_978 rfl (lv_at hl 4 rfl) ?_
  refine lv_bipush (pc := 979) (v := nI 106) F.1 F.2.1 dL_law_979 (by decide) ?_
  refine lv_iconst (pc := 981) (v := nI 4294967295) F.1 F.2.1 dL_law_981 (by decide) ?_
  refine lv_iconst (pc := 982) (v := nI 0) F.1 F.2.1 dL_law_982 (by decide) ?_
  refine mm_runSX (pc := 983) (As := [.ref x0, .int (nI 106), .int (nI 4294967295), .int (nI 0)]) (rest := []) F hN (e_join l b D F.2.2.2.2.2.2.2.1 T x0 σ8 hV8 hW 4294967295 (by decide) 0 (by decide)) mw_309 mw_310 mw_0 mw_311 ⟨pmL_sets, (Nat.le_of_ble_eq_true rfl), (Nat.le_of_ble_eq_true rfl)⟩ hl.1 rfl (Nat.le_of_ble_eq_true rfl) ⟨(Nat.le_of_ble_eq_true rfl), (Nat.le_of_ble_eq_true rfl)⟩ dL_law_983
    (fun _ _ _ _ _ _ h9 => False.elim h9) (fun v9 σ9 H locs hp9 hN => ?_)
  obtain ⟨rfl, hx9⟩ := hp9
  refine W.eq (g2 := F0 m 986 ls [.int (lq_i (mm_q_join T 4294967295 0) (mm_sm (fun p => if T.ho p = 0 then 1 else 0) T.nP))]) rfl ?_
  refine W.widen (k := 566878) (n := 6735200) (Nat.le_of_ble_eq_true rfl) (Nat.le_of_ble_eq_true rfl) ?_
  have hV9 := hx9.v
  have hF9 := mm_Fr.tr hF8 hx9.fr
  have hq9 : mm_q_join T 4294967295 0 = 1 := by unfold mm_q_join; (repeat' split) <;> omega
  have hV9 : lq_V σ9 T x0 := by have h8 := hx9.v; rw [if_neg (by rw [hq9]; decide)] at h8; exact h8
  refine W.eq (g2 := F0 m 986 ls [.int ((-1001))]) (by rw [lq_i1 hq9]) ?_
  refine lv_sipush (pc := 986) (v := (-1001)) F.1 F.2.1 dL_law_986 (by decide) ?_
  refine lv_icmp_ne (pc := 989) (tgt := 1304) F.1 F.2.1 dL_law_989 (by decide) (fun h9 => absurd h9 (by decide)) (fun cz989 => ?_)
  refine lv_aload_n (pc := 992) F.1 F.2.1 dL_law_992 rfl (lv_at hl 4 rfl) ?_
  refine lv_bipush (pc := 993) (v := nI 112) F.1 F.2.1 dL_law_993 (by decide) ?_
  refine lv_iload_n (pc := 995) F.1 F.2.1 dL_law_995 rfl (lv_at hl 5 rfl) ?_
  refine lv_bipush (pc := 996) (v := nI 8) F.1 F.2.1 dL_law_996 (by decide) ?_
  refine mm_runSX (pc := 998) (As := [.ref x0, .int (nI 112), .int (nI T.nA), .int (nI 8)]) (rest := []) F hN (e_person l b D F.2.2.2.2.2.2.2.1 T x0 σ9 hV9 hW T.nA (by omega) 8 (by decide)) mw_309 mw_310 mw_0 mw_311 ⟨pmL_sets, (Nat.le_of_ble_eq_true rfl), (Nat.le_of_ble_eq_true rfl)⟩ hl.1 rfl (Nat.le_of_ble_eq_true rfl) ⟨(Nat.le_of_ble_eq_true rfl), (Nat.le_of_ble_eq_true rfl)⟩ dL_law_998
    (fun _ _ _ _ _ _ h9 => False.elim h9) (fun v9 σ10 H locs hp9 hN => ?_)
  obtain ⟨rfl, hx10⟩ := hp9
  refine W.eq (g2 := F0 m 1001 ls [.int (lq_i (mm_q_addPerson T T.nA 8) (T.nP))]) rfl ?_
  refine W.widen (k := 566886) (n := 6735500) (Nat.le_of_ble_eq_true rfl) (Nat.le_of_ble_eq_true rfl) ?_
  have hV10 := hx10.v
  have hF10 := mm_Fr.tr hF9 hx10.fr
  have hq10 : mm_q_addPerson T T.nA 8 = 1 := by unfold mm_q_addPerson; (repeat' split) <;> omega
  have hV10 : lq_V σ10 T x0 := by have h8 := hx10.v; rw [if_neg (by rw [hq10]; decide)] at h8; exact h8
  refine W.eq (g2 := F0 m 1001 ls [.int ((-1001))]) (by rw [lq_i1 hq10]) ?_
  refine lv_sipush (pc := 1001) (v := (-1001)) F.1 F.2.1 dL_law_1001 (by decide) ?_
  refine lv_icmp_ne (pc := 1004) (tgt := 1304) F.1 F.2.1 dL_law_1004 (by decide) (fun h9 => absurd h9 (by decide)) (fun cz1004 => ?_)
  refine lv_aload_n (pc := 1007) F.1 F.2.1 dL_law_1007 rfl (lv_at hl 4 rfl) ?_
  refine lv_bipush (pc := 1008) (v := nI 102) F.1 F.2.1 dL_law_1008 (by decide) ?_
  refine lv_iload (pc := 1010) F.1 F.2.1 dL_law_1010 (lv_at hl 2 rfl) ?_
  refine lv_bipush (pc := 1012) (v := nI 8) F.1 F.2.1 dL_law_1012 (by decide) ?_
  refine mm_runSX (pc := 1014) (As := [.ref x0, .int (nI 102), .int (nI T.nP), .int (nI 8)]) (rest := []) F hN (e_flags l b D F.2.2.2.2.2.2.2.1 T x0 σ10 hV10 hW T.nP (by omega) 8 (by decide)) mw_309 mw_310 mw_0 mw_311 ⟨pmL_sets, (Nat.le_of_ble_eq_true rfl), (Nat.le_of_ble_eq_true rfl)⟩ hl.1 rfl (Nat.le_of_ble_eq_true rfl) ⟨(Nat.le_of_ble_eq_true rfl), (Nat.le_of_ble_eq_true rfl)⟩ dL_law_1014
    (fun _ _ _ _ _ _ h9 => False.elim h9) (fun v9 σ11 H locs hp9 hN => ?_)
  obtain ⟨rfl, hx11⟩ := hp9
  refine W.eq (g2 := F0 m 1017 ls [.int (lq_i (mm_q_setFlags T T.nP 8) (T.fl T.nP))]) rfl ?_
  refine W.widen (k := 566894) (n := 6735800) (Nat.le_of_ble_eq_true rfl) (Nat.le_of_ble_eq_true rfl) ?_
  have hV11 := hx11.v
  have hF11 := mm_Fr.tr hF10 hx11.fr
  have hq11 : mm_q_setFlags T T.nP 8 = 1 := by unfold mm_q_setFlags; (repeat' split) <;> omega
  have hV11 : lq_V σ11 T x0 := by have h8 := hx11.v; rw [if_neg (by rw [hq11]; decide)] at h8; exact h8
  refine W.eq (g2 := F0 m 1017 ls [.int ((-1001))]) (by rw [lq_i1 hq11]) ?_
  refine lv_sipush (pc := 1017) (v := (-1001)) F.1 F.2.1 dL_law_1017 (by decide) ?_
  refine lv_icmp_ne (pc := 1020) (tgt := 1304) F.1 F.2.1 dL_law_1020 (by decide) (fun h9 => absurd h9 (by decide)) (fun cz1020 => ?_)
  refine lv_iload (pc := 1023) F.1 F.2.1 dL_law_1023 (lv_at hl 2 rfl) ?_
  have j1043 : ∀ (σj : mm_S) (ls : Array Slot) (H : Heap) (locs : List Loc), lq_V σj T x0 → mm_N b D s σj H locs → lv_has ls 20 [(1, .ref x0), (2, .int (nI T.nA)), (4, .long (lq_sum T)), (6, .int (nI T.nP)), (7, .int (nI T.nR)), (8, .int (nI T.nT))] → W p l e room_1 s m args below meth c H locs 566994 6736600 Q (F0 m 1043 ls []) := by
    intro σj ls H locs hVj hN hl
    refine lv_iload (pc := 1043) F.1 F.2.1 dL_law_1043 (lv_at hl 3 rfl) ?_
    have j1062 : ∀ (σj : mm_S) (ls : Array Slot) (H : Heap) (locs : List Loc), lq_V σj T x0 → mm_N b D s σj H locs → lv_has ls 20 [(1, .ref x0), (2, .int (nI T.nA)), (4, .long (lq_sum T)), (6, .int (nI T.nP)), (7, .int (nI T.nR)), (8, .int (nI T.nT))] → W p l e room_1 s m args below meth c H locs 567094 6737400 Q (F0 m 1062 ls []) := by
      intro σj ls H locs hVj hN hl
      refine lv_aload_n (pc := 1062) F.1 F.2.1 dL_law_1062 rfl (lv_at hl 0 rfl) ?_
      refine lv_bipush (pc := 1063) (v := nI 109) F.1 F.2.1 dL_law_1063 (by decide) ?_
      refine lv_iload (pc := 1065) F.1 F.2.1 dL_law_1065 (lv_at hl 3 rfl) ?_
      refine lv_iconst (pc := 1067) (v := nI 0) F.1 F.2.1 dL_law_1067 (by decide) ?_
      refine mm_runSX (pc := 1068) (As := [.ref x0, .int (nI 109), .int (nI T.nP), .int (nI 0)]) (rest := []) F hN (e_move l b D F.2.2.2.2.2.2.2.1 T x0 σj hVj hW T.nP (by omega) 0 (by decide)) mw_309 mw_310 mw_0 mw_311 ⟨pmL_sets, (Nat.le_of_ble_eq_true rfl), (Nat.le_of_ble_eq_true rfl)⟩ hl.1 rfl (Nat.le_of_ble_eq_true rfl) ⟨(Nat.le_of_ble_eq_true rfl), (Nat.le_of_ble_eq_true rfl)⟩ dL_law_1068
        (fun _ _ _ _ _ _ h9 => False.elim h9) (fun v9 σ12 H locs hp9 hN => ?_)
      obtain ⟨rfl, hx12⟩ := hp9
      refine W.eq (g2 := F0 m 1071 ls [.int (lq_i (mm_q_move T T.nP 0) (T.ho T.nP))]) rfl ?_
      refine W.widen (k := 567102) (n := 6737700) (Nat.le_of_ble_eq_true rfl) (Nat.le_of_ble_eq_true rfl) ?_
      have hV12 := hx12.v
      have hF12 := mm_Fr.tr mm_Fr.rf hx12.fr
      have hq12 : mm_q_move T T.nP 0 = 1 := by unfold mm_q_move; (repeat' split) <;> omega
      have hV12 : lq_V σ12 T x0 := by have h8 := hx12.v; rw [if_neg (by rw [hq12]; decide)] at h8; exact h8
      refine W.eq (g2 := F0 m 1071 ls [.int ((-1001))]) (by rw [lq_i1 hq12]) ?_
      refine lv_sipush (pc := 1071) (v := (-1001)) F.1 F.2.1 dL_law_1071 (by decide) ?_
      refine lv_icmp_ne (pc := 1074) (tgt := 1304) F.1 F.2.1 dL_law_1074 (by decide) (fun h9 => absurd h9 (by decide)) (fun cz1074 => ?_)
      refine lv_iload (pc := 1077) F.1 F.2.1 dL_law_1077 (lv_at hl 3 rfl) ?_
      have j1096 : ∀ (σj : mm_S) (ls : Array Slot) (H : Heap) (locs : List Loc), lq_V σj T x0 → mm_N b D s σj H locs → lv_has ls 20 [(1, .ref x0), (2, .int (nI T.nA)), (4, .long (lq_sum T)), (6, .int (nI T.nP)), (7, .int (nI T.nR)), (8, .int (nI T.nT))] → W p l e room_1 s m args below meth c H locs 567202 6738500 Q (F0 m 1096 ls []) := by
        intro σj ls H locs hVj hN hl
        refine lv_aload_n (pc := 1096) F.1 F.2.1 dL_law_1096 rfl (lv_at hl 0 rfl) ?_
        refine lv_iload (pc := 1097) F.1 F.2.1 dL_law_1097 (lv_at hl 3 rfl) ?_
        refine lv_bipush (pc := 1099) (v := nI 122) F.1 F.2.1 dL_law_1099 (by decide) ?_
        refine mm_runSX (pc := 1101) (As := [.ref x0, .int (nI T.nP), .int (nI 122)]) (rest := []) F hN (e_suppr l b D F.2.2.2.2.2.2.2.1 T x0 σj hVj hW T.nP (by omega) 122 (by decide) (by decide)) mw_421 mw_422 mw_0 mw_423 ⟨pmL_suppress, (Nat.le_of_ble_eq_true rfl), (Nat.le_of_ble_eq_true rfl)⟩ hl.1 rfl (Nat.le_of_ble_eq_true rfl) ⟨(Nat.le_of_ble_eq_true rfl), (Nat.le_of_ble_eq_true rfl)⟩ dL_law_1101
          (fun _ _ _ _ _ _ h9 => False.elim h9) (fun v9 σ13 H locs hp9 hN => ?_)
        obtain ⟨rfl, hx13⟩ := hp9
        refine W.eq (g2 := F0 m 1104 ls [.int (lq_i (mm_q_suppress T T.nP 122) (T.re T.nP))]) rfl ?_
        refine W.widen (k := 567208) (n := 6738540) (Nat.le_of_ble_eq_true rfl) (Nat.le_of_ble_eq_true rfl) ?_
        have hV13 := hx13.v
        have hF13 := mm_Fr.tr mm_Fr.rf hx13.fr
        have hq13 : mm_q_suppress T T.nP 122 = 1 := by unfold mm_q_suppress; (repeat' split) <;> omega
        have hV13 : lq_V σ13 T x0 := by have h8 := hx13.v; rw [if_neg (by rw [hq13]; decide)] at h8; exact h8
        refine W.eq (g2 := F0 m 1104 ls [.int ((-1001))]) (by rw [lq_i1 hq13]) ?_
        refine lv_sipush (pc := 1104) (v := (-1001)) F.1 F.2.1 dL_law_1104 (by decide) ?_
        refine lv_icmp_ne (pc := 1107) (tgt := 1304) F.1 F.2.1 dL_law_1107 (by decide) (fun h9 => absurd h9 (by decide)) (fun cz1107 => ?_)
        refine lv_iload (pc := 1110) F.1 F.2.1 dL_law_1110 (lv_at hl 3 rfl) ?_
        have j1128 : ∀ (σj : mm_S) (ls : Array Slot) (H : Heap) (locs : List Loc), lq_V σj T x0 → mm_N b D s σj H locs → lv_has ls 20 [(1, .ref x0), (2, .int (nI T.nA)), (4, .long (lq_sum T)), (6, .int (nI T.nP)), (7, .int (nI T.nR)), (8, .int (nI T.nT))] → W p l e room_1 s m args below meth c H locs 567308 6739340 Q (F0 m 1128 ls []) := by
          intro σj ls H locs hVj hN hl
          refine lv_aload_n (pc := 1128) F.1 F.2.1 dL_law_1128 rfl (lv_at hl 0 rfl) ?_
          refine lv_iload (pc := 1129) F.1 F.2.1 dL_law_1129 (lv_at hl 3 rfl) ?_
          refine lv_bipush (pc := 1131) (v := nI 45) F.1 F.2.1 dL_law_1131 (by decide) ?_
          refine mm_runSX (pc := 1133) (As := [.ref x0, .int (nI T.nP), .int (nI 45)]) (rest := []) F hN (e_allow l b D F.2.2.2.2.2.2.2.1 T x0 σj hVj hW T.nP (by omega)) mw_421 mw_422 mw_0 mw_423 ⟨pmL_suppress, (Nat.le_of_ble_eq_true rfl), (Nat.le_of_ble_eq_true rfl)⟩ hl.1 rfl (Nat.le_of_ble_eq_true rfl) ⟨(Nat.le_of_ble_eq_true rfl), (Nat.le_of_ble_eq_true rfl)⟩ dL_law_1133
            (fun _ _ _ _ _ _ h9 => False.elim h9) (fun v9 σ14 H locs hp9 hN => ?_)
          obtain ⟨rfl, hx14⟩ := hp9
          refine W.eq (g2 := F0 m 1136 ls [.int (lq_i (mm_q_allow T T.nP) (T.re T.nP))]) rfl ?_
          refine W.widen (k := 567314) (n := 6739380) (Nat.le_of_ble_eq_true rfl) (Nat.le_of_ble_eq_true rfl) ?_
          have hV14 := hx14.v
          have hF14 := mm_Fr.tr mm_Fr.rf hx14.fr
          have hq14 : mm_q_allow T T.nP = 1 := by unfold mm_q_allow; (repeat' split) <;> omega
          have hV14 : lq_V σ14 T x0 := by have h8 := hx14.v; rw [if_neg (by rw [hq14]; decide)] at h8; exact h8
          refine W.eq (g2 := F0 m 1136 ls [.int ((-1001))]) (by rw [lq_i1 hq14]) ?_
          refine lv_sipush (pc := 1136) (v := (-1001)) F.1 F.2.1 dL_law_1136 (by decide) ?_
          refine lv_icmp_ne (pc := 1139) (tgt := 1304) F.1 F.2.1 dL_law_1139 (by decide) (fun h9 => absurd h9 (by decide)) (fun cz1139 => ?_)
          refine lv_aload_n (pc := 1142) F.1 F.2.1 dL_law_1142 rfl (lv_at hl 0 rfl) ?_
          refine lv_iload (pc := 1143) F.1 F.2.1 dL_law_1143 (lv_at hl 3 rfl) ?_
          refine lv_iconst (pc := 1145) (v := nI 0) F.1 F.2.1 dL_law_1145 (by decide) ?_
          refine mm_runSX (pc := 1146) (As := [.ref x0, .int (nI T.nP), .int (nI 0)]) (rest := []) F hN (e_addr l b D F.2.2.2.2.2.2.2.1 T x0 σ14 hV14 hW T.nP (by omega)) mw_438 mw_439 mw_0 mw_440 ⟨pmL_of, (Nat.le_of_ble_eq_true rfl), (Nat.le_of_ble_eq_true rfl)⟩ hl.1 rfl (Nat.le_of_ble_eq_true rfl) ⟨(Nat.le_of_ble_eq_true rfl), (Nat.le_of_ble_eq_true rfl)⟩ dL_law_1146
            (fun _ _ _ _ _ _ h9 => False.elim h9) (fun v9 σ15 H locs hp9 hN => ?_)
          obtain ⟨rfl, hx15⟩ := hp9
          refine W.eq (g2 := F0 m 1149 ls [.int (lq_i (mm_q_addressOf T T.nP) (T.ho T.nP))]) rfl ?_
          refine W.widen (k := 567320) (n := 6739420) (Nat.le_of_ble_eq_true rfl) (Nat.le_of_ble_eq_true rfl) ?_
          have hV15 := hx15.v
          have hF15 := mm_Fr.tr hF14 hx15.fr
          refine W.eq (g2 := F0 m 1149 ls [.int ((-1001))]) (by rw [lq_i1 (by unfold mm_q_addressOf; (repeat' split) <;> omega)]) ?_
          refine lv_sipush (pc := 1149) (v := (-1001)) F.1 F.2.1 dL_law_1149 (by decide) ?_
          refine lv_icmp_ne (pc := 1152) (tgt := 1304) F.1 F.2.1 dL_law_1152 (by decide) (fun h9 => absurd h9 (by decide)) (fun cz1152 => ?_)
          refine lv_aload_n (pc := 1155) F.1 F.2.1 dL_law_1155 rfl (lv_at hl 0 rfl) ?_
          refine lv_iconst (pc := 1156) (v := nI 4294967295) F.1 F.2.1 dL_law_1156 (by decide) ?_
          refine lv_iconst (pc := 1157) (v := nI 1) F.1 F.2.1 dL_law_1157 (by decide) ?_
          refine mm_runSX (pc := 1158) (As := [.ref x0, .int (nI 4294967295), .int (nI 1)]) (rest := []) F hN (e_reason l b D F.2.2.2.2.2.2.2.1 T x0 σ15 hV15 hW 4294967295 (by decide)) mw_438 mw_439 mw_0 mw_440 ⟨pmL_of, (Nat.le_of_ble_eq_true rfl), (Nat.le_of_ble_eq_true rfl)⟩ hl.1 rfl (Nat.le_of_ble_eq_true rfl) ⟨(Nat.le_of_ble_eq_true rfl), (Nat.le_of_ble_eq_true rfl)⟩ dL_law_1158
            (fun _ _ _ _ _ _ h9 => False.elim h9) (fun v9 σ16 H locs hp9 hN => ?_)
          obtain ⟨rfl, hx16⟩ := hp9
          refine W.eq (g2 := F0 m 1161 ls [.int (lq_i (mm_q_reasonOf T 4294967295) (T.re 4294967295))]) rfl ?_
          refine W.widen (k := 567326) (n := 6739460) (Nat.le_of_ble_eq_true rfl) (Nat.le_of_ble_eq_true rfl) ?_
          have hV16 := hx16.v
          have hF16 := mm_Fr.tr hF15 hx16.fr
          refine W.eq (g2 := F0 m 1161 ls [.int ((-1001))]) (by rw [lq_i1 (by unfold mm_q_reasonOf; (repeat' split) <;> omega)]) ?_
          refine lv_sipush (pc := 1161) (v := (-1001)) F.1 F.2.1 dL_law_1161 (by decide) ?_
          refine lv_icmp_ne (pc := 1164) (tgt := 1304) F.1 F.2.1 dL_law_1164 (by decide) (fun h9 => absurd h9 (by decide)) (fun cz1164 => ?_)
          refine lv_aload_n (pc := 1167) F.1 F.2.1 dL_law_1167 rfl (lv_at hl 0 rfl) ?_
          refine lv_iload_n (pc := 1168) F.1 F.2.1 dL_law_1168 rfl (lv_at hl 1 rfl) ?_
          refine lv_iconst (pc := 1169) (v := nI 2) F.1 F.2.1 dL_law_1169 (by decide) ?_
          refine mm_runSX (pc := 1170) (As := [.ref x0, .int (nI T.nA), .int (nI 2)]) (rest := []) F hN (e_strikes l b D F.2.2.2.2.2.2.2.1 T x0 σ16 hV16 hW T.nA (by omega)) mw_438 mw_439 mw_0 mw_440 ⟨pmL_of, (Nat.le_of_ble_eq_true rfl), (Nat.le_of_ble_eq_true rfl)⟩ hl.1 rfl (Nat.le_of_ble_eq_true rfl) ⟨(Nat.le_of_ble_eq_true rfl), (Nat.le_of_ble_eq_true rfl)⟩ dL_law_1170
            (fun _ _ _ _ _ _ h9 => False.elim h9) (fun v9 σ17 H locs hp9 hN => ?_)
          obtain ⟨rfl, hx17⟩ := hp9
          refine W.eq (g2 := F0 m 1173 ls [.int (lq_i (mm_q_strikes T T.nA) (T.sk T.nA))]) rfl ?_
          refine W.widen (k := 567332) (n := 6739500) (Nat.le_of_ble_eq_true rfl) (Nat.le_of_ble_eq_true rfl) ?_
          have hV17 := hx17.v
          have hF17 := mm_Fr.tr hF16 hx17.fr
          refine W.eq (g2 := F0 m 1173 ls [.int ((-1001))]) (by rw [lq_i1 (by unfold mm_q_strikes; (repeat' split) <;> omega)]) ?_
          refine lv_sipush (pc := 1173) (v := (-1001)) F.1 F.2.1 dL_law_1173 (by decide) ?_
          refine lv_icmp_ne (pc := 1176) (tgt := 1304) F.1 F.2.1 dL_law_1176 (by decide) (fun h9 => absurd h9 (by decide)) (fun cz1176 => ?_)
          refine lv_aload_n (pc := 1179) F.1 F.2.1 dL_law_1179 rfl (lv_at hl 0 rfl) ?_
          refine lv_iload (pc := 1180) F.1 F.2.1 dL_law_1180 (lv_at hl 5 rfl) ?_
          refine lv_iconst (pc := 1182) (v := nI 0) F.1 F.2.1 dL_law_1182 (by decide) ?_
          refine lv_iconst (pc := 1183) (v := nI 0) F.1 F.2.1 dL_law_1183 (by decide) ?_
          refine lv_iconst (pc := 1184) (v := nI 0) F.1 F.2.1 dL_law_1184 (by decide) ?_
          refine mm_runSX (pc := 1185) (As := [.ref x0, .int (nI T.nT), .int (nI 0), .int (nI 0), .int (nI 0)]) (rest := []) F hN (e_part l b D F.2.2.2.2.2.2.2.1 T x0 σ17 hV17 hW T.nT (by omega) 0 (by decide) 0 (by decide) 0 (by decide)) mw_485 mw_486 mw_0 mw_487 ⟨pmL_part, (Nat.le_of_ble_eq_true rfl), (Nat.le_of_ble_eq_true rfl)⟩ hl.1 rfl (Nat.le_of_ble_eq_true rfl) ⟨(Nat.le_of_ble_eq_true rfl), (Nat.le_of_ble_eq_true rfl)⟩ dL_law_1185
            (fun _ _ _ _ _ _ h9 => False.elim h9) (fun v9 σ18 H locs hp9 hN => ?_)
          obtain ⟨rfl, hx18⟩ := hp9
          refine W.eq (g2 := F0 m 1188 ls [.int (lq_i (mm_q_addPart T T.nT 0 0 0) (T.pc T.nT + 1))]) rfl ?_
          refine W.widen (k := 567338) (n := 6739540) (Nat.le_of_ble_eq_true rfl) (Nat.le_of_ble_eq_true rfl) ?_
          have hV18 := hx18.v
          have hF18 := mm_Fr.tr hF17 hx18.fr
          have hq18 : mm_q_addPart T T.nT 0 0 0 = 1 := by unfold mm_q_addPart; (repeat' split) <;> omega
          have hV18 : lq_V σ18 T x0 := by have h8 := hx18.v; rw [if_neg (by rw [hq18]; decide)] at h8; exact h8
          refine W.eq (g2 := F0 m 1188 ls [.int ((-1001))]) (by rw [lq_i1 hq18]) ?_
          refine lv_sipush (pc := 1188) (v := (-1001)) F.1 F.2.1 dL_law_1188 (by decide) ?_
          refine lv_icmp_ne (pc := 1191) (tgt := 1304) F.1 F.2.1 dL_law_1191 (by decide) (fun h9 => absurd h9 (by decide)) (fun cz1191 => ?_)
          refine lv_iload (pc := 1194) F.1 F.2.1 dL_law_1194 (lv_at hl 5 rfl) ?_
          have j1213 : ∀ (σj : mm_S) (ls : Array Slot) (H : Heap) (locs : List Loc), lq_V σj T x0 → mm_N b D s σj H locs → lv_has ls 20 [(1, .ref x0), (2, .int (nI T.nA)), (4, .long (lq_sum T)), (6, .int (nI T.nP)), (7, .int (nI T.nR)), (8, .int (nI T.nT))] → W p l e room_1 s m args below meth c H locs 567438 6740340 Q (F0 m 1213 ls []) := by
            intro σj ls H locs hVj hN hl
            refine lv_iload (pc := 1213) F.1 F.2.1 dL_law_1213 (lv_at hl 5 rfl) ?_
            have j1233 : ∀ (σj : mm_S) (ls : Array Slot) (H : Heap) (locs : List Loc), lq_V σj T x0 → mm_N b D s σj H locs → lv_has ls 20 [(1, .ref x0), (2, .int (nI T.nA)), (4, .long (lq_sum T)), (6, .int (nI T.nP)), (7, .int (nI T.nR)), (8, .int (nI T.nT))] → W p l e room_1 s m args below meth c H locs 567538 6741140 Q (F0 m 1233 ls []) := by
              intro σj ls H locs hVj hN hl
              refine lv_iload (pc := 1233) F.1 F.2.1 dL_law_1233 (lv_at hl 5 rfl) ?_
              have j1253 : ∀ (σj : mm_S) (ls : Array Slot) (H : Heap) (locs : List Loc), lq_V σj T x0 → mm_N b D s σj H locs → lv_has ls 20 [(1, .ref x0), (2, .int (nI T.nA)), (4, .long (lq_sum T)), (6, .int (nI T.nP)), (7, .int (nI T.nR)), (8, .int (nI T.nT))] → W p l e room_1 s m args below meth c H locs 567638 6741940 Q (F0 m 1253 ls []) := by
                intro σj ls H locs hVj hN hl
                refine lv_iload (pc := 1253) F.1 F.2.1 dL_law_1253 (lv_at hl 5 rfl) ?_
                have j1272 : ∀ (σj : mm_S) (ls : Array Slot) (H : Heap) (locs : List Loc), lq_V σj T x0 → mm_N b D s σj H locs → lv_has ls 20 [(1, .ref x0), (2, .int (nI T.nA)), (4, .long (lq_sum T)), (6, .int (nI T.nP)), (7, .int (nI T.nR)), (8, .int (nI T.nT))] → W p l e room_1 s m args below meth c H locs 567738 6742740 Q (F0 m 1272 ls []) := by
                  intro σj ls H locs hVj hN hl
                  refine lv_aload_n (pc := 1272) F.1 F.2.1 dL_law_1272 rfl (lv_at hl 0 rfl) ?_
                  refine lv_iload (pc := 1273) F.1 F.2.1 dL_law_1273 (lv_at hl 5 rfl) ?_
                  refine lv_bipush (pc := 1275) (v := nI 9) F.1 F.2.1 dL_law_1275 (by decide) ?_
                  refine mm_runSX (pc := 1277) (As := [.ref x0, .int (nI T.nT), .int (nI 9)]) (rest := []) F hN (e_pages l b D F.2.2.2.2.2.2.2.1 T x0 σj hVj hW T.nT (by omega) 9 (by decide)) mw_507 mw_508 mw_0 mw_509 ⟨pmL_pages, (Nat.le_of_ble_eq_true rfl), (Nat.le_of_ble_eq_true rfl)⟩ hl.1 rfl (Nat.le_of_ble_eq_true rfl) ⟨(Nat.le_of_ble_eq_true rfl), (Nat.le_of_ble_eq_true rfl)⟩ dL_law_1277
                    (fun _ _ _ _ _ _ h9 => False.elim h9) (fun v9 σ19 H locs hp9 hN => ?_)
                  obtain ⟨rfl, hx19⟩ := hp9
                  refine W.eq (g2 := F0 m 1280 ls [.int (lq_i (mm_q_pagesFor T T.nT 9) (mm_pgs T T.nT 9))]) rfl ?_
                  refine W.widen (k := 567744) (n := 6742780) (Nat.le_of_ble_eq_true rfl) (Nat.le_of_ble_eq_true rfl) ?_
                  have hV19 := hx19.v
                  have hF19 := mm_Fr.tr mm_Fr.rf hx19.fr
                  refine W.eq (g2 := F0 m 1280 ls [.int ((-1001))]) (by rw [lq_i1 (by unfold mm_q_pagesFor; (repeat' split) <;> omega)]) ?_
                  refine lv_sipush (pc := 1280) (v := (-1001)) F.1 F.2.1 dL_law_1280 (by decide) ?_
                  refine lv_icmp_ne (pc := 1283) (tgt := 1304) F.1 F.2.1 dL_law_1283 (by decide) (fun h9 => absurd h9 (by decide)) (fun cz1283 => ?_)
                  refine lv_iload (pc := 1286) F.1 F.2.1 dL_law_1286 (lv_at hl 5 rfl) ?_
                  have j1306 : ∀ (σj : mm_S) (ls : Array Slot) (H : Heap) (locs : List Loc), lq_V σj T x0 → mm_N b D s σj H locs → lv_has ls 20 [(1, .ref x0), (2, .int (nI T.nA)), (4, .long (lq_sum T)), (6, .int (nI T.nP)), (7, .int (nI T.nR)), (8, .int (nI T.nT))] → W p l e room_1 s m args below meth c H locs 567844 6743580 Q (F0 m 1306 ls []) := by
                    intro σj ls H locs hVj hN hl
                    refine lv_aload_n (pc := 1306) F.1 F.2.1 dL_law_1306 rfl (lv_at hl 0 rfl) ?_
                    refine lv_bipush (pc := 1307) (v := nI 112) F.1 F.2.1 dL_law_1307 (by decide) ?_
                    refine lv_iconst (pc := 1309) (v := nI 0) F.1 F.2.1 dL_law_1309 (by decide) ?_
                    refine mm_runSX (pc := 1310) (As := [.ref x0, .int (nI 112), .int (nI 0)]) (rest := []) F hN (e_paper l b D F.2.2.2.2.2.2.2.1 T x0 σj hVj hW 0 (by decide)) mw_518 mw_519 mw_0 mw_520 ⟨pmL_buys, (Nat.le_of_ble_eq_true rfl), (Nat.le_of_ble_eq_true rfl)⟩ hl.1 rfl (Nat.le_of_ble_eq_true rfl) ⟨(Nat.le_of_ble_eq_true rfl), (Nat.le_of_ble_eq_true rfl)⟩ dL_law_1310
                      (fun _ _ _ _ _ _ h9 => False.elim h9) (fun v9 σ20 H locs hp9 hN => ?_)
                    obtain ⟨rfl, hx20⟩ := hp9
                    refine W.eq (g2 := F0 m 1313 ls [.int (lq_i (mm_q_buyPaper T 0) (T.pa + 0))]) rfl ?_
                    refine W.widen (k := 567850) (n := 6743620) (Nat.le_of_ble_eq_true rfl) (Nat.le_of_ble_eq_true rfl) ?_
                    have hV20 := hx20.v
                    have hF20 := mm_Fr.tr mm_Fr.rf hx20.fr
                    have hq20 : mm_q_buyPaper T 0 = 1 := by unfold mm_q_buyPaper; (repeat' split) <;> omega
                    have hV20 : lq_V σ20 T x0 := by have h8 := hx20.v; rw [if_neg (by rw [hq20]; decide)] at h8; exact h8
                    refine W.eq (g2 := F0 m 1313 ls [.int ((-1001))]) (by rw [lq_i1 hq20]) ?_
                    refine lv_sipush (pc := 1313) (v := (-1001)) F.1 F.2.1 dL_law_1313 (by decide) ?_
                    refine lv_icmp_ne (pc := 1316) (tgt := 1491) F.1 F.2.1 dL_law_1316 (by decide) (fun h9 => absurd h9 (by decide)) (fun cz1316 => ?_)
                    refine lv_aload_n (pc := 1319) F.1 F.2.1 dL_law_1319 rfl (lv_at hl 0 rfl) ?_
                    refine lv_bipush (pc := 1320) (v := nI 108) F.1 F.2.1 dL_law_1320 (by decide) ?_
                    refine lv_sipush (pc := 1322) (v := nI 501) F.1 F.2.1 dL_law_1322 (by decide) ?_
                    refine mm_runSX (pc := 1325) (As := [.ref x0, .int (nI 108), .int (nI 501)]) (rest := []) F hN (e_large l b D F.2.2.2.2.2.2.2.1 T x0 σ20 hV20 hW 501 (by decide)) mw_518 mw_519 mw_0 mw_520 ⟨pmL_buys, (Nat.le_of_ble_eq_true rfl), (Nat.le_of_ble_eq_true rfl)⟩ hl.1 rfl (Nat.le_of_ble_eq_true rfl) ⟨(Nat.le_of_ble_eq_true rfl), (Nat.le_of_ble_eq_true rfl)⟩ dL_law_1325
                      (fun _ _ _ _ _ _ h9 => False.elim h9) (fun v9 σ21 H locs hp9 hN => ?_)
                    obtain ⟨rfl, hx21⟩ := hp9
                    refine W.eq (g2 := F0 m 1328 ls [.int (lq_i (mm_q_buyEnvelopes T 1 501) (T.en 1 + 501))]) rfl ?_
                    refine W.widen (k := 567856) (n := 6743660) (Nat.le_of_ble_eq_true rfl) (Nat.le_of_ble_eq_true rfl) ?_
                    have hV21 := hx21.v
                    have hF21 := mm_Fr.tr hF20 hx21.fr
                    have hq21 : mm_q_buyEnvelopes T 1 501 = 1 := by unfold mm_q_buyEnvelopes; (repeat' split) <;> omega
                    have hV21 : lq_V σ21 T x0 := by have h8 := hx21.v; rw [if_neg (by rw [hq21]; decide)] at h8; exact h8
                    refine W.eq (g2 := F0 m 1328 ls [.int ((-1001))]) (by rw [lq_i1 hq21]) ?_
                    refine lv_sipush (pc := 1328) (v := (-1001)) F.1 F.2.1 dL_law_1328 (by decide) ?_
                    refine lv_icmp_ne (pc := 1331) (tgt := 1491) F.1 F.2.1 dL_law_1331 (by decide) (fun h9 => absurd h9 (by decide)) (fun cz1331 => ?_)
                    refine lv_aload_n (pc := 1334) F.1 F.2.1 dL_law_1334 rfl (lv_at hl 0 rfl) ?_
                    refine lv_bipush (pc := 1335) (v := nI 115) F.1 F.2.1 dL_law_1335 (by decide) ?_
                    refine lv_iconst (pc := 1337) (v := nI 4294967295) F.1 F.2.1 dL_law_1337 (by decide) ?_
                    refine mm_runSX (pc := 1338) (As := [.ref x0, .int (nI 115), .int (nI 4294967295)]) (rest := []) F hN (e_small l b D F.2.2.2.2.2.2.2.1 T x0 σ21 hV21 hW 4294967295 (by decide) 115 (by decide) (by decide) (by decide) (by decide)) mw_518 mw_519 mw_0 mw_520 ⟨pmL_buys, (Nat.le_of_ble_eq_true rfl), (Nat.le_of_ble_eq_true rfl)⟩ hl.1 rfl (Nat.le_of_ble_eq_true rfl) ⟨(Nat.le_of_ble_eq_true rfl), (Nat.le_of_ble_eq_true rfl)⟩ dL_law_1338
                      (fun _ _ _ _ _ _ h9 => False.elim h9) (fun v9 σ22 H locs hp9 hN => ?_)
                    obtain ⟨rfl, hx22⟩ := hp9
                    refine W.eq (g2 := F0 m 1341 ls [.int (lq_i (mm_q_buyEnvelopes T 0 4294967295) (T.en 0 + 4294967295))]) rfl ?_
                    refine W.widen (k := 567862) (n := 6743700) (Nat.le_of_ble_eq_true rfl) (Nat.le_of_ble_eq_true rfl) ?_
                    have hV22 := hx22.v
                    have hF22 := mm_Fr.tr hF21 hx22.fr
                    have hq22 : mm_q_buyEnvelopes T 0 4294967295 = 1 := by unfold mm_q_buyEnvelopes; (repeat' split) <;> omega
                    have hV22 : lq_V σ22 T x0 := by have h8 := hx22.v; rw [if_neg (by rw [hq22]; decide)] at h8; exact h8
                    refine W.eq (g2 := F0 m 1341 ls [.int ((-1001))]) (by rw [lq_i1 hq22]) ?_
                    refine lv_sipush (pc := 1341) (v := (-1001)) F.1 F.2.1 dL_law_1341 (by decide) ?_
                    refine lv_icmp_ne (pc := 1344) (tgt := 1491) F.1 F.2.1 dL_law_1344 (by decide) (fun h9 => absurd h9 (by decide)) (fun cz1344 => ?_)
                    refine lv_aload_n (pc := 1347) F.1 F.2.1 dL_law_1347 rfl (lv_at hl 0 rfl) ?_
                    refine lv_bipush (pc := 1348) (v := nI 98) F.1 F.2.1 dL_law_1348 (by decide) ?_
                    refine lv_iconst (pc := 1350) (v := nI 0) F.1 F.2.1 dL_law_1350 (by decide) ?_
                    refine mm_runSX (pc := 1351) (As := [.ref x0, .int (nI 98), .int (nI 0)]) (rest := []) F hN (e_bound l b D F.2.2.2.2.2.2.2.1 T x0 σ22 hV22 hW 0 (by decide)) mw_518 mw_519 mw_0 mw_520 ⟨pmL_buys, (Nat.le_of_ble_eq_true rfl), (Nat.le_of_ble_eq_true rfl)⟩ hl.1 rfl (Nat.le_of_ble_eq_true rfl) ⟨(Nat.le_of_ble_eq_true rfl), (Nat.le_of_ble_eq_true rfl)⟩ dL_law_1351
                      (fun _ _ _ _ _ _ h9 => False.elim h9) (fun v9 σ23 H locs hp9 hN => ?_)
                    obtain ⟨rfl, hx23⟩ := hp9
                    refine W.eq (g2 := F0 m 1354 ls [.int (lq_i (mm_q_setBound T 0) (T.bo))]) rfl ?_
                    refine W.widen (k := 567868) (n := 6743740) (Nat.le_of_ble_eq_true rfl) (Nat.le_of_ble_eq_true rfl) ?_
                    have hV23 := hx23.v
                    have hF23 := mm_Fr.tr hF22 hx23.fr
                    have hq23 : mm_q_setBound T 0 = 1 := by unfold mm_q_setBound; (repeat' split) <;> omega
                    have hV23 : lq_V σ23 T x0 := by have h8 := hx23.v; rw [if_neg (by rw [hq23]; decide)] at h8; exact h8
                    refine W.eq (g2 := F0 m 1354 ls [.int ((-1001))]) (by rw [lq_i1 hq23]) ?_
                    refine lv_sipush (pc := 1354) (v := (-1001)) F.1 F.2.1 dL_law_1354 (by decide) ?_
                    refine lv_icmp_ne (pc := 1357) (tgt := 1491) F.1 F.2.1 dL_law_1357 (by decide) (fun h9 => absurd h9 (by decide)) (fun cz1357 => ?_)
                    refine lv_aload_n (pc := 1360) F.1 F.2.1 dL_law_1360 rfl (lv_at hl 0 rfl) ?_
                    refine lv_bipush (pc := 1361) (v := nI 98) F.1 F.2.1 dL_law_1361 (by decide) ?_
                    refine lv_bipush (pc := 1363) (v := nI 25) F.1 F.2.1 dL_law_1363 (by decide) ?_
                    refine mm_runSX (pc := 1365) (As := [.ref x0, .int (nI 98), .int (nI 25)]) (rest := []) F hN (e_bound l b D F.2.2.2.2.2.2.2.1 T x0 σ23 hV23 hW 25 (by decide)) mw_518 mw_519 mw_0 mw_520 ⟨pmL_buys, (Nat.le_of_ble_eq_true rfl), (Nat.le_of_ble_eq_true rfl)⟩ hl.1 rfl (Nat.le_of_ble_eq_true rfl) ⟨(Nat.le_of_ble_eq_true rfl), (Nat.le_of_ble_eq_true rfl)⟩ dL_law_1365
                      (fun _ _ _ _ _ _ h9 => False.elim h9) (fun v9 σ24 H locs hp9 hN => ?_)
                    obtain ⟨rfl, hx24⟩ := hp9
                    refine W.eq (g2 := F0 m 1368 ls [.int (lq_i (mm_q_setBound T 25) (T.bo))]) rfl ?_
                    refine W.widen (k := 567874) (n := 6743780) (Nat.le_of_ble_eq_true rfl) (Nat.le_of_ble_eq_true rfl) ?_
                    have hV24 := hx24.v
                    have hF24 := mm_Fr.tr hF23 hx24.fr
                    have hq24 : mm_q_setBound T 25 = 1 := by unfold mm_q_setBound; (repeat' split) <;> omega
                    have hV24 : lq_V σ24 T x0 := by have h8 := hx24.v; rw [if_neg (by rw [hq24]; decide)] at h8; exact h8
                    refine W.eq (g2 := F0 m 1368 ls [.int ((-1001))]) (by rw [lq_i1 hq24]) ?_
                    refine lv_sipush (pc := 1368) (v := (-1001)) F.1 F.2.1 dL_law_1368 (by decide) ?_
                    refine lv_icmp_ne (pc := 1371) (tgt := 1491) F.1 F.2.1 dL_law_1371 (by decide) (fun h9 => absurd h9 (by decide)) (fun cz1371 => ?_)
                    refine lv_aload_n (pc := 1374) F.1 F.2.1 dL_law_1374 rfl (lv_at hl 0 rfl) ?_
                    refine lv_iload (pc := 1375) F.1 F.2.1 dL_law_1375 (lv_at hl 5 rfl) ?_
                    refine lv_iconst (pc := 1377) (v := nI 1) F.1 F.2.1 dL_law_1377 (by decide) ?_
                    refine mm_runSX (pc := 1378) (As := [.ref x0, .int (nI T.nT), .int (nI 1)]) (rest := []) F hN (e_run l b D F.2.2.2.2.2.2.2.1 T x0 σ24 hV24 hW T.nT (by omega) 1 (by decide)) mw_547 mw_548 mw_0 mw_549 ⟨pmL_run, (Nat.le_of_ble_eq_true rfl), (Nat.le_of_ble_eq_true rfl)⟩ hl.1 rfl (Nat.le_of_ble_eq_true rfl) ⟨(Nat.le_of_ble_eq_true rfl), (Nat.le_of_ble_eq_true rfl)⟩ dL_law_1378
                      (fun _ _ _ _ _ _ h9 => False.elim h9) (fun v9 σ25 H locs hp9 hN => ?_)
                    obtain ⟨rfl, hx25⟩ := hp9
                    refine W.eq (g2 := F0 m 1381 ls [.int (lq_i (mm_q_run T T.nT 1) (T.nR))]) rfl ?_
                    refine W.widen (k := 567974) (n := 6752780) (Nat.le_of_ble_eq_true rfl) (Nat.le_of_ble_eq_true rfl) ?_
                    have hV25 := hx25.v
                    have hF25 := mm_Fr.tr hF24 hx25.fr
                    have hq25 : mm_q_run T T.nT 1 = 1 := by unfold mm_q_run; (repeat' split) <;> omega
                    have hV25 : lq_V σ25 T x0 := by have h8 := hx25.v; rw [if_neg (by rw [hq25]; decide)] at h8; exact h8
                    refine W.eq (g2 := F0 m 1381 ls [.int ((-1001))]) (by rw [lq_i1 hq25]) ?_
                    refine lv_sipush (pc := 1381) (v := (-1001)) F.1 F.2.1 dL_law_1381 (by decide) ?_
                    refine lv_icmp_ne (pc := 1384) (tgt := 1491) F.1 F.2.1 dL_law_1384 (by decide) (fun h9 => absurd h9 (by decide)) (fun cz1384 => ?_)
                    refine lv_aload_n (pc := 1387) F.1 F.2.1 dL_law_1387 rfl (lv_at hl 0 rfl) ?_
                    refine lv_iload (pc := 1388) F.1 F.2.1 dL_law_1388 (lv_at hl 5 rfl) ?_
                    refine lv_iconst (pc := 1390) (v := nI 1) F.1 F.2.1 dL_law_1390 (by decide) ?_
                    refine lv_iconst (pc := 1391) (v := nI 0) F.1 F.2.1 dL_law_1391 (by decide) ?_
                    refine lv_iconst (pc := 1392) (v := nI 0) F.1 F.2.1 dL_law_1392 (by decide) ?_
                    refine mm_runSX (pc := 1393) (As := [.ref x0, .int (nI T.nT), .int (nI 1), .int (nI 0), .int (nI 0)]) (rest := []) F hN (e_prev l b D F.2.2.2.2.2.2.2.1 T x0 σ25 hV25 hW T.nT (by omega) 1 (by decide) 0 (by decide)) mw_929 mw_930 mw_0 mw_931 ⟨pmL_preview, (Nat.le_of_ble_eq_true rfl), (Nat.le_of_ble_eq_true rfl)⟩ hl.1 rfl (Nat.le_of_ble_eq_true rfl) ⟨(Nat.le_of_ble_eq_true rfl), (Nat.le_of_ble_eq_true rfl)⟩ dL_law_1393
                      (fun _ _ _ _ _ _ h9 => False.elim h9) (fun v9 σ26 H locs hp9 hN => ?_)
                    obtain ⟨rfl, hx26⟩ := hp9
                    refine W.eq (g2 := F0 m 1396 ls [.int (lq_i (mm_q_preview T T.nT 1 0) (mm_oc T T.nT 1 0))]) rfl ?_
                    refine W.widen (k := 567980) (n := 6752820) (Nat.le_of_ble_eq_true rfl) (Nat.le_of_ble_eq_true rfl) ?_
                    have hV26 := hx26.v
                    have hF26 := mm_Fr.tr hF25 hx26.fr
                    refine W.eq (g2 := F0 m 1396 ls [.int ((-1001))]) (by rw [lq_i1 (by unfold mm_q_preview; (repeat' split) <;> omega)]) ?_
                    refine lv_sipush (pc := 1396) (v := (-1001)) F.1 F.2.1 dL_law_1396 (by decide) ?_
                    refine lv_icmp_ne (pc := 1399) (tgt := 1491) F.1 F.2.1 dL_law_1399 (by decide) (fun h9 => absurd h9 (by decide)) (fun cz1399 => ?_)
                    refine lv_aload_n (pc := 1402) F.1 F.2.1 dL_law_1402 rfl (lv_at hl 0 rfl) ?_
                    refine lv_iconst (pc := 1403) (v := nI 0) F.1 F.2.1 dL_law_1403 (by decide) ?_
                    refine lv_iconst (pc := 1404) (v := nI 1) F.1 F.2.1 dL_law_1404 (by decide) ?_
                    refine lv_iload (pc := 1405) F.1 F.2.1 dL_law_1405 (lv_at hl 3 rfl) ?_
                    refine lv_iconst (pc := 1407) (v := nI 1) F.1 F.2.1 dL_law_1407 (by decide) ?_
                    refine mm_runSX (pc := 1408) (As := [.ref x0, .int (nI 0), .int (nI 1), .int (nI T.nP), .int (nI 1)]) (rest := []) F hN (e_prevA l b D F.2.2.2.2.2.2.2.1 T x0 σ26 hV26 hW 0 (by decide) 1 (by decide) T.nP (by omega)) mw_929 mw_930 mw_0 mw_931 ⟨pmL_preview, (Nat.le_of_ble_eq_true rfl), (Nat.le_of_ble_eq_true rfl)⟩ hl.1 rfl (Nat.le_of_ble_eq_true rfl) ⟨(Nat.le_of_ble_eq_true rfl), (Nat.le_of_ble_eq_true rfl)⟩ dL_law_1408
                      (fun _ _ _ _ _ _ h9 => False.elim h9) (fun v9 σ27 H locs hp9 hN => ?_)
                    obtain ⟨rfl, hx27⟩ := hp9
                    refine W.eq (g2 := F0 m 1411 ls [.int (lq_i (mm_q_previewAlone T 0 1 T.nP) (mm_oc T 0 1 T.nP))]) rfl ?_
                    refine W.widen (k := 567986) (n := 6752860) (Nat.le_of_ble_eq_true rfl) (Nat.le_of_ble_eq_true rfl) ?_
                    have hV27 := hx27.v
                    have hF27 := mm_Fr.tr hF26 hx27.fr
                    refine W.eq (g2 := F0 m 1411 ls [.int ((-1001))]) (by rw [lq_i1 (by unfold mm_q_previewAlone; (repeat' split) <;> omega)]) ?_
                    refine lv_sipush (pc := 1411) (v := (-1001)) F.1 F.2.1 dL_law_1411 (by decide) ?_
                    refine lv_icmp_ne (pc := 1414) (tgt := 1491) F.1 F.2.1 dL_law_1414 (by decide) (fun h9 => absurd h9 (by decide)) (fun cz1414 => ?_)
                    refine lv_aload_n (pc := 1417) F.1 F.2.1 dL_law_1417 rfl (lv_at hl 0 rfl) ?_
                    refine lv_iload (pc := 1418) F.1 F.2.1 dL_law_1418 (lv_at hl 4 rfl) ?_
                    refine lv_iconst (pc := 1420) (v := nI 0) F.1 F.2.1 dL_law_1420 (by decide) ?_
                    refine lv_bipush (pc := 1421) (v := nI 122) F.1 F.2.1 dL_law_1421 (by decide) ?_
                    refine mm_runSX (pc := 1423) (As := [.ref x0, .int (nI T.nR), .int (nI 0), .int (nI 122)]) (rest := []) F hN (e_back l b D F.2.2.2.2.2.2.2.1 T x0 σ27 hV27 hW T.nR (by omega) 0 (by decide) 122 (by decide)) mw_960 mw_961 mw_0 mw_962 ⟨pmL_back, (Nat.le_of_ble_eq_true rfl), (Nat.le_of_ble_eq_true rfl)⟩ hl.1 rfl (Nat.le_of_ble_eq_true rfl) ⟨(Nat.le_of_ble_eq_true rfl), (Nat.le_of_ble_eq_true rfl)⟩ dL_law_1423
                      (fun _ _ _ _ _ _ h9 => False.elim h9) (fun v9 σ28 H locs hp9 hN => ?_)
                    obtain ⟨rfl, hx28⟩ := hp9
                    refine W.eq (g2 := F0 m 1426 ls [.int (lq_i (mm_q_comesBack T T.nR 0 122) (mm_sm (mm_u2 (T 19) T.nR 0 1 T.nR) (T.rp T.nR)))]) rfl ?_
                    refine W.widen (k := 567992) (n := 6752900) (Nat.le_of_ble_eq_true rfl) (Nat.le_of_ble_eq_true rfl) ?_
                    have hV28 := hx28.v
                    have hF28 := mm_Fr.tr hF27 hx28.fr
                    have hq28 : mm_q_comesBack T T.nR 0 122 = 1 := by unfold mm_q_comesBack; (repeat' split) <;> omega
                    have hV28 : lq_V σ28 T x0 := by have h8 := hx28.v; rw [if_neg (by rw [hq28]; decide)] at h8; exact h8
                    refine W.eq (g2 := F0 m 1426 ls [.int ((-1001))]) (by rw [lq_i1 hq28]) ?_
                    refine lv_sipush (pc := 1426) (v := (-1001)) F.1 F.2.1 dL_law_1426 (by decide) ?_
                    refine lv_icmp_ne (pc := 1429) (tgt := 1491) F.1 F.2.1 dL_law_1429 (by decide) (fun h9 => absurd h9 (by decide)) (fun cz1429 => ?_)
                    refine lv_aload_n (pc := 1432) F.1 F.2.1 dL_law_1432 rfl (lv_at hl 0 rfl) ?_
                    refine lv_iload (pc := 1433) F.1 F.2.1 dL_law_1433 (lv_at hl 4 rfl) ?_
                    refine mm_runSX (pc := 1435) (As := [.ref x0, .int (nI T.nR)]) (rest := []) F hN (e_cost l b D F.2.2.2.2.2.2.2.1 T x0 σ28 hV28 hW T.nR (by omega)) mw_1051 mw_1052 mw_0 mw_1053 ⟨pmL_cost, (Nat.le_of_ble_eq_true rfl), (Nat.le_of_ble_eq_true rfl)⟩ hl.1 rfl (Nat.le_of_ble_eq_true rfl) ⟨(Nat.le_of_ble_eq_true rfl), (Nat.le_of_ble_eq_true rfl)⟩ dL_law_1435
                      (fun _ _ _ _ _ _ h9 => False.elim h9) (fun v9 σ29 H locs hp9 hN => ?_)
                    obtain ⟨rfl, hx29⟩ := hp9
                    refine W.eq (g2 := F0 m 1438 ls [.long ((if mm_q_costOf T T.nR = 0 then lN (mm_sm (fun p => if T.oc T.nR p = 108 then T.ps T.nR p else 0) (T.rp T.nR)) else (-1001)))]) rfl ?_
                    refine W.widen (k := 567998) (n := 6752940) (Nat.le_of_ble_eq_true rfl) (Nat.le_of_ble_eq_true rfl) ?_
                    have hV29 := hx29.v
                    have hF29 := mm_Fr.tr hF28 hx29.fr
                    refine W.eq (g2 := F0 m 1438 ls [.long ((-1001))]) (by rw [if_neg (by have h8 : mm_q_costOf T T.nR = 1 := (by unfold mm_q_costOf; (repeat' split) <;> omega); omega)]) ?_
                    refine lv_ldc2 (pc := 1438) (v := (-1001)) F.1 F.2.1 F.2.2.2.1 (F.2.2.2.2.1 _ mw_1063) dL_law_1438 ?_
                    refine mm_lcmpE (pc := 1441) F.1 F.2.1 dL_law_1441 ?_
                    refine mm_if_ne (pc := 1442) F (tgt := 1491) (by omega) dL_law_1442 (by decide) (fun h9 => absurd h9 (by decide)) (fun cz1442 => ?_)
                    refine lv_aload_n (pc := 1445) F.1 F.2.1 dL_law_1445 rfl (lv_at hl 0 rfl) ?_
                    refine lv_iconst (pc := 1446) (v := nI 4294967295) F.1 F.2.1 dL_law_1446 (by decide) ?_
                    refine mm_runSX (pc := 1447) (As := [.ref x0, .int (nI 4294967295)]) (rest := []) F hN (e_cost l b D F.2.2.2.2.2.2.2.1 T x0 σ29 hV29 hW 4294967295 (by decide)) mw_1051 mw_1052 mw_0 mw_1053 ⟨pmL_cost, (Nat.le_of_ble_eq_true rfl), (Nat.le_of_ble_eq_true rfl)⟩ hl.1 rfl (Nat.le_of_ble_eq_true rfl) ⟨(Nat.le_of_ble_eq_true rfl), (Nat.le_of_ble_eq_true rfl)⟩ dL_law_1447
                      (fun _ _ _ _ _ _ h9 => False.elim h9) (fun v9 σ30 H locs hp9 hN => ?_)
                    obtain ⟨rfl, hx30⟩ := hp9
                    refine W.eq (g2 := F0 m 1450 ls [.long ((if mm_q_costOf T 4294967295 = 0 then lN (mm_sm (fun p => if T.oc 4294967295 p = 108 then T.ps 4294967295 p else 0) (T.rp 4294967295)) else (-1001)))]) rfl ?_
                    refine W.widen (k := 568004) (n := 6752980) (Nat.le_of_ble_eq_true rfl) (Nat.le_of_ble_eq_true rfl) ?_
                    have hV30 := hx30.v
                    have hF30 := mm_Fr.tr hF29 hx30.fr
                    refine W.eq (g2 := F0 m 1450 ls [.long ((-1001))]) (by rw [if_neg (by have h8 : mm_q_costOf T 4294967295 = 1 := (by unfold mm_q_costOf; (repeat' split) <;> omega); omega)]) ?_
                    refine lv_ldc2 (pc := 1450) (v := (-1001)) F.1 F.2.1 F.2.2.2.1 (F.2.2.2.2.1 _ mw_1063) dL_law_1450 ?_
                    refine mm_lcmpE (pc := 1453) F.1 F.2.1 dL_law_1453 ?_
                    refine mm_if_ne (pc := 1454) F (tgt := 1491) (by omega) dL_law_1454 (by decide) (fun h9 => absurd h9 (by decide)) (fun cz1454 => ?_)
                    have j1493 : ∀ (σj : mm_S) (ls : Array Slot) (H : Heap) (locs : List Loc), lq_V σj T x0 → mm_N b D s σj H locs → lv_has ls 20 [(1, .ref x0), (2, .int (nI T.nA)), (4, .long (lq_sum T)), (6, .int (nI T.nP)), (7, .int (nI T.nR)), (8, .int (nI T.nT))] → W p l e room_1 s m args below meth c H locs 568104 6753780 Q (F0 m 1493 ls []) := by
                      intro σj ls H locs hVj hN hl
                      refine lv_iconst (pc := 1493) (v := nI 0) F.1 F.2.1 dL_law_1493 (by decide) ?_
                      refine lv_istore (pc := 1494) (lv' := [(9, .int (nI 0)), (1, .ref x0), (2, .int (nI T.nA)), (4, .long (lq_sum T)), (6, .int (nI T.nP)), (7, .int (nI T.nR)), (8, .int (nI T.nT))]) F.1 F.2.1 dL_law_1494 hl (by decide) rfl (fun ls hl => ?_)
                      refine lv_iload (pc := 1496) F.1 F.2.1 dL_law_1496 (lv_at hl 0 rfl) ?_
                      refine lv_bipush (pc := 1498) (v := nI 6) F.1 F.2.1 dL_law_1498 (by decide) ?_
                      refine mm_icmp_ge (pc := 1500) F (x := 0) (y := 6) (tgt := 1540) (by omega) (by omega) dL_law_1500 (by decide) (fun h9 => absurd h9 (by decide)) (fun cz1500 => ?_)
                      refine lv_aload_n (pc := 1503) F.1 F.2.1 dL_law_1503 rfl (lv_at hl 1 rfl) ?_
                      refine lv_iload (pc := 1504) F.1 F.2.1 dL_law_1504 (lv_at hl 5 rfl) ?_
                      refine lv_iconst (pc := 1506) (v := nI 0) F.1 F.2.1 dL_law_1506 (by decide) ?_
                      refine lv_iload (pc := 1507) F.1 F.2.1 dL_law_1507 (lv_at hl 0 rfl) ?_
                      refine mm_runSX (pc := 1509) (As := [.ref x0, .int (nI T.nR), .int (nI 0), .int (nI 0)]) (rest := []) F hN (e_outc l b D F.2.2.2.2.2.2.2.1 T x0 σj hVj hW T.nR (by omega) 0 (by decide)) mw_984 mw_985 mw_0 mw_986 ⟨pmL_told, (Nat.le_of_ble_eq_true rfl), (Nat.le_of_ble_eq_true rfl)⟩ hl.1 rfl (Nat.le_of_ble_eq_true rfl) ⟨(Nat.le_of_ble_eq_true rfl), (Nat.le_of_ble_eq_true rfl)⟩ dL_law_1509
                        (fun _ _ _ _ _ _ h9 => False.elim h9) (fun v9 σ31 H locs hp9 hN => ?_)
                      obtain ⟨rfl, hx31⟩ := hp9
                      refine W.eq (g2 := F0 m 1512 ls [.int (lq_i (mm_q_outcome T T.nR 0) (T.oc T.nR 0))]) rfl ?_
                      refine W.widen (k := 568110) (n := 6753820) (Nat.le_of_ble_eq_true rfl) (Nat.le_of_ble_eq_true rfl) ?_
                      have hV31 := hx31.v
                      have hF31 := mm_Fr.tr mm_Fr.rf hx31.fr
                      refine W.eq (g2 := F0 m 1512 ls [.int ((-1001))]) (by rw [lq_i1 (by unfold mm_q_outcome; (repeat' split) <;> omega)]) ?_
                      refine lv_sipush (pc := 1512) (v := (-1001)) F.1 F.2.1 dL_law_1512 (by decide) ?_
                      refine lv_icmp_ne (pc := 1515) (tgt := 1532) F.1 F.2.1 dL_law_1515 (by decide) (fun h9 => absurd h9 (by decide)) (fun cz1515 => ?_)
                      refine lv_aload_n (pc := 1518) F.1 F.2.1 dL_law_1518 rfl (lv_at hl 1 rfl) ?_
                      refine lv_iconst (pc := 1519) (v := nI 4294967295) F.1 F.2.1 dL_law_1519 (by decide) ?_
                      refine lv_iconst (pc := 1520) (v := nI 0) F.1 F.2.1 dL_law_1520 (by decide) ?_
                      refine lv_iload (pc := 1521) F.1 F.2.1 dL_law_1521 (lv_at hl 0 rfl) ?_
                      refine mm_runSX (pc := 1523) (As := [.ref x0, .int (nI 4294967295), .int (nI 0), .int (nI 0)]) (rest := []) F hN (e_outc l b D F.2.2.2.2.2.2.2.1 T x0 σ31 hV31 hW 4294967295 (by decide) 0 (by decide)) mw_984 mw_985 mw_0 mw_986 ⟨pmL_told, (Nat.le_of_ble_eq_true rfl), (Nat.le_of_ble_eq_true rfl)⟩ hl.1 rfl (Nat.le_of_ble_eq_true rfl) ⟨(Nat.le_of_ble_eq_true rfl), (Nat.le_of_ble_eq_true rfl)⟩ dL_law_1523
                        (fun _ _ _ _ _ _ h9 => False.elim h9) (fun v9 σ32 H locs hp9 hN => ?_)
                      obtain ⟨rfl, hx32⟩ := hp9
                      refine W.eq (g2 := F0 m 1526 ls [.int (lq_i (mm_q_outcome T 4294967295 0) (T.oc 4294967295 0))]) rfl ?_
                      refine W.widen (k := 568116) (n := 6753860) (Nat.le_of_ble_eq_true rfl) (Nat.le_of_ble_eq_true rfl) ?_
                      have hV32 := hx32.v
                      have hF32 := mm_Fr.tr hF31 hx32.fr
                      refine W.eq (g2 := F0 m 1526 ls [.int ((-1001))]) (by rw [lq_i1 (by unfold mm_q_outcome; (repeat' split) <;> omega)]) ?_
                      refine lv_sipush (pc := 1526) (v := (-1001)) F.1 F.2.1 dL_law_1526 (by decide) ?_
                      refine lv_icmp_eq (pc := 1529) (tgt := 1534) F.1 F.2.1 dL_law_1529 (by decide) (fun cz1529 => ?_) (fun h9 => absurd h9 (by decide))
                      refine lv_iinc (pc := 1534) (v := nI 1) (lv' := [(9, .int (nI 1)), (1, .ref x0), (2, .int (nI T.nA)), (4, .long (lq_sum T)), (6, .int (nI T.nP)), (7, .int (nI T.nR)), (8, .int (nI T.nT))]) F.1 F.2.1 dL_law_1534 hl (k := 0) rfl (by decide) (by decide) rfl (fun ls hl => ?_)
                      refine lv_goto (pc := 1537) (tgt := 1496) F.1 F.2.1 dL_law_1537 (by decide) ?_
                      refine lv_iload (pc := 1496) F.1 F.2.1 dL_law_1496 (lv_at hl 0 rfl) ?_
                      refine lv_bipush (pc := 1498) (v := nI 6) F.1 F.2.1 dL_law_1498 (by decide) ?_
                      refine mm_icmp_ge (pc := 1500) F (x := 1) (y := 6) (tgt := 1540) (by omega) (by omega) dL_law_1500 (by decide) (fun h9 => absurd h9 (by decide)) (fun cz1500 => ?_)
                      refine lv_aload_n (pc := 1503) F.1 F.2.1 dL_law_1503 rfl (lv_at hl 1 rfl) ?_
                      refine lv_iload (pc := 1504) F.1 F.2.1 dL_law_1504 (lv_at hl 5 rfl) ?_
                      refine lv_iconst (pc := 1506) (v := nI 0) F.1 F.2.1 dL_law_1506 (by decide) ?_
                      refine lv_iload (pc := 1507) F.1 F.2.1 dL_law_1507 (lv_at hl 0 rfl) ?_
                      refine mm_runSX (pc := 1509) (As := [.ref x0, .int (nI T.nR), .int (nI 0), .int (nI 1)]) (rest := []) F hN (e_lett l b D F.2.2.2.2.2.2.2.1 T x0 σ32 hV32 hW T.nR (by omega) 0) mw_984 mw_985 mw_0 mw_986 ⟨pmL_told, (Nat.le_of_ble_eq_true rfl), (Nat.le_of_ble_eq_true rfl)⟩ hl.1 rfl (Nat.le_of_ble_eq_true rfl) ⟨(Nat.le_of_ble_eq_true rfl), (Nat.le_of_ble_eq_true rfl)⟩ dL_law_1509
                        (fun _ _ _ _ _ _ h9 => False.elim h9) (fun v9 σ33 H locs hp9 hN => ?_)
                      obtain ⟨rfl, hx33⟩ := hp9
                      refine W.eq (g2 := F0 m 1512 ls [.int (lq_i (mm_q_letters T T.nR) (mm_sm (fun p => if T.oc T.nR p = 108 then 1 else 0) (T.rp T.nR)))]) rfl ?_
                      refine W.widen (k := 568122) (n := 6753900) (Nat.le_of_ble_eq_true rfl) (Nat.le_of_ble_eq_true rfl) ?_
                      have hV33 := hx33.v
                      have hF33 := mm_Fr.tr hF32 hx33.fr
                      refine W.eq (g2 := F0 m 1512 ls [.int ((-1001))]) (by rw [lq_i1 (by unfold mm_q_letters; (repeat' split) <;> omega)]) ?_
                      refine lv_sipush (pc := 1512) (v := (-1001)) F.1 F.2.1 dL_law_1512 (by decide) ?_
                      refine lv_icmp_ne (pc := 1515) (tgt := 1532) F.1 F.2.1 dL_law_1515 (by decide) (fun h9 => absurd h9 (by decide)) (fun cz1515 => ?_)
                      refine lv_aload_n (pc := 1518) F.1 F.2.1 dL_law_1518 rfl (lv_at hl 1 rfl) ?_
                      refine lv_iconst (pc := 1519) (v := nI 4294967295) F.1 F.2.1 dL_law_1519 (by decide) ?_
                      refine lv_iconst (pc := 1520) (v := nI 0) F.1 F.2.1 dL_law_1520 (by decide) ?_
                      refine lv_iload (pc := 1521) F.1 F.2.1 dL_law_1521 (lv_at hl 0 rfl) ?_
                      refine mm_runSX (pc := 1523) (As := [.ref x0, .int (nI 4294967295), .int (nI 0), .int (nI 1)]) (rest := []) F hN (e_lett l b D F.2.2.2.2.2.2.2.1 T x0 σ33 hV33 hW 4294967295 (by decide) 0) mw_984 mw_985 mw_0 mw_986 ⟨pmL_told, (Nat.le_of_ble_eq_true rfl), (Nat.le_of_ble_eq_true rfl)⟩ hl.1 rfl (Nat.le_of_ble_eq_true rfl) ⟨(Nat.le_of_ble_eq_true rfl), (Nat.le_of_ble_eq_true rfl)⟩ dL_law_1523
                        (fun _ _ _ _ _ _ h9 => False.elim h9) (fun v9 σ34 H locs hp9 hN => ?_)
                      obtain ⟨rfl, hx34⟩ := hp9
                      refine W.eq (g2 := F0 m 1526 ls [.int (lq_i (mm_q_letters T 4294967295) (mm_sm (fun p => if T.oc 4294967295 p = 108 then 1 else 0) (T.rp 4294967295)))]) rfl ?_
                      refine W.widen (k := 568128) (n := 6753940) (Nat.le_of_ble_eq_true rfl) (Nat.le_of_ble_eq_true rfl) ?_
                      have hV34 := hx34.v
                      have hF34 := mm_Fr.tr hF33 hx34.fr
                      refine W.eq (g2 := F0 m 1526 ls [.int ((-1001))]) (by rw [lq_i1 (by unfold mm_q_letters; (repeat' split) <;> omega)]) ?_
                      refine lv_sipush (pc := 1526) (v := (-1001)) F.1 F.2.1 dL_law_1526 (by decide) ?_
                      refine lv_icmp_eq (pc := 1529) (tgt := 1534) F.1 F.2.1 dL_law_1529 (by decide) (fun cz1529 => ?_) (fun h9 => absurd h9 (by decide))
                      refine lv_iinc (pc := 1534) (v := nI 2) (lv' := [(9, .int (nI 2)), (1, .ref x0), (2, .int (nI T.nA)), (4, .long (lq_sum T)), (6, .int (nI T.nP)), (7, .int (nI T.nR)), (8, .int (nI T.nT))]) F.1 F.2.1 dL_law_1534 hl (k := 0) rfl (by decide) (by decide) rfl (fun ls hl => ?_)
                      refine lv_goto (pc := 1537) (tgt := 1496) F.1 F.2.1 dL_law_1537 (by decide) ?_
                      refine lv_iload (pc := 1496) F.1 F.2.1 dL_law_1496 (lv_at hl 0 rfl) ?_
                      refine lv_bipush (pc := 1498) (v := nI 6) F.1 F.2.1 dL_law_1498 (by decide) ?_
                      refine mm_icmp_ge (pc := 1500) F (x := 2) (y := 6) (tgt := 1540) (by omega) (by omega) dL_law_1500 (by decide) (fun h9 => absurd h9 (by decide)) (fun cz1500 => ?_)
                      refine lv_aload_n (pc := 1503) F.1 F.2.1 dL_law_1503 rfl (lv_at hl 1 rfl) ?_
                      refine lv_iload (pc := 1504) F.1 F.2.1 dL_law_1504 (lv_at hl 5 rfl) ?_
                      refine lv_iconst (pc := 1506) (v := nI 0) F.1 F.2.1 dL_law_1506 (by decide) ?_
                      refine lv_iload (pc := 1507) F.1 F.2.1 dL_law_1507 (lv_at hl 0 rfl) ?_
                      refine mm_runSX (pc := 1509) (As := [.ref x0, .int (nI T.nR), .int (nI 0), .int (nI 2)]) (rest := []) F hN (e_post l b D F.2.2.2.2.2.2.2.1 T x0 σ34 hV34 hW T.nR (by omega) 0 (by decide)) mw_984 mw_985 mw_0 mw_986 ⟨pmL_told, (Nat.le_of_ble_eq_true rfl), (Nat.le_of_ble_eq_true rfl)⟩ hl.1 rfl (Nat.le_of_ble_eq_true rfl) ⟨(Nat.le_of_ble_eq_true rfl), (Nat.le_of_ble_eq_true rfl)⟩ dL_law_1509
                        (fun _ _ _ _ _ _ h9 => False.elim h9) (fun v9 σ35 H locs hp9 hN => ?_)
                      obtain ⟨rfl, hx35⟩ := hp9
                      refine W.eq (g2 := F0 m 1512 ls [.int (lq_i (mm_q_postedAt T T.nR 0) ((mm_po (T.oc T.nR) (T.rc T.nR) (T.rp T.nR)).getD 0 0))]) rfl ?_
                      refine W.widen (k := 568134) (n := 6753980) (Nat.le_of_ble_eq_true rfl) (Nat.le_of_ble_eq_true rfl) ?_
                      have hV35 := hx35.v
                      have hF35 := mm_Fr.tr hF34 hx35.fr
                      refine W.eq (g2 := F0 m 1512 ls [.int ((-1001))]) (by rw [lq_i1 (by unfold mm_q_postedAt; (repeat' split) <;> omega)]) ?_
                      refine lv_sipush (pc := 1512) (v := (-1001)) F.1 F.2.1 dL_law_1512 (by decide) ?_
                      refine lv_icmp_ne (pc := 1515) (tgt := 1532) F.1 F.2.1 dL_law_1515 (by decide) (fun h9 => absurd h9 (by decide)) (fun cz1515 => ?_)
                      refine lv_aload_n (pc := 1518) F.1 F.2.1 dL_law_1518 rfl (lv_at hl 1 rfl) ?_
                      refine lv_iconst (pc := 1519) (v := nI 4294967295) F.1 F.2.1 dL_law_1519 (by decide) ?_
                      refine lv_iconst (pc := 1520) (v := nI 0) F.1 F.2.1 dL_law_1520 (by decide) ?_
                      refine lv_iload (pc := 1521) F.1 F.2.1 dL_law_1521 (lv_at hl 0 rfl) ?_
                      refine mm_runSX (pc := 1523) (As := [.ref x0, .int (nI 4294967295), .int (nI 0), .int (nI 2)]) (rest := []) F hN (e_post l b D F.2.2.2.2.2.2.2.1 T x0 σ35 hV35 hW 4294967295 (by decide) 0 (by decide)) mw_984 mw_985 mw_0 mw_986 ⟨pmL_told, (Nat.le_of_ble_eq_true rfl), (Nat.le_of_ble_eq_true rfl)⟩ hl.1 rfl (Nat.le_of_ble_eq_true rfl) ⟨(Nat.le_of_ble_eq_true rfl), (Nat.le_of_ble_eq_true rfl)⟩ dL_law_1523
                        (fun _ _ _ _ _ _ h9 => False.elim h9) (fun v9 σ36 H locs hp9 hN => ?_)
                      obtain ⟨rfl, hx36⟩ := hp9
                      refine W.eq (g2 := F0 m 1526 ls [.int (lq_i (mm_q_postedAt T 4294967295 0) ((mm_po (T.oc 4294967295) (T.rc 4294967295) (T.rp 4294967295)).getD 0 0))]) rfl ?_
                      refine W.widen (k := 568140) (n := 6754020) (Nat.le_of_ble_eq_true rfl) (Nat.le_of_ble_eq_true rfl) ?_
                      have hV36 := hx36.v
                      have hF36 := mm_Fr.tr hF35 hx36.fr
                      refine W.eq (g2 := F0 m 1526 ls [.int ((-1001))]) (by rw [lq_i1 (by unfold mm_q_postedAt; (repeat' split) <;> omega)]) ?_
                      refine lv_sipush (pc := 1526) (v := (-1001)) F.1 F.2.1 dL_law_1526 (by decide) ?_
                      refine lv_icmp_eq (pc := 1529) (tgt := 1534) F.1 F.2.1 dL_law_1529 (by decide) (fun cz1529 => ?_) (fun h9 => absurd h9 (by decide))
                      refine lv_iinc (pc := 1534) (v := nI 3) (lv' := [(9, .int (nI 3)), (1, .ref x0), (2, .int (nI T.nA)), (4, .long (lq_sum T)), (6, .int (nI T.nP)), (7, .int (nI T.nR)), (8, .int (nI T.nT))]) F.1 F.2.1 dL_law_1534 hl (k := 0) rfl (by decide) (by decide) rfl (fun ls hl => ?_)
                      refine lv_goto (pc := 1537) (tgt := 1496) F.1 F.2.1 dL_law_1537 (by decide) ?_
                      refine lv_iload (pc := 1496) F.1 F.2.1 dL_law_1496 (lv_at hl 0 rfl) ?_
                      refine lv_bipush (pc := 1498) (v := nI 6) F.1 F.2.1 dL_law_1498 (by decide) ?_
                      refine mm_icmp_ge (pc := 1500) F (x := 3) (y := 6) (tgt := 1540) (by omega) (by omega) dL_law_1500 (by decide) (fun h9 => absurd h9 (by decide)) (fun cz1500 => ?_)
                      refine lv_aload_n (pc := 1503) F.1 F.2.1 dL_law_1503 rfl (lv_at hl 1 rfl) ?_
                      refine lv_iload (pc := 1504) F.1 F.2.1 dL_law_1504 (lv_at hl 5 rfl) ?_
                      refine lv_iconst (pc := 1506) (v := nI 0) F.1 F.2.1 dL_law_1506 (by decide) ?_
                      refine lv_iload (pc := 1507) F.1 F.2.1 dL_law_1507 (lv_at hl 0 rfl) ?_
                      refine mm_runSX (pc := 1509) (As := [.ref x0, .int (nI T.nR), .int (nI 0), .int (nI 3)]) (rest := []) F hN (e_route l b D F.2.2.2.2.2.2.2.1 T x0 σ36 hV36 hW T.nR (by omega) 0 (by decide)) mw_984 mw_985 mw_0 mw_986 ⟨pmL_told, (Nat.le_of_ble_eq_true rfl), (Nat.le_of_ble_eq_true rfl)⟩ hl.1 rfl (Nat.le_of_ble_eq_true rfl) ⟨(Nat.le_of_ble_eq_true rfl), (Nat.le_of_ble_eq_true rfl)⟩ dL_law_1509
                        (fun _ _ _ _ _ _ h9 => False.elim h9) (fun v9 σ37 H locs hp9 hN => ?_)
                      obtain ⟨rfl, hx37⟩ := hp9
                      refine W.eq (g2 := F0 m 1512 ls [.int (lq_i (mm_q_onRoute T T.nR 0) (mm_sm (fun p => if T.oc T.nR p = 108 ∧ T.rc T.nR p / 10 = 0 then 1 else 0) (T.rp T.nR)))]) rfl ?_
                      refine W.widen (k := 568146) (n := 6754060) (Nat.le_of_ble_eq_true rfl) (Nat.le_of_ble_eq_true rfl) ?_
                      have hV37 := hx37.v
                      have hF37 := mm_Fr.tr hF36 hx37.fr
                      refine W.eq (g2 := F0 m 1512 ls [.int ((-1001))]) (by rw [lq_i1 (by unfold mm_q_onRoute; (repeat' split) <;> omega)]) ?_
                      refine lv_sipush (pc := 1512) (v := (-1001)) F.1 F.2.1 dL_law_1512 (by decide) ?_
                      refine lv_icmp_ne (pc := 1515) (tgt := 1532) F.1 F.2.1 dL_law_1515 (by decide) (fun h9 => absurd h9 (by decide)) (fun cz1515 => ?_)
                      refine lv_aload_n (pc := 1518) F.1 F.2.1 dL_law_1518 rfl (lv_at hl 1 rfl) ?_
                      refine lv_iconst (pc := 1519) (v := nI 4294967295) F.1 F.2.1 dL_law_1519 (by decide) ?_
                      refine lv_iconst (pc := 1520) (v := nI 0) F.1 F.2.1 dL_law_1520 (by decide) ?_
                      refine lv_iload (pc := 1521) F.1 F.2.1 dL_law_1521 (lv_at hl 0 rfl) ?_
                      refine mm_runSX (pc := 1523) (As := [.ref x0, .int (nI 4294967295), .int (nI 0), .int (nI 3)]) (rest := []) F hN (e_route l b D F.2.2.2.2.2.2.2.1 T x0 σ37 hV37 hW 4294967295 (by decide) 0 (by decide)) mw_984 mw_985 mw_0 mw_986 ⟨pmL_told, (Nat.le_of_ble_eq_true rfl), (Nat.le_of_ble_eq_true rfl)⟩ hl.1 rfl (Nat.le_of_ble_eq_true rfl) ⟨(Nat.le_of_ble_eq_true rfl), (Nat.le_of_ble_eq_true rfl)⟩ dL_law_1523
                        (fun _ _ _ _ _ _ h9 => False.elim h9) (fun v9 σ38 H locs hp9 hN => ?_)
                      obtain ⟨rfl, hx38⟩ := hp9
                      refine W.eq (g2 := F0 m 1526 ls [.int (lq_i (mm_q_onRoute T 4294967295 0) (mm_sm (fun p => if T.oc 4294967295 p = 108 ∧ T.rc 4294967295 p / 10 = 0 then 1 else 0) (T.rp 4294967295)))]) rfl ?_
                      refine W.widen (k := 568152) (n := 6754100) (Nat.le_of_ble_eq_true rfl) (Nat.le_of_ble_eq_true rfl) ?_
                      have hV38 := hx38.v
                      have hF38 := mm_Fr.tr hF37 hx38.fr
                      refine W.eq (g2 := F0 m 1526 ls [.int ((-1001))]) (by rw [lq_i1 (by unfold mm_q_onRoute; (repeat' split) <;> omega)]) ?_
                      refine lv_sipush (pc := 1526) (v := (-1001)) F.1 F.2.1 dL_law_1526 (by decide) ?_
                      refine lv_icmp_eq (pc := 1529) (tgt := 1534) F.1 F.2.1 dL_law_1529 (by decide) (fun cz1529 => ?_) (fun h9 => absurd h9 (by decide))
                      refine lv_iinc (pc := 1534) (v := nI 4) (lv' := [(9, .int (nI 4)), (1, .ref x0), (2, .int (nI T.nA)), (4, .long (lq_sum T)), (6, .int (nI T.nP)), (7, .int (nI T.nR)), (8, .int (nI T.nT))]) F.1 F.2.1 dL_law_1534 hl (k := 0) rfl (by decide) (by decide) rfl (fun ls hl => ?_)
                      refine lv_goto (pc := 1537) (tgt := 1496) F.1 F.2.1 dL_law_1537 (by decide) ?_
                      refine lv_iload (pc := 1496) F.1 F.2.1 dL_law_1496 (lv_at hl 0 rfl) ?_
                      refine lv_bipush (pc := 1498) (v := nI 6) F.1 F.2.1 dL_law_1498 (by decide) ?_
                      refine mm_icmp_ge (pc := 1500) F (x := 4) (y := 6) (tgt := 1540) (by omega) (by omega) dL_law_1500 (by decide) (fun h9 => absurd h9 (by decide)) (fun cz1500 => ?_)
                      refine lv_aload_n (pc := 1503) F.1 F.2.1 dL_law_1503 rfl (lv_at hl 1 rfl) ?_
                      refine lv_iload (pc := 1504) F.1 F.2.1 dL_law_1504 (lv_at hl 5 rfl) ?_
                      refine lv_iconst (pc := 1506) (v := nI 0) F.1 F.2.1 dL_law_1506 (by decide) ?_
                      refine lv_iload (pc := 1507) F.1 F.2.1 dL_law_1507 (lv_at hl 0 rfl) ?_
                      refine mm_runSX (pc := 1509) (As := [.ref x0, .int (nI T.nR), .int (nI 0), .int (nI 4)]) (rest := []) F hN (e_stamp l b D F.2.2.2.2.2.2.2.1 T x0 σ38 hV38 hW T.nR (by omega) 0 (by decide)) mw_984 mw_985 mw_0 mw_986 ⟨pmL_told, (Nat.le_of_ble_eq_true rfl), (Nat.le_of_ble_eq_true rfl)⟩ hl.1 rfl (Nat.le_of_ble_eq_true rfl) ⟨(Nat.le_of_ble_eq_true rfl), (Nat.le_of_ble_eq_true rfl)⟩ dL_law_1509
                        (fun _ _ _ _ _ _ h9 => False.elim h9) (fun v9 σ39 H locs hp9 hN => ?_)
                      obtain ⟨rfl, hx39⟩ := hp9
                      refine W.eq (g2 := F0 m 1512 ls [.int (lq_i (mm_q_postage T T.nR 0) (T.ps T.nR 0))]) rfl ?_
                      refine W.widen (k := 568158) (n := 6754140) (Nat.le_of_ble_eq_true rfl) (Nat.le_of_ble_eq_true rfl) ?_
                      have hV39 := hx39.v
                      have hF39 := mm_Fr.tr hF38 hx39.fr
                      refine W.eq (g2 := F0 m 1512 ls [.int ((-1001))]) (by rw [lq_i1 (by unfold mm_q_postage; (repeat' split) <;> omega)]) ?_
                      refine lv_sipush (pc := 1512) (v := (-1001)) F.1 F.2.1 dL_law_1512 (by decide) ?_
                      refine lv_icmp_ne (pc := 1515) (tgt := 1532) F.1 F.2.1 dL_law_1515 (by decide) (fun h9 => absurd h9 (by decide)) (fun cz1515 => ?_)
                      refine lv_aload_n (pc := 1518) F.1 F.2.1 dL_law_1518 rfl (lv_at hl 1 rfl) ?_
                      refine lv_iconst (pc := 1519) (v := nI 4294967295) F.1 F.2.1 dL_law_1519 (by decide) ?_
                      refine lv_iconst (pc := 1520) (v := nI 0) F.1 F.2.1 dL_law_1520 (by decide) ?_
                      refine lv_iload (pc := 1521) F.1 F.2.1 dL_law_1521 (lv_at hl 0 rfl) ?_
                      refine mm_runSX (pc := 1523) (As := [.ref x0, .int (nI 4294967295), .int (nI 0), .int (nI 4)]) (rest := []) F hN (e_stamp l b D F.2.2.2.2.2.2.2.1 T x0 σ39 hV39 hW 4294967295 (by decide) 0 (by decide)) mw_984 mw_985 mw_0 mw_986 ⟨pmL_told, (Nat.le_of_ble_eq_true rfl), (Nat.le_of_ble_eq_true rfl)⟩ hl.1 rfl (Nat.le_of_ble_eq_true rfl) ⟨(Nat.le_of_ble_eq_true rfl), (Nat.le_of_ble_eq_true rfl)⟩ dL_law_1523
                        (fun _ _ _ _ _ _ h9 => False.elim h9) (fun v9 σ40 H locs hp9 hN => ?_)
                      obtain ⟨rfl, hx40⟩ := hp9
                      refine W.eq (g2 := F0 m 1526 ls [.int (lq_i (mm_q_postage T 4294967295 0) (T.ps 4294967295 0))]) rfl ?_
                      refine W.widen (k := 568164) (n := 6754180) (Nat.le_of_ble_eq_true rfl) (Nat.le_of_ble_eq_true rfl) ?_
                      have hV40 := hx40.v
                      have hF40 := mm_Fr.tr hF39 hx40.fr
                      refine W.eq (g2 := F0 m 1526 ls [.int ((-1001))]) (by rw [lq_i1 (by unfold mm_q_postage; (repeat' split) <;> omega)]) ?_
                      refine lv_sipush (pc := 1526) (v := (-1001)) F.1 F.2.1 dL_law_1526 (by decide) ?_
                      refine lv_icmp_eq (pc := 1529) (tgt := 1534) F.1 F.2.1 dL_law_1529 (by decide) (fun cz1529 => ?_) (fun h9 => absurd h9 (by decide))
                      refine lv_iinc (pc := 1534) (v := nI 5) (lv' := [(9, .int (nI 5)), (1, .ref x0), (2, .int (nI T.nA)), (4, .long (lq_sum T)), (6, .int (nI T.nP)), (7, .int (nI T.nR)), (8, .int (nI T.nT))]) F.1 F.2.1 dL_law_1534 hl (k := 0) rfl (by decide) (by decide) rfl (fun ls hl => ?_)
                      refine lv_goto (pc := 1537) (tgt := 1496) F.1 F.2.1 dL_law_1537 (by decide) ?_
                      refine lv_iload (pc := 1496) F.1 F.2.1 dL_law_1496 (lv_at hl 0 rfl) ?_
                      refine lv_bipush (pc := 1498) (v := nI 6) F.1 F.2.1 dL_law_1498 (by decide) ?_
                      refine mm_icmp_ge (pc := 1500) F (x := 5) (y := 6) (tgt := 1540) (by omega) (by omega) dL_law_1500 (by decide) (fun h9 => absurd h9 (by decide)) (fun cz1500 => ?_)
                      refine lv_aload_n (pc := 1503) F.1 F.2.1 dL_law_1503 rfl (lv_at hl 1 rfl) ?_
                      refine lv_iload (pc := 1504) F.1 F.2.1 dL_law_1504 (lv_at hl 5 rfl) ?_
                      refine lv_iconst (pc := 1506) (v := nI 0) F.1 F.2.1 dL_law_1506 (by decide) ?_
                      refine lv_iload (pc := 1507) F.1 F.2.1 dL_law_1507 (lv_at hl 0 rfl) ?_
                      refine mm_runSX (pc := 1509) (As := [.ref x0, .int (nI T.nR), .int (nI 0), .int (nI 5)]) (rest := []) F hN (e_proof l b D F.2.2.2.2.2.2.2.1 T x0 σ40 hV40 hW T.nR (by omega) 0 (by decide)) mw_984 mw_985 mw_0 mw_986 ⟨pmL_told, (Nat.le_of_ble_eq_true rfl), (Nat.le_of_ble_eq_true rfl)⟩ hl.1 rfl (Nat.le_of_ble_eq_true rfl) ⟨(Nat.le_of_ble_eq_true rfl), (Nat.le_of_ble_eq_true rfl)⟩ dL_law_1509
                        (fun _ _ _ _ _ _ h9 => False.elim h9) (fun v9 σ41 H locs hp9 hN => ?_)
                      obtain ⟨rfl, hx41⟩ := hp9
                      refine W.eq (g2 := F0 m 1512 ls [.int (lq_i (mm_q_proofAt T T.nR 0) ((mm_pl (mm_fr T T.nR) (T.rp T.nR) 8).getD 0 0))]) rfl ?_
                      refine W.widen (k := 568170) (n := 6754220) (Nat.le_of_ble_eq_true rfl) (Nat.le_of_ble_eq_true rfl) ?_
                      have hV41 := hx41.v
                      have hF41 := mm_Fr.tr hF40 hx41.fr
                      refine W.eq (g2 := F0 m 1512 ls [.int ((-1001))]) (by rw [lq_i1 (by unfold mm_q_proofAt; (repeat' split) <;> omega)]) ?_
                      refine lv_sipush (pc := 1512) (v := (-1001)) F.1 F.2.1 dL_law_1512 (by decide) ?_
                      refine lv_icmp_ne (pc := 1515) (tgt := 1532) F.1 F.2.1 dL_law_1515 (by decide) (fun h9 => absurd h9 (by decide)) (fun cz1515 => ?_)
                      refine lv_aload_n (pc := 1518) F.1 F.2.1 dL_law_1518 rfl (lv_at hl 1 rfl) ?_
                      refine lv_iconst (pc := 1519) (v := nI 4294967295) F.1 F.2.1 dL_law_1519 (by decide) ?_
                      refine lv_iconst (pc := 1520) (v := nI 0) F.1 F.2.1 dL_law_1520 (by decide) ?_
                      refine lv_iload (pc := 1521) F.1 F.2.1 dL_law_1521 (lv_at hl 0 rfl) ?_
                      refine mm_runSX (pc := 1523) (As := [.ref x0, .int (nI 4294967295), .int (nI 0), .int (nI 5)]) (rest := []) F hN (e_proof l b D F.2.2.2.2.2.2.2.1 T x0 σ41 hV41 hW 4294967295 (by decide) 0 (by decide)) mw_984 mw_985 mw_0 mw_986 ⟨pmL_told, (Nat.le_of_ble_eq_true rfl), (Nat.le_of_ble_eq_true rfl)⟩ hl.1 rfl (Nat.le_of_ble_eq_true rfl) ⟨(Nat.le_of_ble_eq_true rfl), (Nat.le_of_ble_eq_true rfl)⟩ dL_law_1523
                        (fun _ _ _ _ _ _ h9 => False.elim h9) (fun v9 σ42 H locs hp9 hN => ?_)
                      obtain ⟨rfl, hx42⟩ := hp9
                      refine W.eq (g2 := F0 m 1526 ls [.int (lq_i (mm_q_proofAt T 4294967295 0) ((mm_pl (mm_fr T 4294967295) (T.rp 4294967295) 8).getD 0 0))]) rfl ?_
                      refine W.widen (k := 568176) (n := 6754260) (Nat.le_of_ble_eq_true rfl) (Nat.le_of_ble_eq_true rfl) ?_
                      have hV42 := hx42.v
                      have hF42 := mm_Fr.tr hF41 hx42.fr
                      refine W.eq (g2 := F0 m 1526 ls [.int ((-1001))]) (by rw [lq_i1 (by unfold mm_q_proofAt; (repeat' split) <;> omega)]) ?_
                      refine lv_sipush (pc := 1526) (v := (-1001)) F.1 F.2.1 dL_law_1526 (by decide) ?_
                      refine lv_icmp_eq (pc := 1529) (tgt := 1534) F.1 F.2.1 dL_law_1529 (by decide) (fun cz1529 => ?_) (fun h9 => absurd h9 (by decide))
                      refine lv_iinc (pc := 1534) (v := nI 6) (lv' := [(9, .int (nI 6)), (1, .ref x0), (2, .int (nI T.nA)), (4, .long (lq_sum T)), (6, .int (nI T.nP)), (7, .int (nI T.nR)), (8, .int (nI T.nT))]) F.1 F.2.1 dL_law_1534 hl (k := 0) rfl (by decide) (by decide) rfl (fun ls hl => ?_)
                      refine lv_goto (pc := 1537) (tgt := 1496) F.1 F.2.1 dL_law_1537 (by decide) ?_
                      refine lv_iload (pc := 1496) F.1 F.2.1 dL_law_1496 (lv_at hl 0 rfl) ?_
                      refine lv_bipush (pc := 1498) (v := nI 6) F.1 F.2.1 dL_law_1498 (by decide) ?_
                      refine mm_icmp_ge (pc := 1500) F (x := 6) (y := 6) (tgt := 1540) (by omega) (by omega) dL_law_1500 (by decide) (fun cz1500 => ?_) (fun h9 => absurd h9 (by decide))
                      refine lv_iload (pc := 1540) F.1 F.2.1 dL_law_1540 (lv_at hl 5 rfl) ?_
                      have j1640 : ∀ (σj : mm_S) (ls : Array Slot) (H : Heap) (locs : List Loc), lq_V σj T x0 → mm_N b D s σj H locs → lv_has ls 20 [(1, .ref x0), (2, .int (nI T.nA)), (4, .long (lq_sum T)), (6, .int (nI T.nP)), (7, .int (nI T.nR)), (8, .int (nI T.nT))] → W p l e room_1 s m args below meth c H locs 568276 6755060 Q (F0 m 1640 ls []) := by
                        intro σj ls H locs hVj hN hl
                        refine lv_aload_n (pc := 1640) F.1 F.2.1 dL_law_1640 rfl (lv_at hl 0 rfl) ?_
                        refine mm_runS (pc := 1641) (As := [.ref x0]) (rest := []) F hN (e_sum l b D F.2.2.2.2.2.2.2.1 T x0 σj hVj hW) mw_1108 mw_1109 mw_0 mw_1110 ⟨pmL_sum, (Nat.le_of_ble_eq_true rfl), (Nat.le_of_ble_eq_true rfl)⟩ hl.1 rfl (Nat.le_of_ble_eq_true rfl) ⟨(Nat.le_of_ble_eq_true rfl), (Nat.le_of_ble_eq_true rfl)⟩ dL_law_1641
                          (fun _ _ _ _ _ _ h9 => False.elim h9) (fun v9 σ43 H locs hp9 hN => ?_)
                        obtain ⟨rfl, hx43⟩ := hp9
                        refine W.eq (g2 := F0 m 1644 ls [.long (lq_sum T)]) rfl ?_
                        refine W.widen (k := 569676) (n := 6766060) (Nat.le_of_ble_eq_true rfl) (Nat.le_of_ble_eq_true rfl) ?_
                        have hV43 := hx43.v
                        refine lv_lload (pc := 1644) F.1 F.2.1 dL_law_1644 (lv_at hl 2 rfl) ?_
                        refine mm_lcmpE (pc := 1646) F.1 F.2.1 dL_law_1646 ?_
                        refine mm_if_ne (pc := 1647) F (tgt := 1654) (by omega) dL_law_1647 (by decide) (fun h9 => absurd h9 (by decide)) (fun cz1647 => ?_)
                        refine lv_iconst (pc := 1650) (v := nI 1) F.1 F.2.1 dL_law_1650 (by decide) ?_
                        refine lv_goto (pc := 1651) (tgt := 1655) F.1 F.2.1 dL_law_1651 (by decide) ?_
                        exact hfin _ _ _ _ _ _ hN (Nat.le_of_ble_eq_true rfl) (Nat.le_of_ble_eq_true rfl)
                      refine mm_if_eq (pc := 1542) F (tgt := 1640) (by omega) dL_law_1542 (by decide) (fun cz1542 => ?_) (fun cz1542 => ?_)
                      ·
                        exact W.widen (Nat.le_of_ble_eq_true rfl) (Nat.le_of_ble_eq_true rfl) (j1640 σ42 ls H locs hV42 hN (lv_sub hl [1, 2, 3, 4, 5, 6] rfl))
                      ·
                        have hr0 : 0 < T.nR := by omega
                        obtain ⟨wr1, -⟩ := hW.hru 0 hr0
                        have hpo0 := mm_po_len (T.oc 0) (T.rc 0) (T.rp 0)
                        have hpl0 := mm_pl_len (mm_fr T 0) (T.rp 0) 8
                        refine lv_aload_n (pc := 1545) F.1 F.2.1 dL_law_1545 rfl (lv_at hl 1 rfl) ?_
                        refine lv_iconst (pc := 1546) (v := nI 0) F.1 F.2.1 dL_law_1546 (by decide) ?_
                        refine lv_bipush (pc := 1547) (v := nI 10) F.1 F.2.1 dL_law_1547 (by decide) ?_
                        refine lv_iconst (pc := 1549) (v := nI 3) F.1 F.2.1 dL_law_1549 (by decide) ?_
                        refine mm_runSX (pc := 1550) (As := [.ref x0, .int (nI 0), .int (nI 10), .int (nI 3)]) (rest := []) F hN (e_route l b D F.2.2.2.2.2.2.2.1 T x0 σ42 hV42 hW 0 (by decide) 10 (by decide)) mw_984 mw_985 mw_0 mw_986 ⟨pmL_told, (Nat.le_of_ble_eq_true rfl), (Nat.le_of_ble_eq_true rfl)⟩ hl.1 rfl (Nat.le_of_ble_eq_true rfl) ⟨(Nat.le_of_ble_eq_true rfl), (Nat.le_of_ble_eq_true rfl)⟩ dL_law_1550
                          (fun _ _ _ _ _ _ h9 => False.elim h9) (fun v9 σ44 H locs hp9 hN => ?_)
                        obtain ⟨rfl, hx44⟩ := hp9
                        refine W.eq (g2 := F0 m 1553 ls [.int (lq_i (mm_q_onRoute T 0 10) (mm_sm (fun p => if T.oc 0 p = 108 ∧ T.rc 0 p / 10 = 10 then 1 else 0) (T.rp 0)))]) rfl ?_
                        refine W.widen (k := 568182) (n := 6754300) (Nat.le_of_ble_eq_true rfl) (Nat.le_of_ble_eq_true rfl) ?_
                        have hV44 := hx44.v
                        have hF44 := mm_Fr.tr hF42 hx44.fr
                        refine W.eq (g2 := F0 m 1553 ls [.int ((-1002))]) (by rw [lq_i2 (by unfold mm_q_onRoute; (repeat' split) <;> omega)]) ?_
                        refine lv_sipush (pc := 1553) (v := (-1002)) F.1 F.2.1 dL_law_1553 (by decide) ?_
                        refine lv_icmp_ne (pc := 1556) (tgt := 1654) F.1 F.2.1 dL_law_1556 (by decide) (fun h9 => absurd h9 (by decide)) (fun cz1556 => ?_)
                        refine lv_aload_n (pc := 1559) F.1 F.2.1 dL_law_1559 rfl (lv_at hl 1 rfl) ?_
                        refine lv_iconst (pc := 1560) (v := nI 0) F.1 F.2.1 dL_law_1560 (by decide) ?_
                        refine lv_iconst (pc := 1561) (v := nI 4294967295) F.1 F.2.1 dL_law_1561 (by decide) ?_
                        refine lv_iconst (pc := 1562) (v := nI 3) F.1 F.2.1 dL_law_1562 (by decide) ?_
                        refine mm_runSX (pc := 1563) (As := [.ref x0, .int (nI 0), .int (nI 4294967295), .int (nI 3)]) (rest := []) F hN (e_route l b D F.2.2.2.2.2.2.2.1 T x0 σ44 hV44 hW 0 (by decide) 4294967295 (by decide)) mw_984 mw_985 mw_0 mw_986 ⟨pmL_told, (Nat.le_of_ble_eq_true rfl), (Nat.le_of_ble_eq_true rfl)⟩ hl.1 rfl (Nat.le_of_ble_eq_true rfl) ⟨(Nat.le_of_ble_eq_true rfl), (Nat.le_of_ble_eq_true rfl)⟩ dL_law_1563
                          (fun _ _ _ _ _ _ h9 => False.elim h9) (fun v9 σ45 H locs hp9 hN => ?_)
                        obtain ⟨rfl, hx45⟩ := hp9
                        refine W.eq (g2 := F0 m 1566 ls [.int (lq_i (mm_q_onRoute T 0 4294967295) (mm_sm (fun p => if T.oc 0 p = 108 ∧ T.rc 0 p / 10 = 4294967295 then 1 else 0) (T.rp 0)))]) rfl ?_
                        refine W.widen (k := 568188) (n := 6754340) (Nat.le_of_ble_eq_true rfl) (Nat.le_of_ble_eq_true rfl) ?_
                        have hV45 := hx45.v
                        have hF45 := mm_Fr.tr hF44 hx45.fr
                        refine W.eq (g2 := F0 m 1566 ls [.int ((-1002))]) (by rw [lq_i2 (by unfold mm_q_onRoute; (repeat' split) <;> omega)]) ?_
                        refine lv_sipush (pc := 1566) (v := (-1002)) F.1 F.2.1 dL_law_1566 (by decide) ?_
                        refine lv_icmp_ne (pc := 1569) (tgt := 1654) F.1 F.2.1 dL_law_1569 (by decide) (fun h9 => absurd h9 (by decide)) (fun cz1569 => ?_)
                        refine lv_aload_n (pc := 1572) F.1 F.2.1 dL_law_1572 rfl (lv_at hl 1 rfl) ?_
                        refine lv_iconst (pc := 1573) (v := nI 0) F.1 F.2.1 dL_law_1573 (by decide) ?_
                        refine lv_iconst (pc := 1574) (v := nI 4294967295) F.1 F.2.1 dL_law_1574 (by decide) ?_
                        refine lv_iconst (pc := 1575) (v := nI 2) F.1 F.2.1 dL_law_1575 (by decide) ?_
                        refine mm_runSX (pc := 1576) (As := [.ref x0, .int (nI 0), .int (nI 4294967295), .int (nI 2)]) (rest := []) F hN (e_post l b D F.2.2.2.2.2.2.2.1 T x0 σ45 hV45 hW 0 (by decide) 4294967295 (by decide)) mw_984 mw_985 mw_0 mw_986 ⟨pmL_told, (Nat.le_of_ble_eq_true rfl), (Nat.le_of_ble_eq_true rfl)⟩ hl.1 rfl (Nat.le_of_ble_eq_true rfl) ⟨(Nat.le_of_ble_eq_true rfl), (Nat.le_of_ble_eq_true rfl)⟩ dL_law_1576
                          (fun _ _ _ _ _ _ h9 => False.elim h9) (fun v9 σ46 H locs hp9 hN => ?_)
                        obtain ⟨rfl, hx46⟩ := hp9
                        refine W.eq (g2 := F0 m 1579 ls [.int (lq_i (mm_q_postedAt T 0 4294967295) ((mm_po (T.oc 0) (T.rc 0) (T.rp 0)).getD 4294967295 0))]) rfl ?_
                        refine W.widen (k := 568194) (n := 6754380) (Nat.le_of_ble_eq_true rfl) (Nat.le_of_ble_eq_true rfl) ?_
                        have hV46 := hx46.v
                        have hF46 := mm_Fr.tr hF45 hx46.fr
                        refine W.eq (g2 := F0 m 1579 ls [.int ((-1002))]) (by rw [lq_i2 (by unfold mm_q_postedAt; (repeat' split) <;> omega)]) ?_
                        refine lv_sipush (pc := 1579) (v := (-1002)) F.1 F.2.1 dL_law_1579 (by decide) ?_
                        refine lv_icmp_ne (pc := 1582) (tgt := 1654) F.1 F.2.1 dL_law_1582 (by decide) (fun h9 => absurd h9 (by decide)) (fun cz1582 => ?_)
                        refine lv_aload_n (pc := 1585) F.1 F.2.1 dL_law_1585 rfl (lv_at hl 1 rfl) ?_
                        refine lv_iconst (pc := 1586) (v := nI 0) F.1 F.2.1 dL_law_1586 (by decide) ?_
                        refine lv_iconst (pc := 1587) (v := nI 4294967295) F.1 F.2.1 dL_law_1587 (by decide) ?_
                        refine lv_iconst (pc := 1588) (v := nI 5) F.1 F.2.1 dL_law_1588 (by decide) ?_
                        refine mm_runSX (pc := 1589) (As := [.ref x0, .int (nI 0), .int (nI 4294967295), .int (nI 5)]) (rest := []) F hN (e_proof l b D F.2.2.2.2.2.2.2.1 T x0 σ46 hV46 hW 0 (by decide) 4294967295 (by decide)) mw_984 mw_985 mw_0 mw_986 ⟨pmL_told, (Nat.le_of_ble_eq_true rfl), (Nat.le_of_ble_eq_true rfl)⟩ hl.1 rfl (Nat.le_of_ble_eq_true rfl) ⟨(Nat.le_of_ble_eq_true rfl), (Nat.le_of_ble_eq_true rfl)⟩ dL_law_1589
                          (fun _ _ _ _ _ _ h9 => False.elim h9) (fun v9 σ47 H locs hp9 hN => ?_)
                        obtain ⟨rfl, hx47⟩ := hp9
                        refine W.eq (g2 := F0 m 1592 ls [.int (lq_i (mm_q_proofAt T 0 4294967295) ((mm_pl (mm_fr T 0) (T.rp 0) 8).getD 4294967295 0))]) rfl ?_
                        refine W.widen (k := 568200) (n := 6754420) (Nat.le_of_ble_eq_true rfl) (Nat.le_of_ble_eq_true rfl) ?_
                        have hV47 := hx47.v
                        have hF47 := mm_Fr.tr hF46 hx47.fr
                        refine W.eq (g2 := F0 m 1592 ls [.int ((-1002))]) (by rw [lq_i2 (by unfold mm_q_proofAt; (repeat' split) <;> omega)]) ?_
                        refine lv_sipush (pc := 1592) (v := (-1002)) F.1 F.2.1 dL_law_1592 (by decide) ?_
                        refine lv_icmp_ne (pc := 1595) (tgt := 1654) F.1 F.2.1 dL_law_1595 (by decide) (fun h9 => absurd h9 (by decide)) (fun cz1595 => ?_)
                        refine lv_aload_n (pc := 1598) F.1 F.2.1 dL_law_1598 rfl (lv_at hl 1 rfl) ?_
                        refine lv_iconst (pc := 1599) (v := nI 0) F.1 F.2.1 dL_law_1599 (by decide) ?_
                        refine lv_iconst (pc := 1600) (v := nI 4294967295) F.1 F.2.1 dL_law_1600 (by decide) ?_
                        refine lv_iconst (pc := 1601) (v := nI 0) F.1 F.2.1 dL_law_1601 (by decide) ?_
                        refine mm_runSX (pc := 1602) (As := [.ref x0, .int (nI 0), .int (nI 4294967295), .int (nI 0)]) (rest := []) F hN (e_outc l b D F.2.2.2.2.2.2.2.1 T x0 σ47 hV47 hW 0 (by decide) 4294967295 (by decide)) mw_984 mw_985 mw_0 mw_986 ⟨pmL_told, (Nat.le_of_ble_eq_true rfl), (Nat.le_of_ble_eq_true rfl)⟩ hl.1 rfl (Nat.le_of_ble_eq_true rfl) ⟨(Nat.le_of_ble_eq_true rfl), (Nat.le_of_ble_eq_true rfl)⟩ dL_law_1602
                          (fun _ _ _ _ _ _ h9 => False.elim h9) (fun v9 σ48 H locs hp9 hN => ?_)
                        obtain ⟨rfl, hx48⟩ := hp9
                        refine W.eq (g2 := F0 m 1605 ls [.int (lq_i (mm_q_outcome T 0 4294967295) (T.oc 0 4294967295))]) rfl ?_
                        refine W.widen (k := 568206) (n := 6754460) (Nat.le_of_ble_eq_true rfl) (Nat.le_of_ble_eq_true rfl) ?_
                        have hV48 := hx48.v
                        have hF48 := mm_Fr.tr hF47 hx48.fr
                        refine W.eq (g2 := F0 m 1605 ls [.int ((-1001))]) (by rw [lq_i1 (by unfold mm_q_outcome; (repeat' split) <;> omega)]) ?_
                        refine lv_sipush (pc := 1605) (v := (-1001)) F.1 F.2.1 dL_law_1605 (by decide) ?_
                        refine lv_icmp_ne (pc := 1608) (tgt := 1654) F.1 F.2.1 dL_law_1608 (by decide) (fun h9 => absurd h9 (by decide)) (fun cz1608 => ?_)
                        refine lv_aload_n (pc := 1611) F.1 F.2.1 dL_law_1611 rfl (lv_at hl 1 rfl) ?_
                        refine lv_iconst (pc := 1612) (v := nI 0) F.1 F.2.1 dL_law_1612 (by decide) ?_
                        refine lv_iload (pc := 1613) F.1 F.2.1 dL_law_1613 (lv_at hl 4 rfl) ?_
                        refine lv_iconst (pc := 1615) (v := nI 4) F.1 F.2.1 dL_law_1615 (by decide) ?_
                        refine mm_runSX (pc := 1616) (As := [.ref x0, .int (nI 0), .int (nI T.nP), .int (nI 4)]) (rest := []) F hN (e_stamp l b D F.2.2.2.2.2.2.2.1 T x0 σ48 hV48 hW 0 (by decide) T.nP (by omega)) mw_984 mw_985 mw_0 mw_986 ⟨pmL_told, (Nat.le_of_ble_eq_true rfl), (Nat.le_of_ble_eq_true rfl)⟩ hl.1 rfl (Nat.le_of_ble_eq_true rfl) ⟨(Nat.le_of_ble_eq_true rfl), (Nat.le_of_ble_eq_true rfl)⟩ dL_law_1616
                          (fun _ _ _ _ _ _ h9 => False.elim h9) (fun v9 σ49 H locs hp9 hN => ?_)
                        obtain ⟨rfl, hx49⟩ := hp9
                        refine W.eq (g2 := F0 m 1619 ls [.int (lq_i (mm_q_postage T 0 T.nP) (T.ps 0 T.nP))]) rfl ?_
                        refine W.widen (k := 568212) (n := 6754500) (Nat.le_of_ble_eq_true rfl) (Nat.le_of_ble_eq_true rfl) ?_
                        have hV49 := hx49.v
                        have hF49 := mm_Fr.tr hF48 hx49.fr
                        refine W.eq (g2 := F0 m 1619 ls [.int ((-1001))]) (by rw [lq_i1 (by unfold mm_q_postage; (repeat' split) <;> omega)]) ?_
                        refine lv_sipush (pc := 1619) (v := (-1001)) F.1 F.2.1 dL_law_1619 (by decide) ?_
                        refine lv_icmp_ne (pc := 1622) (tgt := 1654) F.1 F.2.1 dL_law_1622 (by decide) (fun h9 => absurd h9 (by decide)) (fun cz1622 => ?_)
                        refine lv_aload_n (pc := 1625) F.1 F.2.1 dL_law_1625 rfl (lv_at hl 1 rfl) ?_
                        refine lv_iconst (pc := 1626) (v := nI 0) F.1 F.2.1 dL_law_1626 (by decide) ?_
                        refine lv_iload (pc := 1627) F.1 F.2.1 dL_law_1627 (lv_at hl 4 rfl) ?_
                        refine lv_bipush (pc := 1629) (v := nI 117) F.1 F.2.1 dL_law_1629 (by decide) ?_
                        refine mm_runSX (pc := 1631) (As := [.ref x0, .int (nI 0), .int (nI T.nP), .int (nI 117)]) (rest := []) F hN (e_back l b D F.2.2.2.2.2.2.2.1 T x0 σ49 hV49 hW 0 (by decide) T.nP (by omega) 117 (by decide)) mw_960 mw_961 mw_0 mw_962 ⟨pmL_back, (Nat.le_of_ble_eq_true rfl), (Nat.le_of_ble_eq_true rfl)⟩ hl.1 rfl (Nat.le_of_ble_eq_true rfl) ⟨(Nat.le_of_ble_eq_true rfl), (Nat.le_of_ble_eq_true rfl)⟩ dL_law_1631
                          (fun _ _ _ _ _ _ h9 => False.elim h9) (fun v9 σ50 H locs hp9 hN => ?_)
                        obtain ⟨rfl, hx50⟩ := hp9
                        refine W.eq (g2 := F0 m 1634 ls [.int (lq_i (mm_q_comesBack T 0 T.nP 117) (mm_sm (mm_u2 (T 19) 0 T.nP 1 0) (T.rp 0)))]) rfl ?_
                        refine W.widen (k := 568218) (n := 6754540) (Nat.le_of_ble_eq_true rfl) (Nat.le_of_ble_eq_true rfl) ?_
                        have hV50 := hx50.v
                        have hF50 := mm_Fr.tr hF49 hx50.fr
                        have hq50 : mm_q_comesBack T 0 T.nP 117 = 1 := by unfold mm_q_comesBack; (repeat' split) <;> omega
                        have hV50 : lq_V σ50 T x0 := by have h8 := hx50.v; rw [if_neg (by rw [hq50]; decide)] at h8; exact h8
                        refine W.eq (g2 := F0 m 1634 ls [.int ((-1001))]) (by rw [lq_i1 hq50]) ?_
                        refine lv_sipush (pc := 1634) (v := (-1001)) F.1 F.2.1 dL_law_1634 (by decide) ?_
                        refine lv_icmp_ne (pc := 1637) (tgt := 1654) F.1 F.2.1 dL_law_1637 (by decide) (fun h9 => absurd h9 (by decide)) (fun cz1637 => ?_)
                        exact W.widen (Nat.le_of_ble_eq_true rfl) (Nat.le_of_ble_eq_true rfl) (j1640 σ50 ls H locs hV50 hN (lv_sub hl [1, 2, 3, 4, 5, 6] rfl))
                    refine lv_aload_n (pc := 1457) F.1 F.2.1 dL_law_1457 rfl (lv_at hl 0 rfl) ?_
                    refine mm_runSX (pc := 1458) (As := [.ref x0]) (rest := []) F hN (e_share l b D F.2.2.2.2.2.2.2.1 T x0 σ30 hV30 hW) mw_1064 mw_1065 mw_0 mw_1066 ⟨pmL_share, (Nat.le_of_ble_eq_true rfl), (Nat.le_of_ble_eq_true rfl)⟩ hl.1 rfl (Nat.le_of_ble_eq_true rfl) ⟨(Nat.le_of_ble_eq_true rfl), (Nat.le_of_ble_eq_true rfl)⟩ dL_law_1458
                      (fun _ _ _ _ _ _ h9 => False.elim h9) (fun v9 σ51 H locs hp9 hN => ?_)
                    obtain ⟨rfl, hx51⟩ := hp9
                    refine W.eq (g2 := F0 m 1461 ls [.float ((if mm_q_returnShare T = 0 then FP.fdiv (FP.i2f (nI (mm_sm (mm_nb9 T) T.nR))) (FP.i2f (nI (mm_sm (mm_nl T) T.nR))) else 3212836864))]) rfl ?_
                    refine W.widen (k := 568010) (n := 6753020) (Nat.le_of_ble_eq_true rfl) (Nat.le_of_ble_eq_true rfl) ?_
                    have hV51 := hx51.v
                    have hF51 := mm_Fr.tr hF30 hx51.fr
                    refine W.eq (g2 := F0 m 1461 ls [.float (lq_sh T)]) (by rfl) ?_
                    refine lv_ldcf (pc := 1461) (v := 3212836864) F.1 F.2.1 F.2.2.2.1 (F.2.2.2.2.1 _ mw_1092) dL_law_1461 ?_
                    refine lv_fcmp (pc := 1463) F.1 F.2.1 dL_law_1463 ?_
                    refine lv_if_ne (pc := 1464) (tgt := 1471) F.1 F.2.1 dL_law_1464 (by decide) (fun cz1464 => ?_) (fun cz1464 => ?_)
                    ·
                      refine lv_iconst (pc := 1471) (v := nI 0) F.1 F.2.1 dL_law_1471 (by decide) ?_
                      refine lv_aload_n (pc := 1472) F.1 F.2.1 dL_law_1472 rfl (lv_at hl 0 rfl) ?_
                      refine mm_runSX (pc := 1473) (As := [.ref x0]) (rest := [.int (nI 0)]) F hN (e_mean l b D F.2.2.2.2.2.2.2.1 T x0 σ51 hV51 hW) mw_1093 mw_1094 mw_0 mw_1095 ⟨pmL_mean, (Nat.le_of_ble_eq_true rfl), (Nat.le_of_ble_eq_true rfl)⟩ hl.1 rfl (Nat.le_of_ble_eq_true rfl) ⟨(Nat.le_of_ble_eq_true rfl), (Nat.le_of_ble_eq_true rfl)⟩ dL_law_1473
                        (fun _ _ _ _ _ _ h9 => False.elim h9) (fun v9 σ52 H locs hp9 hN => ?_)
                      obtain ⟨rfl, hx52⟩ := hp9
                      refine W.eq (g2 := F0 m 1476 ls [.double ((if mm_q_meanPages T = 0 then FP.ddiv (FP.i2d (nI (mm_sm (mm_s0 T) T.nR))) (FP.i2d (nI (mm_sm (mm_nl T) T.nR))) else 13830554455654793216)), .int (nI 0)]) rfl ?_
                      refine W.widen (k := 568016) (n := 6753060) (Nat.le_of_ble_eq_true rfl) (Nat.le_of_ble_eq_true rfl) ?_
                      have hV52 := hx52.v
                      have hF52 := mm_Fr.tr hF51 hx52.fr
                      refine W.eq (g2 := F0 m 1476 ls [.double (lq_me T), .int (nI 0)]) (by rfl) ?_
                      refine lv_ldc2d (pc := 1476) (v := (13830554455654793216)) F.1 F.2.1 F.2.2.2.1 (F.2.2.2.2.1 _ mw_1104) dL_law_1476 ?_
                      refine lv_dcmp (pc := 1479) F.1 F.2.1 dL_law_1479 ?_
                      refine lv_if_ne (pc := 1480) (tgt := 1487) F.1 F.2.1 dL_law_1480 (by decide) (fun cz1480 => ?_) (fun cz1480 => ?_)
                      ·
                        refine lv_iconst (pc := 1487) (v := nI 0) F.1 F.2.1 dL_law_1487 (by decide) ?_
                        refine mm_icmp_eq (pc := 1488) F (x := 0) (y := 0) (tgt := 1493) (by omega) (by omega) dL_law_1488 (by decide) (fun cz1488 => ?_) (fun h9 => absurd h9 (by decide))
                        exact W.widen (Nat.le_of_ble_eq_true rfl) (Nat.le_of_ble_eq_true rfl) (j1493 σ52 ls H locs hV52 hN (lv_sub hl [0, 1, 2, 3, 4, 5] rfl))
                      ·
                        exact absurd ((lq_sh_no hW).mpr ((lq_me_no hW).mp cz1480)) cz1464
                    ·
                      refine lv_iconst (pc := 1467) (v := nI 1) F.1 F.2.1 dL_law_1467 (by decide) ?_
                      refine lv_goto (pc := 1468) (tgt := 1472) F.1 F.2.1 dL_law_1468 (by decide) ?_
                      refine lv_aload_n (pc := 1472) F.1 F.2.1 dL_law_1472 rfl (lv_at hl 0 rfl) ?_
                      refine mm_runSX (pc := 1473) (As := [.ref x0]) (rest := [.int (nI 1)]) F hN (e_mean l b D F.2.2.2.2.2.2.2.1 T x0 σ51 hV51 hW) mw_1093 mw_1094 mw_0 mw_1095 ⟨pmL_mean, (Nat.le_of_ble_eq_true rfl), (Nat.le_of_ble_eq_true rfl)⟩ hl.1 rfl (Nat.le_of_ble_eq_true rfl) ⟨(Nat.le_of_ble_eq_true rfl), (Nat.le_of_ble_eq_true rfl)⟩ dL_law_1473
                        (fun _ _ _ _ _ _ h9 => False.elim h9) (fun v9 σ53 H locs hp9 hN => ?_)
                      obtain ⟨rfl, hx53⟩ := hp9
                      refine W.eq (g2 := F0 m 1476 ls [.double ((if mm_q_meanPages T = 0 then FP.ddiv (FP.i2d (nI (mm_sm (mm_s0 T) T.nR))) (FP.i2d (nI (mm_sm (mm_nl T) T.nR))) else 13830554455654793216)), .int (nI 1)]) rfl ?_
                      refine W.widen (k := 568016) (n := 6753060) (Nat.le_of_ble_eq_true rfl) (Nat.le_of_ble_eq_true rfl) ?_
                      have hV53 := hx53.v
                      have hF53 := mm_Fr.tr hF51 hx53.fr
                      refine W.eq (g2 := F0 m 1476 ls [.double (lq_me T), .int (nI 1)]) (by rfl) ?_
                      refine lv_ldc2d (pc := 1476) (v := (13830554455654793216)) F.1 F.2.1 F.2.2.2.1 (F.2.2.2.2.1 _ mw_1104) dL_law_1476 ?_
                      refine lv_dcmp (pc := 1479) F.1 F.2.1 dL_law_1479 ?_
                      refine lv_if_ne (pc := 1480) (tgt := 1487) F.1 F.2.1 dL_law_1480 (by decide) (fun cz1480 => ?_) (fun cz1480 => ?_)
                      ·
                        exact absurd ((lq_me_no hW).mpr ((lq_sh_no hW).mp cz1464)) cz1480
                      ·
                        refine lv_iconst (pc := 1483) (v := nI 1) F.1 F.2.1 dL_law_1483 (by decide) ?_
                        refine lv_goto (pc := 1484) (tgt := 1488) F.1 F.2.1 dL_law_1484 (by decide) ?_
                        refine mm_icmp_eq (pc := 1488) F (x := 1) (y := 1) (tgt := 1493) (by omega) (by omega) dL_law_1488 (by decide) (fun cz1488 => ?_) (fun h9 => absurd h9 (by decide))
                        exact W.widen (Nat.le_of_ble_eq_true rfl) (Nat.le_of_ble_eq_true rfl) (j1493 σ53 ls H locs hV53 hN (lv_sub hl [0, 1, 2, 3, 4, 5] rfl))
                  refine mm_if_le (pc := 1288) F (tgt := 1306) (by omega) dL_law_1288 (by decide) (fun cz1288 => ?_) (fun cz1288 => ?_)
                  ·
                    exact W.widen (Nat.le_of_ble_eq_true rfl) (Nat.le_of_ble_eq_true rfl) (j1306 σ19 ls H locs hV19 hN (lv_sub hl [0, 1, 2, 3, 4, 5] rfl))
                  ·
                    refine lv_aload_n (pc := 1291) F.1 F.2.1 dL_law_1291 rfl (lv_at hl 0 rfl) ?_
                    refine lv_iconst (pc := 1292) (v := nI 0) F.1 F.2.1 dL_law_1292 (by decide) ?_
                    refine lv_bipush (pc := 1293) (v := nI 8) F.1 F.2.1 dL_law_1293 (by decide) ?_
                    refine mm_runSX (pc := 1295) (As := [.ref x0, .int (nI 0), .int (nI 8)]) (rest := []) F hN (e_pages l b D F.2.2.2.2.2.2.2.1 T x0 σ19 hV19 hW 0 (by decide) 8 (by decide)) mw_507 mw_508 mw_0 mw_509 ⟨pmL_pages, (Nat.le_of_ble_eq_true rfl), (Nat.le_of_ble_eq_true rfl)⟩ hl.1 rfl (Nat.le_of_ble_eq_true rfl) ⟨(Nat.le_of_ble_eq_true rfl), (Nat.le_of_ble_eq_true rfl)⟩ dL_law_1295
                      (fun _ _ _ _ _ _ h9 => False.elim h9) (fun v9 σ54 H locs hp9 hN => ?_)
                    obtain ⟨rfl, hx54⟩ := hp9
                    refine W.eq (g2 := F0 m 1298 ls [.int (lq_i (mm_q_pagesFor T 0 8) (mm_pgs T 0 8))]) rfl ?_
                    refine W.widen (k := 567750) (n := 6742820) (Nat.le_of_ble_eq_true rfl) (Nat.le_of_ble_eq_true rfl) ?_
                    have hV54 := hx54.v
                    have hF54 := mm_Fr.tr hF19 hx54.fr
                    refine W.eq (g2 := F0 m 1298 ls [.int ((-1002))]) (by rw [lq_i2 (by unfold mm_q_pagesFor; (repeat' split) <;> omega)]) ?_
                    refine lv_sipush (pc := 1298) (v := (-1002)) F.1 F.2.1 dL_law_1298 (by decide) ?_
                    refine lv_icmp_eq (pc := 1301) (tgt := 1306) F.1 F.2.1 dL_law_1301 (by decide) (fun cz1301 => ?_) (fun h9 => absurd h9 (by decide))
                    exact W.widen (Nat.le_of_ble_eq_true rfl) (Nat.le_of_ble_eq_true rfl) (j1306 σ54 ls H locs hV54 hN (lv_sub hl [0, 1, 2, 3, 4, 5] rfl))
                refine mm_if_le (pc := 1255) F (tgt := 1272) (by omega) dL_law_1255 (by decide) (fun cz1255 => ?_) (fun cz1255 => ?_)
                ·
                  exact W.widen (Nat.le_of_ble_eq_true rfl) (Nat.le_of_ble_eq_true rfl) (j1272 σj ls H locs hVj hN (lv_sub hl [0, 1, 2, 3, 4, 5] rfl))
                ·
                  refine lv_aload_n (pc := 1258) F.1 F.2.1 dL_law_1258 rfl (lv_at hl 0 rfl) ?_
                  refine lv_iconst (pc := 1259) (v := nI 0) F.1 F.2.1 dL_law_1259 (by decide) ?_
                  refine lv_iconst (pc := 1260) (v := nI 1) F.1 F.2.1 dL_law_1260 (by decide) ?_
                  refine lv_iconst (pc := 1261) (v := nI 0) F.1 F.2.1 dL_law_1261 (by decide) ?_
                  refine lv_iconst (pc := 1262) (v := nI 4294967295) F.1 F.2.1 dL_law_1262 (by decide) ?_
                  refine mm_runSX (pc := 1263) (As := [.ref x0, .int (nI 0), .int (nI 1), .int (nI 0), .int (nI 4294967295)]) (rest := []) F hN (e_part l b D F.2.2.2.2.2.2.2.1 T x0 σj hVj hW 0 (by decide) 1 (by decide) 0 (by decide) 4294967295 (by decide)) mw_485 mw_486 mw_0 mw_487 ⟨pmL_part, (Nat.le_of_ble_eq_true rfl), (Nat.le_of_ble_eq_true rfl)⟩ hl.1 rfl (Nat.le_of_ble_eq_true rfl) ⟨(Nat.le_of_ble_eq_true rfl), (Nat.le_of_ble_eq_true rfl)⟩ dL_law_1263
                    (fun _ _ _ _ _ _ h9 => False.elim h9) (fun v9 σ55 H locs hp9 hN => ?_)
                  obtain ⟨rfl, hx55⟩ := hp9
                  refine W.eq (g2 := F0 m 1266 ls [.int (lq_i (mm_q_addPart T 0 1 0 4294967295) (T.pc 0 + 1))]) rfl ?_
                  refine W.widen (k := 567644) (n := 6741980) (Nat.le_of_ble_eq_true rfl) (Nat.le_of_ble_eq_true rfl) ?_
                  have hV55 := hx55.v
                  have hF55 := mm_Fr.tr mm_Fr.rf hx55.fr
                  have hq55 : mm_q_addPart T 0 1 0 4294967295 = 2 := by unfold mm_q_addPart; (repeat' split) <;> omega
                  have hV55 : lq_V σ55 T x0 := by have h8 := hx55.v; rw [if_neg (by rw [hq55]; decide)] at h8; exact h8
                  refine W.eq (g2 := F0 m 1266 ls [.int ((-1002))]) (by rw [lq_i2 hq55]) ?_
                  refine lv_sipush (pc := 1266) (v := (-1002)) F.1 F.2.1 dL_law_1266 (by decide) ?_
                  refine lv_icmp_ne (pc := 1269) (tgt := 1304) F.1 F.2.1 dL_law_1269 (by decide) (fun h9 => absurd h9 (by decide)) (fun cz1269 => ?_)
                  exact W.widen (Nat.le_of_ble_eq_true rfl) (Nat.le_of_ble_eq_true rfl) (j1272 σ55 ls H locs hV55 hN (lv_sub hl [0, 1, 2, 3, 4, 5] rfl))
              refine mm_if_le (pc := 1235) F (tgt := 1253) (by omega) dL_law_1235 (by decide) (fun cz1235 => ?_) (fun cz1235 => ?_)
              ·
                exact W.widen (Nat.le_of_ble_eq_true rfl) (Nat.le_of_ble_eq_true rfl) (j1253 σj ls H locs hVj hN (lv_sub hl [0, 1, 2, 3, 4, 5] rfl))
              ·
                refine lv_aload_n (pc := 1238) F.1 F.2.1 dL_law_1238 rfl (lv_at hl 0 rfl) ?_
                refine lv_iconst (pc := 1239) (v := nI 0) F.1 F.2.1 dL_law_1239 (by decide) ?_
                refine lv_iconst (pc := 1240) (v := nI 1) F.1 F.2.1 dL_law_1240 (by decide) ?_
                refine lv_bipush (pc := 1241) (v := nI 8) F.1 F.2.1 dL_law_1241 (by decide) ?_
                refine lv_iconst (pc := 1243) (v := nI 0) F.1 F.2.1 dL_law_1243 (by decide) ?_
                refine mm_runSX (pc := 1244) (As := [.ref x0, .int (nI 0), .int (nI 1), .int (nI 8), .int (nI 0)]) (rest := []) F hN (e_part l b D F.2.2.2.2.2.2.2.1 T x0 σj hVj hW 0 (by decide) 1 (by decide) 8 (by decide) 0 (by decide)) mw_485 mw_486 mw_0 mw_487 ⟨pmL_part, (Nat.le_of_ble_eq_true rfl), (Nat.le_of_ble_eq_true rfl)⟩ hl.1 rfl (Nat.le_of_ble_eq_true rfl) ⟨(Nat.le_of_ble_eq_true rfl), (Nat.le_of_ble_eq_true rfl)⟩ dL_law_1244
                  (fun _ _ _ _ _ _ h9 => False.elim h9) (fun v9 σ56 H locs hp9 hN => ?_)
                obtain ⟨rfl, hx56⟩ := hp9
                refine W.eq (g2 := F0 m 1247 ls [.int (lq_i (mm_q_addPart T 0 1 8 0) (T.pc 0 + 1))]) rfl ?_
                refine W.widen (k := 567544) (n := 6741180) (Nat.le_of_ble_eq_true rfl) (Nat.le_of_ble_eq_true rfl) ?_
                have hV56 := hx56.v
                have hF56 := mm_Fr.tr mm_Fr.rf hx56.fr
                have hq56 : mm_q_addPart T 0 1 8 0 = 2 := by unfold mm_q_addPart; (repeat' split) <;> omega
                have hV56 : lq_V σ56 T x0 := by have h8 := hx56.v; rw [if_neg (by rw [hq56]; decide)] at h8; exact h8
                refine W.eq (g2 := F0 m 1247 ls [.int ((-1002))]) (by rw [lq_i2 hq56]) ?_
                refine lv_sipush (pc := 1247) (v := (-1002)) F.1 F.2.1 dL_law_1247 (by decide) ?_
                refine lv_icmp_ne (pc := 1250) (tgt := 1304) F.1 F.2.1 dL_law_1250 (by decide) (fun h9 => absurd h9 (by decide)) (fun cz1250 => ?_)
                exact W.widen (Nat.le_of_ble_eq_true rfl) (Nat.le_of_ble_eq_true rfl) (j1253 σ56 ls H locs hV56 hN (lv_sub hl [0, 1, 2, 3, 4, 5] rfl))
            refine mm_if_le (pc := 1215) F (tgt := 1233) (by omega) dL_law_1215 (by decide) (fun cz1215 => ?_) (fun cz1215 => ?_)
            ·
              exact W.widen (Nat.le_of_ble_eq_true rfl) (Nat.le_of_ble_eq_true rfl) (j1233 σj ls H locs hVj hN (lv_sub hl [0, 1, 2, 3, 4, 5] rfl))
            ·
              refine lv_aload_n (pc := 1218) F.1 F.2.1 dL_law_1218 rfl (lv_at hl 0 rfl) ?_
              refine lv_iconst (pc := 1219) (v := nI 0) F.1 F.2.1 dL_law_1219 (by decide) ?_
              refine lv_bipush (pc := 1220) (v := nI 41) F.1 F.2.1 dL_law_1220 (by decide) ?_
              refine lv_iconst (pc := 1222) (v := nI 0) F.1 F.2.1 dL_law_1222 (by decide) ?_
              refine lv_iconst (pc := 1223) (v := nI 0) F.1 F.2.1 dL_law_1223 (by decide) ?_
              refine mm_runSX (pc := 1224) (As := [.ref x0, .int (nI 0), .int (nI 41), .int (nI 0), .int (nI 0)]) (rest := []) F hN (e_part l b D F.2.2.2.2.2.2.2.1 T x0 σj hVj hW 0 (by decide) 41 (by decide) 0 (by decide) 0 (by decide)) mw_485 mw_486 mw_0 mw_487 ⟨pmL_part, (Nat.le_of_ble_eq_true rfl), (Nat.le_of_ble_eq_true rfl)⟩ hl.1 rfl (Nat.le_of_ble_eq_true rfl) ⟨(Nat.le_of_ble_eq_true rfl), (Nat.le_of_ble_eq_true rfl)⟩ dL_law_1224
                (fun _ _ _ _ _ _ h9 => False.elim h9) (fun v9 σ57 H locs hp9 hN => ?_)
              obtain ⟨rfl, hx57⟩ := hp9
              refine W.eq (g2 := F0 m 1227 ls [.int (lq_i (mm_q_addPart T 0 41 0 0) (T.pc 0 + 1))]) rfl ?_
              refine W.widen (k := 567444) (n := 6740380) (Nat.le_of_ble_eq_true rfl) (Nat.le_of_ble_eq_true rfl) ?_
              have hV57 := hx57.v
              have hF57 := mm_Fr.tr mm_Fr.rf hx57.fr
              have hq57 : mm_q_addPart T 0 41 0 0 = 2 := by unfold mm_q_addPart; (repeat' split) <;> omega
              have hV57 : lq_V σ57 T x0 := by have h8 := hx57.v; rw [if_neg (by rw [hq57]; decide)] at h8; exact h8
              refine W.eq (g2 := F0 m 1227 ls [.int ((-1002))]) (by rw [lq_i2 hq57]) ?_
              refine lv_sipush (pc := 1227) (v := (-1002)) F.1 F.2.1 dL_law_1227 (by decide) ?_
              refine lv_icmp_ne (pc := 1230) (tgt := 1304) F.1 F.2.1 dL_law_1230 (by decide) (fun h9 => absurd h9 (by decide)) (fun cz1230 => ?_)
              exact W.widen (Nat.le_of_ble_eq_true rfl) (Nat.le_of_ble_eq_true rfl) (j1233 σ57 ls H locs hV57 hN (lv_sub hl [0, 1, 2, 3, 4, 5] rfl))
          refine mm_if_le (pc := 1196) F (tgt := 1213) (by omega) dL_law_1196 (by decide) (fun cz1196 => ?_) (fun cz1196 => ?_)
          ·
            exact W.widen (Nat.le_of_ble_eq_true rfl) (Nat.le_of_ble_eq_true rfl) (j1213 σ18 ls H locs hV18 hN (lv_sub hl [0, 1, 2, 3, 4, 5] rfl))
          ·
            refine lv_aload_n (pc := 1199) F.1 F.2.1 dL_law_1199 rfl (lv_at hl 0 rfl) ?_
            refine lv_iconst (pc := 1200) (v := nI 0) F.1 F.2.1 dL_law_1200 (by decide) ?_
            refine lv_iconst (pc := 1201) (v := nI 0) F.1 F.2.1 dL_law_1201 (by decide) ?_
            refine lv_iconst (pc := 1202) (v := nI 0) F.1 F.2.1 dL_law_1202 (by decide) ?_
            refine lv_iconst (pc := 1203) (v := nI 0) F.1 F.2.1 dL_law_1203 (by decide) ?_
            refine mm_runSX (pc := 1204) (As := [.ref x0, .int (nI 0), .int (nI 0), .int (nI 0), .int (nI 0)]) (rest := []) F hN (e_part l b D F.2.2.2.2.2.2.2.1 T x0 σ18 hV18 hW 0 (by decide) 0 (by decide) 0 (by decide) 0 (by decide)) mw_485 mw_486 mw_0 mw_487 ⟨pmL_part, (Nat.le_of_ble_eq_true rfl), (Nat.le_of_ble_eq_true rfl)⟩ hl.1 rfl (Nat.le_of_ble_eq_true rfl) ⟨(Nat.le_of_ble_eq_true rfl), (Nat.le_of_ble_eq_true rfl)⟩ dL_law_1204
              (fun _ _ _ _ _ _ h9 => False.elim h9) (fun v9 σ58 H locs hp9 hN => ?_)
            obtain ⟨rfl, hx58⟩ := hp9
            refine W.eq (g2 := F0 m 1207 ls [.int (lq_i (mm_q_addPart T 0 0 0 0) (T.pc 0 + 1))]) rfl ?_
            refine W.widen (k := 567344) (n := 6739580) (Nat.le_of_ble_eq_true rfl) (Nat.le_of_ble_eq_true rfl) ?_
            have hV58 := hx58.v
            have hF58 := mm_Fr.tr hF18 hx58.fr
            have hq58 : mm_q_addPart T 0 0 0 0 = 2 := by unfold mm_q_addPart; (repeat' split) <;> omega
            have hV58 : lq_V σ58 T x0 := by have h8 := hx58.v; rw [if_neg (by rw [hq58]; decide)] at h8; exact h8
            refine W.eq (g2 := F0 m 1207 ls [.int ((-1002))]) (by rw [lq_i2 hq58]) ?_
            refine lv_sipush (pc := 1207) (v := (-1002)) F.1 F.2.1 dL_law_1207 (by decide) ?_
            refine lv_icmp_ne (pc := 1210) (tgt := 1304) F.1 F.2.1 dL_law_1210 (by decide) (fun h9 => absurd h9 (by decide)) (fun cz1210 => ?_)
            exact W.widen (Nat.le_of_ble_eq_true rfl) (Nat.le_of_ble_eq_true rfl) (j1213 σ58 ls H locs hV58 hN (lv_sub hl [0, 1, 2, 3, 4, 5] rfl))
        refine mm_if_le (pc := 1112) F (tgt := 1128) (by omega) dL_law_1112 (by decide) (fun cz1112 => ?_) (fun cz1112 => ?_)
        ·
          exact W.widen (Nat.le_of_ble_eq_true rfl) (Nat.le_of_ble_eq_true rfl) (j1128 σ13 ls H locs hV13 hN (lv_sub hl [0, 1, 2, 3, 4, 5] rfl))
        ·
          refine lv_aload_n (pc := 1115) F.1 F.2.1 dL_law_1115 rfl (lv_at hl 0 rfl) ?_
          refine lv_iconst (pc := 1116) (v := nI 0) F.1 F.2.1 dL_law_1116 (by decide) ?_
          refine lv_bipush (pc := 1117) (v := nI 122) F.1 F.2.1 dL_law_1117 (by decide) ?_
          refine mm_runSX (pc := 1119) (As := [.ref x0, .int (nI 0), .int (nI 122)]) (rest := []) F hN (e_suppr l b D F.2.2.2.2.2.2.2.1 T x0 σ13 hV13 hW 0 (by decide) 122 (by decide) (by decide)) mw_421 mw_422 mw_0 mw_423 ⟨pmL_suppress, (Nat.le_of_ble_eq_true rfl), (Nat.le_of_ble_eq_true rfl)⟩ hl.1 rfl (Nat.le_of_ble_eq_true rfl) ⟨(Nat.le_of_ble_eq_true rfl), (Nat.le_of_ble_eq_true rfl)⟩ dL_law_1119
            (fun _ _ _ _ _ _ h9 => False.elim h9) (fun v9 σ59 H locs hp9 hN => ?_)
          obtain ⟨rfl, hx59⟩ := hp9
          refine W.eq (g2 := F0 m 1122 ls [.int (lq_i (mm_q_suppress T 0 122) (T.re 0))]) rfl ?_
          refine W.widen (k := 567214) (n := 6738580) (Nat.le_of_ble_eq_true rfl) (Nat.le_of_ble_eq_true rfl) ?_
          have hV59 := hx59.v
          have hF59 := mm_Fr.tr hF13 hx59.fr
          have hq59 : mm_q_suppress T 0 122 = 2 := by unfold mm_q_suppress; (repeat' split) <;> omega
          have hV59 : lq_V σ59 T x0 := by have h8 := hx59.v; rw [if_neg (by rw [hq59]; decide)] at h8; exact h8
          refine W.eq (g2 := F0 m 1122 ls [.int ((-1002))]) (by rw [lq_i2 hq59]) ?_
          refine lv_sipush (pc := 1122) (v := (-1002)) F.1 F.2.1 dL_law_1122 (by decide) ?_
          refine lv_icmp_ne (pc := 1125) (tgt := 1304) F.1 F.2.1 dL_law_1125 (by decide) (fun h9 => absurd h9 (by decide)) (fun cz1125 => ?_)
          exact W.widen (Nat.le_of_ble_eq_true rfl) (Nat.le_of_ble_eq_true rfl) (j1128 σ59 ls H locs hV59 hN (lv_sub hl [0, 1, 2, 3, 4, 5] rfl))
      refine mm_if_le (pc := 1079) F (tgt := 1096) (by omega) dL_law_1079 (by decide) (fun cz1079 => ?_) (fun cz1079 => ?_)
      ·
        exact W.widen (Nat.le_of_ble_eq_true rfl) (Nat.le_of_ble_eq_true rfl) (j1096 σ12 ls H locs hV12 hN (lv_sub hl [0, 1, 2, 3, 4, 5] rfl))
      ·
        refine lv_aload_n (pc := 1082) F.1 F.2.1 dL_law_1082 rfl (lv_at hl 0 rfl) ?_
        refine lv_bipush (pc := 1083) (v := nI 109) F.1 F.2.1 dL_law_1083 (by decide) ?_
        refine lv_iconst (pc := 1085) (v := nI 0) F.1 F.2.1 dL_law_1085 (by decide) ?_
        refine lv_iload_n (pc := 1086) F.1 F.2.1 dL_law_1086 rfl (lv_at hl 1 rfl) ?_
        refine mm_runSX (pc := 1087) (As := [.ref x0, .int (nI 109), .int (nI 0), .int (nI T.nA)]) (rest := []) F hN (e_move l b D F.2.2.2.2.2.2.2.1 T x0 σ12 hV12 hW 0 (by decide) T.nA (by omega)) mw_309 mw_310 mw_0 mw_311 ⟨pmL_sets, (Nat.le_of_ble_eq_true rfl), (Nat.le_of_ble_eq_true rfl)⟩ hl.1 rfl (Nat.le_of_ble_eq_true rfl) ⟨(Nat.le_of_ble_eq_true rfl), (Nat.le_of_ble_eq_true rfl)⟩ dL_law_1087
          (fun _ _ _ _ _ _ h9 => False.elim h9) (fun v9 σ60 H locs hp9 hN => ?_)
        obtain ⟨rfl, hx60⟩ := hp9
        refine W.eq (g2 := F0 m 1090 ls [.int (lq_i (mm_q_move T 0 T.nA) (T.ho 0))]) rfl ?_
        refine W.widen (k := 567110) (n := 6738000) (Nat.le_of_ble_eq_true rfl) (Nat.le_of_ble_eq_true rfl) ?_
        have hV60 := hx60.v
        have hF60 := mm_Fr.tr hF12 hx60.fr
        have hq60 : mm_q_move T 0 T.nA = 1 := by unfold mm_q_move; (repeat' split) <;> omega
        have hV60 : lq_V σ60 T x0 := by have h8 := hx60.v; rw [if_neg (by rw [hq60]; decide)] at h8; exact h8
        refine W.eq (g2 := F0 m 1090 ls [.int ((-1001))]) (by rw [lq_i1 hq60]) ?_
        refine lv_sipush (pc := 1090) (v := (-1001)) F.1 F.2.1 dL_law_1090 (by decide) ?_
        refine lv_icmp_ne (pc := 1093) (tgt := 1304) F.1 F.2.1 dL_law_1093 (by decide) (fun h9 => absurd h9 (by decide)) (fun cz1093 => ?_)
        exact W.widen (Nat.le_of_ble_eq_true rfl) (Nat.le_of_ble_eq_true rfl) (j1096 σ60 ls H locs hV60 hN (lv_sub hl [0, 1, 2, 3, 4, 5] rfl))
    refine mm_if_le (pc := 1045) F (tgt := 1062) (by omega) dL_law_1045 (by decide) (fun cz1045 => ?_) (fun cz1045 => ?_)
    ·
      exact W.widen (Nat.le_of_ble_eq_true rfl) (Nat.le_of_ble_eq_true rfl) (j1062 σj ls H locs hVj hN (lv_sub hl [0, 1, 2, 3, 4, 5] rfl))
    ·
      refine lv_aload_n (pc := 1048) F.1 F.2.1 dL_law_1048 rfl (lv_at hl 0 rfl) ?_
      refine lv_bipush (pc := 1049) (v := nI 102) F.1 F.2.1 dL_law_1049 (by decide) ?_
      refine lv_iconst (pc := 1051) (v := nI 0) F.1 F.2.1 dL_law_1051 (by decide) ?_
      refine lv_iconst (pc := 1052) (v := nI 4294967295) F.1 F.2.1 dL_law_1052 (by decide) ?_
      refine mm_runSX (pc := 1053) (As := [.ref x0, .int (nI 102), .int (nI 0), .int (nI 4294967295)]) (rest := []) F hN (e_flags l b D F.2.2.2.2.2.2.2.1 T x0 σj hVj hW 0 (by decide) 4294967295 (by decide)) mw_309 mw_310 mw_0 mw_311 ⟨pmL_sets, (Nat.le_of_ble_eq_true rfl), (Nat.le_of_ble_eq_true rfl)⟩ hl.1 rfl (Nat.le_of_ble_eq_true rfl) ⟨(Nat.le_of_ble_eq_true rfl), (Nat.le_of_ble_eq_true rfl)⟩ dL_law_1053
        (fun _ _ _ _ _ _ h9 => False.elim h9) (fun v9 σ61 H locs hp9 hN => ?_)
      obtain ⟨rfl, hx61⟩ := hp9
      refine W.eq (g2 := F0 m 1056 ls [.int (lq_i (mm_q_setFlags T 0 4294967295) (T.fl 0))]) rfl ?_
      refine W.widen (k := 567002) (n := 6736900) (Nat.le_of_ble_eq_true rfl) (Nat.le_of_ble_eq_true rfl) ?_
      have hV61 := hx61.v
      have hF61 := mm_Fr.tr mm_Fr.rf hx61.fr
      have hq61 : mm_q_setFlags T 0 4294967295 = 2 := by unfold mm_q_setFlags; (repeat' split) <;> omega
      have hV61 : lq_V σ61 T x0 := by have h8 := hx61.v; rw [if_neg (by rw [hq61]; decide)] at h8; exact h8
      refine W.eq (g2 := F0 m 1056 ls [.int ((-1002))]) (by rw [lq_i2 hq61]) ?_
      refine lv_sipush (pc := 1056) (v := (-1002)) F.1 F.2.1 dL_law_1056 (by decide) ?_
      refine lv_icmp_ne (pc := 1059) (tgt := 1304) F.1 F.2.1 dL_law_1059 (by decide) (fun h9 => absurd h9 (by decide)) (fun cz1059 => ?_)
      exact W.widen (Nat.le_of_ble_eq_true rfl) (Nat.le_of_ble_eq_true rfl) (j1062 σ61 ls H locs hV61 hN (lv_sub hl [0, 1, 2, 3, 4, 5] rfl))
  refine mm_if_le (pc := 1025) F (tgt := 1043) (by omega) dL_law_1025 (by decide) (fun cz1025 => ?_) (fun cz1025 => ?_)
  ·
    exact W.widen (Nat.le_of_ble_eq_true rfl) (Nat.le_of_ble_eq_true rfl) (j1043 σ11 ls H locs hV11 hN (lv_sub hl [4, 5, 3, 2, 1, 0] rfl))
  ·
    refine lv_aload_n (pc := 1028) F.1 F.2.1 dL_law_1028 rfl (lv_at hl 4 rfl) ?_
    refine lv_bipush (pc := 1029) (v := nI 102) F.1 F.2.1 dL_law_1029 (by decide) ?_
    refine lv_iconst (pc := 1031) (v := nI 0) F.1 F.2.1 dL_law_1031 (by decide) ?_
    refine lv_bipush (pc := 1032) (v := nI 8) F.1 F.2.1 dL_law_1032 (by decide) ?_
    refine mm_runSX (pc := 1034) (As := [.ref x0, .int (nI 102), .int (nI 0), .int (nI 8)]) (rest := []) F hN (e_flags l b D F.2.2.2.2.2.2.2.1 T x0 σ11 hV11 hW 0 (by decide) 8 (by decide)) mw_309 mw_310 mw_0 mw_311 ⟨pmL_sets, (Nat.le_of_ble_eq_true rfl), (Nat.le_of_ble_eq_true rfl)⟩ hl.1 rfl (Nat.le_of_ble_eq_true rfl) ⟨(Nat.le_of_ble_eq_true rfl), (Nat.le_of_ble_eq_true rfl)⟩ dL_law_1034
      (fun _ _ _ _ _ _ h9 => False.elim h9) (fun v9 σ62 H locs hp9 hN => ?_)
    obtain ⟨rfl, hx62⟩ := hp9
    refine W.eq (g2 := F0 m 1037 ls [.int (lq_i (mm_q_setFlags T 0 8) (T.fl 0))]) rfl ?_
    refine W.widen (k := 566902) (n := 6736100) (Nat.le_of_ble_eq_true rfl) (Nat.le_of_ble_eq_true rfl) ?_
    have hV62 := hx62.v
    have hF62 := mm_Fr.tr hF11 hx62.fr
    have hq62 : mm_q_setFlags T 0 8 = 2 := by unfold mm_q_setFlags; (repeat' split) <;> omega
    have hV62 : lq_V σ62 T x0 := by have h8 := hx62.v; rw [if_neg (by rw [hq62]; decide)] at h8; exact h8
    refine W.eq (g2 := F0 m 1037 ls [.int ((-1002))]) (by rw [lq_i2 hq62]) ?_
    refine lv_sipush (pc := 1037) (v := (-1002)) F.1 F.2.1 dL_law_1037 (by decide) ?_
    refine lv_icmp_ne (pc := 1040) (tgt := 1304) F.1 F.2.1 dL_law_1040 (by decide) (fun h9 => absurd h9 (by decide)) (fun cz1040 => ?_)
    exact W.widen (Nat.le_of_ble_eq_true rfl) (Nat.le_of_ble_eq_true rfl) (j1043 σ62 ls H locs hV62 hN (lv_sub hl [4, 5, 3, 2, 1, 0] rfl))
