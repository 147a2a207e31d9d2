theorem mm_Mu.outL {rd : Nat → Nat → Nat} {σ σ2 : mm_S} {T T' : mm_T} {q : Nat} {v : Option Value} {a d : Int64} (h : mm_Mu rd σ σ2 T T' q v (some (.long a)) (some (.long d))) : v = some (.long (if q = 0 then a else d)) ∧ mm_M σ2 (if q = 0 then T' else T) q rd ∧ mm_Fr 1 σ σ2 := by
  obtain ⟨h1, h2, h3⟩ := h.out
  refine ⟨?_, h2, h3⟩
  rw [h1]
  split <;> rfl
theorem mm_Mu.outF {rd : Nat → Nat → Nat} {σ σ2 : mm_S} {T T' : mm_T} {q : Nat} {v : Option Value} {a d : UInt32} (h : mm_Mu rd σ σ2 T T' q v (some (.float a)) (some (.float d))) : v = some (.float (if q = 0 then a else d)) ∧ mm_M σ2 (if q = 0 then T' else T) q rd ∧ mm_Fr 1 σ σ2 := by
  obtain ⟨h1, h2, h3⟩ := h.out
  refine ⟨?_, h2, h3⟩
  rw [h1]
  split <;> rfl
theorem mm_Mu.outD {rd : Nat → Nat → Nat} {σ σ2 : mm_S} {T T' : mm_T} {q : Nat} {v : Option Value} {a d : UInt64} (h : mm_Mu rd σ σ2 T T' q v (some (.double a)) (some (.double d))) : v = some (.double (if q = 0 then a else d)) ∧ mm_M σ2 (if q = 0 then T' else T) q rd ∧ mm_Fr 1 σ σ2 := by
  obtain ⟨h1, h2, h3⟩ := h.out
  refine ⟨?_, h2, h3⟩
  rw [h1]
  split <;> rfl
set_option maxHeartbeats 4000000 in
set_option maxRecDepth 100000 in
theorem law_27 {p : Program} {l : Launch} {e : Env} {s : State} {m : MethodId} {args : Array Value} {below : List Frame} {meth : Method} {c : Code} {H : Heap} {locs : List Loc} {cells slots : Nat} {Q : State → Prop} {b : Nat} {D : mm_D} {σ : mm_S} {T : mm_T} {x0 m0 o d sb L i : Nat} {ns : Nat → Nat} {ls : Array Slot}
    (F : mm_F p l s m args meth c b D RL cL_law 9) (hXs : va_X sb L (fun j => nI (ns j)) s s.heap) (hbl : sb < s.heap.size) (hbb : sb < b) (hL : L ≤ 2560) (hns : ∀ j, ns j < 2 ^ 32) (hi : i + 5 ≤ L) (hN : mm_N b D s σ H locs) (hV : mm_V σ T x0 m0 o d) (hl : lv_has ls 9 (mm_lc i d o m0 x0 sb)) (hc : cells + 103 ≤ 603072) (hs : slots + 9037 ≤ 7215210)
    (kk : ∀ (T2 : mm_T) (σ2 : mm_S) (ls : Array Slot) (H : Heap) (locs : List Loc), mm_V σ2 T2 x0 m0 o d → mm_N b D s σ2 H locs → lv_has ls 9 (mm_lc i d o m0 x0 sb) → W p l e room_1 s m args below meth c H locs (cells + 103) (slots + 9037) Q (F0 m 2217 ls []))
    : W p l e room_1 s m args below meth c H locs cells slots Q (F0 m 1950 ls []) := by
  obtain ⟨⟨z, ad, hX, rfl⟩, ⟨th, rd, hM, rfl⟩, ⟨go, ho⟩, ⟨gd, hd⟩, hod, hW⟩ := hV
  have hl : lv_has ls 9 [(5, .int (nI i)), (4, .ref d), (3, .ref o), (2, .ref ((rd 0 0))), (1, .ref ((ad 0 0 0))), (0, .ref sb)] := hl
  refine lv_aload_n (pc := 1950) F.1 F.2.1 dL_law_1950 rfl (lv_at hl 4 rfl) ?_
  refine lv_aload_n (pc := 1951) F.1 F.2.1 dL_law_1951 rfl (lv_at hl 5 rfl) ?_
  refine lv_iload (pc := 1952) F.1 F.2.1 dL_law_1952 (lv_at hl 0 rfl) ?_
  refine lv_iconst (pc := 1954) (v := nI 1) F.1 F.2.1 dL_law_1954 (by decide) ?_
  refine mm_iadd (pc := 1955) F (z := nI (i + 1)) (nI_add _ _) dL_law_1955 ?_
  refine mm_sld (pc := 1956) F hN hXs hbl hbb (j := i + 1) rfl (by omega) hL dL_law_1956 ?_
  refine lv_aload_n (pc := 1957) F.1 F.2.1 dL_law_1957 rfl (lv_at hl 2 rfl) ?_
  refine mm_runSX (pc := 1958) (As := [.ref ((ad 0 0 0)), .int (nI (ns (i + 1))), .ref o]) (rest := []) F hN (w_costOf l b D F.2.2.2.2.2.2.2.1 T z ad σ hX hW (ns (i + 1)) (hns _) o go ho) mw_1109 mw_1110 mw_0 mw_1111 ⟨pmL_costOf, (Nat.le_of_ble_eq_true rfl), (Nat.le_of_ble_eq_true rfl)⟩ hl.1 rfl (Nat.le_of_ble_eq_true rfl) ⟨by show cells + 6 ≤ 603072; omega, by show slots + 40 ≤ 7215210; omega⟩ dL_law_1958
    (fun _ _ _ _ _ _ h9 => False.elim h9) (fun v9 σ1 H locs hp9 hN => ?_)
  obtain ⟨rfl, z1, ad1, g1, hX1, hx1, hw1, hg1, hfr1⟩ := hp9
  refine W.eq (g2 := F0 m 1961 ls [.int (nI (mm_q_costOf T (ns (i + 1))))]) rfl ?_
  refine W.widen (k := cells + 6) (n := slots + 40) (Nat.le_refl _) (Nat.le_refl _) ?_
  have hM1 : mm_M σ1 T th rd := mm_M_kept1 hM (fun a9 e9 he => hfr1 a9 1 e9 (by decide) (fun q9 => by rw [q9, ho] at he; cases he) he)
  have hd1 : σ1 d = mm_ard 2 2 1 gd := hfr1 d 2 _ (by decide) (Ne.symm hod) hd
  have hq4 : mm_q_costOf T (ns (i + 1)) < 4 := mm_q_costOf_lt
  have hW2 : mm_WF (if mm_q_costOf T (ns (i + 1)) = 0 then (T) else T) := by split <;> exact hW
  refine lv_istore (pc := 1961) (lv' := [(6, .int (nI (mm_q_costOf T (ns (i + 1))))), (5, .int (nI i)), (4, .ref d), (3, .ref o), (2, .ref ((rd 0 0))), (1, .ref ((ad 0 0 0))), (0, .ref sb)]) F.1 F.2.1 dL_law_1961 hl (by decide) rfl (fun ls hl => ?_)
  refine lv_aload_n (pc := 1963) F.1 F.2.1 dL_law_1963 rfl (lv_at hl 4 rfl) ?_
  refine lv_aload_n (pc := 1964) F.1 F.2.1 dL_law_1964 rfl (lv_at hl 6 rfl) ?_
  refine lv_iload (pc := 1965) F.1 F.2.1 dL_law_1965 (lv_at hl 1 rfl) ?_
  refine lv_iconst (pc := 1967) (v := nI 1) F.1 F.2.1 dL_law_1967 (by decide) ?_
  refine mm_iadd (pc := 1968) F (z := nI (i + 1)) (nI_add _ _) dL_law_1968 ?_
  refine mm_sld (pc := 1969) F hN hXs hbl hbb (j := i + 1) rfl (by omega) hL dL_law_1969 ?_
  refine mm_runV (pc := 1970) (As := [.int (nI (ns (i + 1)))]) (rest := []) F hN (r_costOf l b D F.2.2.2.2.2.2.2.1 T th rd σ1 hM1 hW (ns (i + 1)) (hns _)) mw_1427 mw_1428 mw_1429 mw_6 mw_1430 ⟨pmX7_costOf, (Nat.le_of_ble_eq_true rfl), (Nat.le_of_ble_eq_true rfl)⟩ (mm_recv F.2.2.2.2.2.1 hN (mm_r0 hM1) rfl) hl.1 rfl (Nat.le_of_ble_eq_true rfl) ⟨by show (cells + 6) + 0 ≤ 603072; omega, by show (slots + 40) + 0 ≤ 7215210; omega⟩ dL_law_1970
    (fun _ _ _ _ _ _ h9 => False.elim h9)
    (fun v9 σ2 H locs hp9 hN => ?_)
  obtain ⟨rfl, hM2, hF2⟩ := mm_Mu.outL hp9
  obtain hq9 := hp9
  refine W.eq (g2 := F0 m 1973 ls [.long ((if mm_q_costOf T (ns (i + 1)) = 0 then lN (mm_sm (fun p => if T.oc (ns (i + 1)) p = 108 then T.ps (ns (i + 1)) p else 0) (T.rp (ns (i + 1)))) else lN 0))]) rfl ?_
  refine W.widen (k := cells + 6) (n := slots + 40) (Nat.le_refl _) (Nat.le_refl _) ?_
  refine lv_lstore (pc := 1973) (lv' := [(7, .long ((if mm_q_costOf T (ns (i + 1)) = 0 then lN (mm_sm (fun p => if T.oc (ns (i + 1)) p = 108 then T.ps (ns (i + 1)) p else 0) (T.rp (ns (i + 1)))) else lN 0))), (6, .int (nI (mm_q_costOf T (ns (i + 1))))), (5, .int (nI i)), (4, .ref d), (3, .ref o), (2, .ref ((rd 0 0))), (1, .ref ((ad 0 0 0))), (0, .ref sb)]) F.1 F.2.1 dL_law_1973 hl (by decide) rfl (fun ls hl => ?_)
  refine lv_aload_n (pc := 1975) F.1 F.2.1 dL_law_1975 rfl (lv_at hl 5 rfl) ?_
  refine mm_runV (pc := 1976) (As := []) (rest := []) F hN (r_thrown l b D F.2.2.2.2.2.2.2.1 (if mm_q_costOf T (ns (i + 1)) = 0 then (T) else T) (mm_q_costOf T (ns (i + 1))) rd σ2 hM2 hW2) mw_1260 mw_1261 mw_1262 mw_6 mw_1263 ⟨pmX7_thrown, (Nat.le_of_ble_eq_true rfl), (Nat.le_of_ble_eq_true rfl)⟩ (mm_recv F.2.2.2.2.2.1 hN (mm_r0 hM2) rfl) hl.1 rfl (Nat.le_of_ble_eq_true rfl) ⟨by show (cells + 6) + 0 ≤ 603072; omega, by show (slots + 40) + 0 ≤ 7215210; omega⟩ dL_law_1976
    (fun _ _ _ _ _ _ h9 => False.elim h9)
    (fun v9 σ9 H locs hp9 hN => ?_)
  obtain ⟨rfl, h9⟩ := hp9
  rw [h9] at hN
  refine W.eq (g2 := F0 m 1979 ls [.int (nI (mm_q_costOf T (ns (i + 1))))]) rfl ?_
  refine W.widen (k := cells + 6) (n := slots + 40) (Nat.le_refl _) (Nat.le_refl _) ?_
  refine lv_iload (pc := 1979) F.1 F.2.1 dL_law_1979 (lv_at hl 1 rfl) ?_
  refine mm_icmp_eqB (pc := 1981) F (x := mm_q_costOf T (ns (i + 1))) (y := mm_q_costOf T (ns (i + 1))) (tgt := 1986) (by omega) (by omega) dL_law_1981 (by decide) (fun cz1981 => ?_) (fun cz1981 => ?_)
  ·
    refine lv_iload (pc := 1986) F.1 F.2.1 dL_law_1986 (lv_at hl 1 rfl) ?_
    refine mm_if_neB (pc := 1988) F (tgt := 2002) (by omega) dL_law_1988 (by decide) (fun cz1988 => ?_) (fun cz1988 => ?_)
    ·
      refine lv_goto (pc := 2002) (tgt := 2217) F.1 F.2.1 dL_law_2002 (by decide) ?_
      exact W.widen (by omega) (by omega) (kk _ _ ls H locs ⟨⟨z1, ad1, mm_X_kept hX1 (fun a9 e9 he => hF2 a9 0 e9 (by decide) he), hx1⟩, ⟨_, rd, hM2, rfl⟩, ⟨g1, hF2 o 2 _ (by decide) hw1⟩, ⟨gd, hF2 d 2 _ (by decide) hd1⟩, hod, hW2⟩ hN (lv_sub hl [2, 3, 4, 5, 6, 7] rfl))
    ·
      refine lv_aload_n (pc := 1991) F.1 F.2.1 dL_law_1991 rfl (lv_at hl 4 rfl) ?_
      refine lv_iconst (pc := 1992) (v := nI 0) F.1 F.2.1 dL_law_1992 (by decide) ?_
      refine mm_lald (pc := 1993) F hN (hF2 o 2 _ (by decide) hw1) (j := 0) rfl (by decide) (by decide) dL_law_1993 ?_
      refine lv_lload (pc := 1994) F.1 F.2.1 dL_law_1994 (lv_at hl 0 rfl) ?_
      refine W.eq (g2 := F0 m 1996 ls [.long (lN (mm_sm (fun p => if T.oc (ns (i + 1)) p = 108 then T.ps (ns (i + 1)) p else 0) (T.rp (ns (i + 1))))), .long (lN (mm_sm (fun p => if T.oc (ns (i + 1)) p = 108 then T.ps (ns (i + 1)) p else 0) (T.rp (ns (i + 1)))))]) (by rw [hg1 cz1988, if_pos cz1988]) ?_
      refine mm_lcmpE (pc := 1996) F.1 F.2.1 dL_law_1996 ?_
      refine mm_if_eq (pc := 1997) F (tgt := 2002) (by omega) dL_law_1997 (by decide) (fun cz1997 => ?_) (fun h9 => absurd h9 (by decide))
      refine lv_goto (pc := 2002) (tgt := 2217) F.1 F.2.1 dL_law_2002 (by decide) ?_
      exact W.widen (by omega) (by omega) (kk _ _ ls H locs ⟨⟨z1, ad1, mm_X_kept hX1 (fun a9 e9 he => hF2 a9 0 e9 (by decide) he), hx1⟩, ⟨_, rd, hM2, rfl⟩, ⟨g1, hF2 o 2 _ (by decide) hw1⟩, ⟨gd, hF2 d 2 _ (by decide) hd1⟩, hod, hW2⟩ hN (lv_sub hl [2, 3, 4, 5, 6, 7] rfl))
  ·
    exact absurd rfl cz1981

set_option maxHeartbeats 4000000 in
set_option maxRecDepth 100000 in
theorem law_29 {p : Program} {l : Launch} {e : Env} {s : State} {m : MethodId} {args : Array Value} {below : List Frame} {meth : Method} {c : Code} {H : Heap} {locs : List Loc} {cells slots : Nat} {Q : State → Prop} {b : Nat} {D : mm_D} {σ : mm_S} {T : mm_T} {x0 m0 o d sb L i : Nat} {ns : Nat → Nat} {ls : Array Slot}
    (F : mm_F p l s m args meth c b D RL cL_law 9) (hXs : va_X sb L (fun j => nI (ns j)) s s.heap) (hbl : sb < s.heap.size) (hbb : sb < b) (hL : L ≤ 2560) (hns : ∀ j, ns j < 2 ^ 32) (hi : i + 5 ≤ L) (hN : mm_N b D s σ H locs) (hV : mm_V σ T x0 m0 o d) (hl : lv_has ls 9 (mm_lc i d o m0 x0 sb)) (hc : cells + 103 ≤ 603072) (hs : slots + 9037 ≤ 7215210)
    (kk : ∀ (T2 : mm_T) (σ2 : mm_S) (ls : Array Slot) (H : Heap) (locs : List Loc), mm_V σ2 T2 x0 m0 o d → mm_N b D s σ2 H locs → lv_has ls 9 (mm_lc i d o m0 x0 sb) → W p l e room_1 s m args below meth c H locs (cells + 103) (slots + 9037) Q (F0 m 2217 ls []))
    : W p l e room_1 s m args below meth c H locs cells slots Q (F0 m 2073 ls []) := by
  obtain ⟨⟨z, ad, hX, rfl⟩, ⟨th, rd, hM, rfl⟩, ⟨go, ho⟩, ⟨gd, hd⟩, hod, hW⟩ := hV
  have hl : lv_has ls 9 [(5, .int (nI i)), (4, .ref d), (3, .ref o), (2, .ref ((rd 0 0))), (1, .ref ((ad 0 0 0))), (0, .ref sb)] := hl
  refine lv_aload_n (pc := 2073) F.1 F.2.1 dL_law_2073 rfl (lv_at hl 4 rfl) ?_
  refine lv_aload (pc := 2074) F.1 F.2.1 dL_law_2074 (lv_at hl 1 rfl) ?_
  refine mm_runSX (pc := 2076) (As := [.ref ((ad 0 0 0)), .ref d]) (rest := []) F hN (w_returnShare l b D F.2.2.2.2.2.2.2.1 T z ad σ hX hW d gd hd) mw_1128 mw_1129 mw_0 mw_1130 ⟨pmL_returnShare, (Nat.le_of_ble_eq_true rfl), (Nat.le_of_ble_eq_true rfl)⟩ hl.1 rfl (Nat.le_of_ble_eq_true rfl) ⟨by show cells + 6 ≤ 603072; omega, by show slots + 40 ≤ 7215210; omega⟩ dL_law_2076
    (fun _ _ _ _ _ _ h9 => False.elim h9) (fun v9 σ1 H locs hp9 hN => ?_)
  obtain ⟨rfl, z1, ad1, g1, hX1, hx1, hw1, hg1, hfr1⟩ := hp9
  refine W.eq (g2 := F0 m 2079 ls [.int (nI (mm_q_returnShare T))]) rfl ?_
  refine W.widen (k := cells + 6) (n := slots + 40) (Nat.le_refl _) (Nat.le_refl _) ?_
  have hM1 : mm_M σ1 T th rd := mm_M_kept1 hM (fun a9 e9 he => hfr1 a9 1 e9 (by decide) (fun q9 => by rw [q9, hd] at he; cases he) he)
  have ho1 : σ1 o = mm_arj 2 1 1 go := hfr1 o 2 _ (by decide) hod ho
  have hq4 : mm_q_returnShare T < 4 := mm_q_returnShare_lt
  have hW2 : mm_WF (if mm_q_returnShare T = 0 then (T) else T) := by split <;> exact hW
  refine lv_istore (pc := 2079) (lv' := [(6, .int (nI (mm_q_returnShare T))), (5, .int (nI i)), (4, .ref d), (3, .ref o), (2, .ref ((rd 0 0))), (1, .ref ((ad 0 0 0))), (0, .ref sb)]) F.1 F.2.1 dL_law_2079 hl (by decide) rfl (fun ls hl => ?_)
  refine lv_aload_n (pc := 2081) F.1 F.2.1 dL_law_2081 rfl (lv_at hl 4 rfl) ?_
  refine mm_runV (pc := 2082) (As := []) (rest := []) F hN (r_returnShare l b D F.2.2.2.2.2.2.2.1 T th rd σ1 hM1 hW) mw_1437 mw_1438 mw_1439 mw_6 mw_1440 ⟨pmX7_returnShare, (Nat.le_of_ble_eq_true rfl), (Nat.le_of_ble_eq_true rfl)⟩ (mm_recv F.2.2.2.2.2.1 hN (mm_r0 hM1) rfl) hl.1 rfl (Nat.le_of_ble_eq_true rfl) ⟨by show (cells + 6) + 0 ≤ 603072; omega, by show (slots + 40) + 0 ≤ 7215210; omega⟩ dL_law_2082
    (fun _ _ _ _ _ _ h9 => False.elim h9)
    (fun v9 σ2 H locs hp9 hN => ?_)
  obtain ⟨rfl, hM2, hF2⟩ := mm_Mu.outF hp9
  obtain hq9 := hp9
  refine W.eq (g2 := F0 m 2085 ls [.float ((if mm_q_returnShare T = 0 then FP.fdiv (FP.i2f (nI (mm_sm (mm_nb9 T) T.nR))) (FP.i2f (nI (mm_sm (mm_nl T) T.nR))) else FP.fconst0))]) rfl ?_
  refine W.widen (k := cells + 6) (n := slots + 40) (Nat.le_refl _) (Nat.le_refl _) ?_
  refine lv_fstore (pc := 2085) (lv' := [(7, .float ((if mm_q_returnShare T = 0 then FP.fdiv (FP.i2f (nI (mm_sm (mm_nb9 T) T.nR))) (FP.i2f (nI (mm_sm (mm_nl T) T.nR))) else FP.fconst0))), (6, .int (nI (mm_q_returnShare T))), (5, .int (nI i)), (4, .ref d), (3, .ref o), (2, .ref ((rd 0 0))), (1, .ref ((ad 0 0 0))), (0, .ref sb)]) F.1 F.2.1 dL_law_2085 hl (by decide) rfl (fun ls hl => ?_)
  refine lv_aload_n (pc := 2087) F.1 F.2.1 dL_law_2087 rfl (lv_at hl 5 rfl) ?_
  refine mm_runV (pc := 2088) (As := []) (rest := []) F hN (r_thrown l b D F.2.2.2.2.2.2.2.1 (if mm_q_returnShare T = 0 then (T) else T) (mm_q_returnShare T) rd σ2 hM2 hW2) mw_1260 mw_1261 mw_1262 mw_6 mw_1263 ⟨pmX7_thrown, (Nat.le_of_ble_eq_true rfl), (Nat.le_of_ble_eq_true rfl)⟩ (mm_recv F.2.2.2.2.2.1 hN (mm_r0 hM2) rfl) hl.1 rfl (Nat.le_of_ble_eq_true rfl) ⟨by show (cells + 6) + 0 ≤ 603072; omega, by show (slots + 40) + 0 ≤ 7215210; omega⟩ dL_law_2088
    (fun _ _ _ _ _ _ h9 => False.elim h9)
    (fun v9 σ9 H locs hp9 hN => ?_)
  obtain ⟨rfl, h9⟩ := hp9
  rw [h9] at hN
  refine W.eq (g2 := F0 m 2091 ls [.int (nI (mm_q_returnShare T))]) rfl ?_
  refine W.widen (k := cells + 6) (n := slots + 40) (Nat.le_refl _) (Nat.le_refl _) ?_
  refine lv_iload (pc := 2091) F.1 F.2.1 dL_law_2091 (lv_at hl 1 rfl) ?_
  refine mm_icmp_eqB (pc := 2093) F (x := mm_q_returnShare T) (y := mm_q_returnShare T) (tgt := 2098) (by omega) (by omega) dL_law_2093 (by decide) (fun cz2093 => ?_) (fun cz2093 => ?_)
  ·
    refine lv_iload (pc := 2098) F.1 F.2.1 dL_law_2098 (lv_at hl 1 rfl) ?_
    refine mm_if_neB (pc := 2100) F (tgt := 2136) (by omega) dL_law_2100 (by decide) (fun cz2100 => ?_) (fun cz2100 => ?_)
    ·
      refine lv_goto (pc := 2136) (tgt := 2217) F.1 F.2.1 dL_law_2136 (by decide) ?_
      exact W.widen (by omega) (by omega) (kk _ _ ls H locs ⟨⟨z1, ad1, mm_X_kept hX1 (fun a9 e9 he => hF2 a9 0 e9 (by decide) he), hx1⟩, ⟨_, rd, hM2, rfl⟩, ⟨go, hF2 o 2 _ (by decide) ho1⟩, ⟨g1, hF2 d 2 _ (by decide) hw1⟩, hod, hW2⟩ hN (lv_sub hl [2, 3, 4, 5, 6, 7] rfl))
    ·
      refine lv_aload (pc := 2103) F.1 F.2.1 dL_law_2103 (lv_at hl 3 rfl) ?_
      refine lv_iconst (pc := 2105) (v := nI 0) F.1 F.2.1 dL_law_2105 (by decide) ?_
      refine mm_dald (pc := 2106) F hN (hF2 d 2 _ (by decide) hw1) (j := 0) rfl (by decide) (by decide) dL_law_2106 ?_
      refine lv_fload (pc := 2107) F.1 F.2.1 dL_law_2107 (lv_at hl 0 rfl) ?_
      refine W.eq (g2 := F0 m 2109 ls [.float (FP.fdiv (FP.i2f (nI (mm_sm (mm_nb9 T) T.nR))) (FP.i2f (nI (mm_sm (mm_nl T) T.nR)))), .double (g1 0)]) (by rw [if_pos cz2100]) ?_
      refine lv_f2d (pc := 2109) F.1 F.2.1 dL_law_2109 (mm_f2dn (mm_shn hW cz2100)) ?_
      refine W.eq (g2 := F0 m 2110 ls [.double (FP.f2d (FP.fdiv (FP.i2f (nI (mm_sm (mm_nb9 T) T.nR))) (FP.i2f (nI (mm_sm (mm_nl T) T.nR))))), .double (FP.f2d (FP.fdiv (FP.i2f (nI (mm_sm (mm_nb9 T) T.nR))) (FP.i2f (nI (mm_sm (mm_nl T) T.nR)))))]) (by rw [hg1 cz2100]) ?_
      refine lv_dcmp (pc := 2110) F.1 F.2.1 dL_law_2110 ?_
      refine W.eq (g2 := F0 m 2111 ls [.int (nI 0)]) (congrArg (fun q9 => F0 m 2111 ls [Value.int q9]) (mm_dcmpR (mm_f2dn (mm_shn hW cz2100)))) ?_
      refine mm_if_eq (pc := 2111) F (tgt := 2136) (by omega) dL_law_2111 (by decide) (fun cz2111 => ?_) (fun h9 => absurd h9 (by decide))
      refine lv_goto (pc := 2136) (tgt := 2217) F.1 F.2.1 dL_law_2136 (by decide) ?_
      exact W.widen (by omega) (by omega) (kk _ _ ls H locs ⟨⟨z1, ad1, mm_X_kept hX1 (fun a9 e9 he => hF2 a9 0 e9 (by decide) he), hx1⟩, ⟨_, rd, hM2, rfl⟩, ⟨go, hF2 o 2 _ (by decide) ho1⟩, ⟨g1, hF2 d 2 _ (by decide) hw1⟩, hod, hW2⟩ hN (lv_sub hl [2, 3, 4, 5, 6, 7] rfl))
  ·
    exact absurd rfl cz2093

set_option maxHeartbeats 4000000 in
set_option maxRecDepth 100000 in
theorem law_30 {p : Program} {l : Launch} {e : Env} {s : State} {m : MethodId} {args : Array Value} {below : List Frame} {meth : Method} {c : Code} {H : Heap} {locs : List Loc} {cells slots : Nat} {Q : State → Prop} {b : Nat} {D : mm_D} {σ : mm_S} {T : mm_T} {x0 m0 o d sb L i : Nat} {ns : Nat → Nat} {ls : Array Slot}
    (F : mm_F p l s m args meth c b D RL cL_law 9) (hXs : va_X sb L (fun j => nI (ns j)) s s.heap) (hbl : sb < s.heap.size) (hbb : sb < b) (hL : L ≤ 2560) (hns : ∀ j, ns j < 2 ^ 32) (hi : i + 5 ≤ L) (hN : mm_N b D s σ H locs) (hV : mm_V σ T x0 m0 o d) (hl : lv_has ls 9 (mm_lc i d o m0 x0 sb)) (hc : cells + 103 ≤ 603072) (hs : slots + 9037 ≤ 7215210)
    (kk : ∀ (T2 : mm_T) (σ2 : mm_S) (ls : Array Slot) (H : Heap) (locs : List Loc), mm_V σ2 T2 x0 m0 o d → mm_N b D s σ2 H locs → lv_has ls 9 (mm_lc i d o m0 x0 sb) → W p l e room_1 s m args below meth c H locs (cells + 103) (slots + 9037) Q (F0 m 2217 ls []))
    : W p l e room_1 s m args below meth c H locs cells slots Q (F0 m 2139 ls []) := by
  obtain ⟨⟨z, ad, hX, rfl⟩, ⟨th, rd, hM, rfl⟩, ⟨go, ho⟩, ⟨gd, hd⟩, hod, hW⟩ := hV
  have hl : lv_has ls 9 [(5, .int (nI i)), (4, .ref d), (3, .ref o), (2, .ref ((rd 0 0))), (1, .ref ((ad 0 0 0))), (0, .ref sb)] := hl
  refine lv_aload_n (pc := 2139) F.1 F.2.1 dL_law_2139 rfl (lv_at hl 4 rfl) ?_
  refine lv_aload (pc := 2140) F.1 F.2.1 dL_law_2140 (lv_at hl 1 rfl) ?_
  refine mm_runSX (pc := 2142) (As := [.ref ((ad 0 0 0)), .ref d]) (rest := []) F hN (w_meanPages l b D F.2.2.2.2.2.2.2.1 T z ad σ hX hW d gd hd) mw_1156 mw_1157 mw_0 mw_1158 ⟨pmL_meanPages, (Nat.le_of_ble_eq_true rfl), (Nat.le_of_ble_eq_true rfl)⟩ hl.1 rfl (Nat.le_of_ble_eq_true rfl) ⟨by show cells + 6 ≤ 603072; omega, by show slots + 40 ≤ 7215210; omega⟩ dL_law_2142
    (fun _ _ _ _ _ _ h9 => False.elim h9) (fun v9 σ1 H locs hp9 hN => ?_)
  obtain ⟨rfl, z1, ad1, g1, hX1, hx1, hw1, hg1, hfr1⟩ := hp9
  refine W.eq (g2 := F0 m 2145 ls [.int (nI (mm_q_meanPages T))]) rfl ?_
  refine W.widen (k := cells + 6) (n := slots + 40) (Nat.le_refl _) (Nat.le_refl _) ?_
  have hM1 : mm_M σ1 T th rd := mm_M_kept1 hM (fun a9 e9 he => hfr1 a9 1 e9 (by decide) (fun q9 => by rw [q9, hd] at he; cases he) he)
  have ho1 : σ1 o = mm_arj 2 1 1 go := hfr1 o 2 _ (by decide) hod ho
  have hq4 : mm_q_meanPages T < 4 := mm_q_meanPages_lt
  have hW2 : mm_WF (if mm_q_meanPages T = 0 then (T) else T) := by split <;> exact hW
  refine lv_istore (pc := 2145) (lv' := [(6, .int (nI (mm_q_meanPages T))), (5, .int (nI i)), (4, .ref d), (3, .ref o), (2, .ref ((rd 0 0))), (1, .ref ((ad 0 0 0))), (0, .ref sb)]) F.1 F.2.1 dL_law_2145 hl (by decide) rfl (fun ls hl => ?_)
  refine lv_aload_n (pc := 2147) F.1 F.2.1 dL_law_2147 rfl (lv_at hl 4 rfl) ?_
  refine mm_runV (pc := 2148) (As := []) (rest := []) F hN (r_meanPages l b D F.2.2.2.2.2.2.2.1 T th rd σ1 hM1 hW) mw_1441 mw_1442 mw_1443 mw_6 mw_1444 ⟨pmX7_meanPages, (Nat.le_of_ble_eq_true rfl), (Nat.le_of_ble_eq_true rfl)⟩ (mm_recv F.2.2.2.2.2.1 hN (mm_r0 hM1) rfl) hl.1 rfl (Nat.le_of_ble_eq_true rfl) ⟨by show (cells + 6) + 0 ≤ 603072; omega, by show (slots + 40) + 0 ≤ 7215210; omega⟩ dL_law_2148
    (fun _ _ _ _ _ _ h9 => False.elim h9)
    (fun v9 σ2 H locs hp9 hN => ?_)
  obtain ⟨rfl, hM2, hF2⟩ := mm_Mu.outD hp9
  obtain hq9 := hp9
  refine W.eq (g2 := F0 m 2151 ls [.double ((if mm_q_meanPages T = 0 then FP.ddiv (FP.i2d (nI (mm_sm (mm_s0 T) T.nR))) (FP.i2d (nI (mm_sm (mm_nl T) T.nR))) else FP.dconst0))]) rfl ?_
  refine W.widen (k := cells + 6) (n := slots + 40) (Nat.le_refl _) (Nat.le_refl _) ?_
  refine lv_dstore (pc := 2151) (lv' := [(7, .double ((if mm_q_meanPages T = 0 then FP.ddiv (FP.i2d (nI (mm_sm (mm_s0 T) T.nR))) (FP.i2d (nI (mm_sm (mm_nl T) T.nR))) else FP.dconst0))), (6, .int (nI (mm_q_meanPages T))), (5, .int (nI i)), (4, .ref d), (3, .ref o), (2, .ref ((rd 0 0))), (1, .ref ((ad 0 0 0))), (0, .ref sb)]) F.1 F.2.1 dL_law_2151 hl (by decide) rfl (fun ls hl => ?_)
  refine lv_aload_n (pc := 2153) F.1 F.2.1 dL_law_2153 rfl (lv_at hl 5 rfl) ?_
  refine mm_runV (pc := 2154) (As := []) (rest := []) F hN (r_thrown l b D F.2.2.2.2.2.2.2.1 (if mm_q_meanPages T = 0 then (T) else T) (mm_q_meanPages T) rd σ2 hM2 hW2) mw_1260 mw_1261 mw_1262 mw_6 mw_1263 ⟨pmX7_thrown, (Nat.le_of_ble_eq_true rfl), (Nat.le_of_ble_eq_true rfl)⟩ (mm_recv F.2.2.2.2.2.1 hN (mm_r0 hM2) rfl) hl.1 rfl (Nat.le_of_ble_eq_true rfl) ⟨by show (cells + 6) + 0 ≤ 603072; omega, by show (slots + 40) + 0 ≤ 7215210; omega⟩ dL_law_2154
    (fun _ _ _ _ _ _ h9 => False.elim h9)
    (fun v9 σ9 H locs hp9 hN => ?_)
  obtain ⟨rfl, h9⟩ := hp9
  rw [h9] at hN
  refine W.eq (g2 := F0 m 2157 ls [.int (nI (mm_q_meanPages T))]) rfl ?_
  refine W.widen (k := cells + 6) (n := slots + 40) (Nat.le_refl _) (Nat.le_refl _) ?_
  refine lv_iload (pc := 2157) F.1 F.2.1 dL_law_2157 (lv_at hl 1 rfl) ?_
  refine mm_icmp_eqB (pc := 2159) F (x := mm_q_meanPages T) (y := mm_q_meanPages T) (tgt := 2164) (by omega) (by omega) dL_law_2159 (by decide) (fun cz2159 => ?_) (fun cz2159 => ?_)
  ·
    refine lv_iload (pc := 2164) F.1 F.2.1 dL_law_2164 (lv_at hl 1 rfl) ?_
    refine mm_if_neB (pc := 2166) F (tgt := 2201) (by omega) dL_law_2166 (by decide) (fun cz2166 => ?_) (fun cz2166 => ?_)
    ·
      refine lv_goto (pc := 2201) (tgt := 2217) F.1 F.2.1 dL_law_2201 (by decide) ?_
      exact W.widen (by omega) (by omega) (kk _ _ ls H locs ⟨⟨z1, ad1, mm_X_kept hX1 (fun a9 e9 he => hF2 a9 0 e9 (by decide) he), hx1⟩, ⟨_, rd, hM2, rfl⟩, ⟨go, hF2 o 2 _ (by decide) ho1⟩, ⟨g1, hF2 d 2 _ (by decide) hw1⟩, hod, hW2⟩ hN (lv_sub hl [2, 3, 4, 5, 6, 7] rfl))
    ·
      refine lv_aload (pc := 2169) F.1 F.2.1 dL_law_2169 (lv_at hl 3 rfl) ?_
      refine lv_iconst (pc := 2171) (v := nI 0) F.1 F.2.1 dL_law_2171 (by decide) ?_
      refine mm_dald (pc := 2172) F hN (hF2 d 2 _ (by decide) hw1) (j := 0) rfl (by decide) (by decide) dL_law_2172 ?_
      refine lv_dload (pc := 2173) F.1 F.2.1 dL_law_2173 (lv_at hl 0 rfl) ?_
      refine W.eq (g2 := F0 m 2175 ls [.double (FP.ddiv (FP.i2d (nI (mm_sm (mm_s0 T) T.nR))) (FP.i2d (nI (mm_sm (mm_nl T) T.nR)))), .double (FP.ddiv (FP.i2d (nI (mm_sm (mm_s0 T) T.nR))) (FP.i2d (nI (mm_sm (mm_nl T) T.nR))))]) (by rw [hg1 cz2166, if_pos cz2166]) ?_
      refine lv_dcmp (pc := 2175) F.1 F.2.1 dL_law_2175 ?_
      refine W.eq (g2 := F0 m 2176 ls [.int (nI 0)]) (congrArg (fun q9 => F0 m 2176 ls [Value.int q9]) (mm_dcmpR (mm_men hW cz2166))) ?_
      refine mm_if_eq (pc := 2176) F (tgt := 2201) (by omega) dL_law_2176 (by decide) (fun cz2176 => ?_) (fun h9 => absurd h9 (by decide))
      refine lv_goto (pc := 2201) (tgt := 2217) F.1 F.2.1 dL_law_2201 (by decide) ?_
      exact W.widen (by omega) (by omega) (kk _ _ ls H locs ⟨⟨z1, ad1, mm_X_kept hX1 (fun a9 e9 he => hF2 a9 0 e9 (by decide) he), hx1⟩, ⟨_, rd, hM2, rfl⟩, ⟨go, hF2 o 2 _ (by decide) ho1⟩, ⟨g1, hF2 d 2 _ (by decide) hw1⟩, hod, hW2⟩ hN (lv_sub hl [2, 3, 4, 5, 6, 7] rfl))
  ·
    exact absurd rfl cz2159

set_option maxHeartbeats 4000000 in
set_option maxRecDepth 100000 in
theorem law_15 {p : Program} {l : Launch} {e : Env} {s : State} {m : MethodId} {args : Array Value} {below : List Frame} {meth : Method} {c : Code} {H : Heap} {locs : List Loc} {cells slots : Nat} {Q : State → Prop} {b : Nat} {D : mm_D} {σ : mm_S} {T : mm_T} {x0 m0 o d sb L i : Nat} {ns : Nat → Nat} {ls : Array Slot}
    (F : mm_F p l s m args meth c b D RL cL_law 9) (hXs : va_X sb L (fun j => nI (ns j)) s s.heap) (hbl : sb < s.heap.size) (hbb : sb < b) (hL : L ≤ 2560) (hns : ∀ j, ns j < 2 ^ 32) (hi : i + 5 ≤ L) (hN : mm_N b D s σ H locs) (hV : mm_V σ T x0 m0 o d) (hl : lv_has ls 9 (mm_lc i d o m0 x0 sb)) (hc : cells + 103 ≤ 603072) (hs : slots + 9037 ≤ 7215210)
    (kk : ∀ (T2 : mm_T) (σ2 : mm_S) (ls : Array Slot) (H : Heap) (locs : List Loc), mm_V σ2 T2 x0 m0 o d → mm_N b D s σ2 H locs → lv_has ls 9 (mm_lc i d o m0 x0 sb) → W p l e room_1 s m args below meth c H locs (cells + 103) (slots + 9037) Q (F0 m 2217 ls []))
    : W p l e room_1 s m args below meth c H locs cells slots Q (F0 m 1154 ls []) := by
  obtain ⟨⟨z, ad, hX, rfl⟩, ⟨th, rd, hM, rfl⟩, ⟨go, ho⟩, ⟨gd, hd⟩, hod, hW⟩ := hV
  have hl : lv_has ls 9 [(5, .int (nI i)), (4, .ref d), (3, .ref o), (2, .ref ((rd 0 0))), (1, .ref ((ad 0 0 0))), (0, .ref sb)] := hl
  refine lv_aload_n (pc := 1154) F.1 F.2.1 dL_law_1154 rfl (lv_at hl 4 rfl) ?_
  refine mm_runV (pc := 1155) (As := []) (rest := []) F hN (a_paper l b D F.2.2.2.2.2.2.2.1 T z ad σ hX hW) mw_110 mw_111 mw_112 mw_1 mw_113 ⟨pmX6_paper, (Nat.le_of_ble_eq_true rfl), (Nat.le_of_ble_eq_true rfl)⟩ (mm_recv F.2.2.2.2.2.1 hN (mm_X0 hX) rfl) hl.1 rfl (Nat.le_of_ble_eq_true rfl) ⟨by show cells + 6 ≤ 603072; omega, by show slots + 40 ≤ 7215210; omega⟩ dL_law_1155
    (fun _ _ _ _ _ _ h9 => False.elim h9)
    (fun v9 σ1 H locs hp9 hN => ?_)
  obtain ⟨-, rfl, z1, ad1, hX1, hx1, hF1⟩ := hp9
  refine W.eq (g2 := F0 m 1158 ls [.int (nI T.pa)]) rfl ?_
  refine W.widen (k := cells + 6) (n := slots + 40) (Nat.le_refl _) (Nat.le_refl _) ?_
  have hM1 := mm_M_kept hM hF1
  refine lv_aload_n (pc := 1158) F.1 F.2.1 dL_law_1158 rfl (lv_at hl 3 rfl) ?_
  refine mm_runV (pc := 1159) (As := []) (rest := [.int (nI T.pa)]) F hN (r_paper l b D F.2.2.2.2.2.2.2.1 T th rd σ1 hM1 hW) mw_1347 mw_1348 mw_1349 mw_6 mw_1350 ⟨pmX7_paper, (Nat.le_of_ble_eq_true rfl), (Nat.le_of_ble_eq_true rfl)⟩ (mm_recv F.2.2.2.2.2.1 hN (mm_r0 hM1) rfl) hl.1 rfl (Nat.le_of_ble_eq_true rfl) ⟨by show (cells + 6) + 0 ≤ 603072; omega, by show (slots + 40) + 0 ≤ 7215210; omega⟩ dL_law_1159
    (fun _ _ _ _ _ _ h9 => False.elim h9)
    (fun v9 σ2 H locs hp9 hN => ?_)
  obtain ⟨i9, rfl, hi9, hM2, hF2⟩ := mm_Mt.out hp9
  obtain hq9 := hp9
  refine W.eq (g2 := F0 m 1162 ls [.int i9, .int (nI T.pa)]) rfl ?_
  refine W.widen (k := cells + 6) (n := slots + 40) (Nat.le_refl _) (Nat.le_refl _) ?_
  have hq : mm_q_paper T = 0 := by unfold mm_q_paper; omega
  rw [if_pos hq] at hM2
  refine lv_icmp_eq (pc := 1162) (tgt := 2217) F.1 F.2.1 dL_law_1162 (by decide) (fun cz1162 => ?_) (fun cz1162 => ?_)
  ·
    exact W.widen (by omega) (by omega) (kk _ _ ls H locs ⟨⟨z1, ad1, mm_X_kept hX1 (fun a9 e9 he => hF2 a9 0 e9 (by decide) he), hx1⟩, ⟨_, rd, hM2, rfl⟩, ⟨go, hF2 o 2 _ (by decide) (hF1 o 2 _ (by decide) ho)⟩, ⟨gd, hF2 d 2 _ (by decide) (hF1 d 2 _ (by decide) hd)⟩, hod, hW⟩ hN (lv_sub hl [0, 1, 2, 3, 4, 5] rfl))
  ·
    exact absurd (hi9 hq).symm cz1162

set_option maxHeartbeats 4000000 in
set_option maxRecDepth 100000 in
theorem law_16f {p : Program} {l : Launch} {e : Env} {s : State} {m : MethodId} {args : Array Value} {below : List Frame} {meth : Method} {c : Code} {H : Heap} {locs : List Loc} {cells slots : Nat} {Q : State → Prop} {b : Nat} {D : mm_D} {σ : mm_S} {T : mm_T} {x0 m0 o d sb L i : Nat} {ns : Nat → Nat} {ls : Array Slot}
    (F : mm_F p l s m args meth c b D RL cL_law 9) (hXs : va_X sb L (fun j => nI (ns j)) s s.heap) (hbl : sb < s.heap.size) (hbb : sb < b) (hL : L ≤ 2560) (hns : ∀ j, ns j < 2 ^ 32) (hi : i + 5 ≤ L) (hN : mm_N b D s σ H locs) (hV : mm_V σ T x0 m0 o d) (hl : lv_has ls 9 (mm_lc i d o m0 x0 sb)) (hc : cells + 103 ≤ 603072) (hs : slots + 9037 ≤ 7215210)
    (kk : ∀ (T2 : mm_T) (σ2 : mm_S) (ls : Array Slot) (H : Heap) (locs : List Loc), mm_V σ2 T2 x0 m0 o d → mm_N b D s σ2 H locs → lv_has ls 9 (mm_lc i d o m0 x0 sb) → W p l e room_1 s m args below meth c H locs (cells + 103) (slots + 9037) Q (F0 m 2217 ls [])) (h0 : ns (i + 1) = 0)
    : W p l e room_1 s m args below meth c H locs cells slots Q (F0 m 1167 ls []) := by
  obtain ⟨⟨z, ad, hX, rfl⟩, ⟨th, rd, hM, rfl⟩, ⟨go, ho⟩, ⟨gd, hd⟩, hod, hW⟩ := hV
  have hl : lv_has ls 9 [(5, .int (nI i)), (4, .ref d), (3, .ref o), (2, .ref ((rd 0 0))), (1, .ref ((ad 0 0 0))), (0, .ref sb)] := hl
  have hz9 := hns (i + 1)
  refine lv_aload_n (pc := 1167) F.1 F.2.1 dL_law_1167 rfl (lv_at hl 4 rfl) ?_
  refine lv_aload_n (pc := 1168) F.1 F.2.1 dL_law_1168 rfl (lv_at hl 5 rfl) ?_
  refine lv_iload (pc := 1169) F.1 F.2.1 dL_law_1169 (lv_at hl 0 rfl) ?_
  refine lv_iconst (pc := 1171) (v := nI 1) F.1 F.2.1 dL_law_1171 (by decide) ?_
  refine mm_iadd (pc := 1172) F (z := nI (i + 1)) (nI_add _ _) dL_law_1172 ?_
  refine mm_sld (pc := 1173) F hN hXs hbl hbb (j := i + 1) rfl (by omega) hL dL_law_1173 ?_
  refine mm_if_eqB (pc := 1174) F (tgt := 1181) (by omega) dL_law_1174 (by decide) (fun cz1174 => ?_) (fun cz1174 => ?_)
  ·
    refine lv_iconst (pc := 1181) (v := nI 0) F.1 F.2.1 dL_law_1181 (by decide) ?_
    refine mm_runV (pc := 1182) (As := [.int (nI 0)]) (rest := []) F hN (a_envelopes l b D F.2.2.2.2.2.2.2.1 T z ad σ hX hW 0 (by decide)) mw_114 mw_115 mw_116 mw_1 mw_117 ⟨pmX6_envelopes, (Nat.le_of_ble_eq_true rfl), (Nat.le_of_ble_eq_true rfl)⟩ (mm_recv F.2.2.2.2.2.1 hN (mm_X0 hX) rfl) hl.1 rfl (Nat.le_of_ble_eq_true rfl) ⟨by show cells + 6 ≤ 603072; omega, by show slots + 40 ≤ 7215210; omega⟩ dL_law_1182
      (fun _ _ _ _ _ _ h9 => False.elim h9)
      (fun v9 σ1 H locs hp9 hN => ?_)
    obtain ⟨-, rfl, z1, ad1, hX1, hx1, hF1⟩ := hp9
    refine W.eq (g2 := F0 m 1185 ls [.int (nI (T.en 0))]) rfl ?_
    refine W.widen (k := cells + 6) (n := slots + 40) (Nat.le_refl _) (Nat.le_refl _) ?_
    have hM1 := mm_M_kept hM hF1
    refine lv_aload_n (pc := 1185) F.1 F.2.1 dL_law_1185 rfl (lv_at hl 3 rfl) ?_
    refine lv_aload_n (pc := 1186) F.1 F.2.1 dL_law_1186 rfl (lv_at hl 5 rfl) ?_
    refine lv_iload (pc := 1187) F.1 F.2.1 dL_law_1187 (lv_at hl 0 rfl) ?_
    refine lv_iconst (pc := 1189) (v := nI 1) F.1 F.2.1 dL_law_1189 (by decide) ?_
    refine mm_iadd (pc := 1190) F (z := nI (i + 1)) (nI_add _ _) dL_law_1190 ?_
    refine mm_sld (pc := 1191) F hN hXs hbl hbb (j := i + 1) rfl (by omega) hL dL_law_1191 ?_
    refine mm_if_eqB (pc := 1192) F (tgt := 1199) (by omega) dL_law_1192 (by decide) (fun cz1192 => ?_) (fun cz1192 => ?_)
    ·
      refine lv_iconst (pc := 1199) (v := nI 0) F.1 F.2.1 dL_law_1199 (by decide) ?_
      refine mm_runV (pc := 1200) (As := [.int (nI 0)]) (rest := [.int (nI (T.en 0))]) F hN (r_envelopes l b D F.2.2.2.2.2.2.2.1 T th rd σ1 hM1 hW 0 (by decide)) mw_1351 mw_1352 mw_1353 mw_6 mw_1354 ⟨pmX7_envelopes, (Nat.le_of_ble_eq_true rfl), (Nat.le_of_ble_eq_true rfl)⟩ (mm_recv F.2.2.2.2.2.1 hN (mm_r0 hM1) rfl) hl.1 rfl (Nat.le_of_ble_eq_true rfl) ⟨by show (cells + 6) + 0 ≤ 603072; omega, by show (slots + 40) + 0 ≤ 7215210; omega⟩ dL_law_1200
        (fun _ _ _ _ _ _ h9 => False.elim h9)
        (fun v9 σ2 H locs hp9 hN => ?_)
      obtain ⟨i9, rfl, hi9, hM2, hF2⟩ := mm_Mt.out hp9
      obtain hq9 := hp9
      refine W.eq (g2 := F0 m 1203 ls [.int i9, .int (nI (T.en 0))]) rfl ?_
      refine W.widen (k := cells + 6) (n := slots + 40) (Nat.le_refl _) (Nat.le_refl _) ?_
      have hq : mm_q_envelopes T 0 = 0 := by unfold mm_q_envelopes; omega
      rw [if_pos hq] at hM2
      refine lv_icmp_eq (pc := 1203) (tgt := 2217) F.1 F.2.1 dL_law_1203 (by decide) (fun cz1203 => ?_) (fun cz1203 => ?_)
      ·
        exact W.widen (by omega) (by omega) (kk _ _ ls H locs ⟨⟨z1, ad1, mm_X_kept hX1 (fun a9 e9 he => hF2 a9 0 e9 (by decide) he), hx1⟩, ⟨_, rd, hM2, rfl⟩, ⟨go, hF2 o 2 _ (by decide) (hF1 o 2 _ (by decide) ho)⟩, ⟨gd, hF2 d 2 _ (by decide) (hF1 d 2 _ (by decide) hd)⟩, hod, hW⟩ hN (lv_sub hl [0, 1, 2, 3, 4, 5] rfl))
      ·
        exact absurd (hi9 hq).symm cz1203
    ·
      exact absurd h0 cz1192
  ·
    exact absurd h0 cz1174

set_option maxHeartbeats 4000000 in
set_option maxRecDepth 100000 in
theorem law_16t {p : Program} {l : Launch} {e : Env} {s : State} {m : MethodId} {args : Array Value} {below : List Frame} {meth : Method} {c : Code} {H : Heap} {locs : List Loc} {cells slots : Nat} {Q : State → Prop} {b : Nat} {D : mm_D} {σ : mm_S} {T : mm_T} {x0 m0 o d sb L i : Nat} {ns : Nat → Nat} {ls : Array Slot}
    (F : mm_F p l s m args meth c b D RL cL_law 9) (hXs : va_X sb L (fun j => nI (ns j)) s s.heap) (hbl : sb < s.heap.size) (hbb : sb < b) (hL : L ≤ 2560) (hns : ∀ j, ns j < 2 ^ 32) (hi : i + 5 ≤ L) (hN : mm_N b D s σ H locs) (hV : mm_V σ T x0 m0 o d) (hl : lv_has ls 9 (mm_lc i d o m0 x0 sb)) (hc : cells + 103 ≤ 603072) (hs : slots + 9037 ≤ 7215210)
    (kk : ∀ (T2 : mm_T) (σ2 : mm_S) (ls : Array Slot) (H : Heap) (locs : List Loc), mm_V σ2 T2 x0 m0 o d → mm_N b D s σ2 H locs → lv_has ls 9 (mm_lc i d o m0 x0 sb) → W p l e room_1 s m args below meth c H locs (cells + 103) (slots + 9037) Q (F0 m 2217 ls [])) (h0 : ¬ ns (i + 1) = 0)
    : W p l e room_1 s m args below meth c H locs cells slots Q (F0 m 1167 ls []) := by
  obtain ⟨⟨z, ad, hX, rfl⟩, ⟨th, rd, hM, rfl⟩, ⟨go, ho⟩, ⟨gd, hd⟩, hod, hW⟩ := hV
  have hl : lv_has ls 9 [(5, .int (nI i)), (4, .ref d), (3, .ref o), (2, .ref ((rd 0 0))), (1, .ref ((ad 0 0 0))), (0, .ref sb)] := hl
  have hz9 := hns (i + 1)
  refine lv_aload_n (pc := 1167) F.1 F.2.1 dL_law_1167 rfl (lv_at hl 4 rfl) ?_
  refine lv_aload_n (pc := 1168) F.1 F.2.1 dL_law_1168 rfl (lv_at hl 5 rfl) ?_
  refine lv_iload (pc := 1169) F.1 F.2.1 dL_law_1169 (lv_at hl 0 rfl) ?_
  refine lv_iconst (pc := 1171) (v := nI 1) F.1 F.2.1 dL_law_1171 (by decide) ?_
  refine mm_iadd (pc := 1172) F (z := nI (i + 1)) (nI_add _ _) dL_law_1172 ?_
  refine mm_sld (pc := 1173) F hN hXs hbl hbb (j := i + 1) rfl (by omega) hL dL_law_1173 ?_
  refine mm_if_eqB (pc := 1174) F (tgt := 1181) (by omega) dL_law_1174 (by decide) (fun cz1174 => ?_) (fun cz1174 => ?_)
  ·
    exact absurd cz1174 h0
  ·
    refine lv_iconst (pc := 1177) (v := nI 1) F.1 F.2.1 dL_law_1177 (by decide) ?_
    refine lv_goto (pc := 1178) (tgt := 1182) F.1 F.2.1 dL_law_1178 (by decide) ?_
    refine mm_runV (pc := 1182) (As := [.int (nI 1)]) (rest := []) F hN (a_envelopes l b D F.2.2.2.2.2.2.2.1 T z ad σ hX hW 1 (by decide)) mw_114 mw_115 mw_116 mw_1 mw_117 ⟨pmX6_envelopes, (Nat.le_of_ble_eq_true rfl), (Nat.le_of_ble_eq_true rfl)⟩ (mm_recv F.2.2.2.2.2.1 hN (mm_X0 hX) rfl) hl.1 rfl (Nat.le_of_ble_eq_true rfl) ⟨by show cells + 6 ≤ 603072; omega, by show slots + 40 ≤ 7215210; omega⟩ dL_law_1182
      (fun _ _ _ _ _ _ h9 => False.elim h9)
      (fun v9 σ1 H locs hp9 hN => ?_)
    obtain ⟨-, rfl, z1, ad1, hX1, hx1, hF1⟩ := hp9
    refine W.eq (g2 := F0 m 1185 ls [.int (nI (T.en 1))]) rfl ?_
    refine W.widen (k := cells + 6) (n := slots + 40) (Nat.le_refl _) (Nat.le_refl _) ?_
    have hM1 := mm_M_kept hM hF1
    refine lv_aload_n (pc := 1185) F.1 F.2.1 dL_law_1185 rfl (lv_at hl 3 rfl) ?_
    refine lv_aload_n (pc := 1186) F.1 F.2.1 dL_law_1186 rfl (lv_at hl 5 rfl) ?_
    refine lv_iload (pc := 1187) F.1 F.2.1 dL_law_1187 (lv_at hl 0 rfl) ?_
    refine lv_iconst (pc := 1189) (v := nI 1) F.1 F.2.1 dL_law_1189 (by decide) ?_
    refine mm_iadd (pc := 1190) F (z := nI (i + 1)) (nI_add _ _) dL_law_1190 ?_
    refine mm_sld (pc := 1191) F hN hXs hbl hbb (j := i + 1) rfl (by omega) hL dL_law_1191 ?_
    refine mm_if_eqB (pc := 1192) F (tgt := 1199) (by omega) dL_law_1192 (by decide) (fun cz1192 => ?_) (fun cz1192 => ?_)
    ·
      exact absurd cz1192 h0
    ·
      refine lv_iconst (pc := 1195) (v := nI 1) F.1 F.2.1 dL_law_1195 (by decide) ?_
      refine lv_goto (pc := 1196) (tgt := 1200) F.1 F.2.1 dL_law_1196 (by decide) ?_
      refine mm_runV (pc := 1200) (As := [.int (nI 1)]) (rest := [.int (nI (T.en 1))]) F hN (r_envelopes l b D F.2.2.2.2.2.2.2.1 T th rd σ1 hM1 hW 1 (by decide)) mw_1351 mw_1352 mw_1353 mw_6 mw_1354 ⟨pmX7_envelopes, (Nat.le_of_ble_eq_true rfl), (Nat.le_of_ble_eq_true rfl)⟩ (mm_recv F.2.2.2.2.2.1 hN (mm_r0 hM1) rfl) hl.1 rfl (Nat.le_of_ble_eq_true rfl) ⟨by show (cells + 6) + 0 ≤ 603072; omega, by show (slots + 40) + 0 ≤ 7215210; omega⟩ dL_law_1200
        (fun _ _ _ _ _ _ h9 => False.elim h9)
        (fun v9 σ2 H locs hp9 hN => ?_)
      obtain ⟨i9, rfl, hi9, hM2, hF2⟩ := mm_Mt.out hp9
      obtain hq9 := hp9
      refine W.eq (g2 := F0 m 1203 ls [.int i9, .int (nI (T.en 1))]) rfl ?_
      refine W.widen (k := cells + 6) (n := slots + 40) (Nat.le_refl _) (Nat.le_refl _) ?_
      have hq : mm_q_envelopes T 1 = 0 := by unfold mm_q_envelopes; omega
      rw [if_pos hq] at hM2
      refine lv_icmp_eq (pc := 1203) (tgt := 2217) F.1 F.2.1 dL_law_1203 (by decide) (fun cz1203 => ?_) (fun cz1203 => ?_)
      ·
        exact W.widen (by omega) (by omega) (kk _ _ ls H locs ⟨⟨z1, ad1, mm_X_kept hX1 (fun a9 e9 he => hF2 a9 0 e9 (by decide) he), hx1⟩, ⟨_, rd, hM2, rfl⟩, ⟨go, hF2 o 2 _ (by decide) (hF1 o 2 _ (by decide) ho)⟩, ⟨gd, hF2 d 2 _ (by decide) (hF1 d 2 _ (by decide) hd)⟩, hod, hW⟩ hN (lv_sub hl [0, 1, 2, 3, 4, 5] rfl))
      ·
        exact absurd (hi9 hq).symm cz1203

set_option maxHeartbeats 4000000 in
set_option maxRecDepth 100000 in
theorem law_31 {p : Program} {l : Launch} {e : Env} {s : State} {m : MethodId} {args : Array Value} {below : List Frame} {meth : Method} {c : Code} {H : Heap} {locs : List Loc} {cells slots : Nat} {Q : State → Prop} {b : Nat} {D : mm_D} {σ : mm_S} {T : mm_T} {x0 m0 o d sb L i : Nat} {ns : Nat → Nat} {ls : Array Slot}
    (F : mm_F p l s m args meth c b D RL cL_law 9) (hXs : va_X sb L (fun j => nI (ns j)) s s.heap) (hbl : sb < s.heap.size) (hbb : sb < b) (hL : L ≤ 2560) (hns : ∀ j, ns j < 2 ^ 32) (hi : i + 5 ≤ L) (hN : mm_N b D s σ H locs) (hV : mm_V σ T x0 m0 o d) (hl : lv_has ls 9 (mm_lc i d o m0 x0 sb)) (hc : cells + 103 ≤ 603072) (hs : slots + 9037 ≤ 7215210)
    (kk : ∀ (T2 : mm_T) (σ2 : mm_S) (ls : Array Slot) (H : Heap) (locs : List Loc), mm_V σ2 T2 x0 m0 o d → mm_N b D s σ2 H locs → lv_has ls 9 (mm_lc i d o m0 x0 sb) → W p l e room_1 s m args below meth c H locs (cells + 103) (slots + 9037) Q (F0 m 2217 ls []))
    : W p l e room_1 s m args below meth c H locs cells slots Q (F0 m 2204 ls []) := by
  obtain ⟨⟨z, ad, hX, rfl⟩, ⟨th, rd, hM, rfl⟩, ⟨go, ho⟩, ⟨gd, hd⟩, hod, hW⟩ := hV
  have hl : lv_has ls 9 [(5, .int (nI i)), (4, .ref d), (3, .ref o), (2, .ref ((rd 0 0))), (1, .ref ((ad 0 0 0))), (0, .ref sb)] := hl
  refine lv_aload_n (pc := 2204) F.1 F.2.1 dL_law_2204 rfl (lv_at hl 4 rfl) ?_
  refine mm_runV (pc := 2205) (As := []) (rest := []) F hN (a_isSound l b D F.2.2.2.2.2.2.2.1 T z ad σ hX hW) mw_122 mw_123 mw_124 mw_1 mw_125 ⟨pmX6_isSound, (Nat.le_of_ble_eq_true rfl), (Nat.le_of_ble_eq_true rfl)⟩ (mm_recv F.2.2.2.2.2.1 hN (mm_X0 hX) rfl) hl.1 rfl (Nat.le_of_ble_eq_true rfl) ⟨by show cells + 6 ≤ 603072; omega, by show slots + 40 ≤ 7215210; omega⟩ dL_law_2205
    (fun _ _ _ _ _ _ h9 => False.elim h9)
    (fun v9 σ1 H locs hp9 hN => ?_)
  obtain ⟨-, rfl, z1, ad1, hX1, hx1, hF1⟩ := hp9
  refine W.eq (g2 := F0 m 2208 ls [.int (nI 1)]) rfl ?_
  refine W.widen (k := cells + 6) (n := slots + 40) (Nat.le_refl _) (Nat.le_refl _) ?_
  have hM1 := mm_M_kept hM hF1
  refine lv_aload_n (pc := 2208) F.1 F.2.1 dL_law_2208 rfl (lv_at hl 3 rfl) ?_
  refine mm_runV (pc := 2209) (As := []) (rest := [.int (nI 1)]) F hN (r_isSound l b D F.2.2.2.2.2.2.2.1 T th rd σ1 hM1 hW) mw_1445 mw_1446 mw_1447 mw_6 mw_1448 ⟨pmX7_isSound, (Nat.le_of_ble_eq_true rfl), (Nat.le_of_ble_eq_true rfl)⟩ (mm_recv F.2.2.2.2.2.1 hN (mm_r0 hM1) rfl) hl.1 rfl (Nat.le_of_ble_eq_true rfl) ⟨by show (cells + 6) + 0 ≤ 603072; omega, by show (slots + 40) + 0 ≤ 7215210; omega⟩ dL_law_2209
    (fun _ _ _ _ _ _ h9 => False.elim h9)
    (fun v9 σ2 H locs hp9 hN => ?_)
  obtain ⟨i9, rfl, hi9, hM2, hF2⟩ := mm_Mt.out hp9
  obtain hq9 := hp9
  refine W.eq (g2 := F0 m 2212 ls [.int i9, .int (nI 1)]) rfl ?_
  refine W.widen (k := cells + 6) (n := slots + 40) (Nat.le_refl _) (Nat.le_refl _) ?_
  have hq : mm_q_isSound T = 0 := by unfold mm_q_isSound; omega
  rw [if_pos hq] at hM2
  refine lv_icmp_eq (pc := 2212) (tgt := 2217) F.1 F.2.1 dL_law_2212 (by decide) (fun cz2212 => ?_) (fun cz2212 => ?_)
  ·
    exact W.widen (by omega) (by omega) (kk _ _ ls H locs ⟨⟨z1, ad1, mm_X_kept hX1 (fun a9 e9 he => hF2 a9 0 e9 (by decide) he), hx1⟩, ⟨_, rd, hM2, rfl⟩, ⟨go, hF2 o 2 _ (by decide) (hF1 o 2 _ (by decide) ho)⟩, ⟨gd, hF2 d 2 _ (by decide) (hF1 d 2 _ (by decide) hd)⟩, hod, hW⟩ hN (lv_sub hl [0, 1, 2, 3, 4, 5] rfl))
  ·
    exact absurd (hi9 hq).symm cz2212

