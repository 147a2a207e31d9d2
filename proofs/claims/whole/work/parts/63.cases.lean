set_option maxHeartbeats 4000000 in
set_option maxRecDepth 100000 in
theorem law_0 {p : Program} {l : Launch} {e : Env} {s : State} {m : MethodId} {args : Array Value} {below : List Frame} {meth : Method} {c : Code} {H : Heap} {locs : List Loc} {cells slots : Nat} {Q : State → Prop} {b : Nat} {D : mm_D} {σ : mm_S} {T : mm_T} {x0 m0 o d sb L i : Nat} {ns : Nat → Nat} {ls : Array Slot}
    (F : mm_F p l s m args meth c b D RL cL_law 9) (hXs : va_X sb L (fun j => nI (ns j)) s s.heap) (hbl : sb < s.heap.size) (hbb : sb < b) (hL : L ≤ 2560) (hns : ∀ j, ns j < 2 ^ 32) (hi : i + 5 ≤ L) (hN : mm_N b D s σ H locs) (hV : mm_V σ T x0 m0 o d) (hl : lv_has ls 9 (mm_lc i d o m0 x0 sb)) (hc : cells + 103 ≤ 603072) (hs : slots + 9037 ≤ 7215210)
    (kk : ∀ (T2 : mm_T) (σ2 : mm_S) (ls : Array Slot) (H : Heap) (locs : List Loc), mm_V σ2 T2 x0 m0 o d → mm_N b D s σ2 H locs → lv_has ls 9 (mm_lc i d o m0 x0 sb) → W p l e room_1 s m args below meth c H locs (cells + 103) (slots + 9037) Q (F0 m 2217 ls []))
    : W p l e room_1 s m args below meth c H locs cells slots Q (F0 m 188 ls []) := by
  obtain ⟨⟨z, ad, hX, rfl⟩, ⟨th, rd, hM, rfl⟩, ⟨go, ho⟩, ⟨gd, hd⟩, hod, hW⟩ := hV
  have hl : lv_has ls 9 [(5, .int (nI i)), (4, .ref d), (3, .ref o), (2, .ref ((rd 0 0))), (1, .ref ((ad 0 0 0))), (0, .ref sb)] := hl
  refine lv_aload_n (pc := 188) F.1 F.2.1 dL_law_188 rfl (lv_at hl 4 rfl) ?_
  refine lv_aload_n (pc := 189) F.1 F.2.1 dL_law_189 rfl (lv_at hl 5 rfl) ?_
  refine lv_iload (pc := 190) F.1 F.2.1 dL_law_190 (lv_at hl 0 rfl) ?_
  refine lv_iconst (pc := 192) (v := nI 1) F.1 F.2.1 dL_law_192 (by decide) ?_
  refine mm_iadd (pc := 193) F (z := nI (i + 1)) (nI_add _ _) dL_law_193 ?_
  refine mm_sld (pc := 194) F hN hXs hbl hbb (j := i + 1) rfl (by omega) hL dL_law_194 ?_
  refine lv_aload_n (pc := 195) F.1 F.2.1 dL_law_195 rfl (lv_at hl 2 rfl) ?_
  refine mm_runSX (pc := 196) (As := [.ref ((ad 0 0 0)), .int (nI (ns (i + 1))), .ref o]) (rest := []) F hN (w_addAddress l b D F.2.2.2.2.2.2.2.1 T z ad σ hX hW (ns (i + 1)) (hns _) o go ho) mw_241 mw_242 mw_0 mw_243 ⟨pmL_addAddress, (Nat.le_of_ble_eq_true rfl), (Nat.le_of_ble_eq_true rfl)⟩ hl.1 rfl (Nat.le_of_ble_eq_true rfl) ⟨by show cells + 6 ≤ 603072; omega, by show slots + 300 ≤ 7215210; omega⟩ dL_law_196
    (fun _ _ _ _ _ _ h9 => False.elim h9) (fun v9 σ1 H locs hp9 hN => ?_)
  obtain ⟨rfl, z1, ad1, g1, hX1, hx1, hw1, hg1, hfr1⟩ := hp9
  refine W.eq (g2 := F0 m 199 ls [.int (nI (mm_q_addAddress T (ns (i + 1))))]) rfl ?_
  refine W.widen (k := cells + 6) (n := slots + 300) (Nat.le_refl _) (Nat.le_refl _) ?_
  have hM1 : mm_M σ1 T th rd := mm_M_kept1 hM (fun a9 e9 he => hfr1 a9 1 e9 (by decide) (fun q9 => by rw [q9, ho] at he; cases he) he)
  have hd1 : σ1 d = mm_ard 2 2 1 gd := hfr1 d 2 _ (by decide) (Ne.symm hod) hd
  have hq4 : mm_q_addAddress T (ns (i + 1)) < 4 := mm_q_addAddress_lt
  have hW2 : mm_WF (if mm_q_addAddress T (ns (i + 1)) = 0 then (mm_t_addAddress T (ns (i + 1))) else T) := mm_wf_addAddress hW (ns (i + 1)) (hns _)
  refine lv_istore (pc := 199) (lv' := [(6, .int (nI (mm_q_addAddress T (ns (i + 1))))), (5, .int (nI i)), (4, .ref d), (3, .ref o), (2, .ref ((rd 0 0))), (1, .ref ((ad 0 0 0))), (0, .ref sb)]) F.1 F.2.1 dL_law_199 hl (by decide) rfl (fun ls hl => ?_)
  refine lv_aload_n (pc := 201) F.1 F.2.1 dL_law_201 rfl (lv_at hl 4 rfl) ?_
  refine lv_aload_n (pc := 202) F.1 F.2.1 dL_law_202 rfl (lv_at hl 6 rfl) ?_
  refine lv_iload (pc := 203) F.1 F.2.1 dL_law_203 (lv_at hl 1 rfl) ?_
  refine lv_iconst (pc := 205) (v := nI 1) F.1 F.2.1 dL_law_205 (by decide) ?_
  refine mm_iadd (pc := 206) F (z := nI (i + 1)) (nI_add _ _) dL_law_206 ?_
  refine mm_sld (pc := 207) F hN hXs hbl hbb (j := i + 1) rfl (by omega) hL dL_law_207 ?_
  refine mm_runV (pc := 208) (As := [.int (nI (ns (i + 1)))]) (rest := []) F hN (r_addAddress l b D F.2.2.2.2.2.2.2.1 T th rd σ1 hM1 hW (ns (i + 1)) (hns _)) mw_1271 mw_1272 mw_1273 mw_6 mw_1274 ⟨pmX7_addAddress, (Nat.le_of_ble_eq_true rfl), (Nat.le_of_ble_eq_true rfl)⟩ (mm_recv F.2.2.2.2.2.1 hN (mm_r0 hM1) rfl) hl.1 rfl (Nat.le_of_ble_eq_true rfl) ⟨by show (cells + 6) + 0 ≤ 603072; omega, by show (slots + 300) + 0 ≤ 7215210; omega⟩ dL_law_208
    (fun _ _ _ _ _ _ h9 => False.elim h9)
    (fun v9 σ2 H locs hp9 hN => ?_)
  obtain ⟨i9, rfl, hi9, hM2, hF2⟩ := mm_Mt.out hp9
  obtain hq9 := hp9
  refine W.eq (g2 := F0 m 211 ls [.int i9]) rfl ?_
  refine W.widen (k := cells + 6) (n := slots + 300) (Nat.le_refl _) (Nat.le_refl _) ?_
  refine lv_istore (pc := 211) (lv' := [(7, .int i9), (6, .int (nI (mm_q_addAddress T (ns (i + 1))))), (5, .int (nI i)), (4, .ref d), (3, .ref o), (2, .ref ((rd 0 0))), (1, .ref ((ad 0 0 0))), (0, .ref sb)]) F.1 F.2.1 dL_law_211 hl (by decide) rfl (fun ls hl => ?_)
  refine lv_aload_n (pc := 213) F.1 F.2.1 dL_law_213 rfl (lv_at hl 5 rfl) ?_
  refine mm_runV (pc := 214) (As := []) (rest := []) F hN (r_thrown l b D F.2.2.2.2.2.2.2.1 (if mm_q_addAddress T (ns (i + 1)) = 0 then (mm_t_addAddress T (ns (i + 1))) else T) (mm_q_addAddress T (ns (i + 1))) rd σ2 hM2 hW2) mw_1267 mw_1268 mw_1269 mw_6 mw_1270 ⟨pmX7_thrown, (Nat.le_of_ble_eq_true rfl), (Nat.le_of_ble_eq_true rfl)⟩ (mm_recv F.2.2.2.2.2.1 hN (mm_r0 hM2) rfl) hl.1 rfl (Nat.le_of_ble_eq_true rfl) ⟨by show (cells + 6) + 0 ≤ 603072; omega, by show (slots + 300) + 0 ≤ 7215210; omega⟩ dL_law_214
    (fun _ _ _ _ _ _ h9 => False.elim h9)
    (fun v9 σ9 H locs hp9 hN => ?_)
  obtain ⟨rfl, h9⟩ := hp9
  rw [h9] at hN
  refine W.eq (g2 := F0 m 217 ls [.int (nI (mm_q_addAddress T (ns (i + 1))))]) rfl ?_
  refine W.widen (k := cells + 6) (n := slots + 300) (Nat.le_refl _) (Nat.le_refl _) ?_
  refine lv_iload (pc := 217) F.1 F.2.1 dL_law_217 (lv_at hl 1 rfl) ?_
  refine mm_icmp_eqB (pc := 219) F (x := mm_q_addAddress T (ns (i + 1))) (y := mm_q_addAddress T (ns (i + 1))) (tgt := 224) (by omega) (by omega) dL_law_219 (by decide) (fun cz219 => ?_) (fun cz219 => ?_)
  ·
    refine lv_iload (pc := 224) F.1 F.2.1 dL_law_224 (lv_at hl 1 rfl) ?_
    refine mm_if_neB (pc := 226) F (tgt := 241) (by omega) dL_law_226 (by decide) (fun cz226 => ?_) (fun cz226 => ?_)
    ·
      refine lv_goto (pc := 241) (tgt := 2217) F.1 F.2.1 dL_law_241 (by decide) ?_
      exact W.widen (by omega) (by omega) (kk _ _ ls H locs ⟨⟨z1, ad1, mm_X_kept hX1 (fun a9 e9 he => hF2 a9 0 e9 (by decide) he), hx1⟩, ⟨_, rd, hM2, rfl⟩, ⟨g1, hF2 o 2 _ (by decide) hw1⟩, ⟨gd, hF2 d 2 _ (by decide) hd1⟩, hod, hW2⟩ hN (lv_sub hl [2, 3, 4, 5, 6, 7] rfl))
    ·
      refine lv_aload_n (pc := 229) F.1 F.2.1 dL_law_229 rfl (lv_at hl 4 rfl) ?_
      refine lv_iconst (pc := 230) (v := nI 0) F.1 F.2.1 dL_law_230 (by decide) ?_
      refine mm_lald (pc := 231) F hN (hF2 o 2 _ (by decide) hw1) (j := 0) rfl (by decide) (by decide) dL_law_231 ?_
      refine lv_iload (pc := 232) F.1 F.2.1 dL_law_232 (lv_at hl 0 rfl) ?_
      refine lv_i2l (pc := 234) (v := (i9).toInt64) F.1 F.2.1 dL_law_234 (rfl) ?_
      refine W.eq (g2 := F0 m 235 ls [.long ((nI (T.nA)).toInt64), .long ((nI (T.nA)).toInt64)]) (by rw [hg1 cz226, hi9 cz226]) ?_
      refine mm_lcmpE (pc := 235) F.1 F.2.1 dL_law_235 ?_
      refine mm_if_eq (pc := 236) F (tgt := 241) (by omega) dL_law_236 (by decide) (fun cz236 => ?_) (fun h9 => absurd h9 (by decide))
      refine lv_goto (pc := 241) (tgt := 2217) F.1 F.2.1 dL_law_241 (by decide) ?_
      exact W.widen (by omega) (by omega) (kk _ _ ls H locs ⟨⟨z1, ad1, mm_X_kept hX1 (fun a9 e9 he => hF2 a9 0 e9 (by decide) he), hx1⟩, ⟨_, rd, hM2, rfl⟩, ⟨g1, hF2 o 2 _ (by decide) hw1⟩, ⟨gd, hF2 d 2 _ (by decide) hd1⟩, hod, hW2⟩ hN (lv_sub hl [2, 3, 4, 5, 6, 7] rfl))
  ·
    exact absurd rfl cz219

