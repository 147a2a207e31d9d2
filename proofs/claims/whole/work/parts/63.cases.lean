set_option maxHeartbeats 4000000 in
set_option maxRecDepth 100000 in
theorem law_0 {p : Program} {l : Launch} {e : Env} {s : State} {m : MethodId} {args : Array Value} {below : List Frame} {meth : Method} {c : Code} {H : Heap} {locs : List Loc} {cells slots : Nat} {Q : State → Prop} {b : Nat} {D : mm_D} {σ : mm_S} {T : mm_T} {x0 m0 o d sb L i : Nat} {ns : Nat → Nat} {ls : Array Slot}
    (F : mm_F p l s m args meth c b D RL cL_law 9) (hXs : va_X sb L (fun j => nI (ns j)) s s.heap) (hbl : sb < s.heap.size) (hbb : sb < b) (hL : L ≤ 2560) (hns : ∀ j, ns j < 2 ^ 32) (hi : i + 5 ≤ L) (hN : mm_N b D s σ H locs) (hV : mm_V σ T x0 m0 o d) (hl : lv_has ls 9 (mm_lc i d o m0 x0 sb)) (hc : cells + 103 ≤ 603072) (hs : slots + 9037 ≤ 7215210)
    (kk : ∀ (T2 : mm_T) (σ2 : mm_S) (ls : Array Slot) (H : Heap) (locs : List Loc), mm_V σ2 T2 x0 m0 o d → mm_N b D s σ2 H locs → lv_has ls 9 (mm_lc i d o m0 x0 sb) → W p l e room_1 s m args below meth c H locs (cells + 103) (slots + 9037) Q (F0 m 2217 ls []))
    : W p l e room_1 s m args below meth c H locs cells slots Q (F0 m 188 ls []) := by
  obtain ⟨⟨z, ad, hX, rfl⟩, ⟨th, rd, hM, rfl⟩, ⟨go, ho⟩, ⟨gd, hd⟩, hod, hW⟩ := hV
  have hl : lv_has ls 9 [(5, .int (nI i)), (4, .ref d), (3, .ref o), (2, .ref ((rd 0 0))), (1, .ref ((ad 0 0 0))), (0, .ref sb)] := hl
  refine lv_aload_n (pc := 188) F.1 F.2.1 dL_law_188 rfl (lv_at hl 4 rfl) ?_
  refine lv_aload_n (pc := 189) F.1 F.2.1 dL_law_189 rfl (lv_at hl 5 rfl) ?_
  refine lv_iload (pc := 190) F.1 F.2.1 dL_law_190 (lv_at hl 0 rfl) ?_
  refine lv_iconst (pc := 192) (v := nI 1) F.1 F.2.1 dL_law_192 (by decide) ?_
  refine mm_iadd (pc := 193) F (z := nI (i + 1)) (nI_add _ _) dL_law_193 ?_
  refine mm_sld (pc := 194) F hN hXs hbl hbb (j := i + 1) rfl (by omega) hL dL_law_194 ?_
  refine lv_aload_n (pc := 195) F.1 F.2.1 dL_law_195 rfl (lv_at hl 2 rfl) ?_
  refine mm_runSX (pc := 196) (As := [.ref ((ad 0 0 0)), .int (nI (ns (i + 1))), .ref o]) (rest := []) F hN (w_addAddress l b D F.2.2.2.2.2.2.2.1 T z ad σ hX hW (ns (i + 1)) (hns _) o go ho) mw_232 mw_233 mw_0 mw_234 ⟨pmL_addAddress, (Nat.le_of_ble_eq_true rfl), (Nat.le_of_ble_eq_true rfl)⟩ hl.1 rfl (Nat.le_of_ble_eq_true rfl) ⟨by show cells + 6 ≤ 603072; omega, by show slots + 300 ≤ 7215210; omega⟩ dL_law_196
    (fun _ _ _ _ _ _ h9 => False.elim h9) (fun v9 σ1 H locs hp9 hN => ?_)
  obtain ⟨rfl, z1, ad1, g1, hX1, hx1, hw1, hg1, hfr1⟩ := hp9
  refine W.eq (g2 := F0 m 199 ls [.int (nI (mm_q_addAddress T (ns (i + 1))))]) rfl ?_
  refine W.widen (k := cells + 6) (n := slots + 300) (Nat.le_refl _) (Nat.le_refl _) ?_
  have hM1 : mm_M σ1 T th rd := mm_M_kept1 hM (fun a9 e9 he => hfr1 a9 1 e9 (by decide) (fun q9 => by rw [q9, ho] at he; cases he) he)
  have hd1 : σ1 d = mm_ard 2 2 1 gd := hfr1 d 2 _ (by decide) (Ne.symm hod) hd
  have hq4 : mm_q_addAddress T (ns (i + 1)) < 4 := mm_q_addAddress_lt
  have hW2 : mm_WF (if mm_q_addAddress T (ns (i + 1)) = 0 then (mm_t_addAddress T (ns (i + 1))) else T) := mm_wf_addAddress hW (ns (i + 1)) (hns _)
  refine lv_istore (pc := 199) (lv' := [(6, .int (nI (mm_q_addAddress T (ns (i + 1))))), (5, .int (nI i)), (4, .ref d), (3, .ref o), (2, .ref ((rd 0 0))), (1, .ref ((ad 0 0 0))), (0, .ref sb)]) F.1 F.2.1 dL_law_199 hl (by decide) rfl (fun ls hl => ?_)
  refine lv_aload_n (pc := 201) F.1 F.2.1 dL_law_201 rfl (lv_at hl 4 rfl) ?_
  refine lv_aload_n (pc := 202) F.1 F.2.1 dL_law_202 rfl (lv_at hl 6 rfl) ?_
  refine lv_iload (pc := 203) F.1 F.2.1 dL_law_203 (lv_at hl 1 rfl) ?_
  refine lv_iconst (pc := 205) (v := nI 1) F.1 F.2.1 dL_law_205 (by decide) ?_
  refine mm_iadd (pc := 206) F (z := nI (i + 1)) (nI_add _ _) dL_law_206 ?_
  refine mm_sld (pc := 207) F hN hXs hbl hbb (j := i + 1) rfl (by omega) hL dL_law_207 ?_
  refine mm_runV (pc := 208) (As := [.int (nI (ns (i + 1)))]) (rest := []) F hN (r_addAddress l b D F.2.2.2.2.2.2.2.1 T th rd σ1 hM1 hW (ns (i + 1)) (hns _)) mw_1264 mw_1265 mw_1266 mw_6 mw_1267 ⟨pmX7_addAddress, (Nat.le_of_ble_eq_true rfl), (Nat.le_of_ble_eq_true rfl)⟩ (mm_recv F.2.2.2.2.2.1 hN (mm_r0 hM1) rfl) hl.1 rfl (Nat.le_of_ble_eq_true rfl) ⟨by show (cells + 6) + 0 ≤ 603072; omega, by show (slots + 300) + 0 ≤ 7215210; omega⟩ dL_law_208
    (fun _ _ _ _ _ _ h9 => False.elim h9)
    (fun v9 σ2 H locs hp9 hN => ?_)
  obtain ⟨i9, rfl, hi9, hM2, hF2⟩ := mm_Mt.out hp9
  obtain hq9 := hp9
  refine W.eq (g2 := F0 m 211 ls [.int i9]) rfl ?_
  refine W.widen (k := cells + 6) (n := slots + 300) (Nat.le_refl _) (Nat.le_refl _) ?_
  refine lv_istore (pc := 211) (lv' := [(7, .int i9), (6, .int (nI (mm_q_addAddress T (ns (i + 1))))), (5, .int (nI i)), (4, .ref d), (3, .ref o), (2, .ref ((rd 0 0))), (1, .ref ((ad 0 0 0))), (0, .ref sb)]) F.1 F.2.1 dL_law_211 hl (by decide) rfl (fun ls hl => ?_)
  refine lv_aload_n (pc := 213) F.1 F.2.1 dL_law_213 rfl (lv_at hl 5 rfl) ?_
  refine mm_runV (pc := 214) (As := []) (rest := []) F hN (r_thrown l b D F.2.2.2.2.2.2.2.1 (if mm_q_addAddress T (ns (i + 1)) = 0 then (mm_t_addAddress T (ns (i + 1))) else T) (mm_q_addAddress T (ns (i + 1))) rd σ2 hM2 hW2) mw_1260 mw_1261 mw_1262 mw_6 mw_1263 ⟨pmX7_thrown, (Nat.le_of_ble_eq_true rfl), (Nat.le_of_ble_eq_true rfl)⟩ (mm_recv F.2.2.2.2.2.1 hN (mm_r0 hM2) rfl) hl.1 rfl (Nat.le_of_ble_eq_true rfl) ⟨by show (cells + 6) + 0 ≤ 603072; omega, by show (slots + 300) + 0 ≤ 7215210; omega⟩ dL_law_214
    (fun _ _ _ _ _ _ h9 => False.elim h9)
    (fun v9 σ9 H locs hp9 hN => ?_)
  obtain ⟨rfl, h9⟩ := hp9
  rw [h9] at hN
  refine W.eq (g2 := F0 m 217 ls [.int (nI (mm_q_addAddress T (ns (i + 1))))]) rfl ?_
  refine W.widen (k := cells + 6) (n := slots + 300) (Nat.le_refl _) (Nat.le_refl _) ?_
  refine lv_iload (pc := 217) F.1 F.2.1 dL_law_217 (lv_at hl 1 rfl) ?_
  refine mm_icmp_eqB (pc := 219) F (x := mm_q_addAddress T (ns (i + 1))) (y := mm_q_addAddress T (ns (i + 1))) (tgt := 224) (by omega) (by omega) dL_law_219 (by decide) (fun cz219 => ?_) (fun cz219 => ?_)
  ·
    refine lv_iload (pc := 224) F.1 F.2.1 dL_law_224 (lv_at hl 1 rfl) ?_
    refine mm_if_neB (pc := 226) F (tgt := 241) (by omega) dL_law_226 (by decide) (fun cz226 => ?_) (fun cz226 => ?_)
    ·
      refine lv_goto (pc := 241) (tgt := 2217) F.1 F.2.1 dL_law_241 (by decide) ?_
      exact W.widen (by omega) (by omega) (kk _ _ ls H locs ⟨⟨z1, ad1, mm_X_kept hX1 (fun a9 e9 he => hF2 a9 0 e9 (by decide) he), hx1⟩, ⟨_, rd, hM2, rfl⟩, ⟨g1, hF2 o 2 _ (by decide) hw1⟩, ⟨gd, hF2 d 2 _ (by decide) hd1⟩, hod, hW2⟩ hN (lv_sub hl [2, 3, 4, 5, 6, 7] rfl))
    ·
      refine lv_aload_n (pc := 229) F.1 F.2.1 dL_law_229 rfl (lv_at hl 4 rfl) ?_
      refine lv_iconst (pc := 230) (v := nI 0) F.1 F.2.1 dL_law_230 (by decide) ?_
      refine mm_lald (pc := 231) F hN (hF2 o 2 _ (by decide) hw1) (j := 0) rfl (by decide) (by decide) dL_law_231 ?_
      refine lv_iload (pc := 232) F.1 F.2.1 dL_law_232 (lv_at hl 0 rfl) ?_
      refine lv_i2l (pc := 234) (v := (i9).toInt64) F.1 F.2.1 dL_law_234 (rfl) ?_
      refine W.eq (g2 := F0 m 235 ls [.long ((nI (T.nA)).toInt64), .long ((nI (T.nA)).toInt64)]) (by rw [hg1 cz226, hi9 cz226]) ?_
      refine mm_lcmpE (pc := 235) F.1 F.2.1 dL_law_235 ?_
      refine mm_if_eq (pc := 236) F (tgt := 241) (by omega) dL_law_236 (by decide) (fun cz236 => ?_) (fun h9 => absurd h9 (by decide))
      refine lv_goto (pc := 241) (tgt := 2217) F.1 F.2.1 dL_law_241 (by decide) ?_
      exact W.widen (by omega) (by omega) (kk _ _ ls H locs ⟨⟨z1, ad1, mm_X_kept hX1 (fun a9 e9 he => hF2 a9 0 e9 (by decide) he), hx1⟩, ⟨_, rd, hM2, rfl⟩, ⟨g1, hF2 o 2 _ (by decide) hw1⟩, ⟨gd, hF2 d 2 _ (by decide) hd1⟩, hod, hW2⟩ hN (lv_sub hl [2, 3, 4, 5, 6, 7] rfl))
  ·
    exact absurd rfl cz219

set_option maxHeartbeats 4000000 in
set_option maxRecDepth 100000 in
theorem law_1 {p : Program} {l : Launch} {e : Env} {s : State} {m : MethodId} {args : Array Value} {below : List Frame} {meth : Method} {c : Code} {H : Heap} {locs : List Loc} {cells slots : Nat} {Q : State → Prop} {b : Nat} {D : mm_D} {σ : mm_S} {T : mm_T} {x0 m0 o d sb L i : Nat} {ns : Nat → Nat} {ls : Array Slot}
    (F : mm_F p l s m args meth c b D RL cL_law 9) (hXs : va_X sb L (fun j => nI (ns j)) s s.heap) (hbl : sb < s.heap.size) (hbb : sb < b) (hL : L ≤ 2560) (hns : ∀ j, ns j < 2 ^ 32) (hi : i + 5 ≤ L) (hN : mm_N b D s σ H locs) (hV : mm_V σ T x0 m0 o d) (hl : lv_has ls 9 (mm_lc i d o m0 x0 sb)) (hc : cells + 103 ≤ 603072) (hs : slots + 9037 ≤ 7215210)
    (kk : ∀ (T2 : mm_T) (σ2 : mm_S) (ls : Array Slot) (H : Heap) (locs : List Loc), mm_V σ2 T2 x0 m0 o d → mm_N b D s σ2 H locs → lv_has ls 9 (mm_lc i d o m0 x0 sb) → W p l e room_1 s m args below meth c H locs (cells + 103) (slots + 9037) Q (F0 m 2217 ls []))
    : W p l e room_1 s m args below meth c H locs cells slots Q (F0 m 244 ls []) := by
  obtain ⟨⟨z, ad, hX, rfl⟩, ⟨th, rd, hM, rfl⟩, ⟨go, ho⟩, ⟨gd, hd⟩, hod, hW⟩ := hV
  have hl : lv_has ls 9 [(5, .int (nI i)), (4, .ref d), (3, .ref o), (2, .ref ((rd 0 0))), (1, .ref ((ad 0 0 0))), (0, .ref sb)] := hl
  refine lv_aload_n (pc := 244) F.1 F.2.1 dL_law_244 rfl (lv_at hl 4 rfl) ?_
  refine lv_aload_n (pc := 245) F.1 F.2.1 dL_law_245 rfl (lv_at hl 5 rfl) ?_
  refine lv_iload (pc := 246) F.1 F.2.1 dL_law_246 (lv_at hl 0 rfl) ?_
  refine lv_iconst (pc := 248) (v := nI 1) F.1 F.2.1 dL_law_248 (by decide) ?_
  refine mm_iadd (pc := 249) F (z := nI (i + 1)) (nI_add _ _) dL_law_249 ?_
  refine mm_sld (pc := 250) F hN hXs hbl hbb (j := i + 1) rfl (by omega) hL dL_law_250 ?_
  refine lv_aload_n (pc := 251) F.1 F.2.1 dL_law_251 rfl (lv_at hl 5 rfl) ?_
  refine lv_iload (pc := 252) F.1 F.2.1 dL_law_252 (lv_at hl 0 rfl) ?_
  refine lv_iconst (pc := 254) (v := nI 2) F.1 F.2.1 dL_law_254 (by decide) ?_
  refine mm_iadd (pc := 255) F (z := nI (i + 2)) (nI_add _ _) dL_law_255 ?_
  refine mm_sld (pc := 256) F hN hXs hbl hbb (j := i + 2) rfl (by omega) hL dL_law_256 ?_
  refine lv_aload_n (pc := 257) F.1 F.2.1 dL_law_257 rfl (lv_at hl 2 rfl) ?_
  refine mm_runSX (pc := 258) (As := [.ref ((ad 0 0 0)), .int (nI (ns (i + 1))), .int (nI (ns (i + 2))), .ref o]) (rest := []) F hN (w_join l b D F.2.2.2.2.2.2.2.1 T z ad σ hX hW (ns (i + 1)) (hns _) (ns (i + 2)) (hns _) o go ho) mw_421 mw_422 mw_0 mw_423 ⟨pmL_join, (Nat.le_of_ble_eq_true rfl), (Nat.le_of_ble_eq_true rfl)⟩ hl.1 rfl (Nat.le_of_ble_eq_true rfl) ⟨by show cells + 8 ≤ 603072; omega, by show slots + 60 ≤ 7215210; omega⟩ dL_law_258
    (fun _ _ _ _ _ _ h9 => False.elim h9) (fun v9 σ1 H locs hp9 hN => ?_)
  obtain ⟨rfl, z1, ad1, g1, hX1, hx1, hw1, hg1, hfr1⟩ := hp9
  refine W.eq (g2 := F0 m 261 ls [.int (nI (mm_q_join T (ns (i + 1)) (ns (i + 2))))]) rfl ?_
  refine W.widen (k := cells + 8) (n := slots + 60) (Nat.le_refl _) (Nat.le_refl _) ?_
  have hM1 : mm_M σ1 T th rd := mm_M_kept1 hM (fun a9 e9 he => hfr1 a9 1 e9 (by decide) (fun q9 => by rw [q9, ho] at he; cases he) he)
  have hd1 : σ1 d = mm_ard 2 2 1 gd := hfr1 d 2 _ (by decide) (Ne.symm hod) hd
  have hq4 : mm_q_join T (ns (i + 1)) (ns (i + 2)) < 4 := mm_q_join_lt
  have hW2 : mm_WF (if mm_q_join T (ns (i + 1)) (ns (i + 2)) = 0 then (mm_t_join T (ns (i + 1)) (ns (i + 2))) else T) := mm_wf_join hW (ns (i + 1)) (hns _) (ns (i + 2)) (hns _)
  refine lv_istore (pc := 261) (lv' := [(6, .int (nI (mm_q_join T (ns (i + 1)) (ns (i + 2))))), (5, .int (nI i)), (4, .ref d), (3, .ref o), (2, .ref ((rd 0 0))), (1, .ref ((ad 0 0 0))), (0, .ref sb)]) F.1 F.2.1 dL_law_261 hl (by decide) rfl (fun ls hl => ?_)
  refine lv_aload_n (pc := 263) F.1 F.2.1 dL_law_263 rfl (lv_at hl 4 rfl) ?_
  refine lv_aload_n (pc := 264) F.1 F.2.1 dL_law_264 rfl (lv_at hl 6 rfl) ?_
  refine lv_iload (pc := 265) F.1 F.2.1 dL_law_265 (lv_at hl 1 rfl) ?_
  refine lv_iconst (pc := 267) (v := nI 1) F.1 F.2.1 dL_law_267 (by decide) ?_
  refine mm_iadd (pc := 268) F (z := nI (i + 1)) (nI_add _ _) dL_law_268 ?_
  refine mm_sld (pc := 269) F hN hXs hbl hbb (j := i + 1) rfl (by omega) hL dL_law_269 ?_
  refine lv_aload_n (pc := 270) F.1 F.2.1 dL_law_270 rfl (lv_at hl 6 rfl) ?_
  refine lv_iload (pc := 271) F.1 F.2.1 dL_law_271 (lv_at hl 1 rfl) ?_
  refine lv_iconst (pc := 273) (v := nI 2) F.1 F.2.1 dL_law_273 (by decide) ?_
  refine mm_iadd (pc := 274) F (z := nI (i + 2)) (nI_add _ _) dL_law_274 ?_
  refine mm_sld (pc := 275) F hN hXs hbl hbb (j := i + 2) rfl (by omega) hL dL_law_275 ?_
  refine mm_runV (pc := 276) (As := [.int (nI (ns (i + 1))), .int (nI (ns (i + 2)))]) (rest := []) F hN (r_join l b D F.2.2.2.2.2.2.2.1 T th rd σ1 hM1 hW (ns (i + 1)) (hns _) (ns (i + 2)) (hns _)) mw_1271 mw_1272 mw_1273 mw_6 mw_1274 ⟨pmX7_join, (Nat.le_of_ble_eq_true rfl), (Nat.le_of_ble_eq_true rfl)⟩ (mm_recv F.2.2.2.2.2.1 hN (mm_r0 hM1) rfl) hl.1 rfl (Nat.le_of_ble_eq_true rfl) ⟨by show (cells + 8) + 0 ≤ 603072; omega, by show (slots + 60) + 0 ≤ 7215210; omega⟩ dL_law_276
    (fun _ _ _ _ _ _ h9 => False.elim h9)
    (fun v9 σ2 H locs hp9 hN => ?_)
  obtain ⟨i9, rfl, hi9, hM2, hF2⟩ := mm_Mt.out hp9
  obtain hq9 := hp9
  refine W.eq (g2 := F0 m 279 ls [.int i9]) rfl ?_
  refine W.widen (k := cells + 8) (n := slots + 60) (Nat.le_refl _) (Nat.le_refl _) ?_
  refine lv_istore (pc := 279) (lv' := [(7, .int i9), (6, .int (nI (mm_q_join T (ns (i + 1)) (ns (i + 2))))), (5, .int (nI i)), (4, .ref d), (3, .ref o), (2, .ref ((rd 0 0))), (1, .ref ((ad 0 0 0))), (0, .ref sb)]) F.1 F.2.1 dL_law_279 hl (by decide) rfl (fun ls hl => ?_)
  refine lv_aload_n (pc := 281) F.1 F.2.1 dL_law_281 rfl (lv_at hl 5 rfl) ?_
  refine mm_runV (pc := 282) (As := []) (rest := []) F hN (r_thrown l b D F.2.2.2.2.2.2.2.1 (if mm_q_join T (ns (i + 1)) (ns (i + 2)) = 0 then (mm_t_join T (ns (i + 1)) (ns (i + 2))) else T) (mm_q_join T (ns (i + 1)) (ns (i + 2))) rd σ2 hM2 hW2) mw_1260 mw_1261 mw_1262 mw_6 mw_1263 ⟨pmX7_thrown, (Nat.le_of_ble_eq_true rfl), (Nat.le_of_ble_eq_true rfl)⟩ (mm_recv F.2.2.2.2.2.1 hN (mm_r0 hM2) rfl) hl.1 rfl (Nat.le_of_ble_eq_true rfl) ⟨by show (cells + 8) + 0 ≤ 603072; omega, by show (slots + 60) + 0 ≤ 7215210; omega⟩ dL_law_282
    (fun _ _ _ _ _ _ h9 => False.elim h9)
    (fun v9 σ9 H locs hp9 hN => ?_)
  obtain ⟨rfl, h9⟩ := hp9
  rw [h9] at hN
  refine W.eq (g2 := F0 m 285 ls [.int (nI (mm_q_join T (ns (i + 1)) (ns (i + 2))))]) rfl ?_
  refine W.widen (k := cells + 8) (n := slots + 60) (Nat.le_refl _) (Nat.le_refl _) ?_
  refine lv_iload (pc := 285) F.1 F.2.1 dL_law_285 (lv_at hl 1 rfl) ?_
  refine mm_icmp_eqB (pc := 287) F (x := mm_q_join T (ns (i + 1)) (ns (i + 2))) (y := mm_q_join T (ns (i + 1)) (ns (i + 2))) (tgt := 292) (by omega) (by omega) dL_law_287 (by decide) (fun cz287 => ?_) (fun cz287 => ?_)
  ·
    refine lv_iload (pc := 292) F.1 F.2.1 dL_law_292 (lv_at hl 1 rfl) ?_
    refine mm_if_neB (pc := 294) F (tgt := 309) (by omega) dL_law_294 (by decide) (fun cz294 => ?_) (fun cz294 => ?_)
    ·
      refine lv_goto (pc := 309) (tgt := 2217) F.1 F.2.1 dL_law_309 (by decide) ?_
      exact W.widen (by omega) (by omega) (kk _ _ ls H locs ⟨⟨z1, ad1, mm_X_kept hX1 (fun a9 e9 he => hF2 a9 0 e9 (by decide) he), hx1⟩, ⟨_, rd, hM2, rfl⟩, ⟨g1, hF2 o 2 _ (by decide) hw1⟩, ⟨gd, hF2 d 2 _ (by decide) hd1⟩, hod, hW2⟩ hN (lv_sub hl [2, 3, 4, 5, 6, 7] rfl))
    ·
      refine lv_aload_n (pc := 297) F.1 F.2.1 dL_law_297 rfl (lv_at hl 4 rfl) ?_
      refine lv_iconst (pc := 298) (v := nI 0) F.1 F.2.1 dL_law_298 (by decide) ?_
      refine mm_lald (pc := 299) F hN (hF2 o 2 _ (by decide) hw1) (j := 0) rfl (by decide) (by decide) dL_law_299 ?_
      refine lv_iload (pc := 300) F.1 F.2.1 dL_law_300 (lv_at hl 0 rfl) ?_
      refine lv_i2l (pc := 302) (v := (i9).toInt64) F.1 F.2.1 dL_law_302 (rfl) ?_
      refine W.eq (g2 := F0 m 303 ls [.long ((nI (mm_sm (fun p => if T.ho p = (ns (i + 2)) then 1 else 0) T.nP)).toInt64), .long ((nI (mm_sm (fun p => if T.ho p = (ns (i + 2)) then 1 else 0) T.nP)).toInt64)]) (by rw [hg1 cz294, hi9 cz294]) ?_
      refine mm_lcmpE (pc := 303) F.1 F.2.1 dL_law_303 ?_
      refine mm_if_eq (pc := 304) F (tgt := 309) (by omega) dL_law_304 (by decide) (fun cz304 => ?_) (fun h9 => absurd h9 (by decide))
      refine lv_goto (pc := 309) (tgt := 2217) F.1 F.2.1 dL_law_309 (by decide) ?_
      exact W.widen (by omega) (by omega) (kk _ _ ls H locs ⟨⟨z1, ad1, mm_X_kept hX1 (fun a9 e9 he => hF2 a9 0 e9 (by decide) he), hx1⟩, ⟨_, rd, hM2, rfl⟩, ⟨g1, hF2 o 2 _ (by decide) hw1⟩, ⟨gd, hF2 d 2 _ (by decide) hd1⟩, hod, hW2⟩ hN (lv_sub hl [2, 3, 4, 5, 6, 7] rfl))
  ·
    exact absurd rfl cz287

set_option maxHeartbeats 4000000 in
set_option maxRecDepth 100000 in
theorem law_2 {p : Program} {l : Launch} {e : Env} {s : State} {m : MethodId} {args : Array Value} {below : List Frame} {meth : Method} {c : Code} {H : Heap} {locs : List Loc} {cells slots : Nat} {Q : State → Prop} {b : Nat} {D : mm_D} {σ : mm_S} {T : mm_T} {x0 m0 o d sb L i : Nat} {ns : Nat → Nat} {ls : Array Slot}
    (F : mm_F p l s m args meth c b D RL cL_law 9) (hXs : va_X sb L (fun j => nI (ns j)) s s.heap) (hbl : sb < s.heap.size) (hbb : sb < b) (hL : L ≤ 2560) (hns : ∀ j, ns j < 2 ^ 32) (hi : i + 5 ≤ L) (hN : mm_N b D s σ H locs) (hV : mm_V σ T x0 m0 o d) (hl : lv_has ls 9 (mm_lc i d o m0 x0 sb)) (hc : cells + 103 ≤ 603072) (hs : slots + 9037 ≤ 7215210)
    (kk : ∀ (T2 : mm_T) (σ2 : mm_S) (ls : Array Slot) (H : Heap) (locs : List Loc), mm_V σ2 T2 x0 m0 o d → mm_N b D s σ2 H locs → lv_has ls 9 (mm_lc i d o m0 x0 sb) → W p l e room_1 s m args below meth c H locs (cells + 103) (slots + 9037) Q (F0 m 2217 ls []))
    : W p l e room_1 s m args below meth c H locs cells slots Q (F0 m 312 ls []) := by
  obtain ⟨⟨z, ad, hX, rfl⟩, ⟨th, rd, hM, rfl⟩, ⟨go, ho⟩, ⟨gd, hd⟩, hod, hW⟩ := hV
  have hl : lv_has ls 9 [(5, .int (nI i)), (4, .ref d), (3, .ref o), (2, .ref ((rd 0 0))), (1, .ref ((ad 0 0 0))), (0, .ref sb)] := hl
  refine lv_aload_n (pc := 312) F.1 F.2.1 dL_law_312 rfl (lv_at hl 4 rfl) ?_
  refine lv_aload_n (pc := 313) F.1 F.2.1 dL_law_313 rfl (lv_at hl 5 rfl) ?_
  refine lv_iload (pc := 314) F.1 F.2.1 dL_law_314 (lv_at hl 0 rfl) ?_
  refine lv_iconst (pc := 316) (v := nI 1) F.1 F.2.1 dL_law_316 (by decide) ?_
  refine mm_iadd (pc := 317) F (z := nI (i + 1)) (nI_add _ _) dL_law_317 ?_
  refine mm_sld (pc := 318) F hN hXs hbl hbb (j := i + 1) rfl (by omega) hL dL_law_318 ?_
  refine lv_aload_n (pc := 319) F.1 F.2.1 dL_law_319 rfl (lv_at hl 5 rfl) ?_
  refine lv_iload (pc := 320) F.1 F.2.1 dL_law_320 (lv_at hl 0 rfl) ?_
  refine lv_iconst (pc := 322) (v := nI 2) F.1 F.2.1 dL_law_322 (by decide) ?_
  refine mm_iadd (pc := 323) F (z := nI (i + 2)) (nI_add _ _) dL_law_323 ?_
  refine mm_sld (pc := 324) F hN hXs hbl hbb (j := i + 2) rfl (by omega) hL dL_law_324 ?_
  refine lv_aload_n (pc := 325) F.1 F.2.1 dL_law_325 rfl (lv_at hl 2 rfl) ?_
  refine mm_runSX (pc := 326) (As := [.ref ((ad 0 0 0)), .int (nI (ns (i + 1))), .int (nI (ns (i + 2))), .ref o]) (rest := []) F hN (w_addPerson l b D F.2.2.2.2.2.2.2.1 T z ad σ hX hW (ns (i + 1)) (hns _) (ns (i + 2)) (hns _) o go ho) mw_471 mw_472 mw_0 mw_473 ⟨pmL_addPerson, (Nat.le_of_ble_eq_true rfl), (Nat.le_of_ble_eq_true rfl)⟩ hl.1 rfl (Nat.le_of_ble_eq_true rfl) ⟨by show cells + 8 ≤ 603072; omega, by show slots + 300 ≤ 7215210; omega⟩ dL_law_326
    (fun _ _ _ _ _ _ h9 => False.elim h9) (fun v9 σ1 H locs hp9 hN => ?_)
  obtain ⟨rfl, z1, ad1, g1, hX1, hx1, hw1, hg1, hfr1⟩ := hp9
  refine W.eq (g2 := F0 m 329 ls [.int (nI (mm_q_addPerson T (ns (i + 1)) (ns (i + 2))))]) rfl ?_
  refine W.widen (k := cells + 8) (n := slots + 300) (Nat.le_refl _) (Nat.le_refl _) ?_
  have hM1 : mm_M σ1 T th rd := mm_M_kept1 hM (fun a9 e9 he => hfr1 a9 1 e9 (by decide) (fun q9 => by rw [q9, ho] at he; cases he) he)
  have hd1 : σ1 d = mm_ard 2 2 1 gd := hfr1 d 2 _ (by decide) (Ne.symm hod) hd
  have hq4 : mm_q_addPerson T (ns (i + 1)) (ns (i + 2)) < 4 := mm_q_addPerson_lt
  have hW2 : mm_WF (if mm_q_addPerson T (ns (i + 1)) (ns (i + 2)) = 0 then (mm_t_addPerson T (ns (i + 1)) (ns (i + 2))) else T) := mm_wf_addPerson hW (ns (i + 1)) (hns _) (ns (i + 2)) (hns _)
  refine lv_istore (pc := 329) (lv' := [(6, .int (nI (mm_q_addPerson T (ns (i + 1)) (ns (i + 2))))), (5, .int (nI i)), (4, .ref d), (3, .ref o), (2, .ref ((rd 0 0))), (1, .ref ((ad 0 0 0))), (0, .ref sb)]) F.1 F.2.1 dL_law_329 hl (by decide) rfl (fun ls hl => ?_)
  refine lv_aload_n (pc := 331) F.1 F.2.1 dL_law_331 rfl (lv_at hl 4 rfl) ?_
  refine lv_aload_n (pc := 332) F.1 F.2.1 dL_law_332 rfl (lv_at hl 6 rfl) ?_
  refine lv_iload (pc := 333) F.1 F.2.1 dL_law_333 (lv_at hl 1 rfl) ?_
  refine lv_iconst (pc := 335) (v := nI 1) F.1 F.2.1 dL_law_335 (by decide) ?_
  refine mm_iadd (pc := 336) F (z := nI (i + 1)) (nI_add _ _) dL_law_336 ?_
  refine mm_sld (pc := 337) F hN hXs hbl hbb (j := i + 1) rfl (by omega) hL dL_law_337 ?_
  refine lv_aload_n (pc := 338) F.1 F.2.1 dL_law_338 rfl (lv_at hl 6 rfl) ?_
  refine lv_iload (pc := 339) F.1 F.2.1 dL_law_339 (lv_at hl 1 rfl) ?_
  refine lv_iconst (pc := 341) (v := nI 2) F.1 F.2.1 dL_law_341 (by decide) ?_
  refine mm_iadd (pc := 342) F (z := nI (i + 2)) (nI_add _ _) dL_law_342 ?_
  refine mm_sld (pc := 343) F hN hXs hbl hbb (j := i + 2) rfl (by omega) hL dL_law_343 ?_
  refine mm_runV (pc := 344) (As := [.int (nI (ns (i + 1))), .int (nI (ns (i + 2)))]) (rest := []) F hN (r_addPerson l b D F.2.2.2.2.2.2.2.1 T th rd σ1 hM1 hW (ns (i + 1)) (hns _) (ns (i + 2)) (hns _)) mw_1279 mw_1280 mw_1281 mw_6 mw_1282 ⟨pmX7_addPerson, (Nat.le_of_ble_eq_true rfl), (Nat.le_of_ble_eq_true rfl)⟩ (mm_recv F.2.2.2.2.2.1 hN (mm_r0 hM1) rfl) hl.1 rfl (Nat.le_of_ble_eq_true rfl) ⟨by show (cells + 8) + 0 ≤ 603072; omega, by show (slots + 300) + 0 ≤ 7215210; omega⟩ dL_law_344
    (fun _ _ _ _ _ _ h9 => False.elim h9)
    (fun v9 σ2 H locs hp9 hN => ?_)
  obtain ⟨i9, rfl, hi9, hM2, hF2⟩ := mm_Mt.out hp9
  obtain hq9 := hp9
  refine W.eq (g2 := F0 m 347 ls [.int i9]) rfl ?_
  refine W.widen (k := cells + 8) (n := slots + 300) (Nat.le_refl _) (Nat.le_refl _) ?_
  refine lv_istore (pc := 347) (lv' := [(7, .int i9), (6, .int (nI (mm_q_addPerson T (ns (i + 1)) (ns (i + 2))))), (5, .int (nI i)), (4, .ref d), (3, .ref o), (2, .ref ((rd 0 0))), (1, .ref ((ad 0 0 0))), (0, .ref sb)]) F.1 F.2.1 dL_law_347 hl (by decide) rfl (fun ls hl => ?_)
  refine lv_aload_n (pc := 349) F.1 F.2.1 dL_law_349 rfl (lv_at hl 5 rfl) ?_
  refine mm_runV (pc := 350) (As := []) (rest := []) F hN (r_thrown l b D F.2.2.2.2.2.2.2.1 (if mm_q_addPerson T (ns (i + 1)) (ns (i + 2)) = 0 then (mm_t_addPerson T (ns (i + 1)) (ns (i + 2))) else T) (mm_q_addPerson T (ns (i + 1)) (ns (i + 2))) rd σ2 hM2 hW2) mw_1260 mw_1261 mw_1262 mw_6 mw_1263 ⟨pmX7_thrown, (Nat.le_of_ble_eq_true rfl), (Nat.le_of_ble_eq_true rfl)⟩ (mm_recv F.2.2.2.2.2.1 hN (mm_r0 hM2) rfl) hl.1 rfl (Nat.le_of_ble_eq_true rfl) ⟨by show (cells + 8) + 0 ≤ 603072; omega, by show (slots + 300) + 0 ≤ 7215210; omega⟩ dL_law_350
    (fun _ _ _ _ _ _ h9 => False.elim h9)
    (fun v9 σ9 H locs hp9 hN => ?_)
  obtain ⟨rfl, h9⟩ := hp9
  rw [h9] at hN
  refine W.eq (g2 := F0 m 353 ls [.int (nI (mm_q_addPerson T (ns (i + 1)) (ns (i + 2))))]) rfl ?_
  refine W.widen (k := cells + 8) (n := slots + 300) (Nat.le_refl _) (Nat.le_refl _) ?_
  refine lv_iload (pc := 353) F.1 F.2.1 dL_law_353 (lv_at hl 1 rfl) ?_
  refine mm_icmp_eqB (pc := 355) F (x := mm_q_addPerson T (ns (i + 1)) (ns (i + 2))) (y := mm_q_addPerson T (ns (i + 1)) (ns (i + 2))) (tgt := 360) (by omega) (by omega) dL_law_355 (by decide) (fun cz355 => ?_) (fun cz355 => ?_)
  ·
    refine lv_iload (pc := 360) F.1 F.2.1 dL_law_360 (lv_at hl 1 rfl) ?_
    refine mm_if_neB (pc := 362) F (tgt := 377) (by omega) dL_law_362 (by decide) (fun cz362 => ?_) (fun cz362 => ?_)
    ·
      refine lv_goto (pc := 377) (tgt := 2217) F.1 F.2.1 dL_law_377 (by decide) ?_
      exact W.widen (by omega) (by omega) (kk _ _ ls H locs ⟨⟨z1, ad1, mm_X_kept hX1 (fun a9 e9 he => hF2 a9 0 e9 (by decide) he), hx1⟩, ⟨_, rd, hM2, rfl⟩, ⟨g1, hF2 o 2 _ (by decide) hw1⟩, ⟨gd, hF2 d 2 _ (by decide) hd1⟩, hod, hW2⟩ hN (lv_sub hl [2, 3, 4, 5, 6, 7] rfl))
    ·
      refine lv_aload_n (pc := 365) F.1 F.2.1 dL_law_365 rfl (lv_at hl 4 rfl) ?_
      refine lv_iconst (pc := 366) (v := nI 0) F.1 F.2.1 dL_law_366 (by decide) ?_
      refine mm_lald (pc := 367) F hN (hF2 o 2 _ (by decide) hw1) (j := 0) rfl (by decide) (by decide) dL_law_367 ?_
      refine lv_iload (pc := 368) F.1 F.2.1 dL_law_368 (lv_at hl 0 rfl) ?_
      refine lv_i2l (pc := 370) (v := (i9).toInt64) F.1 F.2.1 dL_law_370 (rfl) ?_
      refine W.eq (g2 := F0 m 371 ls [.long ((nI (T.nP)).toInt64), .long ((nI (T.nP)).toInt64)]) (by rw [hg1 cz362, hi9 cz362]) ?_
      refine mm_lcmpE (pc := 371) F.1 F.2.1 dL_law_371 ?_
      refine mm_if_eq (pc := 372) F (tgt := 377) (by omega) dL_law_372 (by decide) (fun cz372 => ?_) (fun h9 => absurd h9 (by decide))
      refine lv_goto (pc := 377) (tgt := 2217) F.1 F.2.1 dL_law_377 (by decide) ?_
      exact W.widen (by omega) (by omega) (kk _ _ ls H locs ⟨⟨z1, ad1, mm_X_kept hX1 (fun a9 e9 he => hF2 a9 0 e9 (by decide) he), hx1⟩, ⟨_, rd, hM2, rfl⟩, ⟨g1, hF2 o 2 _ (by decide) hw1⟩, ⟨gd, hF2 d 2 _ (by decide) hd1⟩, hod, hW2⟩ hN (lv_sub hl [2, 3, 4, 5, 6, 7] rfl))
  ·
    exact absurd rfl cz355

set_option maxHeartbeats 4000000 in
set_option maxRecDepth 100000 in
theorem law_3 {p : Program} {l : Launch} {e : Env} {s : State} {m : MethodId} {args : Array Value} {below : List Frame} {meth : Method} {c : Code} {H : Heap} {locs : List Loc} {cells slots : Nat} {Q : State → Prop} {b : Nat} {D : mm_D} {σ : mm_S} {T : mm_T} {x0 m0 o d sb L i : Nat} {ns : Nat → Nat} {ls : Array Slot}
    (F : mm_F p l s m args meth c b D RL cL_law 9) (hXs : va_X sb L (fun j => nI (ns j)) s s.heap) (hbl : sb < s.heap.size) (hbb : sb < b) (hL : L ≤ 2560) (hns : ∀ j, ns j < 2 ^ 32) (hi : i + 5 ≤ L) (hN : mm_N b D s σ H locs) (hV : mm_V σ T x0 m0 o d) (hl : lv_has ls 9 (mm_lc i d o m0 x0 sb)) (hc : cells + 103 ≤ 603072) (hs : slots + 9037 ≤ 7215210)
    (kk : ∀ (T2 : mm_T) (σ2 : mm_S) (ls : Array Slot) (H : Heap) (locs : List Loc), mm_V σ2 T2 x0 m0 o d → mm_N b D s σ2 H locs → lv_has ls 9 (mm_lc i d o m0 x0 sb) → W p l e room_1 s m args below meth c H locs (cells + 103) (slots + 9037) Q (F0 m 2217 ls []))
    : W p l e room_1 s m args below meth c H locs cells slots Q (F0 m 380 ls []) := by
  obtain ⟨⟨z, ad, hX, rfl⟩, ⟨th, rd, hM, rfl⟩, ⟨go, ho⟩, ⟨gd, hd⟩, hod, hW⟩ := hV
  have hl : lv_has ls 9 [(5, .int (nI i)), (4, .ref d), (3, .ref o), (2, .ref ((rd 0 0))), (1, .ref ((ad 0 0 0))), (0, .ref sb)] := hl
  refine lv_aload_n (pc := 380) F.1 F.2.1 dL_law_380 rfl (lv_at hl 4 rfl) ?_
  refine lv_aload_n (pc := 381) F.1 F.2.1 dL_law_381 rfl (lv_at hl 5 rfl) ?_
  refine lv_iload (pc := 382) F.1 F.2.1 dL_law_382 (lv_at hl 0 rfl) ?_
  refine lv_iconst (pc := 384) (v := nI 1) F.1 F.2.1 dL_law_384 (by decide) ?_
  refine mm_iadd (pc := 385) F (z := nI (i + 1)) (nI_add _ _) dL_law_385 ?_
  refine mm_sld (pc := 386) F hN hXs hbl hbb (j := i + 1) rfl (by omega) hL dL_law_386 ?_
  refine lv_aload_n (pc := 387) F.1 F.2.1 dL_law_387 rfl (lv_at hl 5 rfl) ?_
  refine lv_iload (pc := 388) F.1 F.2.1 dL_law_388 (lv_at hl 0 rfl) ?_
  refine lv_iconst (pc := 390) (v := nI 2) F.1 F.2.1 dL_law_390 (by decide) ?_
  refine mm_iadd (pc := 391) F (z := nI (i + 2)) (nI_add _ _) dL_law_391 ?_
  refine mm_sld (pc := 392) F hN hXs hbl hbb (j := i + 2) rfl (by omega) hL dL_law_392 ?_
  refine lv_aload_n (pc := 393) F.1 F.2.1 dL_law_393 rfl (lv_at hl 2 rfl) ?_
  refine mm_runSX (pc := 394) (As := [.ref ((ad 0 0 0)), .int (nI (ns (i + 1))), .int (nI (ns (i + 2))), .ref o]) (rest := []) F hN (w_setFlags l b D F.2.2.2.2.2.2.2.1 T z ad σ hX hW (ns (i + 1)) (hns _) (ns (i + 2)) (hns _) o go ho) mw_508 mw_509 mw_0 mw_510 ⟨pmL_setFlags, (Nat.le_of_ble_eq_true rfl), (Nat.le_of_ble_eq_true rfl)⟩ hl.1 rfl (Nat.le_of_ble_eq_true rfl) ⟨by show cells + 6 ≤ 603072; omega, by show slots + 40 ≤ 7215210; omega⟩ dL_law_394
    (fun _ _ _ _ _ _ h9 => False.elim h9) (fun v9 σ1 H locs hp9 hN => ?_)
  obtain ⟨rfl, z1, ad1, g1, hX1, hx1, hw1, hg1, hfr1⟩ := hp9
  refine W.eq (g2 := F0 m 397 ls [.int (nI (mm_q_setFlags T (ns (i + 1)) (ns (i + 2))))]) rfl ?_
  refine W.widen (k := cells + 6) (n := slots + 40) (Nat.le_refl _) (Nat.le_refl _) ?_
  have hM1 : mm_M σ1 T th rd := mm_M_kept1 hM (fun a9 e9 he => hfr1 a9 1 e9 (by decide) (fun q9 => by rw [q9, ho] at he; cases he) he)
  have hd1 : σ1 d = mm_ard 2 2 1 gd := hfr1 d 2 _ (by decide) (Ne.symm hod) hd
  have hq4 : mm_q_setFlags T (ns (i + 1)) (ns (i + 2)) < 4 := mm_q_setFlags_lt
  have hW2 : mm_WF (if mm_q_setFlags T (ns (i + 1)) (ns (i + 2)) = 0 then (T.w 5 (mm_u2 (T 5) (ns (i + 1)) 0 (ns (i + 2)))) else T) := mm_wf_setFlags hW (ns (i + 1)) (hns _) (ns (i + 2)) (hns _)
  refine lv_istore (pc := 397) (lv' := [(6, .int (nI (mm_q_setFlags T (ns (i + 1)) (ns (i + 2))))), (5, .int (nI i)), (4, .ref d), (3, .ref o), (2, .ref ((rd 0 0))), (1, .ref ((ad 0 0 0))), (0, .ref sb)]) F.1 F.2.1 dL_law_397 hl (by decide) rfl (fun ls hl => ?_)
  refine lv_aload_n (pc := 399) F.1 F.2.1 dL_law_399 rfl (lv_at hl 4 rfl) ?_
  refine lv_aload_n (pc := 400) F.1 F.2.1 dL_law_400 rfl (lv_at hl 6 rfl) ?_
  refine lv_iload (pc := 401) F.1 F.2.1 dL_law_401 (lv_at hl 1 rfl) ?_
  refine lv_iconst (pc := 403) (v := nI 1) F.1 F.2.1 dL_law_403 (by decide) ?_
  refine mm_iadd (pc := 404) F (z := nI (i + 1)) (nI_add _ _) dL_law_404 ?_
  refine mm_sld (pc := 405) F hN hXs hbl hbb (j := i + 1) rfl (by omega) hL dL_law_405 ?_
  refine lv_aload_n (pc := 406) F.1 F.2.1 dL_law_406 rfl (lv_at hl 6 rfl) ?_
  refine lv_iload (pc := 407) F.1 F.2.1 dL_law_407 (lv_at hl 1 rfl) ?_
  refine lv_iconst (pc := 409) (v := nI 2) F.1 F.2.1 dL_law_409 (by decide) ?_
  refine mm_iadd (pc := 410) F (z := nI (i + 2)) (nI_add _ _) dL_law_410 ?_
  refine mm_sld (pc := 411) F hN hXs hbl hbb (j := i + 2) rfl (by omega) hL dL_law_411 ?_
  refine mm_runV (pc := 412) (As := [.int (nI (ns (i + 1))), .int (nI (ns (i + 2)))]) (rest := []) F hN (r_setFlags l b D F.2.2.2.2.2.2.2.1 T th rd σ1 hM1 hW (ns (i + 1)) (hns _) (ns (i + 2)) (hns _)) mw_1283 mw_1284 mw_1285 mw_6 mw_1286 ⟨pmX7_setFlags, (Nat.le_of_ble_eq_true rfl), (Nat.le_of_ble_eq_true rfl)⟩ (mm_recv F.2.2.2.2.2.1 hN (mm_r0 hM1) rfl) hl.1 rfl (Nat.le_of_ble_eq_true rfl) ⟨by show (cells + 6) + 0 ≤ 603072; omega, by show (slots + 40) + 0 ≤ 7215210; omega⟩ dL_law_412
    (fun _ _ _ _ _ _ h9 => False.elim h9)
    (fun v9 σ2 H locs hp9 hN => ?_)
  obtain ⟨i9, rfl, hi9, hM2, hF2⟩ := mm_Mt.out hp9
  obtain hq9 := hp9
  refine W.eq (g2 := F0 m 415 ls [.int i9]) rfl ?_
  refine W.widen (k := cells + 6) (n := slots + 40) (Nat.le_refl _) (Nat.le_refl _) ?_
  refine lv_istore (pc := 415) (lv' := [(7, .int i9), (6, .int (nI (mm_q_setFlags T (ns (i + 1)) (ns (i + 2))))), (5, .int (nI i)), (4, .ref d), (3, .ref o), (2, .ref ((rd 0 0))), (1, .ref ((ad 0 0 0))), (0, .ref sb)]) F.1 F.2.1 dL_law_415 hl (by decide) rfl (fun ls hl => ?_)
  refine lv_aload_n (pc := 417) F.1 F.2.1 dL_law_417 rfl (lv_at hl 5 rfl) ?_
  refine mm_runV (pc := 418) (As := []) (rest := []) F hN (r_thrown l b D F.2.2.2.2.2.2.2.1 (if mm_q_setFlags T (ns (i + 1)) (ns (i + 2)) = 0 then (T.w 5 (mm_u2 (T 5) (ns (i + 1)) 0 (ns (i + 2)))) else T) (mm_q_setFlags T (ns (i + 1)) (ns (i + 2))) rd σ2 hM2 hW2) mw_1260 mw_1261 mw_1262 mw_6 mw_1263 ⟨pmX7_thrown, (Nat.le_of_ble_eq_true rfl), (Nat.le_of_ble_eq_true rfl)⟩ (mm_recv F.2.2.2.2.2.1 hN (mm_r0 hM2) rfl) hl.1 rfl (Nat.le_of_ble_eq_true rfl) ⟨by show (cells + 6) + 0 ≤ 603072; omega, by show (slots + 40) + 0 ≤ 7215210; omega⟩ dL_law_418
    (fun _ _ _ _ _ _ h9 => False.elim h9)
    (fun v9 σ9 H locs hp9 hN => ?_)
  obtain ⟨rfl, h9⟩ := hp9
  rw [h9] at hN
  refine W.eq (g2 := F0 m 421 ls [.int (nI (mm_q_setFlags T (ns (i + 1)) (ns (i + 2))))]) rfl ?_
  refine W.widen (k := cells + 6) (n := slots + 40) (Nat.le_refl _) (Nat.le_refl _) ?_
  refine lv_iload (pc := 421) F.1 F.2.1 dL_law_421 (lv_at hl 1 rfl) ?_
  refine mm_icmp_eqB (pc := 423) F (x := mm_q_setFlags T (ns (i + 1)) (ns (i + 2))) (y := mm_q_setFlags T (ns (i + 1)) (ns (i + 2))) (tgt := 428) (by omega) (by omega) dL_law_423 (by decide) (fun cz423 => ?_) (fun cz423 => ?_)
  ·
    refine lv_iload (pc := 428) F.1 F.2.1 dL_law_428 (lv_at hl 1 rfl) ?_
    refine mm_if_neB (pc := 430) F (tgt := 445) (by omega) dL_law_430 (by decide) (fun cz430 => ?_) (fun cz430 => ?_)
    ·
      refine lv_goto (pc := 445) (tgt := 2217) F.1 F.2.1 dL_law_445 (by decide) ?_
      exact W.widen (by omega) (by omega) (kk _ _ ls H locs ⟨⟨z1, ad1, mm_X_kept hX1 (fun a9 e9 he => hF2 a9 0 e9 (by decide) he), hx1⟩, ⟨_, rd, hM2, rfl⟩, ⟨g1, hF2 o 2 _ (by decide) hw1⟩, ⟨gd, hF2 d 2 _ (by decide) hd1⟩, hod, hW2⟩ hN (lv_sub hl [2, 3, 4, 5, 6, 7] rfl))
    ·
      refine lv_aload_n (pc := 433) F.1 F.2.1 dL_law_433 rfl (lv_at hl 4 rfl) ?_
      refine lv_iconst (pc := 434) (v := nI 0) F.1 F.2.1 dL_law_434 (by decide) ?_
      refine mm_lald (pc := 435) F hN (hF2 o 2 _ (by decide) hw1) (j := 0) rfl (by decide) (by decide) dL_law_435 ?_
      refine lv_iload (pc := 436) F.1 F.2.1 dL_law_436 (lv_at hl 0 rfl) ?_
      refine lv_i2l (pc := 438) (v := (i9).toInt64) F.1 F.2.1 dL_law_438 (rfl) ?_
      refine W.eq (g2 := F0 m 439 ls [.long ((nI (T.fl (ns (i + 1)))).toInt64), .long ((nI (T.fl (ns (i + 1)))).toInt64)]) (by rw [hg1 cz430, hi9 cz430]) ?_
      refine mm_lcmpE (pc := 439) F.1 F.2.1 dL_law_439 ?_
      refine mm_if_eq (pc := 440) F (tgt := 445) (by omega) dL_law_440 (by decide) (fun cz440 => ?_) (fun h9 => absurd h9 (by decide))
      refine lv_goto (pc := 445) (tgt := 2217) F.1 F.2.1 dL_law_445 (by decide) ?_
      exact W.widen (by omega) (by omega) (kk _ _ ls H locs ⟨⟨z1, ad1, mm_X_kept hX1 (fun a9 e9 he => hF2 a9 0 e9 (by decide) he), hx1⟩, ⟨_, rd, hM2, rfl⟩, ⟨g1, hF2 o 2 _ (by decide) hw1⟩, ⟨gd, hF2 d 2 _ (by decide) hd1⟩, hod, hW2⟩ hN (lv_sub hl [2, 3, 4, 5, 6, 7] rfl))
  ·
    exact absurd rfl cz423

set_option maxHeartbeats 4000000 in
set_option maxRecDepth 100000 in
theorem law_4 {p : Program} {l : Launch} {e : Env} {s : State} {m : MethodId} {args : Array Value} {below : List Frame} {meth : Method} {c : Code} {H : Heap} {locs : List Loc} {cells slots : Nat} {Q : State → Prop} {b : Nat} {D : mm_D} {σ : mm_S} {T : mm_T} {x0 m0 o d sb L i : Nat} {ns : Nat → Nat} {ls : Array Slot}
    (F : mm_F p l s m args meth c b D RL cL_law 9) (hXs : va_X sb L (fun j => nI (ns j)) s s.heap) (hbl : sb < s.heap.size) (hbb : sb < b) (hL : L ≤ 2560) (hns : ∀ j, ns j < 2 ^ 32) (hi : i + 5 ≤ L) (hN : mm_N b D s σ H locs) (hV : mm_V σ T x0 m0 o d) (hl : lv_has ls 9 (mm_lc i d o m0 x0 sb)) (hc : cells + 103 ≤ 603072) (hs : slots + 9037 ≤ 7215210)
    (kk : ∀ (T2 : mm_T) (σ2 : mm_S) (ls : Array Slot) (H : Heap) (locs : List Loc), mm_V σ2 T2 x0 m0 o d → mm_N b D s σ2 H locs → lv_has ls 9 (mm_lc i d o m0 x0 sb) → W p l e room_1 s m args below meth c H locs (cells + 103) (slots + 9037) Q (F0 m 2217 ls []))
    : W p l e room_1 s m args below meth c H locs cells slots Q (F0 m 448 ls []) := by
  obtain ⟨⟨z, ad, hX, rfl⟩, ⟨th, rd, hM, rfl⟩, ⟨go, ho⟩, ⟨gd, hd⟩, hod, hW⟩ := hV
  have hl : lv_has ls 9 [(5, .int (nI i)), (4, .ref d), (3, .ref o), (2, .ref ((rd 0 0))), (1, .ref ((ad 0 0 0))), (0, .ref sb)] := hl
  refine lv_aload_n (pc := 448) F.1 F.2.1 dL_law_448 rfl (lv_at hl 4 rfl) ?_
  refine lv_aload_n (pc := 449) F.1 F.2.1 dL_law_449 rfl (lv_at hl 5 rfl) ?_
  refine lv_iload (pc := 450) F.1 F.2.1 dL_law_450 (lv_at hl 0 rfl) ?_
  refine lv_iconst (pc := 452) (v := nI 1) F.1 F.2.1 dL_law_452 (by decide) ?_
  refine mm_iadd (pc := 453) F (z := nI (i + 1)) (nI_add _ _) dL_law_453 ?_
  refine mm_sld (pc := 454) F hN hXs hbl hbb (j := i + 1) rfl (by omega) hL dL_law_454 ?_
  refine lv_aload_n (pc := 455) F.1 F.2.1 dL_law_455 rfl (lv_at hl 5 rfl) ?_
  refine lv_iload (pc := 456) F.1 F.2.1 dL_law_456 (lv_at hl 0 rfl) ?_
  refine lv_iconst (pc := 458) (v := nI 2) F.1 F.2.1 dL_law_458 (by decide) ?_
  refine mm_iadd (pc := 459) F (z := nI (i + 2)) (nI_add _ _) dL_law_459 ?_
  refine mm_sld (pc := 460) F hN hXs hbl hbb (j := i + 2) rfl (by omega) hL dL_law_460 ?_
  refine lv_aload_n (pc := 461) F.1 F.2.1 dL_law_461 rfl (lv_at hl 2 rfl) ?_
  refine mm_runSX (pc := 462) (As := [.ref ((ad 0 0 0)), .int (nI (ns (i + 1))), .int (nI (ns (i + 2))), .ref o]) (rest := []) F hN (w_move l b D F.2.2.2.2.2.2.2.1 T z ad σ hX hW (ns (i + 1)) (hns _) (ns (i + 2)) (hns _) o go ho) mw_520 mw_521 mw_0 mw_522 ⟨pmL_move, (Nat.le_of_ble_eq_true rfl), (Nat.le_of_ble_eq_true rfl)⟩ hl.1 rfl (Nat.le_of_ble_eq_true rfl) ⟨by show cells + 6 ≤ 603072; omega, by show slots + 40 ≤ 7215210; omega⟩ dL_law_462
    (fun _ _ _ _ _ _ h9 => False.elim h9) (fun v9 σ1 H locs hp9 hN => ?_)
  obtain ⟨rfl, z1, ad1, g1, hX1, hx1, hw1, hg1, hfr1⟩ := hp9
  refine W.eq (g2 := F0 m 465 ls [.int (nI (mm_q_move T (ns (i + 1)) (ns (i + 2))))]) rfl ?_
  refine W.widen (k := cells + 6) (n := slots + 40) (Nat.le_refl _) (Nat.le_refl _) ?_
  have hM1 : mm_M σ1 T th rd := mm_M_kept1 hM (fun a9 e9 he => hfr1 a9 1 e9 (by decide) (fun q9 => by rw [q9, ho] at he; cases he) he)
  have hd1 : σ1 d = mm_ard 2 2 1 gd := hfr1 d 2 _ (by decide) (Ne.symm hod) hd
  have hq4 : mm_q_move T (ns (i + 1)) (ns (i + 2)) < 4 := mm_q_move_lt
  have hW2 : mm_WF (if mm_q_move T (ns (i + 1)) (ns (i + 2)) = 0 then ((T.w 4 (mm_u2 (T 4) (ns (i + 1)) 0 (ns (i + 2)))).w 6 (mm_u2 (T 6) (ns (i + 1)) 0 (if T.re (ns (i + 1)) = 109 then 45 else T.re (ns (i + 1))))) else T) := mm_wf_move hW (ns (i + 1)) (hns _) (ns (i + 2)) (hns _)
  refine lv_istore (pc := 465) (lv' := [(6, .int (nI (mm_q_move T (ns (i + 1)) (ns (i + 2))))), (5, .int (nI i)), (4, .ref d), (3, .ref o), (2, .ref ((rd 0 0))), (1, .ref ((ad 0 0 0))), (0, .ref sb)]) F.1 F.2.1 dL_law_465 hl (by decide) rfl (fun ls hl => ?_)
  refine lv_aload_n (pc := 467) F.1 F.2.1 dL_law_467 rfl (lv_at hl 4 rfl) ?_
  refine lv_aload_n (pc := 468) F.1 F.2.1 dL_law_468 rfl (lv_at hl 6 rfl) ?_
  refine lv_iload (pc := 469) F.1 F.2.1 dL_law_469 (lv_at hl 1 rfl) ?_
  refine lv_iconst (pc := 471) (v := nI 1) F.1 F.2.1 dL_law_471 (by decide) ?_
  refine mm_iadd (pc := 472) F (z := nI (i + 1)) (nI_add _ _) dL_law_472 ?_
  refine mm_sld (pc := 473) F hN hXs hbl hbb (j := i + 1) rfl (by omega) hL dL_law_473 ?_
  refine lv_aload_n (pc := 474) F.1 F.2.1 dL_law_474 rfl (lv_at hl 6 rfl) ?_
  refine lv_iload (pc := 475) F.1 F.2.1 dL_law_475 (lv_at hl 1 rfl) ?_
  refine lv_iconst (pc := 477) (v := nI 2) F.1 F.2.1 dL_law_477 (by decide) ?_
  refine mm_iadd (pc := 478) F (z := nI (i + 2)) (nI_add _ _) dL_law_478 ?_
  refine mm_sld (pc := 479) F hN hXs hbl hbb (j := i + 2) rfl (by omega) hL dL_law_479 ?_
  refine mm_runV (pc := 480) (As := [.int (nI (ns (i + 1))), .int (nI (ns (i + 2)))]) (rest := []) F hN (r_move l b D F.2.2.2.2.2.2.2.1 T th rd σ1 hM1 hW (ns (i + 1)) (hns _) (ns (i + 2)) (hns _)) mw_1291 mw_1292 mw_1293 mw_6 mw_1294 ⟨pmX7_move, (Nat.le_of_ble_eq_true rfl), (Nat.le_of_ble_eq_true rfl)⟩ (mm_recv F.2.2.2.2.2.1 hN (mm_r0 hM1) rfl) hl.1 rfl (Nat.le_of_ble_eq_true rfl) ⟨by show (cells + 6) + 0 ≤ 603072; omega, by show (slots + 40) + 0 ≤ 7215210; omega⟩ dL_law_480
    (fun _ _ _ _ _ _ h9 => False.elim h9)
    (fun v9 σ2 H locs hp9 hN => ?_)
  obtain ⟨i9, rfl, hi9, hM2, hF2⟩ := mm_Mt.out hp9
  obtain hq9 := hp9
  refine W.eq (g2 := F0 m 483 ls [.int i9]) rfl ?_
  refine W.widen (k := cells + 6) (n := slots + 40) (Nat.le_refl _) (Nat.le_refl _) ?_
  refine lv_istore (pc := 483) (lv' := [(7, .int i9), (6, .int (nI (mm_q_move T (ns (i + 1)) (ns (i + 2))))), (5, .int (nI i)), (4, .ref d), (3, .ref o), (2, .ref ((rd 0 0))), (1, .ref ((ad 0 0 0))), (0, .ref sb)]) F.1 F.2.1 dL_law_483 hl (by decide) rfl (fun ls hl => ?_)
  refine lv_aload_n (pc := 485) F.1 F.2.1 dL_law_485 rfl (lv_at hl 5 rfl) ?_
  refine mm_runV (pc := 486) (As := []) (rest := []) F hN (r_thrown l b D F.2.2.2.2.2.2.2.1 (if mm_q_move T (ns (i + 1)) (ns (i + 2)) = 0 then ((T.w 4 (mm_u2 (T 4) (ns (i + 1)) 0 (ns (i + 2)))).w 6 (mm_u2 (T 6) (ns (i + 1)) 0 (if T.re (ns (i + 1)) = 109 then 45 else T.re (ns (i + 1))))) else T) (mm_q_move T (ns (i + 1)) (ns (i + 2))) rd σ2 hM2 hW2) mw_1260 mw_1261 mw_1262 mw_6 mw_1263 ⟨pmX7_thrown, (Nat.le_of_ble_eq_true rfl), (Nat.le_of_ble_eq_true rfl)⟩ (mm_recv F.2.2.2.2.2.1 hN (mm_r0 hM2) rfl) hl.1 rfl (Nat.le_of_ble_eq_true rfl) ⟨by show (cells + 6) + 0 ≤ 603072; omega, by show (slots + 40) + 0 ≤ 7215210; omega⟩ dL_law_486
    (fun _ _ _ _ _ _ h9 => False.elim h9)
    (fun v9 σ9 H locs hp9 hN => ?_)
  obtain ⟨rfl, h9⟩ := hp9
  rw [h9] at hN
  refine W.eq (g2 := F0 m 489 ls [.int (nI (mm_q_move T (ns (i + 1)) (ns (i + 2))))]) rfl ?_
  refine W.widen (k := cells + 6) (n := slots + 40) (Nat.le_refl _) (Nat.le_refl _) ?_
  refine lv_iload (pc := 489) F.1 F.2.1 dL_law_489 (lv_at hl 1 rfl) ?_
  refine mm_icmp_eqB (pc := 491) F (x := mm_q_move T (ns (i + 1)) (ns (i + 2))) (y := mm_q_move T (ns (i + 1)) (ns (i + 2))) (tgt := 496) (by omega) (by omega) dL_law_491 (by decide) (fun cz491 => ?_) (fun cz491 => ?_)
  ·
    refine lv_iload (pc := 496) F.1 F.2.1 dL_law_496 (lv_at hl 1 rfl) ?_
    refine mm_if_neB (pc := 498) F (tgt := 513) (by omega) dL_law_498 (by decide) (fun cz498 => ?_) (fun cz498 => ?_)
    ·
      refine lv_goto (pc := 513) (tgt := 2217) F.1 F.2.1 dL_law_513 (by decide) ?_
      exact W.widen (by omega) (by omega) (kk _ _ ls H locs ⟨⟨z1, ad1, mm_X_kept hX1 (fun a9 e9 he => hF2 a9 0 e9 (by decide) he), hx1⟩, ⟨_, rd, hM2, rfl⟩, ⟨g1, hF2 o 2 _ (by decide) hw1⟩, ⟨gd, hF2 d 2 _ (by decide) hd1⟩, hod, hW2⟩ hN (lv_sub hl [2, 3, 4, 5, 6, 7] rfl))
    ·
      refine lv_aload_n (pc := 501) F.1 F.2.1 dL_law_501 rfl (lv_at hl 4 rfl) ?_
      refine lv_iconst (pc := 502) (v := nI 0) F.1 F.2.1 dL_law_502 (by decide) ?_
      refine mm_lald (pc := 503) F hN (hF2 o 2 _ (by decide) hw1) (j := 0) rfl (by decide) (by decide) dL_law_503 ?_
      refine lv_iload (pc := 504) F.1 F.2.1 dL_law_504 (lv_at hl 0 rfl) ?_
      refine lv_i2l (pc := 506) (v := (i9).toInt64) F.1 F.2.1 dL_law_506 (rfl) ?_
      refine W.eq (g2 := F0 m 507 ls [.long ((nI (T.ho (ns (i + 1)))).toInt64), .long ((nI (T.ho (ns (i + 1)))).toInt64)]) (by rw [hg1 cz498, hi9 cz498]) ?_
      refine mm_lcmpE (pc := 507) F.1 F.2.1 dL_law_507 ?_
      refine mm_if_eq (pc := 508) F (tgt := 513) (by omega) dL_law_508 (by decide) (fun cz508 => ?_) (fun h9 => absurd h9 (by decide))
      refine lv_goto (pc := 513) (tgt := 2217) F.1 F.2.1 dL_law_513 (by decide) ?_
      exact W.widen (by omega) (by omega) (kk _ _ ls H locs ⟨⟨z1, ad1, mm_X_kept hX1 (fun a9 e9 he => hF2 a9 0 e9 (by decide) he), hx1⟩, ⟨_, rd, hM2, rfl⟩, ⟨g1, hF2 o 2 _ (by decide) hw1⟩, ⟨gd, hF2 d 2 _ (by decide) hd1⟩, hod, hW2⟩ hN (lv_sub hl [2, 3, 4, 5, 6, 7] rfl))
  ·
    exact absurd rfl cz491

set_option maxHeartbeats 4000000 in
set_option maxRecDepth 100000 in
theorem law_5 {p : Program} {l : Launch} {e : Env} {s : State} {m : MethodId} {args : Array Value} {below : List Frame} {meth : Method} {c : Code} {H : Heap} {locs : List Loc} {cells slots : Nat} {Q : State → Prop} {b : Nat} {D : mm_D} {σ : mm_S} {T : mm_T} {x0 m0 o d sb L i : Nat} {ns : Nat → Nat} {ls : Array Slot}
    (F : mm_F p l s m args meth c b D RL cL_law 9) (hXs : va_X sb L (fun j => nI (ns j)) s s.heap) (hbl : sb < s.heap.size) (hbb : sb < b) (hL : L ≤ 2560) (hns : ∀ j, ns j < 2 ^ 32) (hi : i + 5 ≤ L) (hN : mm_N b D s σ H locs) (hV : mm_V σ T x0 m0 o d) (hl : lv_has ls 9 (mm_lc i d o m0 x0 sb)) (hc : cells + 103 ≤ 603072) (hs : slots + 9037 ≤ 7215210)
    (kk : ∀ (T2 : mm_T) (σ2 : mm_S) (ls : Array Slot) (H : Heap) (locs : List Loc), mm_V σ2 T2 x0 m0 o d → mm_N b D s σ2 H locs → lv_has ls 9 (mm_lc i d o m0 x0 sb) → W p l e room_1 s m args below meth c H locs (cells + 103) (slots + 9037) Q (F0 m 2217 ls []))
    : W p l e room_1 s m args below meth c H locs cells slots Q (F0 m 516 ls []) := by
  obtain ⟨⟨z, ad, hX, rfl⟩, ⟨th, rd, hM, rfl⟩, ⟨go, ho⟩, ⟨gd, hd⟩, hod, hW⟩ := hV
  have hl : lv_has ls 9 [(5, .int (nI i)), (4, .ref d), (3, .ref o), (2, .ref ((rd 0 0))), (1, .ref ((ad 0 0 0))), (0, .ref sb)] := hl
  refine lv_aload_n (pc := 516) F.1 F.2.1 dL_law_516 rfl (lv_at hl 4 rfl) ?_
  refine lv_aload_n (pc := 517) F.1 F.2.1 dL_law_517 rfl (lv_at hl 5 rfl) ?_
  refine lv_iload (pc := 518) F.1 F.2.1 dL_law_518 (lv_at hl 0 rfl) ?_
  refine lv_iconst (pc := 520) (v := nI 1) F.1 F.2.1 dL_law_520 (by decide) ?_
  refine mm_iadd (pc := 521) F (z := nI (i + 1)) (nI_add _ _) dL_law_521 ?_
  refine mm_sld (pc := 522) F hN hXs hbl hbb (j := i + 1) rfl (by omega) hL dL_law_522 ?_
  refine lv_aload_n (pc := 523) F.1 F.2.1 dL_law_523 rfl (lv_at hl 5 rfl) ?_
  refine lv_iload (pc := 524) F.1 F.2.1 dL_law_524 (lv_at hl 0 rfl) ?_
  refine lv_iconst (pc := 526) (v := nI 2) F.1 F.2.1 dL_law_526 (by decide) ?_
  refine mm_iadd (pc := 527) F (z := nI (i + 2)) (nI_add _ _) dL_law_527 ?_
  refine mm_sld (pc := 528) F hN hXs hbl hbb (j := i + 2) rfl (by omega) hL dL_law_528 ?_
  refine lv_i2c (pc := 529) (v := nI (ns (i + 2) % 65536)) F.1 F.2.1 dL_law_529 (mm_i2c _) ?_
  refine lv_aload_n (pc := 530) F.1 F.2.1 dL_law_530 rfl (lv_at hl 2 rfl) ?_
  refine mm_runSX (pc := 531) (As := [.ref ((ad 0 0 0)), .int (nI (ns (i + 1))), .int (nI (ns (i + 2) % 65536)), .ref o]) (rest := []) F hN (w_suppress l b D F.2.2.2.2.2.2.2.1 T z ad σ hX hW (ns (i + 1)) (hns _) (ns (i + 2) % 65536) (Nat.mod_lt _ (by decide)) o go ho) mw_527 mw_528 mw_0 mw_529 ⟨pmL_suppress, (Nat.le_of_ble_eq_true rfl), (Nat.le_of_ble_eq_true rfl)⟩ hl.1 rfl (Nat.le_of_ble_eq_true rfl) ⟨by show cells + 6 ≤ 603072; omega, by show slots + 40 ≤ 7215210; omega⟩ dL_law_531
    (fun _ _ _ _ _ _ h9 => False.elim h9) (fun v9 σ1 H locs hp9 hN => ?_)
  obtain ⟨rfl, z1, ad1, g1, hX1, hx1, hw1, hg1, hfr1⟩ := hp9
  refine W.eq (g2 := F0 m 534 ls [.int (nI (mm_q_suppress T (ns (i + 1)) (ns (i + 2) % 65536)))]) rfl ?_
  refine W.widen (k := cells + 6) (n := slots + 40) (Nat.le_refl _) (Nat.le_refl _) ?_
  have hM1 : mm_M σ1 T th rd := mm_M_kept1 hM (fun a9 e9 he => hfr1 a9 1 e9 (by decide) (fun q9 => by rw [q9, ho] at he; cases he) he)
  have hd1 : σ1 d = mm_ard 2 2 1 gd := hfr1 d 2 _ (by decide) (Ne.symm hod) hd
  have hq4 : mm_q_suppress T (ns (i + 1)) (ns (i + 2) % 65536) < 4 := mm_q_suppress_lt
  have hW2 : mm_WF (if mm_q_suppress T (ns (i + 1)) (ns (i + 2) % 65536) = 0 then (T.w 6 (mm_u2 (T 6) (ns (i + 1)) 0 (ns (i + 2) % 65536))) else T) := mm_wf_suppress hW (ns (i + 1)) (hns _) (ns (i + 2) % 65536) (Nat.mod_lt _ (by decide))
  refine lv_istore (pc := 534) (lv' := [(6, .int (nI (mm_q_suppress T (ns (i + 1)) (ns (i + 2) % 65536)))), (5, .int (nI i)), (4, .ref d), (3, .ref o), (2, .ref ((rd 0 0))), (1, .ref ((ad 0 0 0))), (0, .ref sb)]) F.1 F.2.1 dL_law_534 hl (by decide) rfl (fun ls hl => ?_)
  refine lv_aload_n (pc := 536) F.1 F.2.1 dL_law_536 rfl (lv_at hl 4 rfl) ?_
  refine lv_aload_n (pc := 537) F.1 F.2.1 dL_law_537 rfl (lv_at hl 6 rfl) ?_
  refine lv_iload (pc := 538) F.1 F.2.1 dL_law_538 (lv_at hl 1 rfl) ?_
  refine lv_iconst (pc := 540) (v := nI 1) F.1 F.2.1 dL_law_540 (by decide) ?_
  refine mm_iadd (pc := 541) F (z := nI (i + 1)) (nI_add _ _) dL_law_541 ?_
  refine mm_sld (pc := 542) F hN hXs hbl hbb (j := i + 1) rfl (by omega) hL dL_law_542 ?_
  refine lv_aload_n (pc := 543) F.1 F.2.1 dL_law_543 rfl (lv_at hl 6 rfl) ?_
  refine lv_iload (pc := 544) F.1 F.2.1 dL_law_544 (lv_at hl 1 rfl) ?_
  refine lv_iconst (pc := 546) (v := nI 2) F.1 F.2.1 dL_law_546 (by decide) ?_
  refine mm_iadd (pc := 547) F (z := nI (i + 2)) (nI_add _ _) dL_law_547 ?_
  refine mm_sld (pc := 548) F hN hXs hbl hbb (j := i + 2) rfl (by omega) hL dL_law_548 ?_
  refine lv_i2c (pc := 549) (v := nI (ns (i + 2) % 65536)) F.1 F.2.1 dL_law_549 (mm_i2c _) ?_
  refine mm_runV (pc := 550) (As := [.int (nI (ns (i + 1))), .int (nI (ns (i + 2) % 65536))]) (rest := []) F hN (r_suppress l b D F.2.2.2.2.2.2.2.1 T th rd σ1 hM1 hW (ns (i + 1)) (hns _) (ns (i + 2) % 65536) (Nat.mod_lt _ (by decide))) mw_1295 mw_1296 mw_1297 mw_6 mw_1298 ⟨pmX7_suppress, (Nat.le_of_ble_eq_true rfl), (Nat.le_of_ble_eq_true rfl)⟩ (mm_recv F.2.2.2.2.2.1 hN (mm_r0 hM1) rfl) hl.1 rfl (Nat.le_of_ble_eq_true rfl) ⟨by show (cells + 6) + 0 ≤ 603072; omega, by show (slots + 40) + 0 ≤ 7215210; omega⟩ dL_law_550
    (fun _ _ _ _ _ _ h9 => False.elim h9)
    (fun v9 σ2 H locs hp9 hN => ?_)
  obtain ⟨i9, rfl, hi9, hM2, hF2⟩ := mm_Mt.out hp9
  obtain hq9 := hp9
  refine W.eq (g2 := F0 m 553 ls [.int i9]) rfl ?_
  refine W.widen (k := cells + 6) (n := slots + 40) (Nat.le_refl _) (Nat.le_refl _) ?_
  refine lv_istore (pc := 553) (lv' := [(7, .int i9), (6, .int (nI (mm_q_suppress T (ns (i + 1)) (ns (i + 2) % 65536)))), (5, .int (nI i)), (4, .ref d), (3, .ref o), (2, .ref ((rd 0 0))), (1, .ref ((ad 0 0 0))), (0, .ref sb)]) F.1 F.2.1 dL_law_553 hl (by decide) rfl (fun ls hl => ?_)
  refine lv_aload_n (pc := 555) F.1 F.2.1 dL_law_555 rfl (lv_at hl 5 rfl) ?_
  refine mm_runV (pc := 556) (As := []) (rest := []) F hN (r_thrown l b D F.2.2.2.2.2.2.2.1 (if mm_q_suppress T (ns (i + 1)) (ns (i + 2) % 65536) = 0 then (T.w 6 (mm_u2 (T 6) (ns (i + 1)) 0 (ns (i + 2) % 65536))) else T) (mm_q_suppress T (ns (i + 1)) (ns (i + 2) % 65536)) rd σ2 hM2 hW2) mw_1260 mw_1261 mw_1262 mw_6 mw_1263 ⟨pmX7_thrown, (Nat.le_of_ble_eq_true rfl), (Nat.le_of_ble_eq_true rfl)⟩ (mm_recv F.2.2.2.2.2.1 hN (mm_r0 hM2) rfl) hl.1 rfl (Nat.le_of_ble_eq_true rfl) ⟨by show (cells + 6) + 0 ≤ 603072; omega, by show (slots + 40) + 0 ≤ 7215210; omega⟩ dL_law_556
    (fun _ _ _ _ _ _ h9 => False.elim h9)
    (fun v9 σ9 H locs hp9 hN => ?_)
  obtain ⟨rfl, h9⟩ := hp9
  rw [h9] at hN
  refine W.eq (g2 := F0 m 559 ls [.int (nI (mm_q_suppress T (ns (i + 1)) (ns (i + 2) % 65536)))]) rfl ?_
  refine W.widen (k := cells + 6) (n := slots + 40) (Nat.le_refl _) (Nat.le_refl _) ?_
  refine lv_iload (pc := 559) F.1 F.2.1 dL_law_559 (lv_at hl 1 rfl) ?_
  refine mm_icmp_eqB (pc := 561) F (x := mm_q_suppress T (ns (i + 1)) (ns (i + 2) % 65536)) (y := mm_q_suppress T (ns (i + 1)) (ns (i + 2) % 65536)) (tgt := 566) (by omega) (by omega) dL_law_561 (by decide) (fun cz561 => ?_) (fun cz561 => ?_)
  ·
    refine lv_iload (pc := 566) F.1 F.2.1 dL_law_566 (lv_at hl 1 rfl) ?_
    refine mm_if_neB (pc := 568) F (tgt := 583) (by omega) dL_law_568 (by decide) (fun cz568 => ?_) (fun cz568 => ?_)
    ·
      refine lv_goto (pc := 583) (tgt := 2217) F.1 F.2.1 dL_law_583 (by decide) ?_
      exact W.widen (by omega) (by omega) (kk _ _ ls H locs ⟨⟨z1, ad1, mm_X_kept hX1 (fun a9 e9 he => hF2 a9 0 e9 (by decide) he), hx1⟩, ⟨_, rd, hM2, rfl⟩, ⟨g1, hF2 o 2 _ (by decide) hw1⟩, ⟨gd, hF2 d 2 _ (by decide) hd1⟩, hod, hW2⟩ hN (lv_sub hl [2, 3, 4, 5, 6, 7] rfl))
    ·
      refine lv_aload_n (pc := 571) F.1 F.2.1 dL_law_571 rfl (lv_at hl 4 rfl) ?_
      refine lv_iconst (pc := 572) (v := nI 0) F.1 F.2.1 dL_law_572 (by decide) ?_
      refine mm_lald (pc := 573) F hN (hF2 o 2 _ (by decide) hw1) (j := 0) rfl (by decide) (by decide) dL_law_573 ?_
      refine lv_iload (pc := 574) F.1 F.2.1 dL_law_574 (lv_at hl 0 rfl) ?_
      refine lv_i2l (pc := 576) (v := (i9).toInt64) F.1 F.2.1 dL_law_576 (rfl) ?_
      refine W.eq (g2 := F0 m 577 ls [.long ((nI (T.re (ns (i + 1)))).toInt64), .long ((nI (T.re (ns (i + 1)))).toInt64)]) (by rw [hg1 cz568, hi9 cz568]) ?_
      refine mm_lcmpE (pc := 577) F.1 F.2.1 dL_law_577 ?_
      refine mm_if_eq (pc := 578) F (tgt := 583) (by omega) dL_law_578 (by decide) (fun cz578 => ?_) (fun h9 => absurd h9 (by decide))
      refine lv_goto (pc := 583) (tgt := 2217) F.1 F.2.1 dL_law_583 (by decide) ?_
      exact W.widen (by omega) (by omega) (kk _ _ ls H locs ⟨⟨z1, ad1, mm_X_kept hX1 (fun a9 e9 he => hF2 a9 0 e9 (by decide) he), hx1⟩, ⟨_, rd, hM2, rfl⟩, ⟨g1, hF2 o 2 _ (by decide) hw1⟩, ⟨gd, hF2 d 2 _ (by decide) hd1⟩, hod, hW2⟩ hN (lv_sub hl [2, 3, 4, 5, 6, 7] rfl))
  ·
    exact absurd rfl cz561

set_option maxHeartbeats 4000000 in
set_option maxRecDepth 100000 in
theorem law_6 {p : Program} {l : Launch} {e : Env} {s : State} {m : MethodId} {args : Array Value} {below : List Frame} {meth : Method} {c : Code} {H : Heap} {locs : List Loc} {cells slots : Nat} {Q : State → Prop} {b : Nat} {D : mm_D} {σ : mm_S} {T : mm_T} {x0 m0 o d sb L i : Nat} {ns : Nat → Nat} {ls : Array Slot}
    (F : mm_F p l s m args meth c b D RL cL_law 9) (hXs : va_X sb L (fun j => nI (ns j)) s s.heap) (hbl : sb < s.heap.size) (hbb : sb < b) (hL : L ≤ 2560) (hns : ∀ j, ns j < 2 ^ 32) (hi : i + 5 ≤ L) (hN : mm_N b D s σ H locs) (hV : mm_V σ T x0 m0 o d) (hl : lv_has ls 9 (mm_lc i d o m0 x0 sb)) (hc : cells + 103 ≤ 603072) (hs : slots + 9037 ≤ 7215210)
    (kk : ∀ (T2 : mm_T) (σ2 : mm_S) (ls : Array Slot) (H : Heap) (locs : List Loc), mm_V σ2 T2 x0 m0 o d → mm_N b D s σ2 H locs → lv_has ls 9 (mm_lc i d o m0 x0 sb) → W p l e room_1 s m args below meth c H locs (cells + 103) (slots + 9037) Q (F0 m 2217 ls []))
    : W p l e room_1 s m args below meth c H locs cells slots Q (F0 m 586 ls []) := by
  obtain ⟨⟨z, ad, hX, rfl⟩, ⟨th, rd, hM, rfl⟩, ⟨go, ho⟩, ⟨gd, hd⟩, hod, hW⟩ := hV
  have hl : lv_has ls 9 [(5, .int (nI i)), (4, .ref d), (3, .ref o), (2, .ref ((rd 0 0))), (1, .ref ((ad 0 0 0))), (0, .ref sb)] := hl
  refine lv_aload_n (pc := 586) F.1 F.2.1 dL_law_586 rfl (lv_at hl 4 rfl) ?_
  refine lv_aload_n (pc := 587) F.1 F.2.1 dL_law_587 rfl (lv_at hl 5 rfl) ?_
  refine lv_iload (pc := 588) F.1 F.2.1 dL_law_588 (lv_at hl 0 rfl) ?_
  refine lv_iconst (pc := 590) (v := nI 1) F.1 F.2.1 dL_law_590 (by decide) ?_
  refine mm_iadd (pc := 591) F (z := nI (i + 1)) (nI_add _ _) dL_law_591 ?_
  refine mm_sld (pc := 592) F hN hXs hbl hbb (j := i + 1) rfl (by omega) hL dL_law_592 ?_
  refine lv_aload_n (pc := 593) F.1 F.2.1 dL_law_593 rfl (lv_at hl 2 rfl) ?_
  refine mm_runSX (pc := 594) (As := [.ref ((ad 0 0 0)), .int (nI (ns (i + 1))), .ref o]) (rest := []) F hN (w_allow l b D F.2.2.2.2.2.2.2.1 T z ad σ hX hW (ns (i + 1)) (hns _) o go ho) mw_535 mw_536 mw_0 mw_537 ⟨pmL_allow, (Nat.le_of_ble_eq_true rfl), (Nat.le_of_ble_eq_true rfl)⟩ hl.1 rfl (Nat.le_of_ble_eq_true rfl) ⟨by show cells + 6 ≤ 603072; omega, by show slots + 40 ≤ 7215210; omega⟩ dL_law_594
    (fun _ _ _ _ _ _ h9 => False.elim h9) (fun v9 σ1 H locs hp9 hN => ?_)
  obtain ⟨rfl, z1, ad1, g1, hX1, hx1, hw1, hg1, hfr1⟩ := hp9
  refine W.eq (g2 := F0 m 597 ls [.int (nI (mm_q_allow T (ns (i + 1))))]) rfl ?_
  refine W.widen (k := cells + 6) (n := slots + 40) (Nat.le_refl _) (Nat.le_refl _) ?_
  have hM1 : mm_M σ1 T th rd := mm_M_kept1 hM (fun a9 e9 he => hfr1 a9 1 e9 (by decide) (fun q9 => by rw [q9, ho] at he; cases he) he)
  have hd1 : σ1 d = mm_ard 2 2 1 gd := hfr1 d 2 _ (by decide) (Ne.symm hod) hd
  have hq4 : mm_q_allow T (ns (i + 1)) < 4 := mm_q_allow_lt
  have hW2 : mm_WF (if mm_q_allow T (ns (i + 1)) = 0 then (T.w 6 (mm_u2 (T 6) (ns (i + 1)) 0 45)) else T) := mm_wf_allow hW (ns (i + 1)) (hns _)
  refine lv_istore (pc := 597) (lv' := [(6, .int (nI (mm_q_allow T (ns (i + 1))))), (5, .int (nI i)), (4, .ref d), (3, .ref o), (2, .ref ((rd 0 0))), (1, .ref ((ad 0 0 0))), (0, .ref sb)]) F.1 F.2.1 dL_law_597 hl (by decide) rfl (fun ls hl => ?_)
  refine lv_aload_n (pc := 599) F.1 F.2.1 dL_law_599 rfl (lv_at hl 4 rfl) ?_
  refine lv_aload_n (pc := 600) F.1 F.2.1 dL_law_600 rfl (lv_at hl 6 rfl) ?_
  refine lv_iload (pc := 601) F.1 F.2.1 dL_law_601 (lv_at hl 1 rfl) ?_
  refine lv_iconst (pc := 603) (v := nI 1) F.1 F.2.1 dL_law_603 (by decide) ?_
  refine mm_iadd (pc := 604) F (z := nI (i + 1)) (nI_add _ _) dL_law_604 ?_
  refine mm_sld (pc := 605) F hN hXs hbl hbb (j := i + 1) rfl (by omega) hL dL_law_605 ?_
  refine mm_runV (pc := 606) (As := [.int (nI (ns (i + 1)))]) (rest := []) F hN (r_allow l b D F.2.2.2.2.2.2.2.1 T th rd σ1 hM1 hW (ns (i + 1)) (hns _)) mw_1299 mw_1300 mw_1301 mw_6 mw_1302 ⟨pmX7_allow, (Nat.le_of_ble_eq_true rfl), (Nat.le_of_ble_eq_true rfl)⟩ (mm_recv F.2.2.2.2.2.1 hN (mm_r0 hM1) rfl) hl.1 rfl (Nat.le_of_ble_eq_true rfl) ⟨by show (cells + 6) + 0 ≤ 603072; omega, by show (slots + 40) + 0 ≤ 7215210; omega⟩ dL_law_606
    (fun _ _ _ _ _ _ h9 => False.elim h9)
    (fun v9 σ2 H locs hp9 hN => ?_)
  obtain ⟨i9, rfl, hi9, hM2, hF2⟩ := mm_Mt.out hp9
  obtain hq9 := hp9
  refine W.eq (g2 := F0 m 609 ls [.int i9]) rfl ?_
  refine W.widen (k := cells + 6) (n := slots + 40) (Nat.le_refl _) (Nat.le_refl _) ?_
  refine lv_istore (pc := 609) (lv' := [(7, .int i9), (6, .int (nI (mm_q_allow T (ns (i + 1))))), (5, .int (nI i)), (4, .ref d), (3, .ref o), (2, .ref ((rd 0 0))), (1, .ref ((ad 0 0 0))), (0, .ref sb)]) F.1 F.2.1 dL_law_609 hl (by decide) rfl (fun ls hl => ?_)
  refine lv_aload_n (pc := 611) F.1 F.2.1 dL_law_611 rfl (lv_at hl 5 rfl) ?_
  refine mm_runV (pc := 612) (As := []) (rest := []) F hN (r_thrown l b D F.2.2.2.2.2.2.2.1 (if mm_q_allow T (ns (i + 1)) = 0 then (T.w 6 (mm_u2 (T 6) (ns (i + 1)) 0 45)) else T) (mm_q_allow T (ns (i + 1))) rd σ2 hM2 hW2) mw_1260 mw_1261 mw_1262 mw_6 mw_1263 ⟨pmX7_thrown, (Nat.le_of_ble_eq_true rfl), (Nat.le_of_ble_eq_true rfl)⟩ (mm_recv F.2.2.2.2.2.1 hN (mm_r0 hM2) rfl) hl.1 rfl (Nat.le_of_ble_eq_true rfl) ⟨by show (cells + 6) + 0 ≤ 603072; omega, by show (slots + 40) + 0 ≤ 7215210; omega⟩ dL_law_612
    (fun _ _ _ _ _ _ h9 => False.elim h9)
    (fun v9 σ9 H locs hp9 hN => ?_)
  obtain ⟨rfl, h9⟩ := hp9
  rw [h9] at hN
  refine W.eq (g2 := F0 m 615 ls [.int (nI (mm_q_allow T (ns (i + 1))))]) rfl ?_
  refine W.widen (k := cells + 6) (n := slots + 40) (Nat.le_refl _) (Nat.le_refl _) ?_
  refine lv_iload (pc := 615) F.1 F.2.1 dL_law_615 (lv_at hl 1 rfl) ?_
  refine mm_icmp_eqB (pc := 617) F (x := mm_q_allow T (ns (i + 1))) (y := mm_q_allow T (ns (i + 1))) (tgt := 622) (by omega) (by omega) dL_law_617 (by decide) (fun cz617 => ?_) (fun cz617 => ?_)
  ·
    refine lv_iload (pc := 622) F.1 F.2.1 dL_law_622 (lv_at hl 1 rfl) ?_
    refine mm_if_neB (pc := 624) F (tgt := 639) (by omega) dL_law_624 (by decide) (fun cz624 => ?_) (fun cz624 => ?_)
    ·
      refine lv_goto (pc := 639) (tgt := 2217) F.1 F.2.1 dL_law_639 (by decide) ?_
      exact W.widen (by omega) (by omega) (kk _ _ ls H locs ⟨⟨z1, ad1, mm_X_kept hX1 (fun a9 e9 he => hF2 a9 0 e9 (by decide) he), hx1⟩, ⟨_, rd, hM2, rfl⟩, ⟨g1, hF2 o 2 _ (by decide) hw1⟩, ⟨gd, hF2 d 2 _ (by decide) hd1⟩, hod, hW2⟩ hN (lv_sub hl [2, 3, 4, 5, 6, 7] rfl))
    ·
      refine lv_aload_n (pc := 627) F.1 F.2.1 dL_law_627 rfl (lv_at hl 4 rfl) ?_
      refine lv_iconst (pc := 628) (v := nI 0) F.1 F.2.1 dL_law_628 (by decide) ?_
      refine mm_lald (pc := 629) F hN (hF2 o 2 _ (by decide) hw1) (j := 0) rfl (by decide) (by decide) dL_law_629 ?_
      refine lv_iload (pc := 630) F.1 F.2.1 dL_law_630 (lv_at hl 0 rfl) ?_
      refine lv_i2l (pc := 632) (v := (i9).toInt64) F.1 F.2.1 dL_law_632 (rfl) ?_
      refine W.eq (g2 := F0 m 633 ls [.long ((nI (T.re (ns (i + 1)))).toInt64), .long ((nI (T.re (ns (i + 1)))).toInt64)]) (by rw [hg1 cz624, hi9 cz624]) ?_
      refine mm_lcmpE (pc := 633) F.1 F.2.1 dL_law_633 ?_
      refine mm_if_eq (pc := 634) F (tgt := 639) (by omega) dL_law_634 (by decide) (fun cz634 => ?_) (fun h9 => absurd h9 (by decide))
      refine lv_goto (pc := 639) (tgt := 2217) F.1 F.2.1 dL_law_639 (by decide) ?_
      exact W.widen (by omega) (by omega) (kk _ _ ls H locs ⟨⟨z1, ad1, mm_X_kept hX1 (fun a9 e9 he => hF2 a9 0 e9 (by decide) he), hx1⟩, ⟨_, rd, hM2, rfl⟩, ⟨g1, hF2 o 2 _ (by decide) hw1⟩, ⟨gd, hF2 d 2 _ (by decide) hd1⟩, hod, hW2⟩ hN (lv_sub hl [2, 3, 4, 5, 6, 7] rfl))
  ·
    exact absurd rfl cz617

set_option maxHeartbeats 4000000 in
set_option maxRecDepth 100000 in
theorem law_7 {p : Program} {l : Launch} {e : Env} {s : State} {m : MethodId} {args : Array Value} {below : List Frame} {meth : Method} {c : Code} {H : Heap} {locs : List Loc} {cells slots : Nat} {Q : State → Prop} {b : Nat} {D : mm_D} {σ : mm_S} {T : mm_T} {x0 m0 o d sb L i : Nat} {ns : Nat → Nat} {ls : Array Slot}
    (F : mm_F p l s m args meth c b D RL cL_law 9) (hXs : va_X sb L (fun j => nI (ns j)) s s.heap) (hbl : sb < s.heap.size) (hbb : sb < b) (hL : L ≤ 2560) (hns : ∀ j, ns j < 2 ^ 32) (hi : i + 5 ≤ L) (hN : mm_N b D s σ H locs) (hV : mm_V σ T x0 m0 o d) (hl : lv_has ls 9 (mm_lc i d o m0 x0 sb)) (hc : cells + 103 ≤ 603072) (hs : slots + 9037 ≤ 7215210)
    (kk : ∀ (T2 : mm_T) (σ2 : mm_S) (ls : Array Slot) (H : Heap) (locs : List Loc), mm_V σ2 T2 x0 m0 o d → mm_N b D s σ2 H locs → lv_has ls 9 (mm_lc i d o m0 x0 sb) → W p l e room_1 s m args below meth c H locs (cells + 103) (slots + 9037) Q (F0 m 2217 ls []))
    : W p l e room_1 s m args below meth c H locs cells slots Q (F0 m 642 ls []) := by
  obtain ⟨⟨z, ad, hX, rfl⟩, ⟨th, rd, hM, rfl⟩, ⟨go, ho⟩, ⟨gd, hd⟩, hod, hW⟩ := hV
  have hl : lv_has ls 9 [(5, .int (nI i)), (4, .ref d), (3, .ref o), (2, .ref ((rd 0 0))), (1, .ref ((ad 0 0 0))), (0, .ref sb)] := hl
  refine lv_aload_n (pc := 642) F.1 F.2.1 dL_law_642 rfl (lv_at hl 4 rfl) ?_
  refine lv_aload_n (pc := 643) F.1 F.2.1 dL_law_643 rfl (lv_at hl 5 rfl) ?_
  refine lv_iload (pc := 644) F.1 F.2.1 dL_law_644 (lv_at hl 0 rfl) ?_
  refine lv_iconst (pc := 646) (v := nI 1) F.1 F.2.1 dL_law_646 (by decide) ?_
  refine mm_iadd (pc := 647) F (z := nI (i + 1)) (nI_add _ _) dL_law_647 ?_
  refine mm_sld (pc := 648) F hN hXs hbl hbb (j := i + 1) rfl (by omega) hL dL_law_648 ?_
  refine lv_aload_n (pc := 649) F.1 F.2.1 dL_law_649 rfl (lv_at hl 2 rfl) ?_
  refine mm_runSX (pc := 650) (As := [.ref ((ad 0 0 0)), .int (nI (ns (i + 1))), .ref o]) (rest := []) F hN (w_addressOf l b D F.2.2.2.2.2.2.2.1 T z ad σ hX hW (ns (i + 1)) (hns _) o go ho) mw_543 mw_544 mw_0 mw_545 ⟨pmL_addressOf, (Nat.le_of_ble_eq_true rfl), (Nat.le_of_ble_eq_true rfl)⟩ hl.1 rfl (Nat.le_of_ble_eq_true rfl) ⟨by show cells + 6 ≤ 603072; omega, by show slots + 40 ≤ 7215210; omega⟩ dL_law_650
    (fun _ _ _ _ _ _ h9 => False.elim h9) (fun v9 σ1 H locs hp9 hN => ?_)
  obtain ⟨rfl, z1, ad1, g1, hX1, hx1, hw1, hg1, hfr1⟩ := hp9
  refine W.eq (g2 := F0 m 653 ls [.int (nI (mm_q_addressOf T (ns (i + 1))))]) rfl ?_
  refine W.widen (k := cells + 6) (n := slots + 40) (Nat.le_refl _) (Nat.le_refl _) ?_
  have hM1 : mm_M σ1 T th rd := mm_M_kept1 hM (fun a9 e9 he => hfr1 a9 1 e9 (by decide) (fun q9 => by rw [q9, ho] at he; cases he) he)
  have hd1 : σ1 d = mm_ard 2 2 1 gd := hfr1 d 2 _ (by decide) (Ne.symm hod) hd
  have hq4 : mm_q_addressOf T (ns (i + 1)) < 4 := mm_q_addressOf_lt
  have hW2 : mm_WF (if mm_q_addressOf T (ns (i + 1)) = 0 then (T) else T) := by split <;> exact hW
  refine lv_istore (pc := 653) (lv' := [(6, .int (nI (mm_q_addressOf T (ns (i + 1))))), (5, .int (nI i)), (4, .ref d), (3, .ref o), (2, .ref ((rd 0 0))), (1, .ref ((ad 0 0 0))), (0, .ref sb)]) F.1 F.2.1 dL_law_653 hl (by decide) rfl (fun ls hl => ?_)
  refine lv_aload_n (pc := 655) F.1 F.2.1 dL_law_655 rfl (lv_at hl 4 rfl) ?_
  refine lv_aload_n (pc := 656) F.1 F.2.1 dL_law_656 rfl (lv_at hl 6 rfl) ?_
  refine lv_iload (pc := 657) F.1 F.2.1 dL_law_657 (lv_at hl 1 rfl) ?_
  refine lv_iconst (pc := 659) (v := nI 1) F.1 F.2.1 dL_law_659 (by decide) ?_
  refine mm_iadd (pc := 660) F (z := nI (i + 1)) (nI_add _ _) dL_law_660 ?_
  refine mm_sld (pc := 661) F hN hXs hbl hbb (j := i + 1) rfl (by omega) hL dL_law_661 ?_
  refine mm_runV (pc := 662) (As := [.int (nI (ns (i + 1)))]) (rest := []) F hN (r_addressOf l b D F.2.2.2.2.2.2.2.1 T th rd σ1 hM1 hW (ns (i + 1)) (hns _)) mw_1303 mw_1304 mw_1305 mw_6 mw_1306 ⟨pmX7_addressOf, (Nat.le_of_ble_eq_true rfl), (Nat.le_of_ble_eq_true rfl)⟩ (mm_recv F.2.2.2.2.2.1 hN (mm_r0 hM1) rfl) hl.1 rfl (Nat.le_of_ble_eq_true rfl) ⟨by show (cells + 6) + 0 ≤ 603072; omega, by show (slots + 40) + 0 ≤ 7215210; omega⟩ dL_law_662
    (fun _ _ _ _ _ _ h9 => False.elim h9)
    (fun v9 σ2 H locs hp9 hN => ?_)
  obtain ⟨i9, rfl, hi9, hM2, hF2⟩ := mm_Mt.out hp9
  obtain hq9 := hp9
  refine W.eq (g2 := F0 m 665 ls [.int i9]) rfl ?_
  refine W.widen (k := cells + 6) (n := slots + 40) (Nat.le_refl _) (Nat.le_refl _) ?_
  refine lv_istore (pc := 665) (lv' := [(7, .int i9), (6, .int (nI (mm_q_addressOf T (ns (i + 1))))), (5, .int (nI i)), (4, .ref d), (3, .ref o), (2, .ref ((rd 0 0))), (1, .ref ((ad 0 0 0))), (0, .ref sb)]) F.1 F.2.1 dL_law_665 hl (by decide) rfl (fun ls hl => ?_)
  refine lv_aload_n (pc := 667) F.1 F.2.1 dL_law_667 rfl (lv_at hl 5 rfl) ?_
  refine mm_runV (pc := 668) (As := []) (rest := []) F hN (r_thrown l b D F.2.2.2.2.2.2.2.1 (if mm_q_addressOf T (ns (i + 1)) = 0 then (T) else T) (mm_q_addressOf T (ns (i + 1))) rd σ2 hM2 hW2) mw_1260 mw_1261 mw_1262 mw_6 mw_1263 ⟨pmX7_thrown, (Nat.le_of_ble_eq_true rfl), (Nat.le_of_ble_eq_true rfl)⟩ (mm_recv F.2.2.2.2.2.1 hN (mm_r0 hM2) rfl) hl.1 rfl (Nat.le_of_ble_eq_true rfl) ⟨by show (cells + 6) + 0 ≤ 603072; omega, by show (slots + 40) + 0 ≤ 7215210; omega⟩ dL_law_668
    (fun _ _ _ _ _ _ h9 => False.elim h9)
    (fun v9 σ9 H locs hp9 hN => ?_)
  obtain ⟨rfl, h9⟩ := hp9
  rw [h9] at hN
  refine W.eq (g2 := F0 m 671 ls [.int (nI (mm_q_addressOf T (ns (i + 1))))]) rfl ?_
  refine W.widen (k := cells + 6) (n := slots + 40) (Nat.le_refl _) (Nat.le_refl _) ?_
  refine lv_iload (pc := 671) F.1 F.2.1 dL_law_671 (lv_at hl 1 rfl) ?_
  refine mm_icmp_eqB (pc := 673) F (x := mm_q_addressOf T (ns (i + 1))) (y := mm_q_addressOf T (ns (i + 1))) (tgt := 678) (by omega) (by omega) dL_law_673 (by decide) (fun cz673 => ?_) (fun cz673 => ?_)
  ·
    refine lv_iload (pc := 678) F.1 F.2.1 dL_law_678 (lv_at hl 1 rfl) ?_
    refine mm_if_neB (pc := 680) F (tgt := 695) (by omega) dL_law_680 (by decide) (fun cz680 => ?_) (fun cz680 => ?_)
    ·
      refine lv_goto (pc := 695) (tgt := 2217) F.1 F.2.1 dL_law_695 (by decide) ?_
      exact W.widen (by omega) (by omega) (kk _ _ ls H locs ⟨⟨z1, ad1, mm_X_kept hX1 (fun a9 e9 he => hF2 a9 0 e9 (by decide) he), hx1⟩, ⟨_, rd, hM2, rfl⟩, ⟨g1, hF2 o 2 _ (by decide) hw1⟩, ⟨gd, hF2 d 2 _ (by decide) hd1⟩, hod, hW2⟩ hN (lv_sub hl [2, 3, 4, 5, 6, 7] rfl))
    ·
      refine lv_aload_n (pc := 683) F.1 F.2.1 dL_law_683 rfl (lv_at hl 4 rfl) ?_
      refine lv_iconst (pc := 684) (v := nI 0) F.1 F.2.1 dL_law_684 (by decide) ?_
      refine mm_lald (pc := 685) F hN (hF2 o 2 _ (by decide) hw1) (j := 0) rfl (by decide) (by decide) dL_law_685 ?_
      refine lv_iload (pc := 686) F.1 F.2.1 dL_law_686 (lv_at hl 0 rfl) ?_
      refine lv_i2l (pc := 688) (v := (i9).toInt64) F.1 F.2.1 dL_law_688 (rfl) ?_
      refine W.eq (g2 := F0 m 689 ls [.long ((nI (T.ho (ns (i + 1)))).toInt64), .long ((nI (T.ho (ns (i + 1)))).toInt64)]) (by rw [hg1 cz680, hi9 cz680]) ?_
      refine mm_lcmpE (pc := 689) F.1 F.2.1 dL_law_689 ?_
      refine mm_if_eq (pc := 690) F (tgt := 695) (by omega) dL_law_690 (by decide) (fun cz690 => ?_) (fun h9 => absurd h9 (by decide))
      refine lv_goto (pc := 695) (tgt := 2217) F.1 F.2.1 dL_law_695 (by decide) ?_
      exact W.widen (by omega) (by omega) (kk _ _ ls H locs ⟨⟨z1, ad1, mm_X_kept hX1 (fun a9 e9 he => hF2 a9 0 e9 (by decide) he), hx1⟩, ⟨_, rd, hM2, rfl⟩, ⟨g1, hF2 o 2 _ (by decide) hw1⟩, ⟨gd, hF2 d 2 _ (by decide) hd1⟩, hod, hW2⟩ hN (lv_sub hl [2, 3, 4, 5, 6, 7] rfl))
  ·
    exact absurd rfl cz673

set_option maxHeartbeats 4000000 in
set_option maxRecDepth 100000 in
theorem law_8 {p : Program} {l : Launch} {e : Env} {s : State} {m : MethodId} {args : Array Value} {below : List Frame} {meth : Method} {c : Code} {H : Heap} {locs : List Loc} {cells slots : Nat} {Q : State → Prop} {b : Nat} {D : mm_D} {σ : mm_S} {T : mm_T} {x0 m0 o d sb L i : Nat} {ns : Nat → Nat} {ls : Array Slot}
    (F : mm_F p l s m args meth c b D RL cL_law 9) (hXs : va_X sb L (fun j => nI (ns j)) s s.heap) (hbl : sb < s.heap.size) (hbb : sb < b) (hL : L ≤ 2560) (hns : ∀ j, ns j < 2 ^ 32) (hi : i + 5 ≤ L) (hN : mm_N b D s σ H locs) (hV : mm_V σ T x0 m0 o d) (hl : lv_has ls 9 (mm_lc i d o m0 x0 sb)) (hc : cells + 103 ≤ 603072) (hs : slots + 9037 ≤ 7215210)
    (kk : ∀ (T2 : mm_T) (σ2 : mm_S) (ls : Array Slot) (H : Heap) (locs : List Loc), mm_V σ2 T2 x0 m0 o d → mm_N b D s σ2 H locs → lv_has ls 9 (mm_lc i d o m0 x0 sb) → W p l e room_1 s m args below meth c H locs (cells + 103) (slots + 9037) Q (F0 m 2217 ls []))
    : W p l e room_1 s m args below meth c H locs cells slots Q (F0 m 698 ls []) := by
  obtain ⟨⟨z, ad, hX, rfl⟩, ⟨th, rd, hM, rfl⟩, ⟨go, ho⟩, ⟨gd, hd⟩, hod, hW⟩ := hV
  have hl : lv_has ls 9 [(5, .int (nI i)), (4, .ref d), (3, .ref o), (2, .ref ((rd 0 0))), (1, .ref ((ad 0 0 0))), (0, .ref sb)] := hl
  refine lv_aload_n (pc := 698) F.1 F.2.1 dL_law_698 rfl (lv_at hl 4 rfl) ?_
  refine lv_aload_n (pc := 699) F.1 F.2.1 dL_law_699 rfl (lv_at hl 5 rfl) ?_
  refine lv_iload (pc := 700) F.1 F.2.1 dL_law_700 (lv_at hl 0 rfl) ?_
  refine lv_iconst (pc := 702) (v := nI 1) F.1 F.2.1 dL_law_702 (by decide) ?_
  refine mm_iadd (pc := 703) F (z := nI (i + 1)) (nI_add _ _) dL_law_703 ?_
  refine mm_sld (pc := 704) F hN hXs hbl hbb (j := i + 1) rfl (by omega) hL dL_law_704 ?_
  refine lv_aload_n (pc := 705) F.1 F.2.1 dL_law_705 rfl (lv_at hl 2 rfl) ?_
  refine mm_runSX (pc := 706) (As := [.ref ((ad 0 0 0)), .int (nI (ns (i + 1))), .ref o]) (rest := []) F hN (w_reasonOf l b D F.2.2.2.2.2.2.2.1 T z ad σ hX hW (ns (i + 1)) (hns _) o go ho) mw_550 mw_551 mw_0 mw_552 ⟨pmL_reasonOf, (Nat.le_of_ble_eq_true rfl), (Nat.le_of_ble_eq_true rfl)⟩ hl.1 rfl (Nat.le_of_ble_eq_true rfl) ⟨by show cells + 6 ≤ 603072; omega, by show slots + 40 ≤ 7215210; omega⟩ dL_law_706
    (fun _ _ _ _ _ _ h9 => False.elim h9) (fun v9 σ1 H locs hp9 hN => ?_)
  obtain ⟨rfl, z1, ad1, g1, hX1, hx1, hw1, hg1, hfr1⟩ := hp9
  refine W.eq (g2 := F0 m 709 ls [.int (nI (mm_q_reasonOf T (ns (i + 1))))]) rfl ?_
  refine W.widen (k := cells + 6) (n := slots + 40) (Nat.le_refl _) (Nat.le_refl _) ?_
  have hM1 : mm_M σ1 T th rd := mm_M_kept1 hM (fun a9 e9 he => hfr1 a9 1 e9 (by decide) (fun q9 => by rw [q9, ho] at he; cases he) he)
  have hd1 : σ1 d = mm_ard 2 2 1 gd := hfr1 d 2 _ (by decide) (Ne.symm hod) hd
  have hq4 : mm_q_reasonOf T (ns (i + 1)) < 4 := mm_q_reasonOf_lt
  have hW2 : mm_WF (if mm_q_reasonOf T (ns (i + 1)) = 0 then (T) else T) := by split <;> exact hW
  refine lv_istore (pc := 709) (lv' := [(6, .int (nI (mm_q_reasonOf T (ns (i + 1))))), (5, .int (nI i)), (4, .ref d), (3, .ref o), (2, .ref ((rd 0 0))), (1, .ref ((ad 0 0 0))), (0, .ref sb)]) F.1 F.2.1 dL_law_709 hl (by decide) rfl (fun ls hl => ?_)
  refine lv_aload_n (pc := 711) F.1 F.2.1 dL_law_711 rfl (lv_at hl 4 rfl) ?_
  refine lv_aload_n (pc := 712) F.1 F.2.1 dL_law_712 rfl (lv_at hl 6 rfl) ?_
  refine lv_iload (pc := 713) F.1 F.2.1 dL_law_713 (lv_at hl 1 rfl) ?_
  refine lv_iconst (pc := 715) (v := nI 1) F.1 F.2.1 dL_law_715 (by decide) ?_
  refine mm_iadd (pc := 716) F (z := nI (i + 1)) (nI_add _ _) dL_law_716 ?_
  refine mm_sld (pc := 717) F hN hXs hbl hbb (j := i + 1) rfl (by omega) hL dL_law_717 ?_
  refine mm_runV (pc := 718) (As := [.int (nI (ns (i + 1)))]) (rest := []) F hN (r_reasonOf l b D F.2.2.2.2.2.2.2.1 T th rd σ1 hM1 hW (ns (i + 1)) (hns _)) mw_1307 mw_1308 mw_1309 mw_6 mw_1310 ⟨pmX7_reasonOf, (Nat.le_of_ble_eq_true rfl), (Nat.le_of_ble_eq_true rfl)⟩ (mm_recv F.2.2.2.2.2.1 hN (mm_r0 hM1) rfl) hl.1 rfl (Nat.le_of_ble_eq_true rfl) ⟨by show (cells + 6) + 0 ≤ 603072; omega, by show (slots + 40) + 0 ≤ 7215210; omega⟩ dL_law_718
    (fun _ _ _ _ _ _ h9 => False.elim h9)
    (fun v9 σ2 H locs hp9 hN => ?_)
  obtain ⟨i9, rfl, hi9, hM2, hF2⟩ := mm_Mt.out hp9
  obtain hq9 := hp9
  refine W.eq (g2 := F0 m 721 ls [.int i9]) rfl ?_
  refine W.widen (k := cells + 6) (n := slots + 40) (Nat.le_refl _) (Nat.le_refl _) ?_
  refine lv_istore (pc := 721) (lv' := [(7, .int i9), (6, .int (nI (mm_q_reasonOf T (ns (i + 1))))), (5, .int (nI i)), (4, .ref d), (3, .ref o), (2, .ref ((rd 0 0))), (1, .ref ((ad 0 0 0))), (0, .ref sb)]) F.1 F.2.1 dL_law_721 hl (by decide) rfl (fun ls hl => ?_)
  refine lv_aload_n (pc := 723) F.1 F.2.1 dL_law_723 rfl (lv_at hl 5 rfl) ?_
  refine mm_runV (pc := 724) (As := []) (rest := []) F hN (r_thrown l b D F.2.2.2.2.2.2.2.1 (if mm_q_reasonOf T (ns (i + 1)) = 0 then (T) else T) (mm_q_reasonOf T (ns (i + 1))) rd σ2 hM2 hW2) mw_1260 mw_1261 mw_1262 mw_6 mw_1263 ⟨pmX7_thrown, (Nat.le_of_ble_eq_true rfl), (Nat.le_of_ble_eq_true rfl)⟩ (mm_recv F.2.2.2.2.2.1 hN (mm_r0 hM2) rfl) hl.1 rfl (Nat.le_of_ble_eq_true rfl) ⟨by show (cells + 6) + 0 ≤ 603072; omega, by show (slots + 40) + 0 ≤ 7215210; omega⟩ dL_law_724
    (fun _ _ _ _ _ _ h9 => False.elim h9)
    (fun v9 σ9 H locs hp9 hN => ?_)
  obtain ⟨rfl, h9⟩ := hp9
  rw [h9] at hN
  refine W.eq (g2 := F0 m 727 ls [.int (nI (mm_q_reasonOf T (ns (i + 1))))]) rfl ?_
  refine W.widen (k := cells + 6) (n := slots + 40) (Nat.le_refl _) (Nat.le_refl _) ?_
  refine lv_iload (pc := 727) F.1 F.2.1 dL_law_727 (lv_at hl 1 rfl) ?_
  refine mm_icmp_eqB (pc := 729) F (x := mm_q_reasonOf T (ns (i + 1))) (y := mm_q_reasonOf T (ns (i + 1))) (tgt := 734) (by omega) (by omega) dL_law_729 (by decide) (fun cz729 => ?_) (fun cz729 => ?_)
  ·
    refine lv_iload (pc := 734) F.1 F.2.1 dL_law_734 (lv_at hl 1 rfl) ?_
    refine mm_if_neB (pc := 736) F (tgt := 751) (by omega) dL_law_736 (by decide) (fun cz736 => ?_) (fun cz736 => ?_)
    ·
      refine lv_goto (pc := 751) (tgt := 2217) F.1 F.2.1 dL_law_751 (by decide) ?_
      exact W.widen (by omega) (by omega) (kk _ _ ls H locs ⟨⟨z1, ad1, mm_X_kept hX1 (fun a9 e9 he => hF2 a9 0 e9 (by decide) he), hx1⟩, ⟨_, rd, hM2, rfl⟩, ⟨g1, hF2 o 2 _ (by decide) hw1⟩, ⟨gd, hF2 d 2 _ (by decide) hd1⟩, hod, hW2⟩ hN (lv_sub hl [2, 3, 4, 5, 6, 7] rfl))
    ·
      refine lv_aload_n (pc := 739) F.1 F.2.1 dL_law_739 rfl (lv_at hl 4 rfl) ?_
      refine lv_iconst (pc := 740) (v := nI 0) F.1 F.2.1 dL_law_740 (by decide) ?_
      refine mm_lald (pc := 741) F hN (hF2 o 2 _ (by decide) hw1) (j := 0) rfl (by decide) (by decide) dL_law_741 ?_
      refine lv_iload (pc := 742) F.1 F.2.1 dL_law_742 (lv_at hl 0 rfl) ?_
      refine lv_i2l (pc := 744) (v := (i9).toInt64) F.1 F.2.1 dL_law_744 (rfl) ?_
      refine W.eq (g2 := F0 m 745 ls [.long ((nI (T.re (ns (i + 1)))).toInt64), .long ((nI (T.re (ns (i + 1)))).toInt64)]) (by rw [hg1 cz736, hi9 cz736]) ?_
      refine mm_lcmpE (pc := 745) F.1 F.2.1 dL_law_745 ?_
      refine mm_if_eq (pc := 746) F (tgt := 751) (by omega) dL_law_746 (by decide) (fun cz746 => ?_) (fun h9 => absurd h9 (by decide))
      refine lv_goto (pc := 751) (tgt := 2217) F.1 F.2.1 dL_law_751 (by decide) ?_
      exact W.widen (by omega) (by omega) (kk _ _ ls H locs ⟨⟨z1, ad1, mm_X_kept hX1 (fun a9 e9 he => hF2 a9 0 e9 (by decide) he), hx1⟩, ⟨_, rd, hM2, rfl⟩, ⟨g1, hF2 o 2 _ (by decide) hw1⟩, ⟨gd, hF2 d 2 _ (by decide) hd1⟩, hod, hW2⟩ hN (lv_sub hl [2, 3, 4, 5, 6, 7] rfl))
  ·
    exact absurd rfl cz729

set_option maxHeartbeats 4000000 in
set_option maxRecDepth 100000 in
theorem law_9 {p : Program} {l : Launch} {e : Env} {s : State} {m : MethodId} {args : Array Value} {below : List Frame} {meth : Method} {c : Code} {H : Heap} {locs : List Loc} {cells slots : Nat} {Q : State → Prop} {b : Nat} {D : mm_D} {σ : mm_S} {T : mm_T} {x0 m0 o d sb L i : Nat} {ns : Nat → Nat} {ls : Array Slot}
    (F : mm_F p l s m args meth c b D RL cL_law 9) (hXs : va_X sb L (fun j => nI (ns j)) s s.heap) (hbl : sb < s.heap.size) (hbb : sb < b) (hL : L ≤ 2560) (hns : ∀ j, ns j < 2 ^ 32) (hi : i + 5 ≤ L) (hN : mm_N b D s σ H locs) (hV : mm_V σ T x0 m0 o d) (hl : lv_has ls 9 (mm_lc i d o m0 x0 sb)) (hc : cells + 103 ≤ 603072) (hs : slots + 9037 ≤ 7215210)
    (kk : ∀ (T2 : mm_T) (σ2 : mm_S) (ls : Array Slot) (H : Heap) (locs : List Loc), mm_V σ2 T2 x0 m0 o d → mm_N b D s σ2 H locs → lv_has ls 9 (mm_lc i d o m0 x0 sb) → W p l e room_1 s m args below meth c H locs (cells + 103) (slots + 9037) Q (F0 m 2217 ls []))
    : W p l e room_1 s m args below meth c H locs cells slots Q (F0 m 754 ls []) := by
  obtain ⟨⟨z, ad, hX, rfl⟩, ⟨th, rd, hM, rfl⟩, ⟨go, ho⟩, ⟨gd, hd⟩, hod, hW⟩ := hV
  have hl : lv_has ls 9 [(5, .int (nI i)), (4, .ref d), (3, .ref o), (2, .ref ((rd 0 0))), (1, .ref ((ad 0 0 0))), (0, .ref sb)] := hl
  refine lv_aload_n (pc := 754) F.1 F.2.1 dL_law_754 rfl (lv_at hl 4 rfl) ?_
  refine lv_aload_n (pc := 755) F.1 F.2.1 dL_law_755 rfl (lv_at hl 5 rfl) ?_
  refine lv_iload (pc := 756) F.1 F.2.1 dL_law_756 (lv_at hl 0 rfl) ?_
  refine lv_iconst (pc := 758) (v := nI 1) F.1 F.2.1 dL_law_758 (by decide) ?_
  refine mm_iadd (pc := 759) F (z := nI (i + 1)) (nI_add _ _) dL_law_759 ?_
  refine mm_sld (pc := 760) F hN hXs hbl hbb (j := i + 1) rfl (by omega) hL dL_law_760 ?_
  refine lv_aload_n (pc := 761) F.1 F.2.1 dL_law_761 rfl (lv_at hl 2 rfl) ?_
  refine mm_runSX (pc := 762) (As := [.ref ((ad 0 0 0)), .int (nI (ns (i + 1))), .ref o]) (rest := []) F hN (w_strikes l b D F.2.2.2.2.2.2.2.1 T z ad σ hX hW (ns (i + 1)) (hns _) o go ho) mw_557 mw_558 mw_0 mw_559 ⟨pmL_strikes, (Nat.le_of_ble_eq_true rfl), (Nat.le_of_ble_eq_true rfl)⟩ hl.1 rfl (Nat.le_of_ble_eq_true rfl) ⟨by show cells + 6 ≤ 603072; omega, by show slots + 40 ≤ 7215210; omega⟩ dL_law_762
    (fun _ _ _ _ _ _ h9 => False.elim h9) (fun v9 σ1 H locs hp9 hN => ?_)
  obtain ⟨rfl, z1, ad1, g1, hX1, hx1, hw1, hg1, hfr1⟩ := hp9
  refine W.eq (g2 := F0 m 765 ls [.int (nI (mm_q_strikes T (ns (i + 1))))]) rfl ?_
  refine W.widen (k := cells + 6) (n := slots + 40) (Nat.le_refl _) (Nat.le_refl _) ?_
  have hM1 : mm_M σ1 T th rd := mm_M_kept1 hM (fun a9 e9 he => hfr1 a9 1 e9 (by decide) (fun q9 => by rw [q9, ho] at he; cases he) he)
  have hd1 : σ1 d = mm_ard 2 2 1 gd := hfr1 d 2 _ (by decide) (Ne.symm hod) hd
  have hq4 : mm_q_strikes T (ns (i + 1)) < 4 := mm_q_strikes_lt
  have hW2 : mm_WF (if mm_q_strikes T (ns (i + 1)) = 0 then (T) else T) := by split <;> exact hW
  refine lv_istore (pc := 765) (lv' := [(6, .int (nI (mm_q_strikes T (ns (i + 1))))), (5, .int (nI i)), (4, .ref d), (3, .ref o), (2, .ref ((rd 0 0))), (1, .ref ((ad 0 0 0))), (0, .ref sb)]) F.1 F.2.1 dL_law_765 hl (by decide) rfl (fun ls hl => ?_)
  refine lv_aload_n (pc := 767) F.1 F.2.1 dL_law_767 rfl (lv_at hl 4 rfl) ?_
  refine lv_aload_n (pc := 768) F.1 F.2.1 dL_law_768 rfl (lv_at hl 6 rfl) ?_
  refine lv_iload (pc := 769) F.1 F.2.1 dL_law_769 (lv_at hl 1 rfl) ?_
  refine lv_iconst (pc := 771) (v := nI 1) F.1 F.2.1 dL_law_771 (by decide) ?_
  refine mm_iadd (pc := 772) F (z := nI (i + 1)) (nI_add _ _) dL_law_772 ?_
  refine mm_sld (pc := 773) F hN hXs hbl hbb (j := i + 1) rfl (by omega) hL dL_law_773 ?_
  refine mm_runV (pc := 774) (As := [.int (nI (ns (i + 1)))]) (rest := []) F hN (r_strikes l b D F.2.2.2.2.2.2.2.1 T th rd σ1 hM1 hW (ns (i + 1)) (hns _)) mw_1311 mw_1312 mw_1313 mw_6 mw_1314 ⟨pmX7_strikes, (Nat.le_of_ble_eq_true rfl), (Nat.le_of_ble_eq_true rfl)⟩ (mm_recv F.2.2.2.2.2.1 hN (mm_r0 hM1) rfl) hl.1 rfl (Nat.le_of_ble_eq_true rfl) ⟨by show (cells + 6) + 0 ≤ 603072; omega, by show (slots + 40) + 0 ≤ 7215210; omega⟩ dL_law_774
    (fun _ _ _ _ _ _ h9 => False.elim h9)
    (fun v9 σ2 H locs hp9 hN => ?_)
  obtain ⟨i9, rfl, hi9, hM2, hF2⟩ := mm_Mt.out hp9
  obtain hq9 := hp9
  refine W.eq (g2 := F0 m 777 ls [.int i9]) rfl ?_
  refine W.widen (k := cells + 6) (n := slots + 40) (Nat.le_refl _) (Nat.le_refl _) ?_
  refine lv_istore (pc := 777) (lv' := [(7, .int i9), (6, .int (nI (mm_q_strikes T (ns (i + 1))))), (5, .int (nI i)), (4, .ref d), (3, .ref o), (2, .ref ((rd 0 0))), (1, .ref ((ad 0 0 0))), (0, .ref sb)]) F.1 F.2.1 dL_law_777 hl (by decide) rfl (fun ls hl => ?_)
  refine lv_aload_n (pc := 779) F.1 F.2.1 dL_law_779 rfl (lv_at hl 5 rfl) ?_
  refine mm_runV (pc := 780) (As := []) (rest := []) F hN (r_thrown l b D F.2.2.2.2.2.2.2.1 (if mm_q_strikes T (ns (i + 1)) = 0 then (T) else T) (mm_q_strikes T (ns (i + 1))) rd σ2 hM2 hW2) mw_1260 mw_1261 mw_1262 mw_6 mw_1263 ⟨pmX7_thrown, (Nat.le_of_ble_eq_true rfl), (Nat.le_of_ble_eq_true rfl)⟩ (mm_recv F.2.2.2.2.2.1 hN (mm_r0 hM2) rfl) hl.1 rfl (Nat.le_of_ble_eq_true rfl) ⟨by show (cells + 6) + 0 ≤ 603072; omega, by show (slots + 40) + 0 ≤ 7215210; omega⟩ dL_law_780
    (fun _ _ _ _ _ _ h9 => False.elim h9)
    (fun v9 σ9 H locs hp9 hN => ?_)
  obtain ⟨rfl, h9⟩ := hp9
  rw [h9] at hN
  refine W.eq (g2 := F0 m 783 ls [.int (nI (mm_q_strikes T (ns (i + 1))))]) rfl ?_
  refine W.widen (k := cells + 6) (n := slots + 40) (Nat.le_refl _) (Nat.le_refl _) ?_
  refine lv_iload (pc := 783) F.1 F.2.1 dL_law_783 (lv_at hl 1 rfl) ?_
  refine mm_icmp_eqB (pc := 785) F (x := mm_q_strikes T (ns (i + 1))) (y := mm_q_strikes T (ns (i + 1))) (tgt := 790) (by omega) (by omega) dL_law_785 (by decide) (fun cz785 => ?_) (fun cz785 => ?_)
  ·
    refine lv_iload (pc := 790) F.1 F.2.1 dL_law_790 (lv_at hl 1 rfl) ?_
    refine mm_if_neB (pc := 792) F (tgt := 807) (by omega) dL_law_792 (by decide) (fun cz792 => ?_) (fun cz792 => ?_)
    ·
      refine lv_goto (pc := 807) (tgt := 2217) F.1 F.2.1 dL_law_807 (by decide) ?_
      exact W.widen (by omega) (by omega) (kk _ _ ls H locs ⟨⟨z1, ad1, mm_X_kept hX1 (fun a9 e9 he => hF2 a9 0 e9 (by decide) he), hx1⟩, ⟨_, rd, hM2, rfl⟩, ⟨g1, hF2 o 2 _ (by decide) hw1⟩, ⟨gd, hF2 d 2 _ (by decide) hd1⟩, hod, hW2⟩ hN (lv_sub hl [2, 3, 4, 5, 6, 7] rfl))
    ·
      refine lv_aload_n (pc := 795) F.1 F.2.1 dL_law_795 rfl (lv_at hl 4 rfl) ?_
      refine lv_iconst (pc := 796) (v := nI 0) F.1 F.2.1 dL_law_796 (by decide) ?_
      refine mm_lald (pc := 797) F hN (hF2 o 2 _ (by decide) hw1) (j := 0) rfl (by decide) (by decide) dL_law_797 ?_
      refine lv_iload (pc := 798) F.1 F.2.1 dL_law_798 (lv_at hl 0 rfl) ?_
      refine lv_i2l (pc := 800) (v := (i9).toInt64) F.1 F.2.1 dL_law_800 (rfl) ?_
      refine W.eq (g2 := F0 m 801 ls [.long ((nI (T.sk (ns (i + 1)))).toInt64), .long ((nI (T.sk (ns (i + 1)))).toInt64)]) (by rw [hg1 cz792, hi9 cz792]) ?_
      refine mm_lcmpE (pc := 801) F.1 F.2.1 dL_law_801 ?_
      refine mm_if_eq (pc := 802) F (tgt := 807) (by omega) dL_law_802 (by decide) (fun cz802 => ?_) (fun h9 => absurd h9 (by decide))
      refine lv_goto (pc := 807) (tgt := 2217) F.1 F.2.1 dL_law_807 (by decide) ?_
      exact W.widen (by omega) (by omega) (kk _ _ ls H locs ⟨⟨z1, ad1, mm_X_kept hX1 (fun a9 e9 he => hF2 a9 0 e9 (by decide) he), hx1⟩, ⟨_, rd, hM2, rfl⟩, ⟨g1, hF2 o 2 _ (by decide) hw1⟩, ⟨gd, hF2 d 2 _ (by decide) hd1⟩, hod, hW2⟩ hN (lv_sub hl [2, 3, 4, 5, 6, 7] rfl))
  ·
    exact absurd rfl cz785

set_option maxHeartbeats 4000000 in
set_option maxRecDepth 100000 in
theorem law_10 {p : Program} {l : Launch} {e : Env} {s : State} {m : MethodId} {args : Array Value} {below : List Frame} {meth : Method} {c : Code} {H : Heap} {locs : List Loc} {cells slots : Nat} {Q : State → Prop} {b : Nat} {D : mm_D} {σ : mm_S} {T : mm_T} {x0 m0 o d sb L i : Nat} {ns : Nat → Nat} {ls : Array Slot}
    (F : mm_F p l s m args meth c b D RL cL_law 9) (hXs : va_X sb L (fun j => nI (ns j)) s s.heap) (hbl : sb < s.heap.size) (hbb : sb < b) (hL : L ≤ 2560) (hns : ∀ j, ns j < 2 ^ 32) (hi : i + 5 ≤ L) (hN : mm_N b D s σ H locs) (hV : mm_V σ T x0 m0 o d) (hl : lv_has ls 9 (mm_lc i d o m0 x0 sb)) (hc : cells + 103 ≤ 603072) (hs : slots + 9037 ≤ 7215210)
    (kk : ∀ (T2 : mm_T) (σ2 : mm_S) (ls : Array Slot) (H : Heap) (locs : List Loc), mm_V σ2 T2 x0 m0 o d → mm_N b D s σ2 H locs → lv_has ls 9 (mm_lc i d o m0 x0 sb) → W p l e room_1 s m args below meth c H locs (cells + 103) (slots + 9037) Q (F0 m 2217 ls []))
    : W p l e room_1 s m args below meth c H locs cells slots Q (F0 m 810 ls []) := by
  obtain ⟨⟨z, ad, hX, rfl⟩, ⟨th, rd, hM, rfl⟩, ⟨go, ho⟩, ⟨gd, hd⟩, hod, hW⟩ := hV
  have hl : lv_has ls 9 [(5, .int (nI i)), (4, .ref d), (3, .ref o), (2, .ref ((rd 0 0))), (1, .ref ((ad 0 0 0))), (0, .ref sb)] := hl
  refine lv_aload_n (pc := 810) F.1 F.2.1 dL_law_810 rfl (lv_at hl 4 rfl) ?_
  refine lv_aload_n (pc := 811) F.1 F.2.1 dL_law_811 rfl (lv_at hl 2 rfl) ?_
  refine mm_runSX (pc := 812) (As := [.ref ((ad 0 0 0)), .ref o]) (rest := []) F hN (w_addTemplate l b D F.2.2.2.2.2.2.2.1 T z ad σ hX hW o go ho) mw_564 mw_565 mw_0 mw_566 ⟨pmL_addTemplate, (Nat.le_of_ble_eq_true rfl), (Nat.le_of_ble_eq_true rfl)⟩ hl.1 rfl (Nat.le_of_ble_eq_true rfl) ⟨by show cells + 8 ≤ 603072; omega, by show slots + 300 ≤ 7215210; omega⟩ dL_law_812
    (fun _ _ _ _ _ _ h9 => False.elim h9) (fun v9 σ1 H locs hp9 hN => ?_)
  obtain ⟨rfl, z1, ad1, g1, hX1, hx1, hw1, hg1, hfr1⟩ := hp9
  refine W.eq (g2 := F0 m 815 ls [.int (nI (mm_q_addTemplate T))]) rfl ?_
  refine W.widen (k := cells + 8) (n := slots + 300) (Nat.le_refl _) (Nat.le_refl _) ?_
  have hM1 : mm_M σ1 T th rd := mm_M_kept1 hM (fun a9 e9 he => hfr1 a9 1 e9 (by decide) (fun q9 => by rw [q9, ho] at he; cases he) he)
  have hd1 : σ1 d = mm_ard 2 2 1 gd := hfr1 d 2 _ (by decide) (Ne.symm hod) hd
  have hq4 : mm_q_addTemplate T < 4 := mm_q_addTemplate_lt
  have hW2 : mm_WF (if mm_q_addTemplate T = 0 then (mm_t_addTemplate T) else T) := mm_wf_addTemplate hW
  refine lv_istore (pc := 815) (lv' := [(6, .int (nI (mm_q_addTemplate T))), (5, .int (nI i)), (4, .ref d), (3, .ref o), (2, .ref ((rd 0 0))), (1, .ref ((ad 0 0 0))), (0, .ref sb)]) F.1 F.2.1 dL_law_815 hl (by decide) rfl (fun ls hl => ?_)
  refine lv_aload_n (pc := 817) F.1 F.2.1 dL_law_817 rfl (lv_at hl 4 rfl) ?_
  refine mm_runV (pc := 818) (As := []) (rest := []) F hN (r_addTemplate l b D F.2.2.2.2.2.2.2.1 T th rd σ1 hM1 hW) mw_1315 mw_1316 mw_1317 mw_6 mw_1318 ⟨pmX7_addTemplate, (Nat.le_of_ble_eq_true rfl), (Nat.le_of_ble_eq_true rfl)⟩ (mm_recv F.2.2.2.2.2.1 hN (mm_r0 hM1) rfl) hl.1 rfl (Nat.le_of_ble_eq_true rfl) ⟨by show (cells + 8) + 0 ≤ 603072; omega, by show (slots + 300) + 0 ≤ 7215210; omega⟩ dL_law_818
    (fun _ _ _ _ _ _ h9 => False.elim h9)
    (fun v9 σ2 H locs hp9 hN => ?_)
  obtain ⟨i9, rfl, hi9, hM2, hF2⟩ := mm_Mt.out hp9
  obtain hq9 := hp9
  refine W.eq (g2 := F0 m 821 ls [.int i9]) rfl ?_
  refine W.widen (k := cells + 8) (n := slots + 300) (Nat.le_refl _) (Nat.le_refl _) ?_
  refine lv_istore (pc := 821) (lv' := [(7, .int i9), (6, .int (nI (mm_q_addTemplate T))), (5, .int (nI i)), (4, .ref d), (3, .ref o), (2, .ref ((rd 0 0))), (1, .ref ((ad 0 0 0))), (0, .ref sb)]) F.1 F.2.1 dL_law_821 hl (by decide) rfl (fun ls hl => ?_)
  refine lv_aload_n (pc := 823) F.1 F.2.1 dL_law_823 rfl (lv_at hl 5 rfl) ?_
  refine mm_runV (pc := 824) (As := []) (rest := []) F hN (r_thrown l b D F.2.2.2.2.2.2.2.1 (if mm_q_addTemplate T = 0 then (mm_t_addTemplate T) else T) (mm_q_addTemplate T) rd σ2 hM2 hW2) mw_1260 mw_1261 mw_1262 mw_6 mw_1263 ⟨pmX7_thrown, (Nat.le_of_ble_eq_true rfl), (Nat.le_of_ble_eq_true rfl)⟩ (mm_recv F.2.2.2.2.2.1 hN (mm_r0 hM2) rfl) hl.1 rfl (Nat.le_of_ble_eq_true rfl) ⟨by show (cells + 8) + 0 ≤ 603072; omega, by show (slots + 300) + 0 ≤ 7215210; omega⟩ dL_law_824
    (fun _ _ _ _ _ _ h9 => False.elim h9)
    (fun v9 σ9 H locs hp9 hN => ?_)
  obtain ⟨rfl, h9⟩ := hp9
  rw [h9] at hN
  refine W.eq (g2 := F0 m 827 ls [.int (nI (mm_q_addTemplate T))]) rfl ?_
  refine W.widen (k := cells + 8) (n := slots + 300) (Nat.le_refl _) (Nat.le_refl _) ?_
  refine lv_iload (pc := 827) F.1 F.2.1 dL_law_827 (lv_at hl 1 rfl) ?_
  refine mm_icmp_eqB (pc := 829) F (x := mm_q_addTemplate T) (y := mm_q_addTemplate T) (tgt := 834) (by omega) (by omega) dL_law_829 (by decide) (fun cz829 => ?_) (fun cz829 => ?_)
  ·
    refine lv_iload (pc := 834) F.1 F.2.1 dL_law_834 (lv_at hl 1 rfl) ?_
    refine mm_if_neB (pc := 836) F (tgt := 851) (by omega) dL_law_836 (by decide) (fun cz836 => ?_) (fun cz836 => ?_)
    ·
      refine lv_goto (pc := 851) (tgt := 2217) F.1 F.2.1 dL_law_851 (by decide) ?_
      exact W.widen (by omega) (by omega) (kk _ _ ls H locs ⟨⟨z1, ad1, mm_X_kept hX1 (fun a9 e9 he => hF2 a9 0 e9 (by decide) he), hx1⟩, ⟨_, rd, hM2, rfl⟩, ⟨g1, hF2 o 2 _ (by decide) hw1⟩, ⟨gd, hF2 d 2 _ (by decide) hd1⟩, hod, hW2⟩ hN (lv_sub hl [2, 3, 4, 5, 6, 7] rfl))
    ·
      refine lv_aload_n (pc := 839) F.1 F.2.1 dL_law_839 rfl (lv_at hl 4 rfl) ?_
      refine lv_iconst (pc := 840) (v := nI 0) F.1 F.2.1 dL_law_840 (by decide) ?_
      refine mm_lald (pc := 841) F hN (hF2 o 2 _ (by decide) hw1) (j := 0) rfl (by decide) (by decide) dL_law_841 ?_
      refine lv_iload (pc := 842) F.1 F.2.1 dL_law_842 (lv_at hl 0 rfl) ?_
      refine lv_i2l (pc := 844) (v := (i9).toInt64) F.1 F.2.1 dL_law_844 (rfl) ?_
      refine W.eq (g2 := F0 m 845 ls [.long ((nI (T.nT)).toInt64), .long ((nI (T.nT)).toInt64)]) (by rw [hg1 cz836, hi9 cz836]) ?_
      refine mm_lcmpE (pc := 845) F.1 F.2.1 dL_law_845 ?_
      refine mm_if_eq (pc := 846) F (tgt := 851) (by omega) dL_law_846 (by decide) (fun cz846 => ?_) (fun h9 => absurd h9 (by decide))
      refine lv_goto (pc := 851) (tgt := 2217) F.1 F.2.1 dL_law_851 (by decide) ?_
      exact W.widen (by omega) (by omega) (kk _ _ ls H locs ⟨⟨z1, ad1, mm_X_kept hX1 (fun a9 e9 he => hF2 a9 0 e9 (by decide) he), hx1⟩, ⟨_, rd, hM2, rfl⟩, ⟨g1, hF2 o 2 _ (by decide) hw1⟩, ⟨gd, hF2 d 2 _ (by decide) hd1⟩, hod, hW2⟩ hN (lv_sub hl [2, 3, 4, 5, 6, 7] rfl))
  ·
    exact absurd rfl cz829

set_option maxHeartbeats 4000000 in
set_option maxRecDepth 100000 in
theorem law_11 {p : Program} {l : Launch} {e : Env} {s : State} {m : MethodId} {args : Array Value} {below : List Frame} {meth : Method} {c : Code} {H : Heap} {locs : List Loc} {cells slots : Nat} {Q : State → Prop} {b : Nat} {D : mm_D} {σ : mm_S} {T : mm_T} {x0 m0 o d sb L i : Nat} {ns : Nat → Nat} {ls : Array Slot}
    (F : mm_F p l s m args meth c b D RL cL_law 9) (hXs : va_X sb L (fun j => nI (ns j)) s s.heap) (hbl : sb < s.heap.size) (hbb : sb < b) (hL : L ≤ 2560) (hns : ∀ j, ns j < 2 ^ 32) (hi : i + 5 ≤ L) (hN : mm_N b D s σ H locs) (hV : mm_V σ T x0 m0 o d) (hl : lv_has ls 9 (mm_lc i d o m0 x0 sb)) (hc : cells + 103 ≤ 603072) (hs : slots + 9037 ≤ 7215210)
    (kk : ∀ (T2 : mm_T) (σ2 : mm_S) (ls : Array Slot) (H : Heap) (locs : List Loc), mm_V σ2 T2 x0 m0 o d → mm_N b D s σ2 H locs → lv_has ls 9 (mm_lc i d o m0 x0 sb) → W p l e room_1 s m args below meth c H locs (cells + 103) (slots + 9037) Q (F0 m 2217 ls []))
    : W p l e room_1 s m args below meth c H locs cells slots Q (F0 m 854 ls []) := by
  obtain ⟨⟨z, ad, hX, rfl⟩, ⟨th, rd, hM, rfl⟩, ⟨go, ho⟩, ⟨gd, hd⟩, hod, hW⟩ := hV
  have hl : lv_has ls 9 [(5, .int (nI i)), (4, .ref d), (3, .ref o), (2, .ref ((rd 0 0))), (1, .ref ((ad 0 0 0))), (0, .ref sb)] := hl
  refine lv_aload_n (pc := 854) F.1 F.2.1 dL_law_854 rfl (lv_at hl 4 rfl) ?_
  refine lv_aload_n (pc := 855) F.1 F.2.1 dL_law_855 rfl (lv_at hl 5 rfl) ?_
  refine lv_iload (pc := 856) F.1 F.2.1 dL_law_856 (lv_at hl 0 rfl) ?_
  refine lv_iconst (pc := 858) (v := nI 1) F.1 F.2.1 dL_law_858 (by decide) ?_
  refine mm_iadd (pc := 859) F (z := nI (i + 1)) (nI_add _ _) dL_law_859 ?_
  refine mm_sld (pc := 860) F hN hXs hbl hbb (j := i + 1) rfl (by omega) hL dL_law_860 ?_
  refine lv_aload_n (pc := 861) F.1 F.2.1 dL_law_861 rfl (lv_at hl 5 rfl) ?_
  refine lv_iload (pc := 862) F.1 F.2.1 dL_law_862 (lv_at hl 0 rfl) ?_
  refine lv_iconst (pc := 864) (v := nI 2) F.1 F.2.1 dL_law_864 (by decide) ?_
  refine mm_iadd (pc := 865) F (z := nI (i + 2)) (nI_add _ _) dL_law_865 ?_
  refine mm_sld (pc := 866) F hN hXs hbl hbb (j := i + 2) rfl (by omega) hL dL_law_866 ?_
  refine lv_aload_n (pc := 867) F.1 F.2.1 dL_law_867 rfl (lv_at hl 5 rfl) ?_
  refine lv_iload (pc := 868) F.1 F.2.1 dL_law_868 (lv_at hl 0 rfl) ?_
  refine lv_iconst (pc := 870) (v := nI 3) F.1 F.2.1 dL_law_870 (by decide) ?_
  refine mm_iadd (pc := 871) F (z := nI (i + 3)) (nI_add _ _) dL_law_871 ?_
  refine mm_sld (pc := 872) F hN hXs hbl hbb (j := i + 3) rfl (by omega) hL dL_law_872 ?_
  refine lv_aload_n (pc := 873) F.1 F.2.1 dL_law_873 rfl (lv_at hl 5 rfl) ?_
  refine lv_iload (pc := 874) F.1 F.2.1 dL_law_874 (lv_at hl 0 rfl) ?_
  refine lv_iconst (pc := 876) (v := nI 4) F.1 F.2.1 dL_law_876 (by decide) ?_
  refine mm_iadd (pc := 877) F (z := nI (i + 4)) (nI_add _ _) dL_law_877 ?_
  refine mm_sld (pc := 878) F hN hXs hbl hbb (j := i + 4) rfl (by omega) hL dL_law_878 ?_
  refine lv_aload_n (pc := 879) F.1 F.2.1 dL_law_879 rfl (lv_at hl 2 rfl) ?_
  refine mm_runSX (pc := 880) (As := [.ref ((ad 0 0 0)), .int (nI (ns (i + 1))), .int (nI (ns (i + 2))), .int (nI (ns (i + 3))), .int (nI (ns (i + 4))), .ref o]) (rest := []) F hN (w_addPart l b D F.2.2.2.2.2.2.2.1 T z ad σ hX hW (ns (i + 1)) (hns _) (ns (i + 2)) (hns _) (ns (i + 3)) (hns _) (ns (i + 4)) (hns _) o go ho) mw_595 mw_596 mw_0 mw_597 ⟨pmL_addPart, (Nat.le_of_ble_eq_true rfl), (Nat.le_of_ble_eq_true rfl)⟩ hl.1 rfl (Nat.le_of_ble_eq_true rfl) ⟨by show cells + 6 ≤ 603072; omega, by show slots + 40 ≤ 7215210; omega⟩ dL_law_880
    (fun _ _ _ _ _ _ h9 => False.elim h9) (fun v9 σ1 H locs hp9 hN => ?_)
  obtain ⟨rfl, z1, ad1, g1, hX1, hx1, hw1, hg1, hfr1⟩ := hp9
  refine W.eq (g2 := F0 m 883 ls [.int (nI (mm_q_addPart T (ns (i + 1)) (ns (i + 2)) (ns (i + 3)) (ns (i + 4))))]) rfl ?_
  refine W.widen (k := cells + 6) (n := slots + 40) (Nat.le_refl _) (Nat.le_refl _) ?_
  have hM1 : mm_M σ1 T th rd := mm_M_kept1 hM (fun a9 e9 he => hfr1 a9 1 e9 (by decide) (fun q9 => by rw [q9, ho] at he; cases he) he)
  have hd1 : σ1 d = mm_ard 2 2 1 gd := hfr1 d 2 _ (by decide) (Ne.symm hod) hd
  have hq4 : mm_q_addPart T (ns (i + 1)) (ns (i + 2)) (ns (i + 3)) (ns (i + 4)) < 4 := mm_q_addPart_lt
  have hW2 : mm_WF (if mm_q_addPart T (ns (i + 1)) (ns (i + 2)) (ns (i + 3)) (ns (i + 4)) = 0 then (mm_t_addPart T (ns (i + 1)) (ns (i + 2)) (ns (i + 3)) (ns (i + 4))) else T) := mm_wf_addPart hW (ns (i + 1)) (hns _) (ns (i + 2)) (hns _) (ns (i + 3)) (hns _) (ns (i + 4)) (hns _)
  refine lv_istore (pc := 883) (lv' := [(6, .int (nI (mm_q_addPart T (ns (i + 1)) (ns (i + 2)) (ns (i + 3)) (ns (i + 4))))), (5, .int (nI i)), (4, .ref d), (3, .ref o), (2, .ref ((rd 0 0))), (1, .ref ((ad 0 0 0))), (0, .ref sb)]) F.1 F.2.1 dL_law_883 hl (by decide) rfl (fun ls hl => ?_)
  refine lv_aload_n (pc := 885) F.1 F.2.1 dL_law_885 rfl (lv_at hl 4 rfl) ?_
  refine lv_aload_n (pc := 886) F.1 F.2.1 dL_law_886 rfl (lv_at hl 6 rfl) ?_
  refine lv_iload (pc := 887) F.1 F.2.1 dL_law_887 (lv_at hl 1 rfl) ?_
  refine lv_iconst (pc := 889) (v := nI 1) F.1 F.2.1 dL_law_889 (by decide) ?_
  refine mm_iadd (pc := 890) F (z := nI (i + 1)) (nI_add _ _) dL_law_890 ?_
  refine mm_sld (pc := 891) F hN hXs hbl hbb (j := i + 1) rfl (by omega) hL dL_law_891 ?_
  refine lv_aload_n (pc := 892) F.1 F.2.1 dL_law_892 rfl (lv_at hl 6 rfl) ?_
  refine lv_iload (pc := 893) F.1 F.2.1 dL_law_893 (lv_at hl 1 rfl) ?_
  refine lv_iconst (pc := 895) (v := nI 2) F.1 F.2.1 dL_law_895 (by decide) ?_
  refine mm_iadd (pc := 896) F (z := nI (i + 2)) (nI_add _ _) dL_law_896 ?_
  refine mm_sld (pc := 897) F hN hXs hbl hbb (j := i + 2) rfl (by omega) hL dL_law_897 ?_
  refine lv_aload_n (pc := 898) F.1 F.2.1 dL_law_898 rfl (lv_at hl 6 rfl) ?_
  refine lv_iload (pc := 899) F.1 F.2.1 dL_law_899 (lv_at hl 1 rfl) ?_
  refine lv_iconst (pc := 901) (v := nI 3) F.1 F.2.1 dL_law_901 (by decide) ?_
  refine mm_iadd (pc := 902) F (z := nI (i + 3)) (nI_add _ _) dL_law_902 ?_
  refine mm_sld (pc := 903) F hN hXs hbl hbb (j := i + 3) rfl (by omega) hL dL_law_903 ?_
  refine lv_aload_n (pc := 904) F.1 F.2.1 dL_law_904 rfl (lv_at hl 6 rfl) ?_
  refine lv_iload (pc := 905) F.1 F.2.1 dL_law_905 (lv_at hl 1 rfl) ?_
  refine lv_iconst (pc := 907) (v := nI 4) F.1 F.2.1 dL_law_907 (by decide) ?_
  refine mm_iadd (pc := 908) F (z := nI (i + 4)) (nI_add _ _) dL_law_908 ?_
  refine mm_sld (pc := 909) F hN hXs hbl hbb (j := i + 4) rfl (by omega) hL dL_law_909 ?_
  refine mm_runV (pc := 910) (As := [.int (nI (ns (i + 1))), .int (nI (ns (i + 2))), .int (nI (ns (i + 3))), .int (nI (ns (i + 4)))]) (rest := []) F hN (r_addPart l b D F.2.2.2.2.2.2.2.1 T th rd σ1 hM1 hW (ns (i + 1)) (hns _) (ns (i + 2)) (hns _) (ns (i + 3)) (hns _) (ns (i + 4)) (hns _)) mw_1319 mw_1320 mw_1321 mw_6 mw_1322 ⟨pmX7_addPart, (Nat.le_of_ble_eq_true rfl), (Nat.le_of_ble_eq_true rfl)⟩ (mm_recv F.2.2.2.2.2.1 hN (mm_r0 hM1) rfl) hl.1 rfl (Nat.le_of_ble_eq_true rfl) ⟨by show (cells + 6) + 0 ≤ 603072; omega, by show (slots + 40) + 0 ≤ 7215210; omega⟩ dL_law_910
    (fun _ _ _ _ _ _ h9 => False.elim h9)
    (fun v9 σ2 H locs hp9 hN => ?_)
  obtain ⟨i9, rfl, hi9, hM2, hF2⟩ := mm_Mt.out hp9
  obtain hq9 := hp9
  refine W.eq (g2 := F0 m 913 ls [.int i9]) rfl ?_
  refine W.widen (k := cells + 6) (n := slots + 40) (Nat.le_refl _) (Nat.le_refl _) ?_
  refine lv_istore (pc := 913) (lv' := [(7, .int i9), (6, .int (nI (mm_q_addPart T (ns (i + 1)) (ns (i + 2)) (ns (i + 3)) (ns (i + 4))))), (5, .int (nI i)), (4, .ref d), (3, .ref o), (2, .ref ((rd 0 0))), (1, .ref ((ad 0 0 0))), (0, .ref sb)]) F.1 F.2.1 dL_law_913 hl (by decide) rfl (fun ls hl => ?_)
  refine lv_aload_n (pc := 915) F.1 F.2.1 dL_law_915 rfl (lv_at hl 5 rfl) ?_
  refine mm_runV (pc := 916) (As := []) (rest := []) F hN (r_thrown l b D F.2.2.2.2.2.2.2.1 (if mm_q_addPart T (ns (i + 1)) (ns (i + 2)) (ns (i + 3)) (ns (i + 4)) = 0 then (mm_t_addPart T (ns (i + 1)) (ns (i + 2)) (ns (i + 3)) (ns (i + 4))) else T) (mm_q_addPart T (ns (i + 1)) (ns (i + 2)) (ns (i + 3)) (ns (i + 4))) rd σ2 hM2 hW2) mw_1260 mw_1261 mw_1262 mw_6 mw_1263 ⟨pmX7_thrown, (Nat.le_of_ble_eq_true rfl), (Nat.le_of_ble_eq_true rfl)⟩ (mm_recv F.2.2.2.2.2.1 hN (mm_r0 hM2) rfl) hl.1 rfl (Nat.le_of_ble_eq_true rfl) ⟨by show (cells + 6) + 0 ≤ 603072; omega, by show (slots + 40) + 0 ≤ 7215210; omega⟩ dL_law_916
    (fun _ _ _ _ _ _ h9 => False.elim h9)
    (fun v9 σ9 H locs hp9 hN => ?_)
  obtain ⟨rfl, h9⟩ := hp9
  rw [h9] at hN
  refine W.eq (g2 := F0 m 919 ls [.int (nI (mm_q_addPart T (ns (i + 1)) (ns (i + 2)) (ns (i + 3)) (ns (i + 4))))]) rfl ?_
  refine W.widen (k := cells + 6) (n := slots + 40) (Nat.le_refl _) (Nat.le_refl _) ?_
  refine lv_iload (pc := 919) F.1 F.2.1 dL_law_919 (lv_at hl 1 rfl) ?_
  refine mm_icmp_eqB (pc := 921) F (x := mm_q_addPart T (ns (i + 1)) (ns (i + 2)) (ns (i + 3)) (ns (i + 4))) (y := mm_q_addPart T (ns (i + 1)) (ns (i + 2)) (ns (i + 3)) (ns (i + 4))) (tgt := 926) (by omega) (by omega) dL_law_921 (by decide) (fun cz921 => ?_) (fun cz921 => ?_)
  ·
    refine lv_iload (pc := 926) F.1 F.2.1 dL_law_926 (lv_at hl 1 rfl) ?_
    refine mm_if_neB (pc := 928) F (tgt := 943) (by omega) dL_law_928 (by decide) (fun cz928 => ?_) (fun cz928 => ?_)
    ·
      refine lv_goto (pc := 943) (tgt := 2217) F.1 F.2.1 dL_law_943 (by decide) ?_
      exact W.widen (by omega) (by omega) (kk _ _ ls H locs ⟨⟨z1, ad1, mm_X_kept hX1 (fun a9 e9 he => hF2 a9 0 e9 (by decide) he), hx1⟩, ⟨_, rd, hM2, rfl⟩, ⟨g1, hF2 o 2 _ (by decide) hw1⟩, ⟨gd, hF2 d 2 _ (by decide) hd1⟩, hod, hW2⟩ hN (lv_sub hl [2, 3, 4, 5, 6, 7] rfl))
    ·
      refine lv_aload_n (pc := 931) F.1 F.2.1 dL_law_931 rfl (lv_at hl 4 rfl) ?_
      refine lv_iconst (pc := 932) (v := nI 0) F.1 F.2.1 dL_law_932 (by decide) ?_
      refine mm_lald (pc := 933) F hN (hF2 o 2 _ (by decide) hw1) (j := 0) rfl (by decide) (by decide) dL_law_933 ?_
      refine lv_iload (pc := 934) F.1 F.2.1 dL_law_934 (lv_at hl 0 rfl) ?_
      refine lv_i2l (pc := 936) (v := (i9).toInt64) F.1 F.2.1 dL_law_936 (rfl) ?_
      refine W.eq (g2 := F0 m 937 ls [.long ((nI (T.pc (ns (i + 1)) + 1)).toInt64), .long ((nI (T.pc (ns (i + 1)) + 1)).toInt64)]) (by rw [hg1 cz928, hi9 cz928]) ?_
      refine mm_lcmpE (pc := 937) F.1 F.2.1 dL_law_937 ?_
      refine mm_if_eq (pc := 938) F (tgt := 943) (by omega) dL_law_938 (by decide) (fun cz938 => ?_) (fun h9 => absurd h9 (by decide))
      refine lv_goto (pc := 943) (tgt := 2217) F.1 F.2.1 dL_law_943 (by decide) ?_
      exact W.widen (by omega) (by omega) (kk _ _ ls H locs ⟨⟨z1, ad1, mm_X_kept hX1 (fun a9 e9 he => hF2 a9 0 e9 (by decide) he), hx1⟩, ⟨_, rd, hM2, rfl⟩, ⟨g1, hF2 o 2 _ (by decide) hw1⟩, ⟨gd, hF2 d 2 _ (by decide) hd1⟩, hod, hW2⟩ hN (lv_sub hl [2, 3, 4, 5, 6, 7] rfl))
  ·
    exact absurd rfl cz921

set_option maxHeartbeats 4000000 in
set_option maxRecDepth 100000 in
theorem law_12 {p : Program} {l : Launch} {e : Env} {s : State} {m : MethodId} {args : Array Value} {below : List Frame} {meth : Method} {c : Code} {H : Heap} {locs : List Loc} {cells slots : Nat} {Q : State → Prop} {b : Nat} {D : mm_D} {σ : mm_S} {T : mm_T} {x0 m0 o d sb L i : Nat} {ns : Nat → Nat} {ls : Array Slot}
    (F : mm_F p l s m args meth c b D RL cL_law 9) (hXs : va_X sb L (fun j => nI (ns j)) s s.heap) (hbl : sb < s.heap.size) (hbb : sb < b) (hL : L ≤ 2560) (hns : ∀ j, ns j < 2 ^ 32) (hi : i + 5 ≤ L) (hN : mm_N b D s σ H locs) (hV : mm_V σ T x0 m0 o d) (hl : lv_has ls 9 (mm_lc i d o m0 x0 sb)) (hc : cells + 103 ≤ 603072) (hs : slots + 9037 ≤ 7215210)
    (kk : ∀ (T2 : mm_T) (σ2 : mm_S) (ls : Array Slot) (H : Heap) (locs : List Loc), mm_V σ2 T2 x0 m0 o d → mm_N b D s σ2 H locs → lv_has ls 9 (mm_lc i d o m0 x0 sb) → W p l e room_1 s m args below meth c H locs (cells + 103) (slots + 9037) Q (F0 m 2217 ls []))
    : W p l e room_1 s m args below meth c H locs cells slots Q (F0 m 946 ls []) := by
  obtain ⟨⟨z, ad, hX, rfl⟩, ⟨th, rd, hM, rfl⟩, ⟨go, ho⟩, ⟨gd, hd⟩, hod, hW⟩ := hV
  have hl : lv_has ls 9 [(5, .int (nI i)), (4, .ref d), (3, .ref o), (2, .ref ((rd 0 0))), (1, .ref ((ad 0 0 0))), (0, .ref sb)] := hl
  refine lv_aload_n (pc := 946) F.1 F.2.1 dL_law_946 rfl (lv_at hl 4 rfl) ?_
  refine lv_aload_n (pc := 947) F.1 F.2.1 dL_law_947 rfl (lv_at hl 5 rfl) ?_
  refine lv_iload (pc := 948) F.1 F.2.1 dL_law_948 (lv_at hl 0 rfl) ?_
  refine lv_iconst (pc := 950) (v := nI 1) F.1 F.2.1 dL_law_950 (by decide) ?_
  refine mm_iadd (pc := 951) F (z := nI (i + 1)) (nI_add _ _) dL_law_951 ?_
  refine mm_sld (pc := 952) F hN hXs hbl hbb (j := i + 1) rfl (by omega) hL dL_law_952 ?_
  refine lv_aload_n (pc := 953) F.1 F.2.1 dL_law_953 rfl (lv_at hl 5 rfl) ?_
  refine lv_iload (pc := 954) F.1 F.2.1 dL_law_954 (lv_at hl 0 rfl) ?_
  refine lv_iconst (pc := 956) (v := nI 2) F.1 F.2.1 dL_law_956 (by decide) ?_
  refine mm_iadd (pc := 957) F (z := nI (i + 2)) (nI_add _ _) dL_law_957 ?_
  refine mm_sld (pc := 958) F hN hXs hbl hbb (j := i + 2) rfl (by omega) hL dL_law_958 ?_
  refine lv_aload_n (pc := 959) F.1 F.2.1 dL_law_959 rfl (lv_at hl 2 rfl) ?_
  refine mm_runSX (pc := 960) (As := [.ref ((ad 0 0 0)), .int (nI (ns (i + 1))), .int (nI (ns (i + 2))), .ref o]) (rest := []) F hN (w_pagesFor l b D F.2.2.2.2.2.2.2.1 T z ad σ hX hW (ns (i + 1)) (hns _) (ns (i + 2)) (hns _) o go ho) mw_617 mw_618 mw_0 mw_619 ⟨pmL_pagesFor, (Nat.le_of_ble_eq_true rfl), (Nat.le_of_ble_eq_true rfl)⟩ hl.1 rfl (Nat.le_of_ble_eq_true rfl) ⟨by show cells + 6 ≤ 603072; omega, by show slots + 40 ≤ 7215210; omega⟩ dL_law_960
    (fun _ _ _ _ _ _ h9 => False.elim h9) (fun v9 σ1 H locs hp9 hN => ?_)
  obtain ⟨rfl, z1, ad1, g1, hX1, hx1, hw1, hg1, hfr1⟩ := hp9
  refine W.eq (g2 := F0 m 963 ls [.int (nI (mm_q_pagesFor T (ns (i + 1)) (ns (i + 2))))]) rfl ?_
  refine W.widen (k := cells + 6) (n := slots + 40) (Nat.le_refl _) (Nat.le_refl _) ?_
  have hM1 : mm_M σ1 T th rd := mm_M_kept1 hM (fun a9 e9 he => hfr1 a9 1 e9 (by decide) (fun q9 => by rw [q9, ho] at he; cases he) he)
  have hd1 : σ1 d = mm_ard 2 2 1 gd := hfr1 d 2 _ (by decide) (Ne.symm hod) hd
  have hq4 : mm_q_pagesFor T (ns (i + 1)) (ns (i + 2)) < 4 := mm_q_pagesFor_lt
  have hW2 : mm_WF (if mm_q_pagesFor T (ns (i + 1)) (ns (i + 2)) = 0 then (T) else T) := by split <;> exact hW
  refine lv_istore (pc := 963) (lv' := [(6, .int (nI (mm_q_pagesFor T (ns (i + 1)) (ns (i + 2))))), (5, .int (nI i)), (4, .ref d), (3, .ref o), (2, .ref ((rd 0 0))), (1, .ref ((ad 0 0 0))), (0, .ref sb)]) F.1 F.2.1 dL_law_963 hl (by decide) rfl (fun ls hl => ?_)
  refine lv_aload_n (pc := 965) F.1 F.2.1 dL_law_965 rfl (lv_at hl 4 rfl) ?_
  refine lv_aload_n (pc := 966) F.1 F.2.1 dL_law_966 rfl (lv_at hl 6 rfl) ?_
  refine lv_iload (pc := 967) F.1 F.2.1 dL_law_967 (lv_at hl 1 rfl) ?_
  refine lv_iconst (pc := 969) (v := nI 1) F.1 F.2.1 dL_law_969 (by decide) ?_
  refine mm_iadd (pc := 970) F (z := nI (i + 1)) (nI_add _ _) dL_law_970 ?_
  refine mm_sld (pc := 971) F hN hXs hbl hbb (j := i + 1) rfl (by omega) hL dL_law_971 ?_
  refine lv_aload_n (pc := 972) F.1 F.2.1 dL_law_972 rfl (lv_at hl 6 rfl) ?_
  refine lv_iload (pc := 973) F.1 F.2.1 dL_law_973 (lv_at hl 1 rfl) ?_
  refine lv_iconst (pc := 975) (v := nI 2) F.1 F.2.1 dL_law_975 (by decide) ?_
  refine mm_iadd (pc := 976) F (z := nI (i + 2)) (nI_add _ _) dL_law_976 ?_
  refine mm_sld (pc := 977) F hN hXs hbl hbb (j := i + 2) rfl (by omega) hL dL_law_977 ?_
  refine mm_runV (pc := 978) (As := [.int (nI (ns (i + 1))), .int (nI (ns (i + 2)))]) (rest := []) F hN (r_pagesFor l b D F.2.2.2.2.2.2.2.1 T th rd σ1 hM1 hW (ns (i + 1)) (hns _) (ns (i + 2)) (hns _)) mw_1327 mw_1328 mw_1329 mw_6 mw_1330 ⟨pmX7_pagesFor, (Nat.le_of_ble_eq_true rfl), (Nat.le_of_ble_eq_true rfl)⟩ (mm_recv F.2.2.2.2.2.1 hN (mm_r0 hM1) rfl) hl.1 rfl (Nat.le_of_ble_eq_true rfl) ⟨by show (cells + 6) + 0 ≤ 603072; omega, by show (slots + 40) + 0 ≤ 7215210; omega⟩ dL_law_978
    (fun _ _ _ _ _ _ h9 => False.elim h9)
    (fun v9 σ2 H locs hp9 hN => ?_)
  obtain ⟨i9, rfl, hi9, hM2, hF2⟩ := mm_Mt.out hp9
  obtain hq9 := hp9
  refine W.eq (g2 := F0 m 981 ls [.int i9]) rfl ?_
  refine W.widen (k := cells + 6) (n := slots + 40) (Nat.le_refl _) (Nat.le_refl _) ?_
  refine lv_istore (pc := 981) (lv' := [(7, .int i9), (6, .int (nI (mm_q_pagesFor T (ns (i + 1)) (ns (i + 2))))), (5, .int (nI i)), (4, .ref d), (3, .ref o), (2, .ref ((rd 0 0))), (1, .ref ((ad 0 0 0))), (0, .ref sb)]) F.1 F.2.1 dL_law_981 hl (by decide) rfl (fun ls hl => ?_)
  refine lv_aload_n (pc := 983) F.1 F.2.1 dL_law_983 rfl (lv_at hl 5 rfl) ?_
  refine mm_runV (pc := 984) (As := []) (rest := []) F hN (r_thrown l b D F.2.2.2.2.2.2.2.1 (if mm_q_pagesFor T (ns (i + 1)) (ns (i + 2)) = 0 then (T) else T) (mm_q_pagesFor T (ns (i + 1)) (ns (i + 2))) rd σ2 hM2 hW2) mw_1260 mw_1261 mw_1262 mw_6 mw_1263 ⟨pmX7_thrown, (Nat.le_of_ble_eq_true rfl), (Nat.le_of_ble_eq_true rfl)⟩ (mm_recv F.2.2.2.2.2.1 hN (mm_r0 hM2) rfl) hl.1 rfl (Nat.le_of_ble_eq_true rfl) ⟨by show (cells + 6) + 0 ≤ 603072; omega, by show (slots + 40) + 0 ≤ 7215210; omega⟩ dL_law_984
    (fun _ _ _ _ _ _ h9 => False.elim h9)
    (fun v9 σ9 H locs hp9 hN => ?_)
  obtain ⟨rfl, h9⟩ := hp9
  rw [h9] at hN
  refine W.eq (g2 := F0 m 987 ls [.int (nI (mm_q_pagesFor T (ns (i + 1)) (ns (i + 2))))]) rfl ?_
  refine W.widen (k := cells + 6) (n := slots + 40) (Nat.le_refl _) (Nat.le_refl _) ?_
  refine lv_iload (pc := 987) F.1 F.2.1 dL_law_987 (lv_at hl 1 rfl) ?_
  refine mm_icmp_eqB (pc := 989) F (x := mm_q_pagesFor T (ns (i + 1)) (ns (i + 2))) (y := mm_q_pagesFor T (ns (i + 1)) (ns (i + 2))) (tgt := 994) (by omega) (by omega) dL_law_989 (by decide) (fun cz989 => ?_) (fun cz989 => ?_)
  ·
    refine lv_iload (pc := 994) F.1 F.2.1 dL_law_994 (lv_at hl 1 rfl) ?_
    refine mm_if_neB (pc := 996) F (tgt := 1011) (by omega) dL_law_996 (by decide) (fun cz996 => ?_) (fun cz996 => ?_)
    ·
      refine lv_goto (pc := 1011) (tgt := 2217) F.1 F.2.1 dL_law_1011 (by decide) ?_
      exact W.widen (by omega) (by omega) (kk _ _ ls H locs ⟨⟨z1, ad1, mm_X_kept hX1 (fun a9 e9 he => hF2 a9 0 e9 (by decide) he), hx1⟩, ⟨_, rd, hM2, rfl⟩, ⟨g1, hF2 o 2 _ (by decide) hw1⟩, ⟨gd, hF2 d 2 _ (by decide) hd1⟩, hod, hW2⟩ hN (lv_sub hl [2, 3, 4, 5, 6, 7] rfl))
    ·
      refine lv_aload_n (pc := 999) F.1 F.2.1 dL_law_999 rfl (lv_at hl 4 rfl) ?_
      refine lv_iconst (pc := 1000) (v := nI 0) F.1 F.2.1 dL_law_1000 (by decide) ?_
      refine mm_lald (pc := 1001) F hN (hF2 o 2 _ (by decide) hw1) (j := 0) rfl (by decide) (by decide) dL_law_1001 ?_
      refine lv_iload (pc := 1002) F.1 F.2.1 dL_law_1002 (lv_at hl 0 rfl) ?_
      refine lv_i2l (pc := 1004) (v := (i9).toInt64) F.1 F.2.1 dL_law_1004 (rfl) ?_
      refine W.eq (g2 := F0 m 1005 ls [.long ((nI (mm_pgs T (ns (i + 1)) (ns (i + 2)))).toInt64), .long ((nI (mm_pgs T (ns (i + 1)) (ns (i + 2)))).toInt64)]) (by rw [hg1 cz996, hi9 cz996]) ?_
      refine mm_lcmpE (pc := 1005) F.1 F.2.1 dL_law_1005 ?_
      refine mm_if_eq (pc := 1006) F (tgt := 1011) (by omega) dL_law_1006 (by decide) (fun cz1006 => ?_) (fun h9 => absurd h9 (by decide))
      refine lv_goto (pc := 1011) (tgt := 2217) F.1 F.2.1 dL_law_1011 (by decide) ?_
      exact W.widen (by omega) (by omega) (kk _ _ ls H locs ⟨⟨z1, ad1, mm_X_kept hX1 (fun a9 e9 he => hF2 a9 0 e9 (by decide) he), hx1⟩, ⟨_, rd, hM2, rfl⟩, ⟨g1, hF2 o 2 _ (by decide) hw1⟩, ⟨gd, hF2 d 2 _ (by decide) hd1⟩, hod, hW2⟩ hN (lv_sub hl [2, 3, 4, 5, 6, 7] rfl))
  ·
    exact absurd rfl cz989

set_option maxHeartbeats 4000000 in
set_option maxRecDepth 100000 in
theorem law_13 {p : Program} {l : Launch} {e : Env} {s : State} {m : MethodId} {args : Array Value} {below : List Frame} {meth : Method} {c : Code} {H : Heap} {locs : List Loc} {cells slots : Nat} {Q : State → Prop} {b : Nat} {D : mm_D} {σ : mm_S} {T : mm_T} {x0 m0 o d sb L i : Nat} {ns : Nat → Nat} {ls : Array Slot}
    (F : mm_F p l s m args meth c b D RL cL_law 9) (hXs : va_X sb L (fun j => nI (ns j)) s s.heap) (hbl : sb < s.heap.size) (hbb : sb < b) (hL : L ≤ 2560) (hns : ∀ j, ns j < 2 ^ 32) (hi : i + 5 ≤ L) (hN : mm_N b D s σ H locs) (hV : mm_V σ T x0 m0 o d) (hl : lv_has ls 9 (mm_lc i d o m0 x0 sb)) (hc : cells + 103 ≤ 603072) (hs : slots + 9037 ≤ 7215210)
    (kk : ∀ (T2 : mm_T) (σ2 : mm_S) (ls : Array Slot) (H : Heap) (locs : List Loc), mm_V σ2 T2 x0 m0 o d → mm_N b D s σ2 H locs → lv_has ls 9 (mm_lc i d o m0 x0 sb) → W p l e room_1 s m args below meth c H locs (cells + 103) (slots + 9037) Q (F0 m 2217 ls []))
    : W p l e room_1 s m args below meth c H locs cells slots Q (F0 m 1014 ls []) := by
  obtain ⟨⟨z, ad, hX, rfl⟩, ⟨th, rd, hM, rfl⟩, ⟨go, ho⟩, ⟨gd, hd⟩, hod, hW⟩ := hV
  have hl : lv_has ls 9 [(5, .int (nI i)), (4, .ref d), (3, .ref o), (2, .ref ((rd 0 0))), (1, .ref ((ad 0 0 0))), (0, .ref sb)] := hl
  refine lv_aload_n (pc := 1014) F.1 F.2.1 dL_law_1014 rfl (lv_at hl 4 rfl) ?_
  refine lv_aload_n (pc := 1015) F.1 F.2.1 dL_law_1015 rfl (lv_at hl 5 rfl) ?_
  refine lv_iload (pc := 1016) F.1 F.2.1 dL_law_1016 (lv_at hl 0 rfl) ?_
  refine lv_iconst (pc := 1018) (v := nI 1) F.1 F.2.1 dL_law_1018 (by decide) ?_
  refine mm_iadd (pc := 1019) F (z := nI (i + 1)) (nI_add _ _) dL_law_1019 ?_
  refine mm_sld (pc := 1020) F hN hXs hbl hbb (j := i + 1) rfl (by omega) hL dL_law_1020 ?_
  refine lv_aload_n (pc := 1021) F.1 F.2.1 dL_law_1021 rfl (lv_at hl 2 rfl) ?_
  refine mm_runSX (pc := 1022) (As := [.ref ((ad 0 0 0)), .int (nI (ns (i + 1))), .ref o]) (rest := []) F hN (w_buyPaper l b D F.2.2.2.2.2.2.2.1 T z ad σ hX hW (ns (i + 1)) (hns _) o go ho) mw_624 mw_625 mw_0 mw_626 ⟨pmL_buyPaper, (Nat.le_of_ble_eq_true rfl), (Nat.le_of_ble_eq_true rfl)⟩ hl.1 rfl (Nat.le_of_ble_eq_true rfl) ⟨by show cells + 6 ≤ 603072; omega, by show slots + 40 ≤ 7215210; omega⟩ dL_law_1022
    (fun _ _ _ _ _ _ h9 => False.elim h9) (fun v9 σ1 H locs hp9 hN => ?_)
  obtain ⟨rfl, z1, ad1, g1, hX1, hx1, hw1, hg1, hfr1⟩ := hp9
  refine W.eq (g2 := F0 m 1025 ls [.int (nI (mm_q_buyPaper T (ns (i + 1))))]) rfl ?_
  refine W.widen (k := cells + 6) (n := slots + 40) (Nat.le_refl _) (Nat.le_refl _) ?_
  have hM1 : mm_M σ1 T th rd := mm_M_kept1 hM (fun a9 e9 he => hfr1 a9 1 e9 (by decide) (fun q9 => by rw [q9, ho] at he; cases he) he)
  have hd1 : σ1 d = mm_ard 2 2 1 gd := hfr1 d 2 _ (by decide) (Ne.symm hod) hd
  have hq4 : mm_q_buyPaper T (ns (i + 1)) < 4 := mm_q_buyPaper_lt
  have hW2 : mm_WF (if mm_q_buyPaper T (ns (i + 1)) = 0 then ((T.w 0 (mm_u2 (T 0) 4 0 (T.pa + (ns (i + 1))))).w 0 (mm_u2 (mm_u2 (T 0) 4 0 (T.pa + (ns (i + 1)))) 6 0 (T.b0 + (ns (i + 1))))) else T) := mm_wf_buyPaper hW (ns (i + 1)) (hns _)
  refine lv_istore (pc := 1025) (lv' := [(6, .int (nI (mm_q_buyPaper T (ns (i + 1))))), (5, .int (nI i)), (4, .ref d), (3, .ref o), (2, .ref ((rd 0 0))), (1, .ref ((ad 0 0 0))), (0, .ref sb)]) F.1 F.2.1 dL_law_1025 hl (by decide) rfl (fun ls hl => ?_)
  refine lv_aload_n (pc := 1027) F.1 F.2.1 dL_law_1027 rfl (lv_at hl 4 rfl) ?_
  refine lv_aload_n (pc := 1028) F.1 F.2.1 dL_law_1028 rfl (lv_at hl 6 rfl) ?_
  refine lv_iload (pc := 1029) F.1 F.2.1 dL_law_1029 (lv_at hl 1 rfl) ?_
  refine lv_iconst (pc := 1031) (v := nI 1) F.1 F.2.1 dL_law_1031 (by decide) ?_
  refine mm_iadd (pc := 1032) F (z := nI (i + 1)) (nI_add _ _) dL_law_1032 ?_
  refine mm_sld (pc := 1033) F hN hXs hbl hbb (j := i + 1) rfl (by omega) hL dL_law_1033 ?_
  refine mm_runV (pc := 1034) (As := [.int (nI (ns (i + 1)))]) (rest := []) F hN (r_buyPaper l b D F.2.2.2.2.2.2.2.1 T th rd σ1 hM1 hW (ns (i + 1)) (hns _)) mw_1339 mw_1340 mw_1341 mw_6 mw_1342 ⟨pmX7_buyPaper, (Nat.le_of_ble_eq_true rfl), (Nat.le_of_ble_eq_true rfl)⟩ (mm_recv F.2.2.2.2.2.1 hN (mm_r0 hM1) rfl) hl.1 rfl (Nat.le_of_ble_eq_true rfl) ⟨by show (cells + 6) + 0 ≤ 603072; omega, by show (slots + 40) + 0 ≤ 7215210; omega⟩ dL_law_1034
    (fun _ _ _ _ _ _ h9 => False.elim h9)
    (fun v9 σ2 H locs hp9 hN => ?_)
  obtain ⟨i9, rfl, hi9, hM2, hF2⟩ := mm_Mt.out hp9
  obtain hq9 := hp9
  refine W.eq (g2 := F0 m 1037 ls [.int i9]) rfl ?_
  refine W.widen (k := cells + 6) (n := slots + 40) (Nat.le_refl _) (Nat.le_refl _) ?_
  refine lv_istore (pc := 1037) (lv' := [(7, .int i9), (6, .int (nI (mm_q_buyPaper T (ns (i + 1))))), (5, .int (nI i)), (4, .ref d), (3, .ref o), (2, .ref ((rd 0 0))), (1, .ref ((ad 0 0 0))), (0, .ref sb)]) F.1 F.2.1 dL_law_1037 hl (by decide) rfl (fun ls hl => ?_)
  refine lv_aload_n (pc := 1039) F.1 F.2.1 dL_law_1039 rfl (lv_at hl 5 rfl) ?_
  refine mm_runV (pc := 1040) (As := []) (rest := []) F hN (r_thrown l b D F.2.2.2.2.2.2.2.1 (if mm_q_buyPaper T (ns (i + 1)) = 0 then ((T.w 0 (mm_u2 (T 0) 4 0 (T.pa + (ns (i + 1))))).w 0 (mm_u2 (mm_u2 (T 0) 4 0 (T.pa + (ns (i + 1)))) 6 0 (T.b0 + (ns (i + 1))))) else T) (mm_q_buyPaper T (ns (i + 1))) rd σ2 hM2 hW2) mw_1260 mw_1261 mw_1262 mw_6 mw_1263 ⟨pmX7_thrown, (Nat.le_of_ble_eq_true rfl), (Nat.le_of_ble_eq_true rfl)⟩ (mm_recv F.2.2.2.2.2.1 hN (mm_r0 hM2) rfl) hl.1 rfl (Nat.le_of_ble_eq_true rfl) ⟨by show (cells + 6) + 0 ≤ 603072; omega, by show (slots + 40) + 0 ≤ 7215210; omega⟩ dL_law_1040
    (fun _ _ _ _ _ _ h9 => False.elim h9)
    (fun v9 σ9 H locs hp9 hN => ?_)
  obtain ⟨rfl, h9⟩ := hp9
  rw [h9] at hN
  refine W.eq (g2 := F0 m 1043 ls [.int (nI (mm_q_buyPaper T (ns (i + 1))))]) rfl ?_
  refine W.widen (k := cells + 6) (n := slots + 40) (Nat.le_refl _) (Nat.le_refl _) ?_
  refine lv_iload (pc := 1043) F.1 F.2.1 dL_law_1043 (lv_at hl 1 rfl) ?_
  refine mm_icmp_eqB (pc := 1045) F (x := mm_q_buyPaper T (ns (i + 1))) (y := mm_q_buyPaper T (ns (i + 1))) (tgt := 1050) (by omega) (by omega) dL_law_1045 (by decide) (fun cz1045 => ?_) (fun cz1045 => ?_)
  ·
    refine lv_iload (pc := 1050) F.1 F.2.1 dL_law_1050 (lv_at hl 1 rfl) ?_
    refine mm_if_neB (pc := 1052) F (tgt := 1067) (by omega) dL_law_1052 (by decide) (fun cz1052 => ?_) (fun cz1052 => ?_)
    ·
      refine lv_goto (pc := 1067) (tgt := 2217) F.1 F.2.1 dL_law_1067 (by decide) ?_
      exact W.widen (by omega) (by omega) (kk _ _ ls H locs ⟨⟨z1, ad1, mm_X_kept hX1 (fun a9 e9 he => hF2 a9 0 e9 (by decide) he), hx1⟩, ⟨_, rd, hM2, rfl⟩, ⟨g1, hF2 o 2 _ (by decide) hw1⟩, ⟨gd, hF2 d 2 _ (by decide) hd1⟩, hod, hW2⟩ hN (lv_sub hl [2, 3, 4, 5, 6, 7] rfl))
    ·
      refine lv_aload_n (pc := 1055) F.1 F.2.1 dL_law_1055 rfl (lv_at hl 4 rfl) ?_
      refine lv_iconst (pc := 1056) (v := nI 0) F.1 F.2.1 dL_law_1056 (by decide) ?_
      refine mm_lald (pc := 1057) F hN (hF2 o 2 _ (by decide) hw1) (j := 0) rfl (by decide) (by decide) dL_law_1057 ?_
      refine lv_iload (pc := 1058) F.1 F.2.1 dL_law_1058 (lv_at hl 0 rfl) ?_
      refine lv_i2l (pc := 1060) (v := (i9).toInt64) F.1 F.2.1 dL_law_1060 (rfl) ?_
      refine W.eq (g2 := F0 m 1061 ls [.long ((nI (T.pa + (ns (i + 1)))).toInt64), .long ((nI (T.pa + (ns (i + 1)))).toInt64)]) (by rw [hg1 cz1052, hi9 cz1052]) ?_
      refine mm_lcmpE (pc := 1061) F.1 F.2.1 dL_law_1061 ?_
      refine mm_if_eq (pc := 1062) F (tgt := 1067) (by omega) dL_law_1062 (by decide) (fun cz1062 => ?_) (fun h9 => absurd h9 (by decide))
      refine lv_goto (pc := 1067) (tgt := 2217) F.1 F.2.1 dL_law_1067 (by decide) ?_
      exact W.widen (by omega) (by omega) (kk _ _ ls H locs ⟨⟨z1, ad1, mm_X_kept hX1 (fun a9 e9 he => hF2 a9 0 e9 (by decide) he), hx1⟩, ⟨_, rd, hM2, rfl⟩, ⟨g1, hF2 o 2 _ (by decide) hw1⟩, ⟨gd, hF2 d 2 _ (by decide) hd1⟩, hod, hW2⟩ hN (lv_sub hl [2, 3, 4, 5, 6, 7] rfl))
  ·
    exact absurd rfl cz1045

