/-! the law's places -/
abbrev lq_l1 (D : mm_D) (x0 nA st k kw nP ka kp kt wt : Nat) (bf : Int64) : List (Nat × Value) := [(0, .ref (D.2.1 400)), (1, .ref x0), (2, .int (nI nA)), (3, .int (nI st)), (4, .int (nI k)), (6, .int (nI kw)), (7, .int (nI nP)), (8, .int (nI ka)), (9, .int (nI kp)), (10, .int (nI kt)), (11, .int (nI wt)), (12, .long bf), (14, .int (nI 0))]
abbrev lq_l2 (D : mm_D) (x0 nA st k wt : Nat) (bf : Int64) (its : Int32) : List (Nat × Value) := [(0, .ref (D.2.1 400)), (1, .ref x0), (2, .int (nI nA)), (3, .int (nI st)), (4, .int (nI k)), (11, .int (nI wt)), (12, .long bf), (14, .int its)]
theorem lq_l2e {D : mm_D} {x0 a a' st k wt : Nat} {bf : Int64} {its : Int32} {ls : Array Slot} (h : a = a') (hl : lv_has ls 20 (lq_l2 D x0 a st k wt bf its)) : lv_has ls 20 (lq_l2 D x0 a' st k wt bf its) := h ▸ hl
theorem lq_nlt {a : Nat} (h : a < 2 ^ 31) : ¬ nI a < (-1000) := fun q => by
  rw [Int32.lt_iff_toInt_lt, nI_toInt h, show (-1000 : Int32).toInt = -1000 from by decide] at q
  omega
theorem lq_cn {P : Nat → Prop} [DecidablePred P] (n : Nat) : mm_sm (fun p => if P p then 1 else 0) n ≤ n := mm_sm1 n
theorem lq_join0 {T : mm_T} {a o2 : Nat} (h : mm_q_join T a o2 = 0) : (a < T.nA ∧ T.go a = 0) ∧ (o2 < T.nA ∧ T.go o2 = 0) ∧ ¬ a = o2 := by
  unfold mm_q_join at h
  by_cases e : (a < T.nA ∧ T.go a = 0) ∧ (o2 < T.nA ∧ T.go o2 = 0)
  · rw [if_pos e] at h
    by_cases e2 : a = o2
    · rw [if_pos e2] at h; cases h
    · exact ⟨e.1, e.2, e2⟩
  · rw [if_neg e] at h; cases h
set_option maxHeartbeats 4000000 in
set_option maxRecDepth 100000 in
theorem lc_address {p : Program} {l : Launch} {e : Env} {s : State} {m : MethodId} {args : Array Value} {below : List Frame} {meth : Method} {c : Code} {H : Heap} {locs : List Loc} {cells slots : Nat} {Q : State → Prop} {b : Nat} {D : mm_D} {σ : mm_S} {T : mm_T} {x0 st k kw ka kp kt wt : Nat} {bf : Int64} {ls : Array Slot}
    (F : mm_F p l s m args meth c b D RL cL_law 20) (hN : mm_N b D s σ H locs) (hV : lq_V σ T x0) (hW : mm_WF T) (hI : lq_I T) (hl : lv_has ls 20 (lq_l1 D x0 T.nA st k kw T.nP ka kp kt wt bf)) (hw : kw < 134217728) (ha : ka < 16) (hp : kp < 32) (ht : kt < 8) (hc : cells + 1000 ≤ 600312) (hs : slots + 15000 ≤ 7293410)
    (kk : ∀ (T2 : mm_T) (its : Int32) (σ2 : mm_S) (ls : Array Slot) (H : Heap) (locs : List Loc), lq_V σ2 T2 x0 → mm_WF T2 → lq_I T2 → (its < (-1000) → T2 = T) → mm_N b D s σ2 H locs → lv_has ls 20 (lq_l2 D x0 T2.nA st k wt bf its) → W p l e room_1 s m args below meth c H locs (cells + 1000) (slots + 15000) Q (F0 m 857 ls [])) : W p l e room_1 s m args below meth c H locs cells slots Q (F0 m 198 ls []) := by
  have hl : lv_has ls 20 [(0, .ref ((D.2.1 400))), (1, .ref x0), (2, .int (nI T.nA)), (3, .int (nI st)), (4, .int (nI k)), (6, .int (nI kw)), (7, .int (nI T.nP)), (8, .int (nI ka)), (9, .int (nI kp)), (10, .int (nI kt)), (11, .int (nI wt)), (12, .long bf), (14, .int (nI 0))] := hl
  have wnA := hW.hnA
  have wnP := hW.hnP
  have wnT := hW.hnT
  have wnR := hW.hnR
  have wpa := hW.hpa
  have wen0 := hW.hen 0
  have wen1 := hW.hen 1
  have wbo := hW.hbo
  refine lv_aload_n (pc := 198) F.1 F.2.1 dL_law_198 rfl (lv_at hl 1 rfl) ?_
  refine lv_iload (pc := 199) F.1 F.2.1 dL_law_199 (lv_at hl 5 rfl) ?_
  refine lv_bipush (pc := 201) (v := nI 40) F.1 F.2.1 dL_law_201 (by decide) ?_
  refine mm_irem (pc := 203) F (z := nI (kw % 40)) (lq_mod (by omega) (by omega) (by omega)) (lq_ne0 (by omega) (by omega)) dL_law_203 ?_
  refine mm_runSX (pc := 204) (As := [.ref x0, .int (nI (kw % 40))]) (rest := []) F hN (e_address l b D F.2.2.2.2.2.2.2.1 T x0 σ hV hW (kw % 40) (by omega)) mw_116 mw_117 mw_0 mw_118 ⟨pmL_address, (Nat.le_of_ble_eq_true rfl), (Nat.le_of_ble_eq_true rfl)⟩ hl.1 rfl (Nat.le_of_ble_eq_true rfl) ⟨by show cells + 6 ≤ 600312; omega, by show slots + 300 ≤ 7293410; omega⟩ dL_law_204
    (fun _ _ _ _ _ _ h9 => False.elim h9) (fun v9 σ1 H locs hp9 hN => ?_)
  obtain ⟨rfl, hx1⟩ := hp9
  refine W.eq (g2 := F0 m 207 ls [.int (lq_i (mm_q_addAddress T (kw % 40)) (T.nA))]) rfl ?_
  refine W.widen (k := cells + 6) (n := slots + 300) (Nat.le_refl _) (Nat.le_refl _) ?_
  have hV1 := hx1.v
  have hF1 := mm_Fr.tr mm_Fr.rf hx1.fr
  obtain ⟨T2, eT2⟩ : ∃ z9, z9 = (if mm_q_addAddress T (kw % 40) = 0 then (mm_t_addAddress T (kw % 40)) else T) := ⟨_, rfl⟩
  have hV1 : lq_V σ1 T2 x0 := by rw [eT2]; exact hx1.v
  have hW2 : mm_WF T2 := by rw [eT2]; exact mm_wf_addAddress hW (kw % 40) (by omega)
  have hI2 : lq_I T2 := by rw [eT2]; exact lq_i_addAddress hI (kw % 40)
  by_cases hq : mm_q_addAddress T (kw % 40) = 0
  ·
    have e2 : T2 = (mm_t_addAddress T (kw % 40)) := by rw [eT2, if_pos hq]
    refine W.eq (g2 := F0 m 207 ls [.int (nI ((T.nA)))]) (by rw [lq_i0 hq]) ?_
    refine lv_istore (pc := 207) (lv' := [(14, .int (nI ((T.nA)))), (0, .ref ((D.2.1 400))), (1, .ref x0), (2, .int (nI T.nA)), (3, .int (nI st)), (4, .int (nI k)), (6, .int (nI kw)), (7, .int (nI T.nP)), (8, .int (nI ka)), (9, .int (nI kp)), (10, .int (nI kt)), (11, .int (nI wt)), (12, .long bf)]) F.1 F.2.1 dL_law_207 hl (by decide) rfl (fun ls hl => ?_)
    refine lv_iload_n (pc := 209) F.1 F.2.1 dL_law_209 rfl (lv_at hl 3 rfl) ?_
    refine lv_iload (pc := 210) F.1 F.2.1 dL_law_210 (lv_at hl 0 rfl) ?_
    refine mm_if_lt (pc := 212) F (tgt := 219) (by omega) dL_law_212 (by decide) ?_
    refine lv_iconst (pc := 215) (v := nI 1) F.1 F.2.1 dL_law_215 (by decide) ?_
    refine lv_goto (pc := 216) (tgt := 220) F.1 F.2.1 dL_law_216 (by decide) ?_
    refine mm_iadd (pc := 220) F (z := nI (T.nA + 1)) (nI_add _ _) dL_law_220 ?_
    refine lv_istore_n (pc := 221) (lv' := [(2, .int (nI (T.nA + 1))), (14, .int (nI ((T.nA)))), (0, .ref ((D.2.1 400))), (1, .ref x0), (3, .int (nI st)), (4, .int (nI k)), (6, .int (nI kw)), (7, .int (nI T.nP)), (8, .int (nI ka)), (9, .int (nI kp)), (10, .int (nI kt)), (11, .int (nI wt)), (12, .long bf)]) F.1 F.2.1 dL_law_221 rfl hl (by decide) rfl (fun ls hl => ?_)
    refine lv_goto (pc := 222) (tgt := 857) F.1 F.2.1 dL_law_222 (by decide) ?_
    exact W.widen (by omega) (by omega) (kk T2 (nI ((T.nA))) σ1 ls H locs hV1 hW2 hI2 (fun h9 => absurd h9 (lq_nlt (by omega))) hN (lq_l2e ((show T.nA + 1 = T2.nA from by rw [e2]; rfl)) (lv_sub hl [2, 3, 0, 4, 5, 11, 12, 1] rfl)))
  ·
    have e2 : T2 = T := by rw [eT2, if_neg hq]
    refine W.eq (g2 := F0 m 207 ls [.int (lq_e (mm_q_addAddress T (kw % 40)))]) (by rw [lq_iz hq]) ?_
    refine lv_istore (pc := 207) (lv' := [(14, .int (lq_e (mm_q_addAddress T (kw % 40)))), (0, .ref ((D.2.1 400))), (1, .ref x0), (2, .int (nI T.nA)), (3, .int (nI st)), (4, .int (nI k)), (6, .int (nI kw)), (7, .int (nI T.nP)), (8, .int (nI ka)), (9, .int (nI kp)), (10, .int (nI kt)), (11, .int (nI wt)), (12, .long bf)]) F.1 F.2.1 dL_law_207 hl (by decide) rfl (fun ls hl => ?_)
    refine lv_iload_n (pc := 209) F.1 F.2.1 dL_law_209 rfl (lv_at hl 3 rfl) ?_
    refine lv_iload (pc := 210) F.1 F.2.1 dL_law_210 (lv_at hl 0 rfl) ?_
    refine lv_if_lt (pc := 212) (tgt := 219) F.1 F.2.1 dL_law_212 (by decide) (fun cz212 => ?_) (fun cz212 => ?_)
    ·
      refine lv_iconst (pc := 219) (v := nI 0) F.1 F.2.1 dL_law_219 (by decide) ?_
      refine mm_iadd (pc := 220) F (z := nI (T.nA + 0)) (nI_add _ _) dL_law_220 ?_
      refine lv_istore_n (pc := 221) (lv' := [(2, .int (nI (T.nA + 0))), (14, .int (lq_e (mm_q_addAddress T (kw % 40)))), (0, .ref ((D.2.1 400))), (1, .ref x0), (3, .int (nI st)), (4, .int (nI k)), (6, .int (nI kw)), (7, .int (nI T.nP)), (8, .int (nI ka)), (9, .int (nI kp)), (10, .int (nI kt)), (11, .int (nI wt)), (12, .long bf)]) F.1 F.2.1 dL_law_221 rfl hl (by decide) rfl (fun ls hl => ?_)
      refine lv_goto (pc := 222) (tgt := 857) F.1 F.2.1 dL_law_222 (by decide) ?_
      exact W.widen (by omega) (by omega) (kk T2 (lq_e (mm_q_addAddress T (kw % 40))) σ1 ls H locs hV1 hW2 hI2 (fun _ => e2) hN (lq_l2e ((show T.nA + 0 = T2.nA from by rw [e2]; rfl)) (lv_sub hl [2, 3, 0, 4, 5, 11, 12, 1] rfl)))
    ·
      exact absurd (lq_elt _) cz212

set_option maxHeartbeats 4000000 in
set_option maxRecDepth 100000 in
theorem lc_join {p : Program} {l : Launch} {e : Env} {s : State} {m : MethodId} {args : Array Value} {below : List Frame} {meth : Method} {c : Code} {H : Heap} {locs : List Loc} {cells slots : Nat} {Q : State → Prop} {b : Nat} {D : mm_D} {σ : mm_S} {T : mm_T} {x0 st k kw ka kp kt wt : Nat} {bf : Int64} {ls : Array Slot}
    (F : mm_F p l s m args meth c b D RL cL_law 20) (hN : mm_N b D s σ H locs) (hV : lq_V σ T x0) (hW : mm_WF T) (hI : lq_I T) (hl : lv_has ls 20 (lq_l1 D x0 T.nA st k kw T.nP ka kp kt wt bf)) (hw : kw < 134217728) (ha : ka < 16) (hp : kp < 32) (ht : kt < 8) (hc : cells + 1000 ≤ 600312) (hs : slots + 15000 ≤ 7293410)
    (kk : ∀ (T2 : mm_T) (its : Int32) (σ2 : mm_S) (ls : Array Slot) (H : Heap) (locs : List Loc), lq_V σ2 T2 x0 → mm_WF T2 → lq_I T2 → (its < (-1000) → T2 = T) → mm_N b D s σ2 H locs → lv_has ls 20 (lq_l2 D x0 T2.nA st k wt bf its) → W p l e room_1 s m args below meth c H locs (cells + 1000) (slots + 15000) Q (F0 m 857 ls [])) : W p l e room_1 s m args below meth c H locs cells slots Q (F0 m 231 ls []) := by
  have hl : lv_has ls 20 [(0, .ref ((D.2.1 400))), (1, .ref x0), (2, .int (nI T.nA)), (3, .int (nI st)), (4, .int (nI k)), (6, .int (nI kw)), (7, .int (nI T.nP)), (8, .int (nI ka)), (9, .int (nI kp)), (10, .int (nI kt)), (11, .int (nI wt)), (12, .long bf), (14, .int (nI 0))] := hl
  have wnA := hW.hnA
  have wnP := hW.hnP
  have wnT := hW.hnT
  have wnR := hW.hnR
  have wpa := hW.hpa
  have wen0 := hW.hen 0
  have wen1 := hW.hen 1
  have wbo := hW.hbo
  refine lv_iload (pc := 231) F.1 F.2.1 dL_law_231 (lv_at hl 5 rfl) ?_
  refine lv_bipush (pc := 233) (v := nI 7) F.1 F.2.1 dL_law_233 (by decide) ?_
  refine mm_idiv (pc := 235) F (z := nI (kw / 7)) (pk_div (by omega) (by omega) (by omega)) (by decide) dL_law_235 ?_
  refine lv_iconst (pc := 236) (v := nI 1) F.1 F.2.1 dL_law_236 (by decide) ?_
  refine lv_iload_n (pc := 237) F.1 F.2.1 dL_law_237 rfl (lv_at hl 2 rfl) ?_
  refine va_mmax (pc := 238) F.1 F.2.1 (F.2.2.1.trans hl.1.symm) F.2.2.2.1 (F.2.2.2.2.1 _ mw_1159) (F.2.2.2.2.1 _ mw_266) (F.2.2.2.2.1 _ mw_16) (F.2.2.2.2.1 _ mw_267) (Nat.le_of_ble_eq_true rfl) (Nat.le_of_ble_eq_true rfl) (by show cells ≤ 600312; omega) (by show slots ≤ 7293410; omega) dL_law_238 ?_
  refine W.eq (g2 := F0 m 241 ls [.int (nI ((max 1 T.nA))), .int (nI (kw / 7))]) (congrArg (fun z => F0 m 241 ls (.int z :: [.int (nI (kw / 7))])) (mm_max (by omega) (by omega))) ?_
  refine mm_irem (pc := 241) F (z := nI ((kw / 7) % ((max 1 T.nA)))) (lq_mod (by omega) (by omega) (by omega)) (lq_ne0 (by omega) (by omega)) dL_law_241 ?_
  obtain ⟨ko, eko⟩ : ∃ z9, z9 = ((kw / 7) % ((max 1 T.nA))) := ⟨_, rfl⟩
  refine W.eq (g2 := F0 m 242 ls [.int (nI ko)]) (by rw [eko]) ?_
  have hko : ko < 134217728 := by rw [eko]; exact Nat.lt_of_le_of_lt (Nat.mod_le _ _) (by omega)
  by_cases hj : mm_q_join T ka ko = 0
  ·
    obtain ⟨⟨j1, j2⟩, ⟨j3, j4⟩, j5⟩ := lq_join0 hj
    refine lv_istore (pc := 242) (lv' := [(16, .int (nI ko)), (0, .ref ((D.2.1 400))), (1, .ref x0), (2, .int (nI T.nA)), (3, .int (nI st)), (4, .int (nI k)), (6, .int (nI kw)), (7, .int (nI T.nP)), (8, .int (nI ka)), (9, .int (nI kp)), (10, .int (nI kt)), (11, .int (nI wt)), (12, .long bf), (14, .int (nI 0))]) F.1 F.2.1 dL_law_242 hl (by decide) rfl (fun ls hl => ?_)
    refine lv_aload_n (pc := 244) F.1 F.2.1 dL_law_244 rfl (lv_at hl 2 rfl) ?_
    refine lv_iload (pc := 245) F.1 F.2.1 dL_law_245 (lv_at hl 8 rfl) ?_
    refine lv_iconst (pc := 247) (v := nI 2) F.1 F.2.1 dL_law_247 (by decide) ?_
    refine mm_runSX (pc := 248) (As := [.ref x0, .int (nI ka), .int (nI 2)]) (rest := []) F hN (e_strikes l b D F.2.2.2.2.2.2.2.1 T x0 σ hV hW ka (by omega)) mw_438 mw_439 mw_0 mw_440 ⟨pmL_of, (Nat.le_of_ble_eq_true rfl), (Nat.le_of_ble_eq_true rfl)⟩ hl.1 rfl (Nat.le_of_ble_eq_true rfl) ⟨by show cells + 6 ≤ 600312; omega, by show slots + 40 ≤ 7293410; omega⟩ dL_law_248
      (fun _ _ _ _ _ _ h9 => False.elim h9) (fun v9 σ1 H locs hp9 hN => ?_)
    obtain ⟨rfl, hx1⟩ := hp9
    refine W.eq (g2 := F0 m 251 ls [.int (lq_i (mm_q_strikes T ka) (T.sk ka))]) rfl ?_
    refine W.widen (k := cells + 6) (n := slots + 40) (Nat.le_refl _) (Nat.le_refl _) ?_
    have hV1 := hx1.v
    have hF1 := mm_Fr.tr mm_Fr.rf hx1.fr
    refine W.eq (g2 := F0 m 251 ls [.int (nI ((T.sk ka)))]) (by rw [lq_i0 (by unfold mm_q_strikes; (repeat' split) <;> omega)]) ?_
    refine W.eq (g2 := F0 m 251 ls [.int (nI ((T.sk ka)))]) (by rfl) ?_
    refine lv_aload_n (pc := 251) F.1 F.2.1 dL_law_251 rfl (lv_at hl 2 rfl) ?_
    refine lv_iload (pc := 252) F.1 F.2.1 dL_law_252 (lv_at hl 0 rfl) ?_
    refine lv_iconst (pc := 254) (v := nI 2) F.1 F.2.1 dL_law_254 (by decide) ?_
    refine mm_runSX (pc := 255) (As := [.ref x0, .int (nI ko), .int (nI 2)]) (rest := [.int (nI ((T.sk ka)))]) F hN (e_strikes l b D F.2.2.2.2.2.2.2.1 T x0 σ1 hV1 hW ko (by omega)) mw_438 mw_439 mw_0 mw_440 ⟨pmL_of, (Nat.le_of_ble_eq_true rfl), (Nat.le_of_ble_eq_true rfl)⟩ hl.1 rfl (Nat.le_of_ble_eq_true rfl) ⟨by show (cells + 6) + 6 ≤ 600312; omega, by show (slots + 40) + 40 ≤ 7293410; omega⟩ dL_law_255
      (fun _ _ _ _ _ _ h9 => False.elim h9) (fun v9 σ2 H locs hp9 hN => ?_)
    obtain ⟨rfl, hx2⟩ := hp9
    refine W.eq (g2 := F0 m 258 ls [.int (lq_i (mm_q_strikes T ko) (T.sk ko)), .int (nI ((T.sk ka)))]) rfl ?_
    refine W.widen (k := cells + 6 + 6) (n := slots + 40 + 40) (Nat.le_refl _) (Nat.le_refl _) ?_
    have hV2 := hx2.v
    have hF2 := mm_Fr.tr hF1 hx2.fr
    refine W.eq (g2 := F0 m 258 ls [.int (nI ((T.sk ko))), .int (nI ((T.sk ka)))]) (by rw [lq_i0 (by unfold mm_q_strikes; (repeat' split) <;> omega)]) ?_
    refine W.eq (g2 := F0 m 258 ls [.int (nI ((T.sk ko))), .int (nI ((T.sk ka)))]) (by rfl) ?_
    refine mm_iadd (pc := 258) F (z := (nI ((T.sk ka))) + (nI ((T.sk ko)))) rfl dL_law_258 ?_
    refine lv_istore (pc := 259) (lv' := [(17, .int ((nI ((T.sk ka))) + (nI ((T.sk ko))))), (16, .int (nI ko)), (0, .ref ((D.2.1 400))), (1, .ref x0), (2, .int (nI T.nA)), (3, .int (nI st)), (4, .int (nI k)), (6, .int (nI kw)), (7, .int (nI T.nP)), (8, .int (nI ka)), (9, .int (nI kp)), (10, .int (nI kt)), (11, .int (nI wt)), (12, .long bf), (14, .int (nI 0))]) F.1 F.2.1 dL_law_259 hl (by decide) rfl (fun ls hl => ?_)
    refine lv_aload_n (pc := 261) F.1 F.2.1 dL_law_261 rfl (lv_at hl 3 rfl) ?_
    refine lv_bipush (pc := 262) (v := nI 106) F.1 F.2.1 dL_law_262 (by decide) ?_
    refine lv_iload (pc := 264) F.1 F.2.1 dL_law_264 (lv_at hl 9 rfl) ?_
    refine lv_iload (pc := 266) F.1 F.2.1 dL_law_266 (lv_at hl 1 rfl) ?_
    refine mm_runSX (pc := 268) (As := [.ref x0, .int (nI 106), .int (nI ka), .int (nI ko)]) (rest := []) F hN (e_join l b D F.2.2.2.2.2.2.2.1 T x0 σ2 hV2 hW ka (by omega) ko (by omega)) mw_309 mw_310 mw_0 mw_311 ⟨pmL_sets, (Nat.le_of_ble_eq_true rfl), (Nat.le_of_ble_eq_true rfl)⟩ hl.1 rfl (Nat.le_of_ble_eq_true rfl) ⟨by show (cells + 6 + 6) + 8 ≤ 600312; omega, by show (slots + 40 + 40) + 300 ≤ 7293410; omega⟩ dL_law_268
      (fun _ _ _ _ _ _ h9 => False.elim h9) (fun v9 σ3 H locs hp9 hN => ?_)
    obtain ⟨rfl, hx3⟩ := hp9
    refine W.eq (g2 := F0 m 271 ls [.int (lq_i (mm_q_join T ka ko) (mm_sm (fun p => if T.ho p = ko then 1 else 0) T.nP))]) rfl ?_
    refine W.widen (k := cells + 6 + 6 + 8) (n := slots + 40 + 40 + 300) (Nat.le_refl _) (Nat.le_refl _) ?_
    have hV3 := hx3.v
    have hF3 := mm_Fr.tr hF2 hx3.fr
    obtain ⟨T2, eT2⟩ : ∃ z9, z9 = (if mm_q_join T ka ko = 0 then (mm_t_join T ka ko) else T) := ⟨_, rfl⟩
    have hV3 : lq_V σ3 T2 x0 := by rw [eT2]; exact hx3.v
    have hW2 : mm_WF T2 := by rw [eT2]; exact mm_wf_join hW ka (by omega) ko (by omega)
    have hI2 : lq_I T2 := by rw [eT2]; exact lq_i_join hI ka ko
    have hA2 : T2.nA = T.nA := by rw [eT2]; (repeat' split) <;> rfl
    have e2 : T2 = mm_t_join T ka ko := by rw [eT2, if_pos hj]
    have hcn := lq_cn (P := fun p => T.ho p = ko) T.nP
    have f1 : T2.sk ka = T.sk ka + T.sk ko := by rw [e2]; exact if_pos ⟨rfl, rfl⟩
    have f2 : T2.go ka = 0 := by rw [e2]; exact (if_neg (fun q => j5 q.1)).trans j2
    have f3 : T2.go ko = 1 := by rw [e2]; exact if_pos ⟨rfl, rfl⟩
    refine W.eq (g2 := F0 m 271 ls [.int (nI ((mm_sm (fun p => if T.ho p = ko then 1 else 0) T.nP)))]) (by rw [lq_i0 hj]) ?_
    refine lv_istore (pc := 271) (lv' := [(14, .int (nI ((mm_sm (fun p => if T.ho p = ko then 1 else 0) T.nP)))), (17, .int ((nI ((T.sk ka))) + (nI ((T.sk ko))))), (16, .int (nI ko)), (0, .ref ((D.2.1 400))), (1, .ref x0), (2, .int (nI T.nA)), (3, .int (nI st)), (4, .int (nI k)), (6, .int (nI kw)), (7, .int (nI T.nP)), (8, .int (nI ka)), (9, .int (nI kp)), (10, .int (nI kt)), (11, .int (nI wt)), (12, .long bf)]) F.1 F.2.1 dL_law_271 hl (by decide) rfl (fun ls hl => ?_)
    refine lv_iload (pc := 273) F.1 F.2.1 dL_law_273 (lv_at hl 0 rfl) ?_
    refine mm_if_lt (pc := 275) F (tgt := 305) (by omega) dL_law_275 (by decide) ?_
    refine lv_aload_n (pc := 278) F.1 F.2.1 dL_law_278 rfl (lv_at hl 4 rfl) ?_
    refine lv_iload (pc := 279) F.1 F.2.1 dL_law_279 (lv_at hl 10 rfl) ?_
    refine lv_iconst (pc := 281) (v := nI 2) F.1 F.2.1 dL_law_281 (by decide) ?_
    refine mm_runSX (pc := 282) (As := [.ref x0, .int (nI ka), .int (nI 2)]) (rest := []) F hN (e_strikes l b D F.2.2.2.2.2.2.2.1 T2 x0 σ3 hV3 hW2 ka (by omega)) mw_438 mw_439 mw_0 mw_440 ⟨pmL_of, (Nat.le_of_ble_eq_true rfl), (Nat.le_of_ble_eq_true rfl)⟩ hl.1 rfl (Nat.le_of_ble_eq_true rfl) ⟨by show (cells + 6 + 6 + 8) + 6 ≤ 600312; omega, by show (slots + 40 + 40 + 300) + 40 ≤ 7293410; omega⟩ dL_law_282
      (fun _ _ _ _ _ _ h9 => False.elim h9) (fun v9 σ4 H locs hp9 hN => ?_)
    obtain ⟨rfl, hx4⟩ := hp9
    refine W.eq (g2 := F0 m 285 ls [.int (lq_i (mm_q_strikes T2 ka) (T2.sk ka))]) rfl ?_
    refine W.widen (k := cells + 6 + 6 + 8 + 6) (n := slots + 40 + 40 + 300 + 40) (Nat.le_refl _) (Nat.le_refl _) ?_
    have hV4 := hx4.v
    have hF4 := mm_Fr.tr hF3 hx4.fr
    refine W.eq (g2 := F0 m 285 ls [.int (nI ((T2.sk ka)))]) (by rw [lq_i0 (by unfold mm_q_strikes; (repeat' split) <;> omega)]) ?_
    refine W.eq (g2 := F0 m 285 ls [.int (nI (T.sk ka) + nI (T.sk ko))]) (by rw [f1, nI_add]) ?_
    refine lv_iload (pc := 285) F.1 F.2.1 dL_law_285 (lv_at hl 1 rfl) ?_
    refine lv_icmp_ne (pc := 287) (tgt := 303) F.1 F.2.1 dL_law_287 (by decide) (fun cz287 => ?_) (fun cz287 => ?_)
    ·
      exact absurd rfl cz287
    ·
      refine lv_aload_n (pc := 290) F.1 F.2.1 dL_law_290 rfl (lv_at hl 4 rfl) ?_
      refine lv_iload (pc := 291) F.1 F.2.1 dL_law_291 (lv_at hl 2 rfl) ?_
      refine lv_iconst (pc := 293) (v := nI 2) F.1 F.2.1 dL_law_293 (by decide) ?_
      refine mm_runSX (pc := 294) (As := [.ref x0, .int (nI ko), .int (nI 2)]) (rest := []) F hN (e_strikes l b D F.2.2.2.2.2.2.2.1 T2 x0 σ4 hV4 hW2 ko (by omega)) mw_438 mw_439 mw_0 mw_440 ⟨pmL_of, (Nat.le_of_ble_eq_true rfl), (Nat.le_of_ble_eq_true rfl)⟩ hl.1 rfl (Nat.le_of_ble_eq_true rfl) ⟨by show (cells + 6 + 6 + 8 + 6) + 6 ≤ 600312; omega, by show (slots + 40 + 40 + 300 + 40) + 40 ≤ 7293410; omega⟩ dL_law_294
        (fun _ _ _ _ _ _ h9 => False.elim h9) (fun v9 σ5 H locs hp9 hN => ?_)
      obtain ⟨rfl, hx5⟩ := hp9
      refine W.eq (g2 := F0 m 297 ls [.int (lq_i (mm_q_strikes T2 ko) (T2.sk ko))]) rfl ?_
      refine W.widen (k := cells + 6 + 6 + 8 + 6 + 6) (n := slots + 40 + 40 + 300 + 40 + 40) (Nat.le_refl _) (Nat.le_refl _) ?_
      have hV5 := hx5.v
      have hF5 := mm_Fr.tr hF4 hx5.fr
      refine W.eq (g2 := F0 m 297 ls [.int ((-1001))]) (by rw [lq_i1 (by unfold mm_q_strikes; (repeat' split) <;> omega)]) ?_
      refine lv_sipush (pc := 297) (v := (-1001)) F.1 F.2.1 dL_law_297 (by decide) ?_
      refine lv_icmp_eq (pc := 300) (tgt := 305) F.1 F.2.1 dL_law_300 (by decide) (fun cz300 => ?_) (fun h9 => absurd h9 (by decide))
      refine lv_goto (pc := 305) (tgt := 857) F.1 F.2.1 dL_law_305 (by decide) ?_
      exact W.widen (by omega) (by omega) (kk T2 (nI ((mm_sm (fun p => if T.ho p = ko then 1 else 0) T.nP))) σ5 ls H locs hV5 hW2 hI2 (fun h9 => absurd h9 (lq_nlt (by omega))) hN (lq_l2e (hA2.symm) (lv_sub hl [3, 4, 5, 6, 7, 13, 14, 0] rfl)))
  ·
    refine lv_istore (pc := 242) (lv' := [(16, .int (nI ko)), (0, .ref ((D.2.1 400))), (1, .ref x0), (2, .int (nI T.nA)), (3, .int (nI st)), (4, .int (nI k)), (6, .int (nI kw)), (7, .int (nI T.nP)), (8, .int (nI ka)), (9, .int (nI kp)), (10, .int (nI kt)), (11, .int (nI wt)), (12, .long bf), (14, .int (nI 0))]) F.1 F.2.1 dL_law_242 hl (by decide) rfl (fun ls hl => ?_)
    refine lv_aload_n (pc := 244) F.1 F.2.1 dL_law_244 rfl (lv_at hl 2 rfl) ?_
    refine lv_iload (pc := 245) F.1 F.2.1 dL_law_245 (lv_at hl 8 rfl) ?_
    refine lv_iconst (pc := 247) (v := nI 2) F.1 F.2.1 dL_law_247 (by decide) ?_
    refine mm_runSX (pc := 248) (As := [.ref x0, .int (nI ka), .int (nI 2)]) (rest := []) F hN (e_strikes l b D F.2.2.2.2.2.2.2.1 T x0 σ hV hW ka (by omega)) mw_438 mw_439 mw_0 mw_440 ⟨pmL_of, (Nat.le_of_ble_eq_true rfl), (Nat.le_of_ble_eq_true rfl)⟩ hl.1 rfl (Nat.le_of_ble_eq_true rfl) ⟨by show cells + 6 ≤ 600312; omega, by show slots + 40 ≤ 7293410; omega⟩ dL_law_248
      (fun _ _ _ _ _ _ h9 => False.elim h9) (fun v9 σ6 H locs hp9 hN => ?_)
    obtain ⟨rfl, hx6⟩ := hp9
    refine W.eq (g2 := F0 m 251 ls [.int (lq_i (mm_q_strikes T ka) (T.sk ka))]) rfl ?_
    refine W.widen (k := cells + 6) (n := slots + 40) (Nat.le_refl _) (Nat.le_refl _) ?_
    have hV6 := hx6.v
    have hF6 := mm_Fr.tr mm_Fr.rf hx6.fr
    refine lv_aload_n (pc := 251) F.1 F.2.1 dL_law_251 rfl (lv_at hl 2 rfl) ?_
    refine lv_iload (pc := 252) F.1 F.2.1 dL_law_252 (lv_at hl 0 rfl) ?_
    refine lv_iconst (pc := 254) (v := nI 2) F.1 F.2.1 dL_law_254 (by decide) ?_
    refine mm_runSX (pc := 255) (As := [.ref x0, .int (nI ko), .int (nI 2)]) (rest := [.int (lq_i (mm_q_strikes T ka) (T.sk ka))]) F hN (e_strikes l b D F.2.2.2.2.2.2.2.1 T x0 σ6 hV6 hW ko (by omega)) mw_438 mw_439 mw_0 mw_440 ⟨pmL_of, (Nat.le_of_ble_eq_true rfl), (Nat.le_of_ble_eq_true rfl)⟩ hl.1 rfl (Nat.le_of_ble_eq_true rfl) ⟨by show (cells + 6) + 6 ≤ 600312; omega, by show (slots + 40) + 40 ≤ 7293410; omega⟩ dL_law_255
      (fun _ _ _ _ _ _ h9 => False.elim h9) (fun v9 σ7 H locs hp9 hN => ?_)
    obtain ⟨rfl, hx7⟩ := hp9
    refine W.eq (g2 := F0 m 258 ls [.int (lq_i (mm_q_strikes T ko) (T.sk ko)), .int (lq_i (mm_q_strikes T ka) (T.sk ka))]) rfl ?_
    refine W.widen (k := cells + 6 + 6) (n := slots + 40 + 40) (Nat.le_refl _) (Nat.le_refl _) ?_
    have hV7 := hx7.v
    have hF7 := mm_Fr.tr hF6 hx7.fr
    refine mm_iadd (pc := 258) F (z := (lq_i (mm_q_strikes T ka) (T.sk ka)) + (lq_i (mm_q_strikes T ko) (T.sk ko))) rfl dL_law_258 ?_
    refine lv_istore (pc := 259) (lv' := [(17, .int ((lq_i (mm_q_strikes T ka) (T.sk ka)) + (lq_i (mm_q_strikes T ko) (T.sk ko)))), (16, .int (nI ko)), (0, .ref ((D.2.1 400))), (1, .ref x0), (2, .int (nI T.nA)), (3, .int (nI st)), (4, .int (nI k)), (6, .int (nI kw)), (7, .int (nI T.nP)), (8, .int (nI ka)), (9, .int (nI kp)), (10, .int (nI kt)), (11, .int (nI wt)), (12, .long bf), (14, .int (nI 0))]) F.1 F.2.1 dL_law_259 hl (by decide) rfl (fun ls hl => ?_)
    refine lv_aload_n (pc := 261) F.1 F.2.1 dL_law_261 rfl (lv_at hl 3 rfl) ?_
    refine lv_bipush (pc := 262) (v := nI 106) F.1 F.2.1 dL_law_262 (by decide) ?_
    refine lv_iload (pc := 264) F.1 F.2.1 dL_law_264 (lv_at hl 9 rfl) ?_
    refine lv_iload (pc := 266) F.1 F.2.1 dL_law_266 (lv_at hl 1 rfl) ?_
    refine mm_runSX (pc := 268) (As := [.ref x0, .int (nI 106), .int (nI ka), .int (nI ko)]) (rest := []) F hN (e_join l b D F.2.2.2.2.2.2.2.1 T x0 σ7 hV7 hW ka (by omega) ko (by omega)) mw_309 mw_310 mw_0 mw_311 ⟨pmL_sets, (Nat.le_of_ble_eq_true rfl), (Nat.le_of_ble_eq_true rfl)⟩ hl.1 rfl (Nat.le_of_ble_eq_true rfl) ⟨by show (cells + 6 + 6) + 8 ≤ 600312; omega, by show (slots + 40 + 40) + 300 ≤ 7293410; omega⟩ dL_law_268
      (fun _ _ _ _ _ _ h9 => False.elim h9) (fun v9 σ8 H locs hp9 hN => ?_)
    obtain ⟨rfl, hx8⟩ := hp9
    refine W.eq (g2 := F0 m 271 ls [.int (lq_i (mm_q_join T ka ko) (mm_sm (fun p => if T.ho p = ko then 1 else 0) T.nP))]) rfl ?_
    refine W.widen (k := cells + 6 + 6 + 8) (n := slots + 40 + 40 + 300) (Nat.le_refl _) (Nat.le_refl _) ?_
    have hV8 := hx8.v
    have hF8 := mm_Fr.tr hF7 hx8.fr
    obtain ⟨T2, eT2⟩ : ∃ z9, z9 = (if mm_q_join T ka ko = 0 then (mm_t_join T ka ko) else T) := ⟨_, rfl⟩
    have hV8 : lq_V σ8 T2 x0 := by rw [eT2]; exact hx8.v
    have hW2 : mm_WF T2 := by rw [eT2]; exact mm_wf_join hW ka (by omega) ko (by omega)
    have hI2 : lq_I T2 := by rw [eT2]; exact lq_i_join hI ka ko
    have hA2 : T2.nA = T.nA := by rw [eT2]; (repeat' split) <;> rfl
    have e2 : T2 = T := by rw [eT2, if_neg hj]
    refine W.eq (g2 := F0 m 271 ls [.int (lq_e (mm_q_join T ka ko))]) (by rw [lq_iz hj]) ?_
    refine lv_istore (pc := 271) (lv' := [(14, .int (lq_e (mm_q_join T ka ko))), (17, .int ((lq_i (mm_q_strikes T ka) (T.sk ka)) + (lq_i (mm_q_strikes T ko) (T.sk ko)))), (16, .int (nI ko)), (0, .ref ((D.2.1 400))), (1, .ref x0), (2, .int (nI T.nA)), (3, .int (nI st)), (4, .int (nI k)), (6, .int (nI kw)), (7, .int (nI T.nP)), (8, .int (nI ka)), (9, .int (nI kp)), (10, .int (nI kt)), (11, .int (nI wt)), (12, .long bf)]) F.1 F.2.1 dL_law_271 hl (by decide) rfl (fun ls hl => ?_)
    refine lv_iload (pc := 273) F.1 F.2.1 dL_law_273 (lv_at hl 0 rfl) ?_
    refine lv_if_lt (pc := 275) (tgt := 305) F.1 F.2.1 dL_law_275 (by decide) (fun cz275 => ?_) (fun cz275 => ?_)
    ·
      refine lv_goto (pc := 305) (tgt := 857) F.1 F.2.1 dL_law_305 (by decide) ?_
      exact W.widen (by omega) (by omega) (kk T2 (lq_e (mm_q_join T ka ko)) σ8 ls H locs hV8 hW2 hI2 (fun _ => e2) hN (lq_l2e (hA2.symm) (lv_sub hl [3, 4, 5, 6, 7, 13, 14, 0] rfl)))
    ·
      exact absurd (lq_elt _) cz275

set_option maxHeartbeats 4000000 in
set_option maxRecDepth 100000 in
theorem lc_person {p : Program} {l : Launch} {e : Env} {s : State} {m : MethodId} {args : Array Value} {below : List Frame} {meth : Method} {c : Code} {H : Heap} {locs : List Loc} {cells slots : Nat} {Q : State → Prop} {b : Nat} {D : mm_D} {σ : mm_S} {T : mm_T} {x0 st k kw ka kp kt wt : Nat} {bf : Int64} {ls : Array Slot}
    (F : mm_F p l s m args meth c b D RL cL_law 20) (hN : mm_N b D s σ H locs) (hV : lq_V σ T x0) (hW : mm_WF T) (hI : lq_I T) (hl : lv_has ls 20 (lq_l1 D x0 T.nA st k kw T.nP ka kp kt wt bf)) (hw : kw < 134217728) (ha : ka < 16) (hp : kp < 32) (ht : kt < 8) (hc : cells + 1000 ≤ 600312) (hs : slots + 15000 ≤ 7293410)
    (kk : ∀ (T2 : mm_T) (its : Int32) (σ2 : mm_S) (ls : Array Slot) (H : Heap) (locs : List Loc), lq_V σ2 T2 x0 → mm_WF T2 → lq_I T2 → (its < (-1000) → T2 = T) → mm_N b D s σ2 H locs → lv_has ls 20 (lq_l2 D x0 T2.nA st k wt bf its) → W p l e room_1 s m args below meth c H locs (cells + 1000) (slots + 15000) Q (F0 m 857 ls [])) : W p l e room_1 s m args below meth c H locs cells slots Q (F0 m 315 ls []) := by
  have hl : lv_has ls 20 [(0, .ref ((D.2.1 400))), (1, .ref x0), (2, .int (nI T.nA)), (3, .int (nI st)), (4, .int (nI k)), (6, .int (nI kw)), (7, .int (nI T.nP)), (8, .int (nI ka)), (9, .int (nI kp)), (10, .int (nI kt)), (11, .int (nI wt)), (12, .long bf), (14, .int (nI 0))] := hl
  have wnA := hW.hnA
  have wnP := hW.hnP
  have wnT := hW.hnT
  have wnR := hW.hnR
  have wpa := hW.hpa
  have wen0 := hW.hen 0
  have wen1 := hW.hen 1
  have wbo := hW.hbo
  refine lv_aload_n (pc := 315) F.1 F.2.1 dL_law_315 rfl (lv_at hl 1 rfl) ?_
  refine lv_bipush (pc := 316) (v := nI 112) F.1 F.2.1 dL_law_316 (by decide) ?_
  refine lv_iload (pc := 318) F.1 F.2.1 dL_law_318 (lv_at hl 7 rfl) ?_
  refine lv_iload (pc := 320) F.1 F.2.1 dL_law_320 (lv_at hl 5 rfl) ?_
  refine lv_bipush (pc := 322) (v := nI 16) F.1 F.2.1 dL_law_322 (by decide) ?_
  refine mm_idiv (pc := 324) F (z := nI (kw / 16)) (pk_div (by omega) (by omega) (by omega)) (by decide) dL_law_324 ?_
  refine lv_bipush (pc := 325) (v := nI 8) F.1 F.2.1 dL_law_325 (by decide) ?_
  refine mm_irem (pc := 327) F (z := nI ((kw / 16) % 8)) (lq_mod (by omega) (by omega) (by omega)) (lq_ne0 (by omega) (by omega)) dL_law_327 ?_
  refine mm_runSX (pc := 328) (As := [.ref x0, .int (nI 112), .int (nI ka), .int (nI ((kw / 16) % 8))]) (rest := []) F hN (e_person l b D F.2.2.2.2.2.2.2.1 T x0 σ hV hW ka (by omega) ((kw / 16) % 8) (by omega)) mw_309 mw_310 mw_0 mw_311 ⟨pmL_sets, (Nat.le_of_ble_eq_true rfl), (Nat.le_of_ble_eq_true rfl)⟩ hl.1 rfl (Nat.le_of_ble_eq_true rfl) ⟨by show cells + 8 ≤ 600312; omega, by show slots + 300 ≤ 7293410; omega⟩ dL_law_328
    (fun _ _ _ _ _ _ h9 => False.elim h9) (fun v9 σ1 H locs hp9 hN => ?_)
  obtain ⟨rfl, hx1⟩ := hp9
  refine W.eq (g2 := F0 m 331 ls [.int (lq_i (mm_q_addPerson T ka ((kw / 16) % 8)) (T.nP))]) rfl ?_
  refine W.widen (k := cells + 8) (n := slots + 300) (Nat.le_refl _) (Nat.le_refl _) ?_
  have hV1 := hx1.v
  have hF1 := mm_Fr.tr mm_Fr.rf hx1.fr
  obtain ⟨T2, eT2⟩ : ∃ z9, z9 = (if mm_q_addPerson T ka ((kw / 16) % 8) = 0 then (mm_t_addPerson T ka ((kw / 16) % 8)) else T) := ⟨_, rfl⟩
  have hV1 : lq_V σ1 T2 x0 := by rw [eT2]; exact hx1.v
  have hW2 : mm_WF T2 := by rw [eT2]; exact mm_wf_addPerson hW ka (by omega) ((kw / 16) % 8) (by omega)
  have hI2 : lq_I T2 := by rw [eT2]; exact lq_i_addPerson hI ka ((kw / 16) % 8)
  have hA2 : T2.nA = T.nA := by rw [eT2]; (repeat' split) <;> rfl
  by_cases hq : mm_q_addPerson T ka ((kw / 16) % 8) = 0
  ·
    have e2 : T2 = (mm_t_addPerson T ka ((kw / 16) % 8)) := by rw [eT2, if_pos hq]
    have f1 : T2.nP = T.nP + 1 := by rw [e2]; rfl
    have f2 : T2.ho T.nP = ka := by rw [e2]; exact if_pos ⟨rfl, rfl⟩
    have f3 : T2.re T.nP = 45 := by rw [e2]; exact if_pos ⟨rfl, rfl⟩
    refine W.eq (g2 := F0 m 331 ls [.int (nI ((T.nP)))]) (by rw [lq_i0 hq]) ?_
    refine lv_istore (pc := 331) (lv' := [(14, .int (nI ((T.nP)))), (0, .ref ((D.2.1 400))), (1, .ref x0), (2, .int (nI T.nA)), (3, .int (nI st)), (4, .int (nI k)), (6, .int (nI kw)), (7, .int (nI T.nP)), (8, .int (nI ka)), (9, .int (nI kp)), (10, .int (nI kt)), (11, .int (nI wt)), (12, .long bf)]) F.1 F.2.1 dL_law_331 hl (by decide) rfl (fun ls hl => ?_)
    refine lv_iload (pc := 333) F.1 F.2.1 dL_law_333 (lv_at hl 0 rfl) ?_
    refine mm_if_lt (pc := 335) F (tgt := 857) (by omega) dL_law_335 (by decide) ?_
    refine lv_iload (pc := 338) F.1 F.2.1 dL_law_338 (lv_at hl 0 rfl) ?_
    refine lv_iload (pc := 340) F.1 F.2.1 dL_law_340 (lv_at hl 7 rfl) ?_
    refine mm_icmp_ne (pc := 342) F (x := (T.nP)) (y := T.nP) (tgt := 369) (by omega) (by omega) dL_law_342 (by decide) (fun cz342 => ?_) (fun cz342 => ?_)
    ·
      exact absurd rfl cz342
    ·
      refine lv_aload_n (pc := 345) F.1 F.2.1 dL_law_345 rfl (lv_at hl 2 rfl) ?_
      refine lv_iload (pc := 346) F.1 F.2.1 dL_law_346 (lv_at hl 0 rfl) ?_
      refine lv_iconst (pc := 348) (v := nI 0) F.1 F.2.1 dL_law_348 (by decide) ?_
      refine mm_runSX (pc := 349) (As := [.ref x0, .int (nI ((T.nP))), .int (nI 0)]) (rest := []) F hN (e_addr l b D F.2.2.2.2.2.2.2.1 T2 x0 σ1 hV1 hW2 ((T.nP)) (by omega)) mw_438 mw_439 mw_0 mw_440 ⟨pmL_of, (Nat.le_of_ble_eq_true rfl), (Nat.le_of_ble_eq_true rfl)⟩ hl.1 rfl (Nat.le_of_ble_eq_true rfl) ⟨by show (cells + 8) + 6 ≤ 600312; omega, by show (slots + 300) + 40 ≤ 7293410; omega⟩ dL_law_349
        (fun _ _ _ _ _ _ h9 => False.elim h9) (fun v9 σ2 H locs hp9 hN => ?_)
      obtain ⟨rfl, hx2⟩ := hp9
      refine W.eq (g2 := F0 m 352 ls [.int (lq_i (mm_q_addressOf T2 ((T.nP))) (T2.ho ((T.nP))))]) rfl ?_
      refine W.widen (k := cells + 8 + 6) (n := slots + 300 + 40) (Nat.le_refl _) (Nat.le_refl _) ?_
      have hV2 := hx2.v
      have hF2 := mm_Fr.tr hF1 hx2.fr
      refine W.eq (g2 := F0 m 352 ls [.int (nI ((T2.ho ((T.nP)))))]) (by rw [lq_i0 (by unfold mm_q_addressOf; (repeat' split) <;> omega)]) ?_
      refine W.eq (g2 := F0 m 352 ls [.int (nI ka)]) (by rw [f2]) ?_
      refine lv_iload (pc := 352) F.1 F.2.1 dL_law_352 (lv_at hl 8 rfl) ?_
      refine mm_icmp_ne (pc := 354) F (x := ka) (y := ka) (tgt := 369) (by omega) (by omega) dL_law_354 (by decide) (fun cz354 => ?_) (fun cz354 => ?_)
      ·
        exact absurd rfl cz354
      ·
        refine lv_aload_n (pc := 357) F.1 F.2.1 dL_law_357 rfl (lv_at hl 2 rfl) ?_
        refine lv_iload (pc := 358) F.1 F.2.1 dL_law_358 (lv_at hl 0 rfl) ?_
        refine lv_iconst (pc := 360) (v := nI 1) F.1 F.2.1 dL_law_360 (by decide) ?_
        refine mm_runSX (pc := 361) (As := [.ref x0, .int (nI ((T.nP))), .int (nI 1)]) (rest := []) F hN (e_reason l b D F.2.2.2.2.2.2.2.1 T2 x0 σ2 hV2 hW2 ((T.nP)) (by omega)) mw_438 mw_439 mw_0 mw_440 ⟨pmL_of, (Nat.le_of_ble_eq_true rfl), (Nat.le_of_ble_eq_true rfl)⟩ hl.1 rfl (Nat.le_of_ble_eq_true rfl) ⟨by show (cells + 8 + 6) + 6 ≤ 600312; omega, by show (slots + 300 + 40) + 40 ≤ 7293410; omega⟩ dL_law_361
          (fun _ _ _ _ _ _ h9 => False.elim h9) (fun v9 σ3 H locs hp9 hN => ?_)
        obtain ⟨rfl, hx3⟩ := hp9
        refine W.eq (g2 := F0 m 364 ls [.int (lq_i (mm_q_reasonOf T2 ((T.nP))) (T2.re ((T.nP))))]) rfl ?_
        refine W.widen (k := cells + 8 + 6 + 6) (n := slots + 300 + 40 + 40) (Nat.le_refl _) (Nat.le_refl _) ?_
        have hV3 := hx3.v
        have hF3 := mm_Fr.tr hF2 hx3.fr
        refine W.eq (g2 := F0 m 364 ls [.int (nI ((T2.re ((T.nP)))))]) (by rw [lq_i0 (by unfold mm_q_reasonOf; (repeat' split) <;> omega)]) ?_
        refine W.eq (g2 := F0 m 364 ls [.int (nI 45)]) (by rw [f3]) ?_
        refine lv_bipush (pc := 364) (v := nI 45) F.1 F.2.1 dL_law_364 (by decide) ?_
        refine mm_icmp_eq (pc := 366) F (x := 45) (y := 45) (tgt := 857) (by omega) (by omega) dL_law_366 (by decide) (fun cz366 => ?_) (fun h9 => absurd h9 (by decide))
        exact W.widen (by omega) (by omega) (kk T2 (nI ((T.nP))) σ3 ls H locs hV3 hW2 hI2 (fun h9 => absurd h9 (lq_nlt (by omega))) hN (lq_l2e (hA2.symm) (lv_sub hl [1, 2, 3, 4, 5, 11, 12, 0] rfl)))
  ·
    have e2 : T2 = T := by rw [eT2, if_neg hq]
    refine W.eq (g2 := F0 m 331 ls [.int (lq_e (mm_q_addPerson T ka ((kw / 16) % 8)))]) (by rw [lq_iz hq]) ?_
    refine lv_istore (pc := 331) (lv' := [(14, .int (lq_e (mm_q_addPerson T ka ((kw / 16) % 8)))), (0, .ref ((D.2.1 400))), (1, .ref x0), (2, .int (nI T.nA)), (3, .int (nI st)), (4, .int (nI k)), (6, .int (nI kw)), (7, .int (nI T.nP)), (8, .int (nI ka)), (9, .int (nI kp)), (10, .int (nI kt)), (11, .int (nI wt)), (12, .long bf)]) F.1 F.2.1 dL_law_331 hl (by decide) rfl (fun ls hl => ?_)
    refine lv_iload (pc := 333) F.1 F.2.1 dL_law_333 (lv_at hl 0 rfl) ?_
    refine lv_if_lt (pc := 335) (tgt := 857) F.1 F.2.1 dL_law_335 (by decide) (fun cz335 => ?_) (fun cz335 => ?_)
    ·
      exact W.widen (by omega) (by omega) (kk T2 (lq_e (mm_q_addPerson T ka ((kw / 16) % 8))) σ1 ls H locs hV1 hW2 hI2 (fun _ => e2) hN (lq_l2e (hA2.symm) (lv_sub hl [1, 2, 3, 4, 5, 11, 12, 0] rfl)))
    ·
      exact absurd (lq_elt _) cz335

set_option maxHeartbeats 4000000 in
set_option maxRecDepth 100000 in
theorem lc_flags {p : Program} {l : Launch} {e : Env} {s : State} {m : MethodId} {args : Array Value} {below : List Frame} {meth : Method} {c : Code} {H : Heap} {locs : List Loc} {cells slots : Nat} {Q : State → Prop} {b : Nat} {D : mm_D} {σ : mm_S} {T : mm_T} {x0 st k kw ka kp kt wt : Nat} {bf : Int64} {ls : Array Slot}
    (F : mm_F p l s m args meth c b D RL cL_law 20) (hN : mm_N b D s σ H locs) (hV : lq_V σ T x0) (hW : mm_WF T) (hI : lq_I T) (hl : lv_has ls 20 (lq_l1 D x0 T.nA st k kw T.nP ka kp kt wt bf)) (hw : kw < 134217728) (ha : ka < 16) (hp : kp < 32) (ht : kt < 8) (hc : cells + 1000 ≤ 600312) (hs : slots + 15000 ≤ 7293410)
    (kk : ∀ (T2 : mm_T) (its : Int32) (σ2 : mm_S) (ls : Array Slot) (H : Heap) (locs : List Loc), lq_V σ2 T2 x0 → mm_WF T2 → lq_I T2 → (its < (-1000) → T2 = T) → mm_N b D s σ2 H locs → lv_has ls 20 (lq_l2 D x0 T2.nA st k wt bf its) → W p l e room_1 s m args below meth c H locs (cells + 1000) (slots + 15000) Q (F0 m 857 ls [])) : W p l e room_1 s m args below meth c H locs cells slots Q (F0 m 378 ls []) := by
  have hl : lv_has ls 20 [(0, .ref ((D.2.1 400))), (1, .ref x0), (2, .int (nI T.nA)), (3, .int (nI st)), (4, .int (nI k)), (6, .int (nI kw)), (7, .int (nI T.nP)), (8, .int (nI ka)), (9, .int (nI kp)), (10, .int (nI kt)), (11, .int (nI wt)), (12, .long bf), (14, .int (nI 0))] := hl
  have wnA := hW.hnA
  have wnP := hW.hnP
  have wnT := hW.hnT
  have wnR := hW.hnR
  have wpa := hW.hpa
  have wen0 := hW.hen 0
  have wen1 := hW.hen 1
  have wbo := hW.hbo
  refine lv_aload_n (pc := 378) F.1 F.2.1 dL_law_378 rfl (lv_at hl 1 rfl) ?_
  refine lv_bipush (pc := 379) (v := nI 102) F.1 F.2.1 dL_law_379 (by decide) ?_
  refine lv_iload (pc := 381) F.1 F.2.1 dL_law_381 (lv_at hl 8 rfl) ?_
  refine lv_iload (pc := 383) F.1 F.2.1 dL_law_383 (lv_at hl 5 rfl) ?_
  refine lv_bipush (pc := 385) (v := nI 16) F.1 F.2.1 dL_law_385 (by decide) ?_
  refine mm_idiv (pc := 387) F (z := nI (kw / 16)) (pk_div (by omega) (by omega) (by omega)) (by decide) dL_law_387 ?_
  refine lv_bipush (pc := 388) (v := nI 8) F.1 F.2.1 dL_law_388 (by decide) ?_
  refine mm_irem (pc := 390) F (z := nI ((kw / 16) % 8)) (lq_mod (by omega) (by omega) (by omega)) (lq_ne0 (by omega) (by omega)) dL_law_390 ?_
  refine mm_runSX (pc := 391) (As := [.ref x0, .int (nI 102), .int (nI kp), .int (nI ((kw / 16) % 8))]) (rest := []) F hN (e_flags l b D F.2.2.2.2.2.2.2.1 T x0 σ hV hW kp (by omega) ((kw / 16) % 8) (by omega)) mw_309 mw_310 mw_0 mw_311 ⟨pmL_sets, (Nat.le_of_ble_eq_true rfl), (Nat.le_of_ble_eq_true rfl)⟩ hl.1 rfl (Nat.le_of_ble_eq_true rfl) ⟨by show cells + 8 ≤ 600312; omega, by show slots + 300 ≤ 7293410; omega⟩ dL_law_391
    (fun _ _ _ _ _ _ h9 => False.elim h9) (fun v9 σ1 H locs hp9 hN => ?_)
  obtain ⟨rfl, hx1⟩ := hp9
  refine W.eq (g2 := F0 m 394 ls [.int (lq_i (mm_q_setFlags T kp ((kw / 16) % 8)) (T.fl kp))]) rfl ?_
  refine W.widen (k := cells + 8) (n := slots + 300) (Nat.le_refl _) (Nat.le_refl _) ?_
  have hV1 := hx1.v
  have hF1 := mm_Fr.tr mm_Fr.rf hx1.fr
  obtain ⟨T2, eT2⟩ : ∃ z9, z9 = (if mm_q_setFlags T kp ((kw / 16) % 8) = 0 then (T.w 5 (mm_u2 (T 5) kp 0 ((kw / 16) % 8))) else T) := ⟨_, rfl⟩
  have hV1 : lq_V σ1 T2 x0 := by rw [eT2]; exact hx1.v
  have hW2 : mm_WF T2 := by rw [eT2]; exact mm_wf_setFlags hW kp (by omega) ((kw / 16) % 8) (by omega)
  have hI2 : lq_I T2 := by rw [eT2]; exact lq_i_setFlags hI kp ((kw / 16) % 8)
  have hA2 : T2.nA = T.nA := by rw [eT2]; (repeat' split) <;> rfl
  by_cases hq : mm_q_setFlags T kp ((kw / 16) % 8) = 0
  ·
    have e2 : T2 = (T.w 5 (mm_u2 (T 5) kp 0 ((kw / 16) % 8))) := by rw [eT2, if_pos hq]
    have h8 : kp < T.nP := by unfold mm_q_setFlags at hq; revert hq; split <;> omega
    obtain ⟨who, wfl, wre⟩ := hW.hpe kp h8
    refine W.eq (g2 := F0 m 394 ls [.int (nI ((T.fl kp)))]) (by rw [lq_i0 hq]) ?_
    refine lv_istore (pc := 394) (lv' := [(14, .int (nI ((T.fl kp)))), (0, .ref ((D.2.1 400))), (1, .ref x0), (2, .int (nI T.nA)), (3, .int (nI st)), (4, .int (nI k)), (6, .int (nI kw)), (7, .int (nI T.nP)), (8, .int (nI ka)), (9, .int (nI kp)), (10, .int (nI kt)), (11, .int (nI wt)), (12, .long bf)]) F.1 F.2.1 dL_law_394 hl (by decide) rfl (fun ls hl => ?_)
    refine lv_goto (pc := 396) (tgt := 857) F.1 F.2.1 dL_law_396 (by decide) ?_
    exact W.widen (by omega) (by omega) (kk T2 (nI ((T.fl kp))) σ1 ls H locs hV1 hW2 hI2 (fun h9 => absurd h9 (lq_nlt (by omega))) hN (lq_l2e (hA2.symm) (lv_sub hl [1, 2, 3, 4, 5, 11, 12, 0] rfl)))
  ·
    have e2 : T2 = T := by rw [eT2, if_neg hq]
    refine W.eq (g2 := F0 m 394 ls [.int (lq_e (mm_q_setFlags T kp ((kw / 16) % 8)))]) (by rw [lq_iz hq]) ?_
    refine lv_istore (pc := 394) (lv' := [(14, .int (lq_e (mm_q_setFlags T kp ((kw / 16) % 8)))), (0, .ref ((D.2.1 400))), (1, .ref x0), (2, .int (nI T.nA)), (3, .int (nI st)), (4, .int (nI k)), (6, .int (nI kw)), (7, .int (nI T.nP)), (8, .int (nI ka)), (9, .int (nI kp)), (10, .int (nI kt)), (11, .int (nI wt)), (12, .long bf)]) F.1 F.2.1 dL_law_394 hl (by decide) rfl (fun ls hl => ?_)
    refine lv_goto (pc := 396) (tgt := 857) F.1 F.2.1 dL_law_396 (by decide) ?_
    exact W.widen (by omega) (by omega) (kk T2 (lq_e (mm_q_setFlags T kp ((kw / 16) % 8))) σ1 ls H locs hV1 hW2 hI2 (fun _ => e2) hN (lq_l2e (hA2.symm) (lv_sub hl [1, 2, 3, 4, 5, 11, 12, 0] rfl)))

set_option maxHeartbeats 4000000 in
set_option maxRecDepth 100000 in
theorem lc_move {p : Program} {l : Launch} {e : Env} {s : State} {m : MethodId} {args : Array Value} {below : List Frame} {meth : Method} {c : Code} {H : Heap} {locs : List Loc} {cells slots : Nat} {Q : State → Prop} {b : Nat} {D : mm_D} {σ : mm_S} {T : mm_T} {x0 st k kw ka kp kt wt : Nat} {bf : Int64} {ls : Array Slot}
    (F : mm_F p l s m args meth c b D RL cL_law 20) (hN : mm_N b D s σ H locs) (hV : lq_V σ T x0) (hW : mm_WF T) (hI : lq_I T) (hl : lv_has ls 20 (lq_l1 D x0 T.nA st k kw T.nP ka kp kt wt bf)) (hw : kw < 134217728) (ha : ka < 16) (hp : kp < 32) (ht : kt < 8) (hc : cells + 1000 ≤ 600312) (hs : slots + 15000 ≤ 7293410)
    (kk : ∀ (T2 : mm_T) (its : Int32) (σ2 : mm_S) (ls : Array Slot) (H : Heap) (locs : List Loc), lq_V σ2 T2 x0 → mm_WF T2 → lq_I T2 → (its < (-1000) → T2 = T) → mm_N b D s σ2 H locs → lv_has ls 20 (lq_l2 D x0 T2.nA st k wt bf its) → W p l e room_1 s m args below meth c H locs (cells + 1000) (slots + 15000) Q (F0 m 857 ls [])) : W p l e room_1 s m args below meth c H locs cells slots Q (F0 m 406 ls []) := by
  have hl : lv_has ls 20 [(0, .ref ((D.2.1 400))), (1, .ref x0), (2, .int (nI T.nA)), (3, .int (nI st)), (4, .int (nI k)), (6, .int (nI kw)), (7, .int (nI T.nP)), (8, .int (nI ka)), (9, .int (nI kp)), (10, .int (nI kt)), (11, .int (nI wt)), (12, .long bf), (14, .int (nI 0))] := hl
  have wnA := hW.hnA
  have wnP := hW.hnP
  have wnT := hW.hnT
  have wnR := hW.hnR
  have wpa := hW.hpa
  have wen0 := hW.hen 0
  have wen1 := hW.hen 1
  have wbo := hW.hbo
  refine lv_aload_n (pc := 406) F.1 F.2.1 dL_law_406 rfl (lv_at hl 1 rfl) ?_
  refine lv_bipush (pc := 407) (v := nI 109) F.1 F.2.1 dL_law_407 (by decide) ?_
  refine lv_iload (pc := 409) F.1 F.2.1 dL_law_409 (lv_at hl 8 rfl) ?_
  refine lv_iload (pc := 411) F.1 F.2.1 dL_law_411 (lv_at hl 7 rfl) ?_
  refine mm_runSX (pc := 413) (As := [.ref x0, .int (nI 109), .int (nI kp), .int (nI ka)]) (rest := []) F hN (e_move l b D F.2.2.2.2.2.2.2.1 T x0 σ hV hW kp (by omega) ka (by omega)) mw_309 mw_310 mw_0 mw_311 ⟨pmL_sets, (Nat.le_of_ble_eq_true rfl), (Nat.le_of_ble_eq_true rfl)⟩ hl.1 rfl (Nat.le_of_ble_eq_true rfl) ⟨by show cells + 8 ≤ 600312; omega, by show slots + 300 ≤ 7293410; omega⟩ dL_law_413
    (fun _ _ _ _ _ _ h9 => False.elim h9) (fun v9 σ1 H locs hp9 hN => ?_)
  obtain ⟨rfl, hx1⟩ := hp9
  refine W.eq (g2 := F0 m 416 ls [.int (lq_i (mm_q_move T kp ka) (T.ho kp))]) rfl ?_
  refine W.widen (k := cells + 8) (n := slots + 300) (Nat.le_refl _) (Nat.le_refl _) ?_
  have hV1 := hx1.v
  have hF1 := mm_Fr.tr mm_Fr.rf hx1.fr
  obtain ⟨T2, eT2⟩ : ∃ z9, z9 = (if mm_q_move T kp ka = 0 then ((T.w 4 (mm_u2 (T 4) kp 0 ka)).w 6 (mm_u2 (T 6) kp 0 (if T.re kp = 109 then 45 else T.re kp))) else T) := ⟨_, rfl⟩
  have hV1 : lq_V σ1 T2 x0 := by rw [eT2]; exact hx1.v
  have hW2 : mm_WF T2 := by rw [eT2]; exact mm_wf_move hW kp (by omega) ka (by omega)
  have hI2 : lq_I T2 := by rw [eT2]; exact lq_i_move hI kp ka
  have hA2 : T2.nA = T.nA := by rw [eT2]; (repeat' split) <;> rfl
  by_cases hq : mm_q_move T kp ka = 0
  ·
    have e2 : T2 = ((T.w 4 (mm_u2 (T 4) kp 0 ka)).w 6 (mm_u2 (T 6) kp 0 (if T.re kp = 109 then 45 else T.re kp))) := by rw [eT2, if_pos hq]
    have h8 : kp < T.nP ∧ (ka < T.nA ∧ T.go ka = 0) := by unfold mm_q_move at hq; revert hq; split <;> omega
    obtain ⟨h81, h82, h83⟩ := h8
    obtain ⟨who, wfl, wre⟩ := hW.hpe kp h81
    have f0 : T2.nP = T.nP := by rw [e2]; rfl
    have f1 : T2.ho kp = ka := by rw [e2]; exact if_pos ⟨rfl, rfl⟩
    have f2 : T2.re kp = if T.re kp = 109 then 45 else T.re kp := by rw [e2]; exact if_pos ⟨rfl, rfl⟩
    have f3 : ¬ T2.re kp = 109 ∧ T2.re kp < 65536 := by rw [f2]; split <;> omega
    obtain ⟨f31, f32⟩ := f3
    refine W.eq (g2 := F0 m 416 ls [.int (nI ((T.ho kp)))]) (by rw [lq_i0 hq]) ?_
    refine lv_istore (pc := 416) (lv' := [(14, .int (nI ((T.ho kp)))), (0, .ref ((D.2.1 400))), (1, .ref x0), (2, .int (nI T.nA)), (3, .int (nI st)), (4, .int (nI k)), (6, .int (nI kw)), (7, .int (nI T.nP)), (8, .int (nI ka)), (9, .int (nI kp)), (10, .int (nI kt)), (11, .int (nI wt)), (12, .long bf)]) F.1 F.2.1 dL_law_416 hl (by decide) rfl (fun ls hl => ?_)
    refine lv_iload (pc := 418) F.1 F.2.1 dL_law_418 (lv_at hl 0 rfl) ?_
    refine mm_if_lt (pc := 420) F (tgt := 857) (by omega) dL_law_420 (by decide) ?_
    refine lv_aload_n (pc := 423) F.1 F.2.1 dL_law_423 rfl (lv_at hl 2 rfl) ?_
    refine lv_iload (pc := 424) F.1 F.2.1 dL_law_424 (lv_at hl 9 rfl) ?_
    refine lv_iconst (pc := 426) (v := nI 0) F.1 F.2.1 dL_law_426 (by decide) ?_
    refine mm_runSX (pc := 427) (As := [.ref x0, .int (nI kp), .int (nI 0)]) (rest := []) F hN (e_addr l b D F.2.2.2.2.2.2.2.1 T2 x0 σ1 hV1 hW2 kp (by omega)) mw_438 mw_439 mw_0 mw_440 ⟨pmL_of, (Nat.le_of_ble_eq_true rfl), (Nat.le_of_ble_eq_true rfl)⟩ hl.1 rfl (Nat.le_of_ble_eq_true rfl) ⟨by show (cells + 8) + 6 ≤ 600312; omega, by show (slots + 300) + 40 ≤ 7293410; omega⟩ dL_law_427
      (fun _ _ _ _ _ _ h9 => False.elim h9) (fun v9 σ2 H locs hp9 hN => ?_)
    obtain ⟨rfl, hx2⟩ := hp9
    refine W.eq (g2 := F0 m 430 ls [.int (lq_i (mm_q_addressOf T2 kp) (T2.ho kp))]) rfl ?_
    refine W.widen (k := cells + 8 + 6) (n := slots + 300 + 40) (Nat.le_refl _) (Nat.le_refl _) ?_
    have hV2 := hx2.v
    have hF2 := mm_Fr.tr hF1 hx2.fr
    refine W.eq (g2 := F0 m 430 ls [.int (nI ((T2.ho kp)))]) (by rw [lq_i0 (by unfold mm_q_addressOf; (repeat' split) <;> omega)]) ?_
    refine W.eq (g2 := F0 m 430 ls [.int (nI ka)]) (by rw [f1]) ?_
    refine lv_iload (pc := 430) F.1 F.2.1 dL_law_430 (lv_at hl 8 rfl) ?_
    refine mm_icmp_ne (pc := 432) F (x := ka) (y := ka) (tgt := 447) (by omega) (by omega) dL_law_432 (by decide) (fun cz432 => ?_) (fun cz432 => ?_)
    ·
      exact absurd rfl cz432
    ·
      refine lv_aload_n (pc := 435) F.1 F.2.1 dL_law_435 rfl (lv_at hl 2 rfl) ?_
      refine lv_iload (pc := 436) F.1 F.2.1 dL_law_436 (lv_at hl 9 rfl) ?_
      refine lv_iconst (pc := 438) (v := nI 1) F.1 F.2.1 dL_law_438 (by decide) ?_
      refine mm_runSX (pc := 439) (As := [.ref x0, .int (nI kp), .int (nI 1)]) (rest := []) F hN (e_reason l b D F.2.2.2.2.2.2.2.1 T2 x0 σ2 hV2 hW2 kp (by omega)) mw_438 mw_439 mw_0 mw_440 ⟨pmL_of, (Nat.le_of_ble_eq_true rfl), (Nat.le_of_ble_eq_true rfl)⟩ hl.1 rfl (Nat.le_of_ble_eq_true rfl) ⟨by show (cells + 8 + 6) + 6 ≤ 600312; omega, by show (slots + 300 + 40) + 40 ≤ 7293410; omega⟩ dL_law_439
        (fun _ _ _ _ _ _ h9 => False.elim h9) (fun v9 σ3 H locs hp9 hN => ?_)
      obtain ⟨rfl, hx3⟩ := hp9
      refine W.eq (g2 := F0 m 442 ls [.int (lq_i (mm_q_reasonOf T2 kp) (T2.re kp))]) rfl ?_
      refine W.widen (k := cells + 8 + 6 + 6) (n := slots + 300 + 40 + 40) (Nat.le_refl _) (Nat.le_refl _) ?_
      have hV3 := hx3.v
      have hF3 := mm_Fr.tr hF2 hx3.fr
      refine W.eq (g2 := F0 m 442 ls [.int (nI ((T2.re kp)))]) (by rw [lq_i0 (by unfold mm_q_reasonOf; (repeat' split) <;> omega)]) ?_
      refine lv_bipush (pc := 442) (v := nI 109) F.1 F.2.1 dL_law_442 (by decide) ?_
      refine mm_icmp_ne (pc := 444) F (x := (T2.re kp)) (y := 109) (tgt := 857) (by omega) (by omega) dL_law_444 (by decide) (fun cz444 => ?_) (fun cz444 => ?_)
      ·
        exact W.widen (by omega) (by omega) (kk T2 (nI ((T.ho kp))) σ3 ls H locs hV3 hW2 hI2 (fun h9 => absurd h9 (lq_nlt (by omega))) hN (lq_l2e (hA2.symm) (lv_sub hl [1, 2, 3, 4, 5, 11, 12, 0] rfl)))
      ·
        exact absurd cz444 f31
  ·
    have e2 : T2 = T := by rw [eT2, if_neg hq]
    refine W.eq (g2 := F0 m 416 ls [.int (lq_e (mm_q_move T kp ka))]) (by rw [lq_iz hq]) ?_
    refine lv_istore (pc := 416) (lv' := [(14, .int (lq_e (mm_q_move T kp ka))), (0, .ref ((D.2.1 400))), (1, .ref x0), (2, .int (nI T.nA)), (3, .int (nI st)), (4, .int (nI k)), (6, .int (nI kw)), (7, .int (nI T.nP)), (8, .int (nI ka)), (9, .int (nI kp)), (10, .int (nI kt)), (11, .int (nI wt)), (12, .long bf)]) F.1 F.2.1 dL_law_416 hl (by decide) rfl (fun ls hl => ?_)
    refine lv_iload (pc := 418) F.1 F.2.1 dL_law_418 (lv_at hl 0 rfl) ?_
    refine lv_if_lt (pc := 420) (tgt := 857) F.1 F.2.1 dL_law_420 (by decide) (fun cz420 => ?_) (fun cz420 => ?_)
    ·
      exact W.widen (by omega) (by omega) (kk T2 (lq_e (mm_q_move T kp ka)) σ1 ls H locs hV1 hW2 hI2 (fun _ => e2) hN (lq_l2e (hA2.symm) (lv_sub hl [1, 2, 3, 4, 5, 11, 12, 0] rfl)))
    ·
      exact absurd (lq_elt _) cz420

set_option maxHeartbeats 4000000 in
set_option maxRecDepth 100000 in
theorem lc_suppress {p : Program} {l : Launch} {e : Env} {s : State} {m : MethodId} {args : Array Value} {below : List Frame} {meth : Method} {c : Code} {H : Heap} {locs : List Loc} {cells slots : Nat} {Q : State → Prop} {b : Nat} {D : mm_D} {σ : mm_S} {T : mm_T} {x0 st k kw ka kp kt wt : Nat} {bf : Int64} {ls : Array Slot}
    (F : mm_F p l s m args meth c b D RL cL_law 20) (hN : mm_N b D s σ H locs) (hV : lq_V σ T x0) (hW : mm_WF T) (hI : lq_I T) (hl : lv_has ls 20 (lq_l1 D x0 T.nA st k kw T.nP ka kp kt wt bf)) (hw : kw < 134217728) (ha : ka < 16) (hp : kp < 32) (ht : kt < 8) (hc : cells + 1000 ≤ 600312) (hs : slots + 15000 ≤ 7293410)
    (kk : ∀ (T2 : mm_T) (its : Int32) (σ2 : mm_S) (ls : Array Slot) (H : Heap) (locs : List Loc), lq_V σ2 T2 x0 → mm_WF T2 → lq_I T2 → (its < (-1000) → T2 = T) → mm_N b D s σ2 H locs → lv_has ls 20 (lq_l2 D x0 T2.nA st k wt bf its) → W p l e room_1 s m args below meth c H locs (cells + 1000) (slots + 15000) Q (F0 m 857 ls [])) : W p l e room_1 s m args below meth c H locs cells slots Q (F0 m 456 ls []) := by
  have hl : lv_has ls 20 [(0, .ref ((D.2.1 400))), (1, .ref x0), (2, .int (nI T.nA)), (3, .int (nI st)), (4, .int (nI k)), (6, .int (nI kw)), (7, .int (nI T.nP)), (8, .int (nI ka)), (9, .int (nI kp)), (10, .int (nI kt)), (11, .int (nI wt)), (12, .long bf), (14, .int (nI 0))] := hl
  have wnA := hW.hnA
  have wnP := hW.hnP
  have wnT := hW.hnT
  have wnR := hW.hnR
  have wpa := hW.hpa
  have wen0 := hW.hen 0
  have wen1 := hW.hen 1
  have wbo := hW.hbo
  refine va_ldcS (pc := 456) F.1 F.2.1 F.2.2.2.1 (lq_strE F.2.2.2.2.2.1).2.1.1 dL_law_456 ?_
  refine W.eq (g2 := F0 m 458 ls [.ref ((D.2.1 (200 + 0)))]) rfl ?_
  refine lv_iload (pc := 458) F.1 F.2.1 dL_law_458 (lv_at hl 5 rfl) ?_
  refine lv_iconst (pc := 460) (v := nI 3) F.1 F.2.1 dL_law_460 (by decide) ?_
  refine mm_idiv (pc := 461) F (z := nI (kw / 3)) (pk_div (by omega) (by omega) (by omega)) (by decide) dL_law_461 ?_
  refine lv_iconst (pc := 462) (v := nI 4) F.1 F.2.1 dL_law_462 (by decide) ?_
  refine mm_irem (pc := 463) F (z := nI ((kw / 3) % 4)) (lq_mod (by omega) (by omega) (by omega)) (lq_ne0 (by omega) (by omega)) dL_law_463 ?_
  refine mm_runV (pc := 464) (As := [.int (nI ((kw / 3) % 4))]) (rest := []) F hN (e_charAt l b D F.2.2.2.2.2.2.2.1 0 (by decide) ((kw / 3) % 4) (by omega) σ) mw_1160 mw_1161 mw_1162 mw_11 mw_1163 ⟨pmJ0_charAt_5068e, (Nat.le_of_ble_eq_true rfl), (Nat.le_of_ble_eq_true rfl)⟩ (by obtain ⟨cell, h1, h2, h3, -⟩ := (lq_sE F.2.2.2.2.2.1 (i := 0) (by decide)).1.kept hN.2.2.1; exact ⟨cell, h1, h2, h3⟩) hl.1 rfl (Nat.le_of_ble_eq_true rfl) ⟨by show cells + 0 ≤ 600312; omega, by show slots + 0 ≤ 7293410; omega⟩ dL_law_464
    (fun _ _ _ _ _ _ h9 => False.elim h9) (fun v9 σ9 H locs hp9 hN => ?_)
  obtain ⟨⟨ch, hch, rfl⟩, h9⟩ := hp9
  rw [h9] at hN
  refine W.eq (g2 := F0 m 467 ls [.int (nI ch)]) rfl ?_
  refine W.widen (k := cells) (n := slots) (Nat.le_refl _) (Nat.le_refl _) ?_
  refine lv_istore (pc := 467) (lv' := [(16, .int (nI ch)), (0, .ref ((D.2.1 400))), (1, .ref x0), (2, .int (nI T.nA)), (3, .int (nI st)), (4, .int (nI k)), (6, .int (nI kw)), (7, .int (nI T.nP)), (8, .int (nI ka)), (9, .int (nI kp)), (10, .int (nI kt)), (11, .int (nI wt)), (12, .long bf), (14, .int (nI 0))]) F.1 F.2.1 dL_law_467 hl (by decide) rfl (fun ls hl => ?_)
  refine lv_aload_n (pc := 469) F.1 F.2.1 dL_law_469 rfl (lv_at hl 2 rfl) ?_
  refine lv_iload (pc := 470) F.1 F.2.1 dL_law_470 (lv_at hl 9 rfl) ?_
  refine lv_iload (pc := 472) F.1 F.2.1 dL_law_472 (lv_at hl 0 rfl) ?_
  by_cases hc45 : ch = 45
  ·
    subst hc45
    refine mm_runSX (pc := 474) (As := [.ref x0, .int (nI kp), .int (nI 45)]) (rest := []) F hN (e_allow l b D F.2.2.2.2.2.2.2.1 T x0 σ hV hW kp (by omega)) mw_421 mw_422 mw_0 mw_423 ⟨pmL_suppress, (Nat.le_of_ble_eq_true rfl), (Nat.le_of_ble_eq_true rfl)⟩ hl.1 rfl (Nat.le_of_ble_eq_true rfl) ⟨by show cells + 6 ≤ 600312; omega, by show slots + 40 ≤ 7293410; omega⟩ dL_law_474
      (fun _ _ _ _ _ _ h9 => False.elim h9) (fun v9 σ1 H locs hp9 hN => ?_)
    obtain ⟨rfl, hx1⟩ := hp9
    refine W.eq (g2 := F0 m 477 ls [.int (lq_i (mm_q_allow T kp) (T.re kp))]) rfl ?_
    refine W.widen (k := cells + 6) (n := slots + 40) (Nat.le_refl _) (Nat.le_refl _) ?_
    have hV1 := hx1.v
    have hF1 := mm_Fr.tr mm_Fr.rf hx1.fr
    obtain ⟨T2, eT2⟩ : ∃ z9, z9 = (if mm_q_allow T kp = 0 then (T.w 6 (mm_u2 (T 6) kp 0 45)) else T) := ⟨_, rfl⟩
    have hV1 : lq_V σ1 T2 x0 := by rw [eT2]; exact hx1.v
    have hW2 : mm_WF T2 := by rw [eT2]; exact mm_wf_allow hW kp (by omega)
    have hI2 : lq_I T2 := by rw [eT2]; exact lq_i_allow hI kp
    have hA2 : T2.nA = T.nA := by rw [eT2]; (repeat' split) <;> rfl
    by_cases hq : mm_q_allow T kp = 0
    ·
      have e2 : T2 = (T.w 6 (mm_u2 (T 6) kp 0 45)) := by rw [eT2, if_pos hq]
      have h8 : kp < T.nP := by unfold mm_q_allow at hq; revert hq; split <;> omega
      obtain ⟨who, wfl, wre⟩ := hW.hpe kp h8
      have f0 : T2.nP = T.nP := by rw [e2]; rfl
      have f1 : T2.re kp = 45 := by rw [e2]; exact if_pos ⟨rfl, rfl⟩
      refine W.eq (g2 := F0 m 477 ls [.int (nI ((T.re kp)))]) (by rw [lq_i0 hq]) ?_
      refine lv_istore (pc := 477) (lv' := [(14, .int (nI ((T.re kp)))), (16, .int (nI 45)), (0, .ref ((D.2.1 400))), (1, .ref x0), (2, .int (nI T.nA)), (3, .int (nI st)), (4, .int (nI k)), (6, .int (nI kw)), (7, .int (nI T.nP)), (8, .int (nI ka)), (9, .int (nI kp)), (10, .int (nI kt)), (11, .int (nI wt)), (12, .long bf)]) F.1 F.2.1 dL_law_477 hl (by decide) rfl (fun ls hl => ?_)
      refine lv_iload (pc := 479) F.1 F.2.1 dL_law_479 (lv_at hl 0 rfl) ?_
      refine mm_if_lt (pc := 481) F (tgt := 498) (by omega) dL_law_481 (by decide) ?_
      refine lv_aload_n (pc := 484) F.1 F.2.1 dL_law_484 rfl (lv_at hl 3 rfl) ?_
      refine lv_iload (pc := 485) F.1 F.2.1 dL_law_485 (lv_at hl 10 rfl) ?_
      refine lv_iconst (pc := 487) (v := nI 1) F.1 F.2.1 dL_law_487 (by decide) ?_
      refine mm_runSX (pc := 488) (As := [.ref x0, .int (nI kp), .int (nI 1)]) (rest := []) F hN (e_reason l b D F.2.2.2.2.2.2.2.1 T2 x0 σ1 hV1 hW2 kp (by omega)) mw_438 mw_439 mw_0 mw_440 ⟨pmL_of, (Nat.le_of_ble_eq_true rfl), (Nat.le_of_ble_eq_true rfl)⟩ hl.1 rfl (Nat.le_of_ble_eq_true rfl) ⟨by show (cells + 6) + 6 ≤ 600312; omega, by show (slots + 40) + 40 ≤ 7293410; omega⟩ dL_law_488
        (fun _ _ _ _ _ _ h9 => False.elim h9) (fun v9 σ2 H locs hp9 hN => ?_)
      obtain ⟨rfl, hx2⟩ := hp9
      refine W.eq (g2 := F0 m 491 ls [.int (lq_i (mm_q_reasonOf T2 kp) (T2.re kp))]) rfl ?_
      refine W.widen (k := cells + 6 + 6) (n := slots + 40 + 40) (Nat.le_refl _) (Nat.le_refl _) ?_
      have hV2 := hx2.v
      have hF2 := mm_Fr.tr hF1 hx2.fr
      refine W.eq (g2 := F0 m 491 ls [.int (nI ((T2.re kp)))]) (by rw [lq_i0 (by unfold mm_q_reasonOf; (repeat' split) <;> omega)]) ?_
      refine W.eq (g2 := F0 m 491 ls [.int (nI 45)]) (by rw [f1]) ?_
      refine lv_iload (pc := 491) F.1 F.2.1 dL_law_491 (lv_at hl 1 rfl) ?_
      refine mm_icmp_eq (pc := 493) F (x := 45) (y := 45) (tgt := 498) (by omega) (by omega) dL_law_493 (by decide) (fun cz493 => ?_) (fun h9 => absurd h9 (by decide))
      refine lv_goto (pc := 498) (tgt := 857) F.1 F.2.1 dL_law_498 (by decide) ?_
      exact W.widen (by omega) (by omega) (kk T2 (nI ((T.re kp))) σ2 ls H locs hV2 hW2 hI2 (fun h9 => absurd h9 (lq_nlt (by omega))) hN (lq_l2e (hA2.symm) (lv_sub hl [2, 3, 4, 5, 6, 12, 13, 0] rfl)))
    ·
      have e2 : T2 = T := by rw [eT2, if_neg hq]
      refine W.eq (g2 := F0 m 477 ls [.int (lq_e (mm_q_allow T kp))]) (by rw [lq_iz hq]) ?_
      refine lv_istore (pc := 477) (lv' := [(14, .int (lq_e (mm_q_allow T kp))), (16, .int (nI 45)), (0, .ref ((D.2.1 400))), (1, .ref x0), (2, .int (nI T.nA)), (3, .int (nI st)), (4, .int (nI k)), (6, .int (nI kw)), (7, .int (nI T.nP)), (8, .int (nI ka)), (9, .int (nI kp)), (10, .int (nI kt)), (11, .int (nI wt)), (12, .long bf)]) F.1 F.2.1 dL_law_477 hl (by decide) rfl (fun ls hl => ?_)
      refine lv_iload (pc := 479) F.1 F.2.1 dL_law_479 (lv_at hl 0 rfl) ?_
      refine lv_if_lt (pc := 481) (tgt := 498) F.1 F.2.1 dL_law_481 (by decide) (fun cz481 => ?_) (fun cz481 => ?_)
      ·
        refine lv_goto (pc := 498) (tgt := 857) F.1 F.2.1 dL_law_498 (by decide) ?_
        exact W.widen (by omega) (by omega) (kk T2 (lq_e (mm_q_allow T kp)) σ1 ls H locs hV1 hW2 hI2 (fun _ => e2) hN (lq_l2e (hA2.symm) (lv_sub hl [2, 3, 4, 5, 6, 12, 13, 0] rfl)))
      ·
        exact absurd (lq_elt _) cz481
  ·
    refine mm_runSX (pc := 474) (As := [.ref x0, .int (nI kp), .int (nI ch)]) (rest := []) F hN (e_suppr l b D F.2.2.2.2.2.2.2.1 T x0 σ hV hW kp (by omega) ch (by omega) hc45) mw_421 mw_422 mw_0 mw_423 ⟨pmL_suppress, (Nat.le_of_ble_eq_true rfl), (Nat.le_of_ble_eq_true rfl)⟩ hl.1 rfl (Nat.le_of_ble_eq_true rfl) ⟨by show cells + 6 ≤ 600312; omega, by show slots + 40 ≤ 7293410; omega⟩ dL_law_474
      (fun _ _ _ _ _ _ h9 => False.elim h9) (fun v9 σ3 H locs hp9 hN => ?_)
    obtain ⟨rfl, hx3⟩ := hp9
    refine W.eq (g2 := F0 m 477 ls [.int (lq_i (mm_q_suppress T kp ch) (T.re kp))]) rfl ?_
    refine W.widen (k := cells + 6) (n := slots + 40) (Nat.le_refl _) (Nat.le_refl _) ?_
    have hV3 := hx3.v
    have hF3 := mm_Fr.tr mm_Fr.rf hx3.fr
    obtain ⟨T2, eT2⟩ : ∃ z9, z9 = (if mm_q_suppress T kp ch = 0 then (T.w 6 (mm_u2 (T 6) kp 0 ch)) else T) := ⟨_, rfl⟩
    have hV3 : lq_V σ3 T2 x0 := by rw [eT2]; exact hx3.v
    have hW2 : mm_WF T2 := by rw [eT2]; exact mm_wf_suppress hW kp (by omega) ch (by omega)
    have hI2 : lq_I T2 := by rw [eT2]; exact lq_i_suppress hI kp ch
    have hA2 : T2.nA = T.nA := by rw [eT2]; (repeat' split) <;> rfl
    by_cases hq : mm_q_suppress T kp ch = 0
    ·
      have e2 : T2 = (T.w 6 (mm_u2 (T 6) kp 0 ch)) := by rw [eT2, if_pos hq]
      have h8 : kp < T.nP := by unfold mm_q_suppress at hq; revert hq; split <;> omega
      obtain ⟨who, wfl, wre⟩ := hW.hpe kp h8
      have f0 : T2.nP = T.nP := by rw [e2]; rfl
      have f1 : T2.re kp = ch := by rw [e2]; exact if_pos ⟨rfl, rfl⟩
      refine W.eq (g2 := F0 m 477 ls [.int (nI ((T.re kp)))]) (by rw [lq_i0 hq]) ?_
      refine lv_istore (pc := 477) (lv' := [(14, .int (nI ((T.re kp)))), (16, .int (nI ch)), (0, .ref ((D.2.1 400))), (1, .ref x0), (2, .int (nI T.nA)), (3, .int (nI st)), (4, .int (nI k)), (6, .int (nI kw)), (7, .int (nI T.nP)), (8, .int (nI ka)), (9, .int (nI kp)), (10, .int (nI kt)), (11, .int (nI wt)), (12, .long bf)]) F.1 F.2.1 dL_law_477 hl (by decide) rfl (fun ls hl => ?_)
      refine lv_iload (pc := 479) F.1 F.2.1 dL_law_479 (lv_at hl 0 rfl) ?_
      refine mm_if_lt (pc := 481) F (tgt := 498) (by omega) dL_law_481 (by decide) ?_
      refine lv_aload_n (pc := 484) F.1 F.2.1 dL_law_484 rfl (lv_at hl 3 rfl) ?_
      refine lv_iload (pc := 485) F.1 F.2.1 dL_law_485 (lv_at hl 10 rfl) ?_
      refine lv_iconst (pc := 487) (v := nI 1) F.1 F.2.1 dL_law_487 (by decide) ?_
      refine mm_runSX (pc := 488) (As := [.ref x0, .int (nI kp), .int (nI 1)]) (rest := []) F hN (e_reason l b D F.2.2.2.2.2.2.2.1 T2 x0 σ3 hV3 hW2 kp (by omega)) mw_438 mw_439 mw_0 mw_440 ⟨pmL_of, (Nat.le_of_ble_eq_true rfl), (Nat.le_of_ble_eq_true rfl)⟩ hl.1 rfl (Nat.le_of_ble_eq_true rfl) ⟨by show (cells + 6) + 6 ≤ 600312; omega, by show (slots + 40) + 40 ≤ 7293410; omega⟩ dL_law_488
        (fun _ _ _ _ _ _ h9 => False.elim h9) (fun v9 σ4 H locs hp9 hN => ?_)
      obtain ⟨rfl, hx4⟩ := hp9
      refine W.eq (g2 := F0 m 491 ls [.int (lq_i (mm_q_reasonOf T2 kp) (T2.re kp))]) rfl ?_
      refine W.widen (k := cells + 6 + 6) (n := slots + 40 + 40) (Nat.le_refl _) (Nat.le_refl _) ?_
      have hV4 := hx4.v
      have hF4 := mm_Fr.tr hF3 hx4.fr
      refine W.eq (g2 := F0 m 491 ls [.int (nI ((T2.re kp)))]) (by rw [lq_i0 (by unfold mm_q_reasonOf; (repeat' split) <;> omega)]) ?_
      refine W.eq (g2 := F0 m 491 ls [.int (nI ch)]) (by rw [f1]) ?_
      refine lv_iload (pc := 491) F.1 F.2.1 dL_law_491 (lv_at hl 1 rfl) ?_
      refine mm_icmp_eq (pc := 493) F (x := ch) (y := ch) (tgt := 498) (by omega) (by omega) dL_law_493 (by decide) (fun cz493 => ?_) (fun cz493 => ?_)
      ·
        refine lv_goto (pc := 498) (tgt := 857) F.1 F.2.1 dL_law_498 (by decide) ?_
        exact W.widen (by omega) (by omega) (kk T2 (nI ((T.re kp))) σ4 ls H locs hV4 hW2 hI2 (fun h9 => absurd h9 (lq_nlt (by omega))) hN (lq_l2e (hA2.symm) (lv_sub hl [2, 3, 4, 5, 6, 12, 13, 0] rfl)))
      ·
        exact absurd rfl cz493
    ·
      have e2 : T2 = T := by rw [eT2, if_neg hq]
      refine W.eq (g2 := F0 m 477 ls [.int (lq_e (mm_q_suppress T kp ch))]) (by rw [lq_iz hq]) ?_
      refine lv_istore (pc := 477) (lv' := [(14, .int (lq_e (mm_q_suppress T kp ch))), (16, .int (nI ch)), (0, .ref ((D.2.1 400))), (1, .ref x0), (2, .int (nI T.nA)), (3, .int (nI st)), (4, .int (nI k)), (6, .int (nI kw)), (7, .int (nI T.nP)), (8, .int (nI ka)), (9, .int (nI kp)), (10, .int (nI kt)), (11, .int (nI wt)), (12, .long bf)]) F.1 F.2.1 dL_law_477 hl (by decide) rfl (fun ls hl => ?_)
      refine lv_iload (pc := 479) F.1 F.2.1 dL_law_479 (lv_at hl 0 rfl) ?_
      refine lv_if_lt (pc := 481) (tgt := 498) F.1 F.2.1 dL_law_481 (by decide) (fun cz481 => ?_) (fun cz481 => ?_)
      ·
        refine lv_goto (pc := 498) (tgt := 857) F.1 F.2.1 dL_law_498 (by decide) ?_
        exact W.widen (by omega) (by omega) (kk T2 (lq_e (mm_q_suppress T kp ch)) σ3 ls H locs hV3 hW2 hI2 (fun _ => e2) hN (lq_l2e (hA2.symm) (lv_sub hl [2, 3, 4, 5, 6, 12, 13, 0] rfl)))
      ·
        exact absurd (lq_elt _) cz481

set_option maxHeartbeats 4000000 in
set_option maxRecDepth 100000 in
theorem lc_template {p : Program} {l : Launch} {e : Env} {s : State} {m : MethodId} {args : Array Value} {below : List Frame} {meth : Method} {c : Code} {H : Heap} {locs : List Loc} {cells slots : Nat} {Q : State → Prop} {b : Nat} {D : mm_D} {σ : mm_S} {T : mm_T} {x0 st k kw ka kp kt wt : Nat} {bf : Int64} {ls : Array Slot}
    (F : mm_F p l s m args meth c b D RL cL_law 20) (hN : mm_N b D s σ H locs) (hV : lq_V σ T x0) (hW : mm_WF T) (hI : lq_I T) (hl : lv_has ls 20 (lq_l1 D x0 T.nA st k kw T.nP ka kp kt wt bf)) (hw : kw < 134217728) (ha : ka < 16) (hp : kp < 32) (ht : kt < 8) (hc : cells + 1000 ≤ 600312) (hs : slots + 15000 ≤ 7293410)
    (kk : ∀ (T2 : mm_T) (its : Int32) (σ2 : mm_S) (ls : Array Slot) (H : Heap) (locs : List Loc), lq_V σ2 T2 x0 → mm_WF T2 → lq_I T2 → (its < (-1000) → T2 = T) → mm_N b D s σ2 H locs → lv_has ls 20 (lq_l2 D x0 T2.nA st k wt bf its) → W p l e room_1 s m args below meth c H locs (cells + 1000) (slots + 15000) Q (F0 m 857 ls [])) : W p l e room_1 s m args below meth c H locs cells slots Q (F0 m 508 ls []) := by
  have hl : lv_has ls 20 [(0, .ref ((D.2.1 400))), (1, .ref x0), (2, .int (nI T.nA)), (3, .int (nI st)), (4, .int (nI k)), (6, .int (nI kw)), (7, .int (nI T.nP)), (8, .int (nI ka)), (9, .int (nI kp)), (10, .int (nI kt)), (11, .int (nI wt)), (12, .long bf), (14, .int (nI 0))] := hl
  have wnA := hW.hnA
  have wnP := hW.hnP
  have wnT := hW.hnT
  have wnR := hW.hnR
  have wpa := hW.hpa
  have wen0 := hW.hen 0
  have wen1 := hW.hen 1
  have wbo := hW.hbo
  refine lv_aload_n (pc := 508) F.1 F.2.1 dL_law_508 rfl (lv_at hl 1 rfl) ?_
  refine mm_runSX (pc := 509) (As := [.ref x0]) (rest := []) F hN (e_tmpl l b D F.2.2.2.2.2.2.2.1 T x0 σ hV hW) mw_453 mw_454 mw_0 mw_455 ⟨pmL_template, (Nat.le_of_ble_eq_true rfl), (Nat.le_of_ble_eq_true rfl)⟩ hl.1 rfl (Nat.le_of_ble_eq_true rfl) ⟨by show cells + 8 ≤ 600312; omega, by show slots + 300 ≤ 7293410; omega⟩ dL_law_509
    (fun _ _ _ _ _ _ h9 => False.elim h9) (fun v9 σ1 H locs hp9 hN => ?_)
  obtain ⟨rfl, hx1⟩ := hp9
  refine W.eq (g2 := F0 m 512 ls [.int (lq_i (mm_q_addTemplate T) (T.nT))]) rfl ?_
  refine W.widen (k := cells + 8) (n := slots + 300) (Nat.le_refl _) (Nat.le_refl _) ?_
  have hV1 := hx1.v
  have hF1 := mm_Fr.tr mm_Fr.rf hx1.fr
  obtain ⟨T2, eT2⟩ : ∃ z9, z9 = (if mm_q_addTemplate T = 0 then (mm_t_addTemplate T) else T) := ⟨_, rfl⟩
  have hV1 : lq_V σ1 T2 x0 := by rw [eT2]; exact hx1.v
  have hW2 : mm_WF T2 := by rw [eT2]; exact mm_wf_addTemplate hW
  have hI2 : lq_I T2 := by rw [eT2]; exact lq_i_addTemplate hI
  have hA2 : T2.nA = T.nA := by rw [eT2]; (repeat' split) <;> rfl
  by_cases hq : mm_q_addTemplate T = 0
  ·
    have e2 : T2 = (mm_t_addTemplate T) := by rw [eT2, if_pos hq]
    refine W.eq (g2 := F0 m 512 ls [.int (nI ((T.nT)))]) (by rw [lq_i0 hq]) ?_
    refine lv_istore (pc := 512) (lv' := [(14, .int (nI ((T.nT)))), (0, .ref ((D.2.1 400))), (1, .ref x0), (2, .int (nI T.nA)), (3, .int (nI st)), (4, .int (nI k)), (6, .int (nI kw)), (7, .int (nI T.nP)), (8, .int (nI ka)), (9, .int (nI kp)), (10, .int (nI kt)), (11, .int (nI wt)), (12, .long bf)]) F.1 F.2.1 dL_law_512 hl (by decide) rfl (fun ls hl => ?_)
    refine lv_goto (pc := 514) (tgt := 857) F.1 F.2.1 dL_law_514 (by decide) ?_
    exact W.widen (by omega) (by omega) (kk T2 (nI ((T.nT))) σ1 ls H locs hV1 hW2 hI2 (fun h9 => absurd h9 (lq_nlt (by omega))) hN (lq_l2e (hA2.symm) (lv_sub hl [1, 2, 3, 4, 5, 11, 12, 0] rfl)))
  ·
    have e2 : T2 = T := by rw [eT2, if_neg hq]
    refine W.eq (g2 := F0 m 512 ls [.int (lq_e (mm_q_addTemplate T))]) (by rw [lq_iz hq]) ?_
    refine lv_istore (pc := 512) (lv' := [(14, .int (lq_e (mm_q_addTemplate T))), (0, .ref ((D.2.1 400))), (1, .ref x0), (2, .int (nI T.nA)), (3, .int (nI st)), (4, .int (nI k)), (6, .int (nI kw)), (7, .int (nI T.nP)), (8, .int (nI ka)), (9, .int (nI kp)), (10, .int (nI kt)), (11, .int (nI wt)), (12, .long bf)]) F.1 F.2.1 dL_law_512 hl (by decide) rfl (fun ls hl => ?_)
    refine lv_goto (pc := 514) (tgt := 857) F.1 F.2.1 dL_law_514 (by decide) ?_
    exact W.widen (by omega) (by omega) (kk T2 (lq_e (mm_q_addTemplate T)) σ1 ls H locs hV1 hW2 hI2 (fun _ => e2) hN (lq_l2e (hA2.symm) (lv_sub hl [1, 2, 3, 4, 5, 11, 12, 0] rfl)))

set_option maxHeartbeats 4000000 in
set_option maxRecDepth 100000 in
theorem lc_part {p : Program} {l : Launch} {e : Env} {s : State} {m : MethodId} {args : Array Value} {below : List Frame} {meth : Method} {c : Code} {H : Heap} {locs : List Loc} {cells slots : Nat} {Q : State → Prop} {b : Nat} {D : mm_D} {σ : mm_S} {T : mm_T} {x0 st k kw ka kp kt wt : Nat} {bf : Int64} {ls : Array Slot}
    (F : mm_F p l s m args meth c b D RL cL_law 20) (hN : mm_N b D s σ H locs) (hV : lq_V σ T x0) (hW : mm_WF T) (hI : lq_I T) (hl : lv_has ls 20 (lq_l1 D x0 T.nA st k kw T.nP ka kp kt wt bf)) (hw : kw < 134217728) (ha : ka < 16) (hp : kp < 32) (ht : kt < 8) (hc : cells + 1000 ≤ 600312) (hs : slots + 15000 ≤ 7293410)
    (kk : ∀ (T2 : mm_T) (its : Int32) (σ2 : mm_S) (ls : Array Slot) (H : Heap) (locs : List Loc), lq_V σ2 T2 x0 → mm_WF T2 → lq_I T2 → (its < (-1000) → T2 = T) → mm_N b D s σ2 H locs → lv_has ls 20 (lq_l2 D x0 T2.nA st k wt bf its) → W p l e room_1 s m args below meth c H locs (cells + 1000) (slots + 15000) Q (F0 m 857 ls [])) : W p l e room_1 s m args below meth c H locs cells slots Q (F0 m 524 ls []) := by
  have hl : lv_has ls 20 [(0, .ref ((D.2.1 400))), (1, .ref x0), (2, .int (nI T.nA)), (3, .int (nI st)), (4, .int (nI k)), (6, .int (nI kw)), (7, .int (nI T.nP)), (8, .int (nI ka)), (9, .int (nI kp)), (10, .int (nI kt)), (11, .int (nI wt)), (12, .long bf), (14, .int (nI 0))] := hl
  have wnA := hW.hnA
  have wnP := hW.hnP
  have wnT := hW.hnT
  have wnR := hW.hnR
  have wpa := hW.hpa
  have wen0 := hW.hen 0
  have wen1 := hW.hen 1
  have wbo := hW.hbo
  refine lv_aload_n (pc := 524) F.1 F.2.1 dL_law_524 rfl (lv_at hl 1 rfl) ?_
  refine lv_iload (pc := 525) F.1 F.2.1 dL_law_525 (lv_at hl 9 rfl) ?_
  refine lv_iconst (pc := 527) (v := nI 1) F.1 F.2.1 dL_law_527 (by decide) ?_
  refine lv_iload (pc := 528) F.1 F.2.1 dL_law_528 (lv_at hl 5 rfl) ?_
  refine lv_iconst (pc := 530) (v := nI 4) F.1 F.2.1 dL_law_530 (by decide) ?_
  refine mm_idiv (pc := 531) F (z := nI (kw / 4)) (pk_div (by omega) (by omega) (by omega)) (by decide) dL_law_531 ?_
  refine lv_bipush (pc := 532) (v := nI 40) F.1 F.2.1 dL_law_532 (by decide) ?_
  refine mm_irem (pc := 534) F (z := nI ((kw / 4) % 40)) (lq_mod (by omega) (by omega) (by omega)) (lq_ne0 (by omega) (by omega)) dL_law_534 ?_
  refine mm_iadd (pc := 535) F (z := nI (1 + ((kw / 4) % 40))) (nI_add _ _) dL_law_535 ?_
  refine lv_iload (pc := 536) F.1 F.2.1 dL_law_536 (lv_at hl 5 rfl) ?_
  refine lv_sipush (pc := 538) (v := nI 160) F.1 F.2.1 dL_law_538 (by decide) ?_
  refine mm_idiv (pc := 541) F (z := nI (kw / 160)) (pk_div (by omega) (by omega) (by omega)) (by decide) dL_law_541 ?_
  refine lv_iconst (pc := 542) (v := nI 3) F.1 F.2.1 dL_law_542 (by decide) ?_
  refine mm_irem (pc := 543) F (z := nI ((kw / 160) % 3)) (lq_mod (by omega) (by omega) (by omega)) (lq_ne0 (by omega) (by omega)) dL_law_543 ?_
  refine lv_iload (pc := 544) F.1 F.2.1 dL_law_544 (lv_at hl 5 rfl) ?_
  refine lv_sipush (pc := 546) (v := nI 480) F.1 F.2.1 dL_law_546 (by decide) ?_
  refine mm_idiv (pc := 549) F (z := nI (kw / 480)) (pk_div (by omega) (by omega) (by omega)) (by decide) dL_law_549 ?_
  refine lv_iconst (pc := 550) (v := nI 2) F.1 F.2.1 dL_law_550 (by decide) ?_
  refine mm_irem (pc := 551) F (z := nI ((kw / 480) % 2)) (lq_mod (by omega) (by omega) (by omega)) (lq_ne0 (by omega) (by omega)) dL_law_551 ?_
  refine lv_iconst (pc := 552) (v := nI 4) F.1 F.2.1 dL_law_552 (by decide) ?_
  refine mm_imul (pc := 553) F (z := nI (((kw / 480) % 2) * 4)) (pk_mul _ _) dL_law_553 ?_
  refine mm_runSX (pc := 554) (As := [.ref x0, .int (nI kt), .int (nI (1 + ((kw / 4) % 40))), .int (nI ((kw / 160) % 3)), .int (nI (((kw / 480) % 2) * 4))]) (rest := []) F hN (e_part l b D F.2.2.2.2.2.2.2.1 T x0 σ hV hW kt (by omega) (1 + ((kw / 4) % 40)) (by omega) ((kw / 160) % 3) (by omega) (((kw / 480) % 2) * 4) (by omega)) mw_485 mw_486 mw_0 mw_487 ⟨pmL_part, (Nat.le_of_ble_eq_true rfl), (Nat.le_of_ble_eq_true rfl)⟩ hl.1 rfl (Nat.le_of_ble_eq_true rfl) ⟨by show cells + 6 ≤ 600312; omega, by show slots + 40 ≤ 7293410; omega⟩ dL_law_554
    (fun _ _ _ _ _ _ h9 => False.elim h9) (fun v9 σ1 H locs hp9 hN => ?_)
  obtain ⟨rfl, hx1⟩ := hp9
  refine W.eq (g2 := F0 m 557 ls [.int (lq_i (mm_q_addPart T kt (1 + ((kw / 4) % 40)) ((kw / 160) % 3) (((kw / 480) % 2) * 4)) (T.pc kt + 1))]) rfl ?_
  refine W.widen (k := cells + 6) (n := slots + 40) (Nat.le_refl _) (Nat.le_refl _) ?_
  have hV1 := hx1.v
  have hF1 := mm_Fr.tr mm_Fr.rf hx1.fr
  obtain ⟨T2, eT2⟩ : ∃ z9, z9 = (if mm_q_addPart T kt (1 + ((kw / 4) % 40)) ((kw / 160) % 3) (((kw / 480) % 2) * 4) = 0 then (mm_t_addPart T kt (1 + ((kw / 4) % 40)) ((kw / 160) % 3) (((kw / 480) % 2) * 4)) else T) := ⟨_, rfl⟩
  have hV1 : lq_V σ1 T2 x0 := by rw [eT2]; exact hx1.v
  have hW2 : mm_WF T2 := by rw [eT2]; exact mm_wf_addPart hW kt (by omega) (1 + ((kw / 4) % 40)) (by omega) ((kw / 160) % 3) (by omega) (((kw / 480) % 2) * 4) (by omega)
  have hI2 : lq_I T2 := by rw [eT2]; exact lq_i_addPart hI kt (1 + ((kw / 4) % 40)) ((kw / 160) % 3) (((kw / 480) % 2) * 4)
  have hA2 : T2.nA = T.nA := by rw [eT2]; (repeat' split) <;> rfl
  by_cases hq : mm_q_addPart T kt (1 + ((kw / 4) % 40)) ((kw / 160) % 3) (((kw / 480) % 2) * 4) = 0
  ·
    have e2 : T2 = (mm_t_addPart T kt (1 + ((kw / 4) % 40)) ((kw / 160) % 3) (((kw / 480) % 2) * 4)) := by rw [eT2, if_pos hq]
    have h8 : kt < T.nT := by unfold mm_q_addPart at hq; revert hq; split <;> omega
    have h9 := (hW.htp kt h8).1
    refine W.eq (g2 := F0 m 557 ls [.int (nI ((T.pc kt + 1)))]) (by rw [lq_i0 hq]) ?_
    refine lv_istore (pc := 557) (lv' := [(14, .int (nI ((T.pc kt + 1)))), (0, .ref ((D.2.1 400))), (1, .ref x0), (2, .int (nI T.nA)), (3, .int (nI st)), (4, .int (nI k)), (6, .int (nI kw)), (7, .int (nI T.nP)), (8, .int (nI ka)), (9, .int (nI kp)), (10, .int (nI kt)), (11, .int (nI wt)), (12, .long bf)]) F.1 F.2.1 dL_law_557 hl (by decide) rfl (fun ls hl => ?_)
    refine lv_goto (pc := 559) (tgt := 857) F.1 F.2.1 dL_law_559 (by decide) ?_
    exact W.widen (by omega) (by omega) (kk T2 (nI ((T.pc kt + 1))) σ1 ls H locs hV1 hW2 hI2 (fun h9 => absurd h9 (lq_nlt (by omega))) hN (lq_l2e (hA2.symm) (lv_sub hl [1, 2, 3, 4, 5, 11, 12, 0] rfl)))
  ·
    have e2 : T2 = T := by rw [eT2, if_neg hq]
    refine W.eq (g2 := F0 m 557 ls [.int (lq_e (mm_q_addPart T kt (1 + ((kw / 4) % 40)) ((kw / 160) % 3) (((kw / 480) % 2) * 4)))]) (by rw [lq_iz hq]) ?_
    refine lv_istore (pc := 557) (lv' := [(14, .int (lq_e (mm_q_addPart T kt (1 + ((kw / 4) % 40)) ((kw / 160) % 3) (((kw / 480) % 2) * 4)))), (0, .ref ((D.2.1 400))), (1, .ref x0), (2, .int (nI T.nA)), (3, .int (nI st)), (4, .int (nI k)), (6, .int (nI kw)), (7, .int (nI T.nP)), (8, .int (nI ka)), (9, .int (nI kp)), (10, .int (nI kt)), (11, .int (nI wt)), (12, .long bf)]) F.1 F.2.1 dL_law_557 hl (by decide) rfl (fun ls hl => ?_)
    refine lv_goto (pc := 559) (tgt := 857) F.1 F.2.1 dL_law_559 (by decide) ?_
    exact W.widen (by omega) (by omega) (kk T2 (lq_e (mm_q_addPart T kt (1 + ((kw / 4) % 40)) ((kw / 160) % 3) (((kw / 480) % 2) * 4))) σ1 ls H locs hV1 hW2 hI2 (fun _ => e2) hN (lq_l2e (hA2.symm) (lv_sub hl [1, 2, 3, 4, 5, 11, 12, 0] rfl)))

set_option maxHeartbeats 4000000 in
set_option maxRecDepth 100000 in
theorem lc_bound {p : Program} {l : Launch} {e : Env} {s : State} {m : MethodId} {args : Array Value} {below : List Frame} {meth : Method} {c : Code} {H : Heap} {locs : List Loc} {cells slots : Nat} {Q : State → Prop} {b : Nat} {D : mm_D} {σ : mm_S} {T : mm_T} {x0 st k kw ka kp kt wt : Nat} {bf : Int64} {ls : Array Slot}
    (F : mm_F p l s m args meth c b D RL cL_law 20) (hN : mm_N b D s σ H locs) (hV : lq_V σ T x0) (hW : mm_WF T) (hI : lq_I T) (hl : lv_has ls 20 (lq_l1 D x0 T.nA st k kw T.nP ka kp kt wt bf)) (hw : kw < 134217728) (ha : ka < 16) (hp : kp < 32) (ht : kt < 8) (hc : cells + 1000 ≤ 600312) (hs : slots + 15000 ≤ 7293410)
    (kk : ∀ (T2 : mm_T) (its : Int32) (σ2 : mm_S) (ls : Array Slot) (H : Heap) (locs : List Loc), lq_V σ2 T2 x0 → mm_WF T2 → lq_I T2 → (its < (-1000) → T2 = T) → mm_N b D s σ2 H locs → lv_has ls 20 (lq_l2 D x0 T2.nA st k wt bf its) → W p l e room_1 s m args below meth c H locs (cells + 1000) (slots + 15000) Q (F0 m 857 ls [])) : W p l e room_1 s m args below meth c H locs cells slots Q (F0 m 569 ls []) := by
  have hl : lv_has ls 20 [(0, .ref ((D.2.1 400))), (1, .ref x0), (2, .int (nI T.nA)), (3, .int (nI st)), (4, .int (nI k)), (6, .int (nI kw)), (7, .int (nI T.nP)), (8, .int (nI ka)), (9, .int (nI kp)), (10, .int (nI kt)), (11, .int (nI wt)), (12, .long bf), (14, .int (nI 0))] := hl
  have wnA := hW.hnA
  have wnP := hW.hnP
  have wnT := hW.hnT
  have wnR := hW.hnR
  have wpa := hW.hpa
  have wen0 := hW.hen 0
  have wen1 := hW.hen 1
  have wbo := hW.hbo
  refine lv_aload_n (pc := 569) F.1 F.2.1 dL_law_569 rfl (lv_at hl 1 rfl) ?_
  refine lv_bipush (pc := 570) (v := nI 98) F.1 F.2.1 dL_law_570 (by decide) ?_
  refine lv_iconst (pc := 572) (v := nI 1) F.1 F.2.1 dL_law_572 (by decide) ?_
  refine lv_iload (pc := 573) F.1 F.2.1 dL_law_573 (lv_at hl 5 rfl) ?_
  refine lv_bipush (pc := 575) (v := nI 24) F.1 F.2.1 dL_law_575 (by decide) ?_
  refine mm_irem (pc := 577) F (z := nI (kw % 24)) (lq_mod (by omega) (by omega) (by omega)) (lq_ne0 (by omega) (by omega)) dL_law_577 ?_
  refine mm_iadd (pc := 578) F (z := nI (1 + (kw % 24))) (nI_add _ _) dL_law_578 ?_
  refine mm_runSX (pc := 579) (As := [.ref x0, .int (nI 98), .int (nI (1 + (kw % 24)))]) (rest := []) F hN (e_bound l b D F.2.2.2.2.2.2.2.1 T x0 σ hV hW (1 + (kw % 24)) (by omega)) mw_518 mw_519 mw_0 mw_520 ⟨pmL_buys, (Nat.le_of_ble_eq_true rfl), (Nat.le_of_ble_eq_true rfl)⟩ hl.1 rfl (Nat.le_of_ble_eq_true rfl) ⟨by show cells + 6 ≤ 600312; omega, by show slots + 40 ≤ 7293410; omega⟩ dL_law_579
    (fun _ _ _ _ _ _ h9 => False.elim h9) (fun v9 σ1 H locs hp9 hN => ?_)
  obtain ⟨rfl, hx1⟩ := hp9
  refine W.eq (g2 := F0 m 582 ls [.int (lq_i (mm_q_setBound T (1 + (kw % 24))) (T.bo))]) rfl ?_
  refine W.widen (k := cells + 6) (n := slots + 40) (Nat.le_refl _) (Nat.le_refl _) ?_
  have hV1 := hx1.v
  have hF1 := mm_Fr.tr mm_Fr.rf hx1.fr
  obtain ⟨T2, eT2⟩ : ∃ z9, z9 = (if mm_q_setBound T (1 + (kw % 24)) = 0 then (T.w 0 (mm_u2 (T 0) 5 0 (1 + (kw % 24)))) else T) := ⟨_, rfl⟩
  have hV1 : lq_V σ1 T2 x0 := by rw [eT2]; exact hx1.v
  have hW2 : mm_WF T2 := by rw [eT2]; exact mm_wf_setBound hW (1 + (kw % 24)) (by omega)
  have hI2 : lq_I T2 := by rw [eT2]; exact lq_i_setBound hI (1 + (kw % 24))
  have hA2 : T2.nA = T.nA := by rw [eT2]; (repeat' split) <;> rfl
  by_cases hq : mm_q_setBound T (1 + (kw % 24)) = 0
  ·
    have e2 : T2 = (T.w 0 (mm_u2 (T 0) 5 0 (1 + (kw % 24)))) := by rw [eT2, if_pos hq]
    refine W.eq (g2 := F0 m 582 ls [.int (nI ((T.bo)))]) (by rw [lq_i0 hq]) ?_
    refine lv_istore (pc := 582) (lv' := [(14, .int (nI ((T.bo)))), (0, .ref ((D.2.1 400))), (1, .ref x0), (2, .int (nI T.nA)), (3, .int (nI st)), (4, .int (nI k)), (6, .int (nI kw)), (7, .int (nI T.nP)), (8, .int (nI ka)), (9, .int (nI kp)), (10, .int (nI kt)), (11, .int (nI wt)), (12, .long bf)]) F.1 F.2.1 dL_law_582 hl (by decide) rfl (fun ls hl => ?_)
    refine lv_goto (pc := 584) (tgt := 857) F.1 F.2.1 dL_law_584 (by decide) ?_
    exact W.widen (by omega) (by omega) (kk T2 (nI ((T.bo))) σ1 ls H locs hV1 hW2 hI2 (fun h9 => absurd h9 (lq_nlt (by omega))) hN (lq_l2e (hA2.symm) (lv_sub hl [1, 2, 3, 4, 5, 11, 12, 0] rfl)))
  ·
    have e2 : T2 = T := by rw [eT2, if_neg hq]
    refine W.eq (g2 := F0 m 582 ls [.int (lq_e (mm_q_setBound T (1 + (kw % 24))))]) (by rw [lq_iz hq]) ?_
    refine lv_istore (pc := 582) (lv' := [(14, .int (lq_e (mm_q_setBound T (1 + (kw % 24))))), (0, .ref ((D.2.1 400))), (1, .ref x0), (2, .int (nI T.nA)), (3, .int (nI st)), (4, .int (nI k)), (6, .int (nI kw)), (7, .int (nI T.nP)), (8, .int (nI ka)), (9, .int (nI kp)), (10, .int (nI kt)), (11, .int (nI wt)), (12, .long bf)]) F.1 F.2.1 dL_law_582 hl (by decide) rfl (fun ls hl => ?_)
    refine lv_goto (pc := 584) (tgt := 857) F.1 F.2.1 dL_law_584 (by decide) ?_
    exact W.widen (by omega) (by omega) (kk T2 (lq_e (mm_q_setBound T (1 + (kw % 24)))) σ1 ls H locs hV1 hW2 hI2 (fun _ => e2) hN (lq_l2e (hA2.symm) (lv_sub hl [1, 2, 3, 4, 5, 11, 12, 0] rfl)))

set_option maxHeartbeats 4000000 in
set_option maxRecDepth 100000 in
theorem lc_buys {p : Program} {l : Launch} {e : Env} {s : State} {m : MethodId} {args : Array Value} {below : List Frame} {meth : Method} {c : Code} {H : Heap} {locs : List Loc} {cells slots : Nat} {Q : State → Prop} {b : Nat} {D : mm_D} {σ : mm_S} {T : mm_T} {x0 st k kw ka kp kt wt : Nat} {bf : Int64} {ls : Array Slot}
    (F : mm_F p l s m args meth c b D RL cL_law 20) (hN : mm_N b D s σ H locs) (hV : lq_V σ T x0) (hW : mm_WF T) (hI : lq_I T) (hl : lv_has ls 20 (lq_l1 D x0 T.nA st k kw T.nP ka kp kt wt bf)) (hw : kw < 134217728) (ha : ka < 16) (hp : kp < 32) (ht : kt < 8) (hc : cells + 1000 ≤ 600312) (hs : slots + 15000 ≤ 7293410)
    (kk : ∀ (T2 : mm_T) (its : Int32) (σ2 : mm_S) (ls : Array Slot) (H : Heap) (locs : List Loc), lq_V σ2 T2 x0 → mm_WF T2 → lq_I T2 → (its < (-1000) → T2 = T) → mm_N b D s σ2 H locs → lv_has ls 20 (lq_l2 D x0 T2.nA st k wt bf its) → W p l e room_1 s m args below meth c H locs (cells + 1000) (slots + 15000) Q (F0 m 857 ls [])) : W p l e room_1 s m args below meth c H locs cells slots Q (F0 m 594 ls []) := by
  have hl : lv_has ls 20 [(0, .ref ((D.2.1 400))), (1, .ref x0), (2, .int (nI T.nA)), (3, .int (nI st)), (4, .int (nI k)), (6, .int (nI kw)), (7, .int (nI T.nP)), (8, .int (nI ka)), (9, .int (nI kp)), (10, .int (nI kt)), (11, .int (nI wt)), (12, .long bf), (14, .int (nI 0))] := hl
  have wnA := hW.hnA
  have wnP := hW.hnP
  have wnT := hW.hnT
  have wnR := hW.hnR
  have wpa := hW.hpa
  have wen0 := hW.hen 0
  have wen1 := hW.hen 1
  have wbo := hW.hbo
  refine lv_aload_n (pc := 594) F.1 F.2.1 dL_law_594 rfl (lv_at hl 1 rfl) ?_
  refine va_ldcS (pc := 595) F.1 F.2.1 F.2.2.2.1 (lq_strE F.2.2.2.2.2.1).2.1.2.1 dL_law_595 ?_
  refine W.eq (g2 := F0 m 597 ls [.ref ((D.2.1 (200 + 1))), .ref x0]) rfl ?_
  refine lv_iload (pc := 597) F.1 F.2.1 dL_law_597 (lv_at hl 5 rfl) ?_
  refine lv_iconst (pc := 599) (v := nI 4) F.1 F.2.1 dL_law_599 (by decide) ?_
  refine mm_irem (pc := 600) F (z := nI (kw % 4)) (lq_mod (by omega) (by omega) (by omega)) (lq_ne0 (by omega) (by omega)) dL_law_600 ?_
  refine mm_runV (pc := 601) (As := [.int (nI (kw % 4))]) (rest := [.ref x0]) F hN (e_charAt l b D F.2.2.2.2.2.2.2.1 1 (by decide) (kw % 4) (by omega) σ) mw_1160 mw_1161 mw_1162 mw_11 mw_1163 ⟨pmJ0_charAt_5068e, (Nat.le_of_ble_eq_true rfl), (Nat.le_of_ble_eq_true rfl)⟩ (by obtain ⟨cell, h1, h2, h3, -⟩ := (lq_sE F.2.2.2.2.2.1 (i := 1) (by decide)).1.kept hN.2.2.1; exact ⟨cell, h1, h2, h3⟩) hl.1 rfl (Nat.le_of_ble_eq_true rfl) ⟨by show cells + 0 ≤ 600312; omega, by show slots + 0 ≤ 7293410; omega⟩ dL_law_601
    (fun _ _ _ _ _ _ h9 => False.elim h9) (fun v9 σ9 H locs hp9 hN => ?_)
  obtain ⟨⟨ch, hch, rfl⟩, h9⟩ := hp9
  rw [h9] at hN
  refine W.eq (g2 := F0 m 604 ls [.int (nI ch), .ref x0]) rfl ?_
  refine W.widen (k := cells) (n := slots) (Nat.le_refl _) (Nat.le_refl _) ?_
  refine lv_iconst (pc := 604) (v := nI 1) F.1 F.2.1 dL_law_604 (by decide) ?_
  refine lv_iload (pc := 605) F.1 F.2.1 dL_law_605 (lv_at hl 5 rfl) ?_
  refine lv_iconst (pc := 607) (v := nI 4) F.1 F.2.1 dL_law_607 (by decide) ?_
  refine mm_idiv (pc := 608) F (z := nI (kw / 4)) (pk_div (by omega) (by omega) (by omega)) (by decide) dL_law_608 ?_
  refine lv_bipush (pc := 609) (v := nI 40) F.1 F.2.1 dL_law_609 (by decide) ?_
  refine mm_irem (pc := 611) F (z := nI ((kw / 4) % 40)) (lq_mod (by omega) (by omega) (by omega)) (lq_ne0 (by omega) (by omega)) dL_law_611 ?_
  refine mm_iadd (pc := 612) F (z := nI (1 + ((kw / 4) % 40))) (nI_add _ _) dL_law_612 ?_
  by_cases hch112 : ch = 112
  ·
    subst hch112
    refine mm_runSX (pc := 613) (As := [.ref x0, .int (nI 112), .int (nI (1 + ((kw / 4) % 40)))]) (rest := []) F hN (e_paper l b D F.2.2.2.2.2.2.2.1 T x0 σ hV hW (1 + ((kw / 4) % 40)) (by omega)) mw_518 mw_519 mw_0 mw_520 ⟨pmL_buys, (Nat.le_of_ble_eq_true rfl), (Nat.le_of_ble_eq_true rfl)⟩ hl.1 rfl (Nat.le_of_ble_eq_true rfl) ⟨by show cells + 6 ≤ 600312; omega, by show slots + 40 ≤ 7293410; omega⟩ dL_law_613
      (fun _ _ _ _ _ _ h9 => False.elim h9) (fun v9 σ1 H locs hp9 hN => ?_)
    obtain ⟨rfl, hx1⟩ := hp9
    refine W.eq (g2 := F0 m 616 ls [.int (lq_i (mm_q_buyPaper T (1 + ((kw / 4) % 40))) (T.pa + (1 + ((kw / 4) % 40))))]) rfl ?_
    refine W.widen (k := cells + 6) (n := slots + 40) (Nat.le_refl _) (Nat.le_refl _) ?_
    have hV1 := hx1.v
    have hF1 := mm_Fr.tr mm_Fr.rf hx1.fr
    obtain ⟨T2, eT2⟩ : ∃ z9, z9 = (if mm_q_buyPaper T (1 + ((kw / 4) % 40)) = 0 then ((T.w 0 (mm_u2 (T 0) 4 0 (T.pa + (1 + ((kw / 4) % 40))))).w 0 (mm_u2 (mm_u2 (T 0) 4 0 (T.pa + (1 + ((kw / 4) % 40)))) 6 0 (T.b0 + (1 + ((kw / 4) % 40))))) else T) := ⟨_, rfl⟩
    have hV1 : lq_V σ1 T2 x0 := by rw [eT2]; exact hx1.v
    have hW2 : mm_WF T2 := by rw [eT2]; exact mm_wf_buyPaper hW (1 + ((kw / 4) % 40)) (by omega)
    have hI2 : lq_I T2 := by rw [eT2]; exact lq_i_buyPaper hI (1 + ((kw / 4) % 40))
    have hA2 : T2.nA = T.nA := by rw [eT2]; (repeat' split) <;> rfl
    by_cases hq : mm_q_buyPaper T (1 + ((kw / 4) % 40)) = 0
    ·
      have e2 : T2 = ((T.w 0 (mm_u2 (T 0) 4 0 (T.pa + (1 + ((kw / 4) % 40))))).w 0 (mm_u2 (mm_u2 (T 0) 4 0 (T.pa + (1 + ((kw / 4) % 40)))) 6 0 (T.b0 + (1 + ((kw / 4) % 40))))) := by rw [eT2, if_pos hq]
      refine W.eq (g2 := F0 m 616 ls [.int (nI ((T.pa + (1 + ((kw / 4) % 40)))))]) (by rw [lq_i0 hq]) ?_
      refine lv_istore (pc := 616) (lv' := [(14, .int (nI ((T.pa + (1 + ((kw / 4) % 40)))))), (0, .ref ((D.2.1 400))), (1, .ref x0), (2, .int (nI T.nA)), (3, .int (nI st)), (4, .int (nI k)), (6, .int (nI kw)), (7, .int (nI T.nP)), (8, .int (nI ka)), (9, .int (nI kp)), (10, .int (nI kt)), (11, .int (nI wt)), (12, .long bf)]) F.1 F.2.1 dL_law_616 hl (by decide) rfl (fun ls hl => ?_)
      refine lv_goto (pc := 618) (tgt := 857) F.1 F.2.1 dL_law_618 (by decide) ?_
      exact W.widen (by omega) (by omega) (kk T2 (nI ((T.pa + (1 + ((kw / 4) % 40))))) σ1 ls H locs hV1 hW2 hI2 (fun h9 => absurd h9 (lq_nlt (by omega))) hN (lq_l2e (hA2.symm) (lv_sub hl [1, 2, 3, 4, 5, 11, 12, 0] rfl)))
    ·
      have e2 : T2 = T := by rw [eT2, if_neg hq]
      refine W.eq (g2 := F0 m 616 ls [.int (lq_e (mm_q_buyPaper T (1 + ((kw / 4) % 40))))]) (by rw [lq_iz hq]) ?_
      refine lv_istore (pc := 616) (lv' := [(14, .int (lq_e (mm_q_buyPaper T (1 + ((kw / 4) % 40))))), (0, .ref ((D.2.1 400))), (1, .ref x0), (2, .int (nI T.nA)), (3, .int (nI st)), (4, .int (nI k)), (6, .int (nI kw)), (7, .int (nI T.nP)), (8, .int (nI ka)), (9, .int (nI kp)), (10, .int (nI kt)), (11, .int (nI wt)), (12, .long bf)]) F.1 F.2.1 dL_law_616 hl (by decide) rfl (fun ls hl => ?_)
      refine lv_goto (pc := 618) (tgt := 857) F.1 F.2.1 dL_law_618 (by decide) ?_
      exact W.widen (by omega) (by omega) (kk T2 (lq_e (mm_q_buyPaper T (1 + ((kw / 4) % 40)))) σ1 ls H locs hV1 hW2 hI2 (fun _ => e2) hN (lq_l2e (hA2.symm) (lv_sub hl [1, 2, 3, 4, 5, 11, 12, 0] rfl)))
  ·
    by_cases hch98 : ch = 98
    ·
      subst hch98
      refine mm_runSX (pc := 613) (As := [.ref x0, .int (nI 98), .int (nI (1 + ((kw / 4) % 40)))]) (rest := []) F hN (e_bound l b D F.2.2.2.2.2.2.2.1 T x0 σ hV hW (1 + ((kw / 4) % 40)) (by omega)) mw_518 mw_519 mw_0 mw_520 ⟨pmL_buys, (Nat.le_of_ble_eq_true rfl), (Nat.le_of_ble_eq_true rfl)⟩ hl.1 rfl (Nat.le_of_ble_eq_true rfl) ⟨by show cells + 6 ≤ 600312; omega, by show slots + 40 ≤ 7293410; omega⟩ dL_law_613
        (fun _ _ _ _ _ _ h9 => False.elim h9) (fun v9 σ2 H locs hp9 hN => ?_)
      obtain ⟨rfl, hx2⟩ := hp9
      refine W.eq (g2 := F0 m 616 ls [.int (lq_i (mm_q_setBound T (1 + ((kw / 4) % 40))) (T.bo))]) rfl ?_
      refine W.widen (k := cells + 6) (n := slots + 40) (Nat.le_refl _) (Nat.le_refl _) ?_
      have hV2 := hx2.v
      have hF2 := mm_Fr.tr mm_Fr.rf hx2.fr
      obtain ⟨T2, eT2⟩ : ∃ z9, z9 = (if mm_q_setBound T (1 + ((kw / 4) % 40)) = 0 then (T.w 0 (mm_u2 (T 0) 5 0 (1 + ((kw / 4) % 40)))) else T) := ⟨_, rfl⟩
      have hV2 : lq_V σ2 T2 x0 := by rw [eT2]; exact hx2.v
      have hW2 : mm_WF T2 := by rw [eT2]; exact mm_wf_setBound hW (1 + ((kw / 4) % 40)) (by omega)
      have hI2 : lq_I T2 := by rw [eT2]; exact lq_i_setBound hI (1 + ((kw / 4) % 40))
      have hA2 : T2.nA = T.nA := by rw [eT2]; (repeat' split) <;> rfl
      by_cases hq : mm_q_setBound T (1 + ((kw / 4) % 40)) = 0
      ·
        have e2 : T2 = (T.w 0 (mm_u2 (T 0) 5 0 (1 + ((kw / 4) % 40)))) := by rw [eT2, if_pos hq]
        refine W.eq (g2 := F0 m 616 ls [.int (nI ((T.bo)))]) (by rw [lq_i0 hq]) ?_
        refine lv_istore (pc := 616) (lv' := [(14, .int (nI ((T.bo)))), (0, .ref ((D.2.1 400))), (1, .ref x0), (2, .int (nI T.nA)), (3, .int (nI st)), (4, .int (nI k)), (6, .int (nI kw)), (7, .int (nI T.nP)), (8, .int (nI ka)), (9, .int (nI kp)), (10, .int (nI kt)), (11, .int (nI wt)), (12, .long bf)]) F.1 F.2.1 dL_law_616 hl (by decide) rfl (fun ls hl => ?_)
        refine lv_goto (pc := 618) (tgt := 857) F.1 F.2.1 dL_law_618 (by decide) ?_
        exact W.widen (by omega) (by omega) (kk T2 (nI ((T.bo))) σ2 ls H locs hV2 hW2 hI2 (fun h9 => absurd h9 (lq_nlt (by omega))) hN (lq_l2e (hA2.symm) (lv_sub hl [1, 2, 3, 4, 5, 11, 12, 0] rfl)))
      ·
        have e2 : T2 = T := by rw [eT2, if_neg hq]
        refine W.eq (g2 := F0 m 616 ls [.int (lq_e (mm_q_setBound T (1 + ((kw / 4) % 40))))]) (by rw [lq_iz hq]) ?_
        refine lv_istore (pc := 616) (lv' := [(14, .int (lq_e (mm_q_setBound T (1 + ((kw / 4) % 40))))), (0, .ref ((D.2.1 400))), (1, .ref x0), (2, .int (nI T.nA)), (3, .int (nI st)), (4, .int (nI k)), (6, .int (nI kw)), (7, .int (nI T.nP)), (8, .int (nI ka)), (9, .int (nI kp)), (10, .int (nI kt)), (11, .int (nI wt)), (12, .long bf)]) F.1 F.2.1 dL_law_616 hl (by decide) rfl (fun ls hl => ?_)
        refine lv_goto (pc := 618) (tgt := 857) F.1 F.2.1 dL_law_618 (by decide) ?_
        exact W.widen (by omega) (by omega) (kk T2 (lq_e (mm_q_setBound T (1 + ((kw / 4) % 40)))) σ2 ls H locs hV2 hW2 hI2 (fun _ => e2) hN (lq_l2e (hA2.symm) (lv_sub hl [1, 2, 3, 4, 5, 11, 12, 0] rfl)))
    ·
      by_cases hch108 : ch = 108
      ·
        subst hch108
        refine mm_runSX (pc := 613) (As := [.ref x0, .int (nI 108), .int (nI (1 + ((kw / 4) % 40)))]) (rest := []) F hN (e_large l b D F.2.2.2.2.2.2.2.1 T x0 σ hV hW (1 + ((kw / 4) % 40)) (by omega)) mw_518 mw_519 mw_0 mw_520 ⟨pmL_buys, (Nat.le_of_ble_eq_true rfl), (Nat.le_of_ble_eq_true rfl)⟩ hl.1 rfl (Nat.le_of_ble_eq_true rfl) ⟨by show cells + 6 ≤ 600312; omega, by show slots + 40 ≤ 7293410; omega⟩ dL_law_613
          (fun _ _ _ _ _ _ h9 => False.elim h9) (fun v9 σ3 H locs hp9 hN => ?_)
        obtain ⟨rfl, hx3⟩ := hp9
        refine W.eq (g2 := F0 m 616 ls [.int (lq_i (mm_q_buyEnvelopes T 1 (1 + ((kw / 4) % 40))) (T.en 1 + (1 + ((kw / 4) % 40))))]) rfl ?_
        refine W.widen (k := cells + 6) (n := slots + 40) (Nat.le_refl _) (Nat.le_refl _) ?_
        have hV3 := hx3.v
        have hF3 := mm_Fr.tr mm_Fr.rf hx3.fr
        obtain ⟨T2, eT2⟩ : ∃ z9, z9 = (if mm_q_buyEnvelopes T 1 (1 + ((kw / 4) % 40)) = 0 then ((T.w 12 (mm_u2 (T 12) 1 0 (T.en 1 + (1 + ((kw / 4) % 40))))).w 0 (mm_u2 (T 0) 8 0 (T 0 8 0 + (1 + ((kw / 4) % 40))))) else T) := ⟨_, rfl⟩
        have hV3 : lq_V σ3 T2 x0 := by rw [eT2]; exact hx3.v
        have hW2 : mm_WF T2 := by rw [eT2]; exact mm_wf_buyEnv1 hW (1 + ((kw / 4) % 40)) (by omega)
        have hI2 : lq_I T2 := by rw [eT2]; exact lq_i_buyEnv1 hI (1 + ((kw / 4) % 40))
        have hA2 : T2.nA = T.nA := by rw [eT2]; (repeat' split) <;> rfl
        by_cases hq : mm_q_buyEnvelopes T 1 (1 + ((kw / 4) % 40)) = 0
        ·
          have e2 : T2 = ((T.w 12 (mm_u2 (T 12) 1 0 (T.en 1 + (1 + ((kw / 4) % 40))))).w 0 (mm_u2 (T 0) 8 0 (T 0 8 0 + (1 + ((kw / 4) % 40))))) := by rw [eT2, if_pos hq]
          refine W.eq (g2 := F0 m 616 ls [.int (nI ((T.en 1 + (1 + ((kw / 4) % 40)))))]) (by rw [lq_i0 hq]) ?_
          refine lv_istore (pc := 616) (lv' := [(14, .int (nI ((T.en 1 + (1 + ((kw / 4) % 40)))))), (0, .ref ((D.2.1 400))), (1, .ref x0), (2, .int (nI T.nA)), (3, .int (nI st)), (4, .int (nI k)), (6, .int (nI kw)), (7, .int (nI T.nP)), (8, .int (nI ka)), (9, .int (nI kp)), (10, .int (nI kt)), (11, .int (nI wt)), (12, .long bf)]) F.1 F.2.1 dL_law_616 hl (by decide) rfl (fun ls hl => ?_)
          refine lv_goto (pc := 618) (tgt := 857) F.1 F.2.1 dL_law_618 (by decide) ?_
          exact W.widen (by omega) (by omega) (kk T2 (nI ((T.en 1 + (1 + ((kw / 4) % 40))))) σ3 ls H locs hV3 hW2 hI2 (fun h9 => absurd h9 (lq_nlt (by omega))) hN (lq_l2e (hA2.symm) (lv_sub hl [1, 2, 3, 4, 5, 11, 12, 0] rfl)))
        ·
          have e2 : T2 = T := by rw [eT2, if_neg hq]
          refine W.eq (g2 := F0 m 616 ls [.int (lq_e (mm_q_buyEnvelopes T 1 (1 + ((kw / 4) % 40))))]) (by rw [lq_iz hq]) ?_
          refine lv_istore (pc := 616) (lv' := [(14, .int (lq_e (mm_q_buyEnvelopes T 1 (1 + ((kw / 4) % 40))))), (0, .ref ((D.2.1 400))), (1, .ref x0), (2, .int (nI T.nA)), (3, .int (nI st)), (4, .int (nI k)), (6, .int (nI kw)), (7, .int (nI T.nP)), (8, .int (nI ka)), (9, .int (nI kp)), (10, .int (nI kt)), (11, .int (nI wt)), (12, .long bf)]) F.1 F.2.1 dL_law_616 hl (by decide) rfl (fun ls hl => ?_)
          refine lv_goto (pc := 618) (tgt := 857) F.1 F.2.1 dL_law_618 (by decide) ?_
          exact W.widen (by omega) (by omega) (kk T2 (lq_e (mm_q_buyEnvelopes T 1 (1 + ((kw / 4) % 40)))) σ3 ls H locs hV3 hW2 hI2 (fun _ => e2) hN (lq_l2e (hA2.symm) (lv_sub hl [1, 2, 3, 4, 5, 11, 12, 0] rfl)))
      ·
        refine mm_runSX (pc := 613) (As := [.ref x0, .int (nI ch), .int (nI (1 + ((kw / 4) % 40)))]) (rest := []) F hN (e_small l b D F.2.2.2.2.2.2.2.1 T x0 σ hV hW (1 + ((kw / 4) % 40)) (by omega) ch hch hch112 hch98 hch108) mw_518 mw_519 mw_0 mw_520 ⟨pmL_buys, (Nat.le_of_ble_eq_true rfl), (Nat.le_of_ble_eq_true rfl)⟩ hl.1 rfl (Nat.le_of_ble_eq_true rfl) ⟨by show cells + 6 ≤ 600312; omega, by show slots + 40 ≤ 7293410; omega⟩ dL_law_613
          (fun _ _ _ _ _ _ h9 => False.elim h9) (fun v9 σ4 H locs hp9 hN => ?_)
        obtain ⟨rfl, hx4⟩ := hp9
        refine W.eq (g2 := F0 m 616 ls [.int (lq_i (mm_q_buyEnvelopes T 0 (1 + ((kw / 4) % 40))) (T.en 0 + (1 + ((kw / 4) % 40))))]) rfl ?_
        refine W.widen (k := cells + 6) (n := slots + 40) (Nat.le_refl _) (Nat.le_refl _) ?_
        have hV4 := hx4.v
        have hF4 := mm_Fr.tr mm_Fr.rf hx4.fr
        obtain ⟨T2, eT2⟩ : ∃ z9, z9 = (if mm_q_buyEnvelopes T 0 (1 + ((kw / 4) % 40)) = 0 then ((T.w 12 (mm_u2 (T 12) 0 0 (T.en 0 + (1 + ((kw / 4) % 40))))).w 0 (mm_u2 (T 0) 7 0 (T 0 7 0 + (1 + ((kw / 4) % 40))))) else T) := ⟨_, rfl⟩
        have hV4 : lq_V σ4 T2 x0 := by rw [eT2]; exact hx4.v
        have hW2 : mm_WF T2 := by rw [eT2]; exact mm_wf_buyEnv0 hW (1 + ((kw / 4) % 40)) (by omega)
        have hI2 : lq_I T2 := by rw [eT2]; exact lq_i_buyEnv0 hI (1 + ((kw / 4) % 40))
        have hA2 : T2.nA = T.nA := by rw [eT2]; (repeat' split) <;> rfl
        by_cases hq : mm_q_buyEnvelopes T 0 (1 + ((kw / 4) % 40)) = 0
        ·
          have e2 : T2 = ((T.w 12 (mm_u2 (T 12) 0 0 (T.en 0 + (1 + ((kw / 4) % 40))))).w 0 (mm_u2 (T 0) 7 0 (T 0 7 0 + (1 + ((kw / 4) % 40))))) := by rw [eT2, if_pos hq]
          refine W.eq (g2 := F0 m 616 ls [.int (nI ((T.en 0 + (1 + ((kw / 4) % 40)))))]) (by rw [lq_i0 hq]) ?_
          refine lv_istore (pc := 616) (lv' := [(14, .int (nI ((T.en 0 + (1 + ((kw / 4) % 40)))))), (0, .ref ((D.2.1 400))), (1, .ref x0), (2, .int (nI T.nA)), (3, .int (nI st)), (4, .int (nI k)), (6, .int (nI kw)), (7, .int (nI T.nP)), (8, .int (nI ka)), (9, .int (nI kp)), (10, .int (nI kt)), (11, .int (nI wt)), (12, .long bf)]) F.1 F.2.1 dL_law_616 hl (by decide) rfl (fun ls hl => ?_)
          refine lv_goto (pc := 618) (tgt := 857) F.1 F.2.1 dL_law_618 (by decide) ?_
          exact W.widen (by omega) (by omega) (kk T2 (nI ((T.en 0 + (1 + ((kw / 4) % 40))))) σ4 ls H locs hV4 hW2 hI2 (fun h9 => absurd h9 (lq_nlt (by omega))) hN (lq_l2e (hA2.symm) (lv_sub hl [1, 2, 3, 4, 5, 11, 12, 0] rfl)))
        ·
          have e2 : T2 = T := by rw [eT2, if_neg hq]
          refine W.eq (g2 := F0 m 616 ls [.int (lq_e (mm_q_buyEnvelopes T 0 (1 + ((kw / 4) % 40))))]) (by rw [lq_iz hq]) ?_
          refine lv_istore (pc := 616) (lv' := [(14, .int (lq_e (mm_q_buyEnvelopes T 0 (1 + ((kw / 4) % 40))))), (0, .ref ((D.2.1 400))), (1, .ref x0), (2, .int (nI T.nA)), (3, .int (nI st)), (4, .int (nI k)), (6, .int (nI kw)), (7, .int (nI T.nP)), (8, .int (nI ka)), (9, .int (nI kp)), (10, .int (nI kt)), (11, .int (nI wt)), (12, .long bf)]) F.1 F.2.1 dL_law_616 hl (by decide) rfl (fun ls hl => ?_)
          refine lv_goto (pc := 618) (tgt := 857) F.1 F.2.1 dL_law_618 (by decide) ?_
          exact W.widen (by omega) (by omega) (kk T2 (lq_e (mm_q_buyEnvelopes T 0 (1 + ((kw / 4) % 40)))) σ4 ls H locs hV4 hW2 hI2 (fun _ => e2) hN (lq_l2e (hA2.symm) (lv_sub hl [1, 2, 3, 4, 5, 11, 12, 0] rfl)))

