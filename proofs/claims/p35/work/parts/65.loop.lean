abbrev lq_l0 (D : mm_D) (x0 nA st k kv kw nP ka kp kt wt : Nat) (bf : Int64) : List (Nat × Value) := [(0, .ref ((D.2.1 400))), (1, .ref x0), (2, .int (nI nA)), (3, .int (nI st)), (4, .int (nI k)), (5, .int (nI kv)), (6, .int (nI kw)), (7, .int (nI nP)), (8, .int (nI ka)), (9, .int (nI kp)), (10, .int (nI kt)), (11, .int (nI wt)), (12, .long bf)]
set_option maxHeartbeats 4000000 in
set_option maxRecDepth 100000 in
theorem law_disp {p : Program} {l : Launch} {e : Env} {s : State} {m : MethodId} {args : Array Value} {below : List Frame} {meth : Method} {c : Code} {H : Heap} {locs : List Loc} {cells slots : Nat} {Q : State → Prop} {b : Nat} {D : mm_D} {σ : mm_S} {T : mm_T} {x0 st k kw ka kp kt wt : Nat} {bf : Int64} {ls : Array Slot}
    (kd : Nat) (hkd : kd < 2147483648) (F : mm_F p l s m args meth c b D RL cL_law 20) (hN : mm_N b D s σ H locs) (hV : lq_V σ T x0) (hW : mm_WF T) (hI : lq_I T) (hl : lv_has ls 20 (lq_l1 D x0 T.nA st k kw T.nP ka kp kt wt bf)) (hw : kw < 134217728) (ha : ka < 16) (hp : kp < 32) (ht : kt < 8) (hc : cells + 1000 ≤ 600312) (hs : slots + 15000 ≤ 7293410)
    (kk : ∀ (T2 : mm_T) (its : Int32) (σ2 : mm_S) (ls : Array Slot) (H : Heap) (locs : List Loc), lq_V σ2 T2 x0 → mm_WF T2 → lq_I T2 → (its < (-1000) → T2 = T) → mm_N b D s σ2 H locs → lv_has ls 20 (lq_l2 D x0 T2.nA st k wt bf its) → W p l e room_1 s m args below meth c H locs (cells + 1000) (slots + 15000) Q (F0 m 857 ls [])) : W p l e room_1 s m args below meth c H locs (cells) (slots) Q (F0 m 190 ls [.int (nI kd)]) := by
  have hl : lv_has ls 20 [(0, .ref ((D.2.1 400))), (1, .ref x0), (2, .int (nI T.nA)), (3, .int (nI st)), (4, .int (nI k)), (6, .int (nI kw)), (7, .int (nI T.nP)), (8, .int (nI ka)), (9, .int (nI kp)), (10, .int (nI kt)), (11, .int (nI wt)), (12, .long bf), (14, .int (nI 0))] := hl
  refine lv_istore (pc := 190) (lv' := [(15, .int (nI kd)), (0, .ref ((D.2.1 400))), (1, .ref x0), (2, .int (nI T.nA)), (3, .int (nI st)), (4, .int (nI k)), (6, .int (nI kw)), (7, .int (nI T.nP)), (8, .int (nI ka)), (9, .int (nI kp)), (10, .int (nI kt)), (11, .int (nI wt)), (12, .long bf), (14, .int (nI 0))]) F.1 F.2.1 dL_law_190 hl (by decide) rfl (fun ls hl => ?_)
  refine lv_iload (pc := 192) F.1 F.2.1 dL_law_192 (lv_at hl 0 rfl) ?_
  refine lv_iconst (pc := 194) (v := nI 3) F.1 F.2.1 dL_law_194 (by decide) ?_
  refine mm_icmp_ge (pc := 195) F (x := kd) (y := 3) (tgt := 225) (by omega) (by omega) dL_law_195 (by decide) (fun cz195 => ?_) (fun cz195 => ?_)
  ·
    refine lv_iload (pc := 225) F.1 F.2.1 dL_law_225 (lv_at hl 0 rfl) ?_
    refine lv_iconst (pc := 227) (v := nI 4) F.1 F.2.1 dL_law_227 (by decide) ?_
    refine mm_icmp_ge (pc := 228) F (x := kd) (y := 4) (tgt := 308) (by omega) (by omega) dL_law_228 (by decide) (fun cz228 => ?_) (fun cz228 => ?_)
    ·
      refine lv_iload (pc := 308) F.1 F.2.1 dL_law_308 (lv_at hl 0 rfl) ?_
      refine lv_bipush (pc := 310) (v := nI 9) F.1 F.2.1 dL_law_310 (by decide) ?_
      refine mm_icmp_ge (pc := 312) F (x := kd) (y := 9) (tgt := 371) (by omega) (by omega) dL_law_312 (by decide) (fun cz312 => ?_) (fun cz312 => ?_)
      ·
        refine lv_iload (pc := 371) F.1 F.2.1 dL_law_371 (lv_at hl 0 rfl) ?_
        refine lv_bipush (pc := 373) (v := nI 10) F.1 F.2.1 dL_law_373 (by decide) ?_
        refine mm_icmp_ge (pc := 375) F (x := kd) (y := 10) (tgt := 399) (by omega) (by omega) dL_law_375 (by decide) (fun cz375 => ?_) (fun cz375 => ?_)
        ·
          refine lv_iload (pc := 399) F.1 F.2.1 dL_law_399 (lv_at hl 0 rfl) ?_
          refine lv_bipush (pc := 401) (v := nI 12) F.1 F.2.1 dL_law_401 (by decide) ?_
          refine mm_icmp_ge (pc := 403) F (x := kd) (y := 12) (tgt := 449) (by omega) (by omega) dL_law_403 (by decide) (fun cz403 => ?_) (fun cz403 => ?_)
          ·
            refine lv_iload (pc := 449) F.1 F.2.1 dL_law_449 (lv_at hl 0 rfl) ?_
            refine lv_bipush (pc := 451) (v := nI 14) F.1 F.2.1 dL_law_451 (by decide) ?_
            refine mm_icmp_ge (pc := 453) F (x := kd) (y := 14) (tgt := 501) (by omega) (by omega) dL_law_453 (by decide) (fun cz453 => ?_) (fun cz453 => ?_)
            ·
              refine lv_iload (pc := 501) F.1 F.2.1 dL_law_501 (lv_at hl 0 rfl) ?_
              refine lv_bipush (pc := 503) (v := nI 15) F.1 F.2.1 dL_law_503 (by decide) ?_
              refine mm_icmp_ge (pc := 505) F (x := kd) (y := 15) (tgt := 517) (by omega) (by omega) dL_law_505 (by decide) (fun cz505 => ?_) (fun cz505 => ?_)
              ·
                refine lv_iload (pc := 517) F.1 F.2.1 dL_law_517 (lv_at hl 0 rfl) ?_
                refine lv_bipush (pc := 519) (v := nI 18) F.1 F.2.1 dL_law_519 (by decide) ?_
                refine mm_icmp_ge (pc := 521) F (x := kd) (y := 18) (tgt := 562) (by omega) (by omega) dL_law_521 (by decide) (fun cz521 => ?_) (fun cz521 => ?_)
                ·
                  refine lv_iload (pc := 562) F.1 F.2.1 dL_law_562 (lv_at hl 0 rfl) ?_
                  refine lv_bipush (pc := 564) (v := nI 19) F.1 F.2.1 dL_law_564 (by decide) ?_
                  refine mm_icmp_ge (pc := 566) F (x := kd) (y := 19) (tgt := 587) (by omega) (by omega) dL_law_566 (by decide) (fun cz566 => ?_) (fun cz566 => ?_)
                  ·
                    refine lv_iload (pc := 587) F.1 F.2.1 dL_law_587 (lv_at hl 0 rfl) ?_
                    refine lv_bipush (pc := 589) (v := nI 23) F.1 F.2.1 dL_law_589 (by decide) ?_
                    refine mm_icmp_ge (pc := 591) F (x := kd) (y := 23) (tgt := 621) (by omega) (by omega) dL_law_591 (by decide) (fun cz591 => ?_) (fun cz591 => ?_)
                    ·
                      refine lv_iload (pc := 621) F.1 F.2.1 dL_law_621 (lv_at hl 0 rfl) ?_
                      refine lv_bipush (pc := 623) (v := nI 28) F.1 F.2.1 dL_law_623 (by decide) ?_
                      refine mm_icmp_ge (pc := 625) F (x := kd) (y := 28) (tgt := 735) (by omega) (by omega) dL_law_625 (by decide) (fun cz625 => ?_) (fun cz625 => ?_)
                      ·
                        exact lc_back F hN hV hW hI (lv_sub hl [1, 2, 3, 4, 5, 6, 7, 8, 9, 10, 11, 12, 13] rfl) hw ha hp ht hc hs kk
                      ·
                        exact lc_run F hN hV hW hI (lv_sub hl [1, 2, 3, 4, 5, 6, 7, 8, 9, 10, 11, 12, 13] rfl) hw ha hp ht hc hs kk
                    ·
                      exact lc_buys F hN hV hW hI (lv_sub hl [1, 2, 3, 4, 5, 6, 7, 8, 9, 10, 11, 12, 13] rfl) hw ha hp ht hc hs kk
                  ·
                    exact lc_bound F hN hV hW hI (lv_sub hl [1, 2, 3, 4, 5, 6, 7, 8, 9, 10, 11, 12, 13] rfl) hw ha hp ht hc hs kk
                ·
                  exact lc_part F hN hV hW hI (lv_sub hl [1, 2, 3, 4, 5, 6, 7, 8, 9, 10, 11, 12, 13] rfl) hw ha hp ht hc hs kk
              ·
                exact lc_template F hN hV hW hI (lv_sub hl [1, 2, 3, 4, 5, 6, 7, 8, 9, 10, 11, 12, 13] rfl) hw ha hp ht hc hs kk
            ·
              exact lc_suppress F hN hV hW hI (lv_sub hl [1, 2, 3, 4, 5, 6, 7, 8, 9, 10, 11, 12, 13] rfl) hw ha hp ht hc hs kk
          ·
            exact lc_move F hN hV hW hI (lv_sub hl [1, 2, 3, 4, 5, 6, 7, 8, 9, 10, 11, 12, 13] rfl) hw ha hp ht hc hs kk
        ·
          exact lc_flags F hN hV hW hI (lv_sub hl [1, 2, 3, 4, 5, 6, 7, 8, 9, 10, 11, 12, 13] rfl) hw ha hp ht hc hs kk
      ·
        exact lc_person F hN hV hW hI (lv_sub hl [1, 2, 3, 4, 5, 6, 7, 8, 9, 10, 11, 12, 13] rfl) hw ha hp ht hc hs kk
    ·
      exact lc_join F hN hV hW hI (lv_sub hl [1, 2, 3, 4, 5, 6, 7, 8, 9, 10, 11, 12, 13] rfl) hw ha hp ht hc hs kk
  ·
    exact lc_address F hN hV hW hI (lv_sub hl [1, 2, 3, 4, 5, 6, 7, 8, 9, 10, 11, 12, 13] rfl) hw ha hp ht hc hs kk

set_option maxHeartbeats 4000000 in
set_option maxRecDepth 100000 in
theorem law_mid {p : Program} {l : Launch} {e : Env} {s : State} {m : MethodId} {args : Array Value} {below : List Frame} {meth : Method} {c : Code} {H : Heap} {locs : List Loc} {cells slots : Nat} {Q : State → Prop} {b : Nat} {D : mm_D} {σ : mm_S} {T : mm_T} {x0 st k kv kw ka kp kt wt : Nat} {bf : Int64} {ls : Array Slot}
    (F : mm_F p l s m args meth c b D RL cL_law 20) (hN : mm_N b D s σ H locs) (hV : lq_V σ T x0) (hW : mm_WF T) (hI : lq_I T) (hl : lv_has ls 20 (lq_l0 D x0 T.nA st k kv kw T.nP ka kp kt wt bf)) (hk : k < 100) (hv : kv < 2147483648) (hw : kw < 134217728) (ha : ka < 16) (hp : kp < 32) (ht : kt < 8) (hc : cells + 1000 ≤ 600312) (hs : slots + 15000 ≤ 7293410)
    (kk : ∀ (T2 : mm_T) (its : Int32) (σ2 : mm_S) (ls : Array Slot) (H : Heap) (locs : List Loc), lq_V σ2 T2 x0 → mm_WF T2 → lq_I T2 → (its < (-1000) → T2 = T) → mm_N b D s σ2 H locs → lv_has ls 20 (lq_l2 D x0 T2.nA st k wt bf its) → W p l e room_1 s m args below meth c H locs (cells + 1000) (slots + 15000) Q (F0 m 857 ls [])) : W p l e room_1 s m args below meth c H locs (cells) (slots) Q (F0 m 125 ls []) := by
  have hl : lv_has ls 20 [(0, .ref ((D.2.1 400))), (1, .ref x0), (2, .int (nI T.nA)), (3, .int (nI st)), (4, .int (nI k)), (5, .int (nI kv)), (6, .int (nI kw)), (7, .int (nI T.nP)), (8, .int (nI ka)), (9, .int (nI kp)), (10, .int (nI kt)), (11, .int (nI wt)), (12, .long bf)] := hl
  refine lv_iconst (pc := 125) (v := nI 0) F.1 F.2.1 dL_law_125 (by decide) ?_
  refine lv_istore (pc := 126) (lv' := [(14, .int (nI 0)), (0, .ref ((D.2.1 400))), (1, .ref x0), (2, .int (nI T.nA)), (3, .int (nI st)), (4, .int (nI k)), (5, .int (nI kv)), (6, .int (nI kw)), (7, .int (nI T.nP)), (8, .int (nI ka)), (9, .int (nI kp)), (10, .int (nI kt)), (11, .int (nI wt)), (12, .long bf)]) F.1 F.2.1 dL_law_126 hl (by decide) rfl (fun ls hl => ?_)
  refine lv_iload (pc := 128) F.1 F.2.1 dL_law_128 (lv_at hl 5 rfl) ?_
  refine lv_iconst (pc := 130) (v := nI 3) F.1 F.2.1 dL_law_130 (by decide) ?_
  refine mm_icmp_ge (pc := 131) F (x := k) (y := 3) (tgt := 138) (by omega) (by omega) dL_law_131 (by decide) (fun cz131 => ?_) (fun cz131 => ?_)
  ·
    refine lv_iload (pc := 138) F.1 F.2.1 dL_law_138 (lv_at hl 5 rfl) ?_
    refine lv_bipush (pc := 140) (v := nI 7) F.1 F.2.1 dL_law_140 (by decide) ?_
    refine mm_icmp_ge (pc := 142) F (x := k) (y := 7) (tgt := 149) (by omega) (by omega) dL_law_142 (by decide) (fun cz142 => ?_) (fun cz142 => ?_)
    ·
      refine lv_iload (pc := 149) F.1 F.2.1 dL_law_149 (lv_at hl 5 rfl) ?_
      refine lv_bipush (pc := 151) (v := nI 9) F.1 F.2.1 dL_law_151 (by decide) ?_
      refine mm_icmp_ge (pc := 153) F (x := k) (y := 9) (tgt := 161) (by omega) (by omega) dL_law_153 (by decide) (fun cz153 => ?_) (fun cz153 => ?_)
      ·
        refine lv_iload (pc := 161) F.1 F.2.1 dL_law_161 (lv_at hl 5 rfl) ?_
        refine lv_bipush (pc := 163) (v := nI 13) F.1 F.2.1 dL_law_163 (by decide) ?_
        refine mm_icmp_ge (pc := 165) F (x := k) (y := 13) (tgt := 173) (by omega) (by omega) dL_law_165 (by decide) (fun cz165 => ?_) (fun cz165 => ?_)
        ·
          refine lv_iload (pc := 173) F.1 F.2.1 dL_law_173 (lv_at hl 5 rfl) ?_
          refine lv_bipush (pc := 175) (v := nI 16) F.1 F.2.1 dL_law_175 (by decide) ?_
          refine mm_icmp_ge (pc := 177) F (x := k) (y := 16) (tgt := 185) (by omega) (by omega) dL_law_177 (by decide) (fun cz177 => ?_) (fun cz177 => ?_)
          ·
            refine lv_iload (pc := 185) F.1 F.2.1 dL_law_185 (lv_at hl 6 rfl) ?_
            refine lv_bipush (pc := 187) (v := nI 32) F.1 F.2.1 dL_law_187 (by decide) ?_
            refine mm_irem (pc := 189) F (z := nI (kv % 32)) (lq_mod (by omega) (by omega) (by omega)) (lq_ne0 (by omega) (by omega)) dL_law_189 ?_
            exact law_disp (kv % 32) (by omega) F hN hV hW hI (lv_sub hl [1, 2, 3, 4, 5, 7, 8, 9, 10, 11, 12, 13, 0] rfl) hw ha hp ht hc hs kk
          ·
            refine lv_bipush (pc := 180) (v := nI 20) F.1 F.2.1 dL_law_180 (by decide) ?_
            refine lv_goto (pc := 182) (tgt := 190) F.1 F.2.1 dL_law_182 (by decide) ?_
            exact law_disp 20 (by omega) F hN hV hW hI (lv_sub hl [1, 2, 3, 4, 5, 7, 8, 9, 10, 11, 12, 13, 0] rfl) hw ha hp ht hc hs kk
        ·
          refine lv_bipush (pc := 168) (v := nI 15) F.1 F.2.1 dL_law_168 (by decide) ?_
          refine lv_goto (pc := 170) (tgt := 190) F.1 F.2.1 dL_law_170 (by decide) ?_
          exact law_disp 15 (by omega) F hN hV hW hI (lv_sub hl [1, 2, 3, 4, 5, 7, 8, 9, 10, 11, 12, 13, 0] rfl) hw ha hp ht hc hs kk
      ·
        refine lv_bipush (pc := 156) (v := nI 14) F.1 F.2.1 dL_law_156 (by decide) ?_
        refine lv_goto (pc := 158) (tgt := 190) F.1 F.2.1 dL_law_158 (by decide) ?_
        exact law_disp 14 (by omega) F hN hV hW hI (lv_sub hl [1, 2, 3, 4, 5, 7, 8, 9, 10, 11, 12, 13, 0] rfl) hw ha hp ht hc hs kk
    ·
      refine lv_iconst (pc := 145) (v := nI 4) F.1 F.2.1 dL_law_145 (by decide) ?_
      refine lv_goto (pc := 146) (tgt := 190) F.1 F.2.1 dL_law_146 (by decide) ?_
      exact law_disp 4 (by omega) F hN hV hW hI (lv_sub hl [1, 2, 3, 4, 5, 7, 8, 9, 10, 11, 12, 13, 0] rfl) hw ha hp ht hc hs kk
  ·
    refine lv_iconst (pc := 134) (v := nI 0) F.1 F.2.1 dL_law_134 (by decide) ?_
    refine lv_goto (pc := 135) (tgt := 190) F.1 F.2.1 dL_law_135 (by decide) ?_
    exact law_disp 0 (by omega) F hN hV hW hI (lv_sub hl [1, 2, 3, 4, 5, 7, 8, 9, 10, 11, 12, 13, 0] rfl) hw ha hp ht hc hs kk

abbrev lq_lh (D : mm_D) (x0 nA st k : Nat) : List (Nat × Value) := [(0, .ref (D.2.1 400)), (1, .ref x0), (2, .int (nI nA)), (3, .int (nI st)), (4, .int (nI k))]
set_option maxHeartbeats 4000000 in
set_option maxRecDepth 100000 in
theorem law_tail {p : Program} {l : Launch} {e : Env} {s : State} {m : MethodId} {args : Array Value} {below : List Frame} {meth : Method} {c : Code} {H : Heap} {locs : List Loc} {cells slots : Nat} {Q : State → Prop} {b : Nat} {D : mm_D} {σ : mm_S} {T T2 : mm_T} {x0 st k wt : Nat} {bf : Int64} {its : Int32} {ls : Array Slot}
    (F : mm_F p l s m args meth c b D RL cL_law 20) (hN : mm_N b D s σ H locs) (hV : lq_V σ T2 x0) (hW : mm_WF T2) (hI : lq_I T2) (hrel : its < (-1000) → T2 = T) (hk : k < 100) (hwt : wt < 2) (hbf : wt = 1 → bf = lq_sum T) (hl : lv_has ls 20 (lq_l2 D x0 T2.nA st k wt bf its)) (hc : cells + 26400 ≤ 600312) (hs : slots + 231000 ≤ 7293410)
    (kn7 : k % 8 = 7 → ∀ (σ3 : mm_S) (ls : Array Slot) (H : Heap) (locs : List Loc), lq_V σ3 T2 x0 → mm_N b D s σ3 H locs → lv_has ls 20 (lq_lh D x0 T2.nA st (k + 1)) → W p l e room_1 s m args below meth c H locs (cells + 26400) (slots + 231000) Q (F0 m 24 ls []))
    (kn0 : ¬ k % 8 = 7 → ∀ (σ3 : mm_S) (ls : Array Slot) (H : Heap) (locs : List Loc), lq_V σ3 T2 x0 → mm_N b D s σ3 H locs → lv_has ls 20 (lq_lh D x0 T2.nA st (k + 1)) → W p l e room_1 s m args below meth c H locs (cells + 1400) (slots + 11000) Q (F0 m 24 ls [])) : W p l e room_1 s m args below meth c H locs (cells) (slots) Q (F0 m 857 ls []) := by
  have hl : lv_has ls 20 [(0, .ref ((D.2.1 400))), (1, .ref x0), (2, .int (nI T2.nA)), (3, .int (nI st)), (4, .int (nI k)), (11, .int (nI wt)), (12, .long bf), (14, .int its)] := hl
  refine lv_iload (pc := 857) F.1 F.2.1 dL_law_857 (lv_at hl 7 rfl) ?_
  refine lv_sipush (pc := 859) (v := (-1000)) F.1 F.2.1 dL_law_859 (by decide) ?_
  refine lv_icmp_ge (pc := 862) (tgt := 880) F.1 F.2.1 dL_law_862 (by decide) (fun cz862 => ?_) (fun cz862 => ?_)
  ·
    refine lv_iload (pc := 880) F.1 F.2.1 dL_law_880 (lv_at hl 4 rfl) ?_
    refine lv_bipush (pc := 882) (v := nI 8) F.1 F.2.1 dL_law_882 (by decide) ?_
    refine mm_irem (pc := 884) F (z := nI (k % 8)) (lq_mod (by omega) (by omega) (by omega)) (lq_ne0 (by omega) (by omega)) dL_law_884 ?_
    refine lv_bipush (pc := 885) (v := nI 7) F.1 F.2.1 dL_law_885 (by decide) ?_
    refine mm_icmp_ne (pc := 887) F (x := k % 8) (y := 7) (tgt := 899) (by omega) (by omega) dL_law_887 (by decide) (fun cz887 => ?_) (fun cz887 => ?_)
    ·
      refine lv_iinc (pc := 899) (v := nI (k + 1)) (lv' := [(4, .int (nI (k + 1))), (0, .ref ((D.2.1 400))), (1, .ref x0), (2, .int (nI T2.nA)), (3, .int (nI st)), (11, .int (nI wt)), (12, .long bf), (14, .int its)]) F.1 F.2.1 dL_law_899 hl (k := 4) rfl (by rw [← nI_add]; rfl) (by decide) rfl (fun ls hl => ?_)
      refine lv_goto (pc := 902) (tgt := 24) F.1 F.2.1 dL_law_902 (by decide) ?_
      exact W.widen (by omega) (by omega) (kn0 cz887 σ ls H locs hV hN (lv_sub hl [1, 2, 3, 4, 0] rfl))
    ·
      refine lv_aload_n (pc := 890) F.1 F.2.1 dL_law_890 rfl (lv_at hl 1 rfl) ?_
      refine mm_runS (pc := 891) (As := [.ref x0]) (rest := []) F hN (e_sound l b D F.2.2.2.2.2.2.2.1 T2 x0 σ hV hW hI) mw_1134 mw_1135 mw_0 mw_1136 ⟨pmL_isSound, (Nat.le_of_ble_eq_true rfl), (Nat.le_of_ble_eq_true rfl)⟩ hl.1 rfl (Nat.le_of_ble_eq_true rfl) ⟨by show cells + 25000 ≤ 600312; omega, by show slots + 220000 ≤ 7293410; omega⟩ dL_law_891
        (fun _ _ _ _ _ _ h9 => False.elim h9) (fun v9 σ1 H locs hp9 hN => ?_)
      obtain ⟨rfl, hx1⟩ := hp9
      refine W.eq (g2 := F0 m 894 ls [.int (nI 1)]) rfl ?_
      refine W.widen (k := cells + 25000) (n := slots + 220000) (Nat.le_refl _) (Nat.le_refl _) ?_
      have hV1 := hx1.v
      refine mm_if_ne (pc := 894) F (tgt := 899) (by omega) dL_law_894 (by decide) (fun cz894 => ?_) (fun h9 => absurd h9 (by decide))
      refine lv_iinc (pc := 899) (v := nI (k + 1)) (lv' := [(4, .int (nI (k + 1))), (0, .ref ((D.2.1 400))), (1, .ref x0), (2, .int (nI T2.nA)), (3, .int (nI st)), (11, .int (nI wt)), (12, .long bf), (14, .int its)]) F.1 F.2.1 dL_law_899 hl (k := 4) rfl (by rw [← nI_add]; rfl) (by decide) rfl (fun ls hl => ?_)
      refine lv_goto (pc := 902) (tgt := 24) F.1 F.2.1 dL_law_902 (by decide) ?_
      exact W.widen (by omega) (by omega) (kn7 cz887 σ1 ls H locs hV1 hN (lv_sub hl [1, 2, 3, 4, 0] rfl))
  ·
    have e2 := hrel (Int32.not_le.mp cz862)
    refine lv_iload (pc := 865) F.1 F.2.1 dL_law_865 (lv_at hl 5 rfl) ?_
    refine mm_if_eq (pc := 867) F (tgt := 880) (by omega) dL_law_867 (by decide) (fun cz867 => ?_) (fun cz867 => ?_)
    ·
      refine lv_iload (pc := 880) F.1 F.2.1 dL_law_880 (lv_at hl 4 rfl) ?_
      refine lv_bipush (pc := 882) (v := nI 8) F.1 F.2.1 dL_law_882 (by decide) ?_
      refine mm_irem (pc := 884) F (z := nI (k % 8)) (lq_mod (by omega) (by omega) (by omega)) (lq_ne0 (by omega) (by omega)) dL_law_884 ?_
      refine lv_bipush (pc := 885) (v := nI 7) F.1 F.2.1 dL_law_885 (by decide) ?_
      refine mm_icmp_ne (pc := 887) F (x := k % 8) (y := 7) (tgt := 899) (by omega) (by omega) dL_law_887 (by decide) (fun cz887 => ?_) (fun cz887 => ?_)
      ·
        refine lv_iinc (pc := 899) (v := nI (k + 1)) (lv' := [(4, .int (nI (k + 1))), (0, .ref ((D.2.1 400))), (1, .ref x0), (2, .int (nI T2.nA)), (3, .int (nI st)), (11, .int (nI wt)), (12, .long bf), (14, .int its)]) F.1 F.2.1 dL_law_899 hl (k := 4) rfl (by rw [← nI_add]; rfl) (by decide) rfl (fun ls hl => ?_)
        refine lv_goto (pc := 902) (tgt := 24) F.1 F.2.1 dL_law_902 (by decide) ?_
        exact W.widen (by omega) (by omega) (kn0 cz887 σ ls H locs hV hN (lv_sub hl [1, 2, 3, 4, 0] rfl))
      ·
        refine lv_aload_n (pc := 890) F.1 F.2.1 dL_law_890 rfl (lv_at hl 1 rfl) ?_
        refine mm_runS (pc := 891) (As := [.ref x0]) (rest := []) F hN (e_sound l b D F.2.2.2.2.2.2.2.1 T2 x0 σ hV hW hI) mw_1134 mw_1135 mw_0 mw_1136 ⟨pmL_isSound, (Nat.le_of_ble_eq_true rfl), (Nat.le_of_ble_eq_true rfl)⟩ hl.1 rfl (Nat.le_of_ble_eq_true rfl) ⟨by show cells + 25000 ≤ 600312; omega, by show slots + 220000 ≤ 7293410; omega⟩ dL_law_891
          (fun _ _ _ _ _ _ h9 => False.elim h9) (fun v9 σ2 H locs hp9 hN => ?_)
        obtain ⟨rfl, hx2⟩ := hp9
        refine W.eq (g2 := F0 m 894 ls [.int (nI 1)]) rfl ?_
        refine W.widen (k := cells + 25000) (n := slots + 220000) (Nat.le_refl _) (Nat.le_refl _) ?_
        have hV2 := hx2.v
        refine mm_if_ne (pc := 894) F (tgt := 899) (by omega) dL_law_894 (by decide) (fun cz894 => ?_) (fun h9 => absurd h9 (by decide))
        refine lv_iinc (pc := 899) (v := nI (k + 1)) (lv' := [(4, .int (nI (k + 1))), (0, .ref ((D.2.1 400))), (1, .ref x0), (2, .int (nI T2.nA)), (3, .int (nI st)), (11, .int (nI wt)), (12, .long bf), (14, .int its)]) F.1 F.2.1 dL_law_899 hl (k := 4) rfl (by rw [← nI_add]; rfl) (by decide) rfl (fun ls hl => ?_)
        refine lv_goto (pc := 902) (tgt := 24) F.1 F.2.1 dL_law_902 (by decide) ?_
        exact W.widen (by omega) (by omega) (kn7 cz887 σ2 ls H locs hV2 hN (lv_sub hl [1, 2, 3, 4, 0] rfl))
    ·
      have hb := hbf (by omega)
      rw [← e2] at hb
      refine lv_aload_n (pc := 870) F.1 F.2.1 dL_law_870 rfl (lv_at hl 1 rfl) ?_
      refine mm_runS (pc := 871) (As := [.ref x0]) (rest := []) F hN (e_sum l b D F.2.2.2.2.2.2.2.1 T2 x0 σ hV hW) mw_1108 mw_1109 mw_0 mw_1110 ⟨pmL_sum, (Nat.le_of_ble_eq_true rfl), (Nat.le_of_ble_eq_true rfl)⟩ hl.1 rfl (Nat.le_of_ble_eq_true rfl) ⟨by show cells + 1400 ≤ 600312; omega, by show slots + 11000 ≤ 7293410; omega⟩ dL_law_871
        (fun _ _ _ _ _ _ h9 => False.elim h9) (fun v9 σ3 H locs hp9 hN => ?_)
      obtain ⟨rfl, hx3⟩ := hp9
      refine W.eq (g2 := F0 m 874 ls [.long (lq_sum T2)]) rfl ?_
      refine W.widen (k := cells + 1400) (n := slots + 11000) (Nat.le_refl _) (Nat.le_refl _) ?_
      have hV3 := hx3.v
      refine lv_lload (pc := 874) F.1 F.2.1 dL_law_874 (lv_at hl 6 rfl) ?_
      refine W.eq (g2 := F0 m 876 ls [.long (lq_sum T2), .long (lq_sum T2)]) (by rw [hb]) ?_
      refine mm_lcmpE (pc := 876) F.1 F.2.1 dL_law_876 ?_
      refine mm_if_ne (pc := 877) F (tgt := 897) (by omega) dL_law_877 (by decide) (fun h9 => absurd h9 (by decide)) (fun cz877 => ?_)
      refine lv_iload (pc := 880) F.1 F.2.1 dL_law_880 (lv_at hl 4 rfl) ?_
      refine lv_bipush (pc := 882) (v := nI 8) F.1 F.2.1 dL_law_882 (by decide) ?_
      refine mm_irem (pc := 884) F (z := nI (k % 8)) (lq_mod (by omega) (by omega) (by omega)) (lq_ne0 (by omega) (by omega)) dL_law_884 ?_
      refine lv_bipush (pc := 885) (v := nI 7) F.1 F.2.1 dL_law_885 (by decide) ?_
      refine mm_icmp_ne (pc := 887) F (x := k % 8) (y := 7) (tgt := 899) (by omega) (by omega) dL_law_887 (by decide) (fun cz887 => ?_) (fun cz887 => ?_)
      ·
        refine lv_iinc (pc := 899) (v := nI (k + 1)) (lv' := [(4, .int (nI (k + 1))), (0, .ref ((D.2.1 400))), (1, .ref x0), (2, .int (nI T2.nA)), (3, .int (nI st)), (11, .int (nI wt)), (12, .long bf), (14, .int its)]) F.1 F.2.1 dL_law_899 hl (k := 4) rfl (by rw [← nI_add]; rfl) (by decide) rfl (fun ls hl => ?_)
        refine lv_goto (pc := 902) (tgt := 24) F.1 F.2.1 dL_law_902 (by decide) ?_
        exact W.widen (by omega) (by omega) (kn0 cz887 σ3 ls H locs hV3 hN (lv_sub hl [1, 2, 3, 4, 0] rfl))
      ·
        refine lv_aload_n (pc := 890) F.1 F.2.1 dL_law_890 rfl (lv_at hl 1 rfl) ?_
        refine mm_runS (pc := 891) (As := [.ref x0]) (rest := []) F hN (e_sound l b D F.2.2.2.2.2.2.2.1 T2 x0 σ3 hV3 hW hI) mw_1134 mw_1135 mw_0 mw_1136 ⟨pmL_isSound, (Nat.le_of_ble_eq_true rfl), (Nat.le_of_ble_eq_true rfl)⟩ hl.1 rfl (Nat.le_of_ble_eq_true rfl) ⟨by show (cells + 1400) + 25000 ≤ 600312; omega, by show (slots + 11000) + 220000 ≤ 7293410; omega⟩ dL_law_891
          (fun _ _ _ _ _ _ h9 => False.elim h9) (fun v9 σ4 H locs hp9 hN => ?_)
        obtain ⟨rfl, hx4⟩ := hp9
        refine W.eq (g2 := F0 m 894 ls [.int (nI 1)]) rfl ?_
        refine W.widen (k := cells + 1400 + 25000) (n := slots + 11000 + 220000) (Nat.le_refl _) (Nat.le_refl _) ?_
        have hV4 := hx4.v
        refine mm_if_ne (pc := 894) F (tgt := 899) (by omega) dL_law_894 (by decide) (fun cz894 => ?_) (fun h9 => absurd h9 (by decide))
        refine lv_iinc (pc := 899) (v := nI (k + 1)) (lv' := [(4, .int (nI (k + 1))), (0, .ref ((D.2.1 400))), (1, .ref x0), (2, .int (nI T2.nA)), (3, .int (nI st)), (11, .int (nI wt)), (12, .long bf), (14, .int its)]) F.1 F.2.1 dL_law_899 hl (k := 4) rfl (by rw [← nI_add]; rfl) (by decide) rfl (fun ls hl => ?_)
        refine lv_goto (pc := 902) (tgt := 24) F.1 F.2.1 dL_law_902 (by decide) ?_
        exact W.widen (by omega) (by omega) (kn7 cz887 σ4 ls H locs hV4 hN (lv_sub hl [1, 2, 3, 4, 0] rfl))

set_option maxHeartbeats 4000000 in
set_option maxRecDepth 100000 in
theorem law_loop {p : Program} {l : Launch} {e : Env} {s : State} {m : MethodId} {args : Array Value} {below : List Frame} {meth : Method} {c : Code} {Q : State → Prop} {b : Nat} {D : mm_D} {x0 st : Nat}
    (F : mm_F p l s m args meth c b D RL cL_law 20) (hst8 : st < 58)
    (hend : ∀ (T : mm_T) (σ : mm_S) (ls : Array Slot) (H : Heap) (locs : List Loc), lq_V σ T x0 → mm_WF T → lq_I T → mm_N b D s σ H locs → lv_has ls 20 [(1, .ref x0), (2, .int (nI T.nA))] → W p l e room_1 s m args below meth c H locs 540000 6500000 Q (F0 m 905 ls [])) :
    ∀ (j k : Nat) (T : mm_T) (σ : mm_S) (ls : Array Slot) (H : Heap) (locs : List Loc), st < k + j → k ≤ st → lq_V σ T x0 → mm_WF T → lq_I T → mm_N b D s σ H locs → lv_has ls 20 (lq_lh D x0 T.nA st k) →
      W p l e room_1 s m args below meth c H locs (100 + 4200 * k + 26000 * (k / 8)) (1000 + 45000 * k + 231000 * (k / 8)) Q (F0 m 24 ls []) := by
  intro j
  induction j with
  | zero => intro k T σ ls H locs h1 h2; omega
  | succ j ih =>
    intro k T σ ls H locs h1 h2 hV hW hI hN hl
    have hl : lv_has ls 20 [(0, .ref ((D.2.1 400))), (1, .ref x0), (2, .int (nI T.nA)), (3, .int (nI st)), (4, .int (nI k))] := hl
    have wnA := hW.hnA
    have wnP := hW.hnP
    have wnT := hW.hnT
    have wnR := hW.hnR
    refine lv_iload (pc := 24) F.1 F.2.1 dL_law_24 (lv_at hl 4 rfl) ?_
    refine lv_iload_n (pc := 26) F.1 F.2.1 dL_law_26 rfl (lv_at hl 3 rfl) ?_
    refine mm_icmp_ge (pc := 27) F (x := k) (y := st) (tgt := 905) (by omega) (by omega) dL_law_27 (by decide) (fun cz27 => ?_) (fun cz27 => ?_)
    ·
      exact W.widen (by omega) (by omega) (hend T σ ls H locs hV hW hI hN (lv_sub hl [1, 2] rfl))
    ·
      refine lv_aload_n (pc := 30) F.1 F.2.1 dL_law_30 rfl (lv_at hl 0 rfl) ?_
      refine lv_iconst (pc := 31) (v := nI 1) F.1 F.2.1 dL_law_31 (by decide) ?_
      refine lv_iload (pc := 32) F.1 F.2.1 dL_law_32 (lv_at hl 4 rfl) ?_
      refine mm_iadd (pc := 34) F (z := nI (1 + k)) (nI_add _ _) dL_law_34 ?_
      refine mm_runS (pc := 35) (As := [.ref ((D.2.1 400)), .int (nI (1 + k))]) (rest := []) F hN (e_at l b D F.2.2.2.2.2.2.2.1 (1 + k) (by omega) σ) mw_110 mw_111 mw_0 mw_112 ⟨pmL_at, (Nat.le_of_ble_eq_true rfl), (Nat.le_of_ble_eq_true rfl)⟩ hl.1 rfl (Nat.le_of_ble_eq_true rfl) ⟨by show (100 + 4200 * k + 26000 * (k / 8)) + 0 ≤ 600312; omega, by show (1000 + 45000 * k + 231000 * (k / 8)) + 0 ≤ 7293410; omega⟩ dL_law_35
        (fun _ _ _ _ _ _ h9 => False.elim h9) (fun v9 σ9 H locs hp9 hN => ?_)
      obtain ⟨⟨x9, rfl⟩, h9⟩ := hp9
      refine W.eq (g2 := F0 m 38 ls [.int x9]) rfl ?_
      refine W.widen (k := 100 + 4200 * k + 26000 * (k / 8)) (n := 1000 + 45000 * k + 231000 * (k / 8)) (Nat.le_refl _) (Nat.le_refl _) ?_
      rw [h9] at hN
      refine lv_ldc (pc := 38) (v := nI 100000000) F.1 F.2.1 F.2.2.2.1 (F.2.2.2.2.1 _ mw_1182) dL_law_38 ?_
      refine mm_runS (pc := 40) (As := [.int x9, .int (nI 100000000)]) (rest := []) F hN (e_some l b D F.2.2.2.2.2.2.2.1 x9 100000000 (by decide) (by decide) σ) mw_113 mw_114 mw_0 mw_115 ⟨pmL_some, (Nat.le_of_ble_eq_true rfl), (Nat.le_of_ble_eq_true rfl)⟩ hl.1 rfl (Nat.le_of_ble_eq_true rfl) ⟨by show (100 + 4200 * k + 26000 * (k / 8)) + 0 ≤ 600312; omega, by show (1000 + 45000 * k + 231000 * (k / 8)) + 0 ≤ 7293410; omega⟩ dL_law_40
        (fun _ _ _ _ _ _ h9 => False.elim h9) (fun v9 σ9 H locs hp9 hN => ?_)
      obtain ⟨⟨kv, hkv, rfl⟩, h9⟩ := hp9
      refine W.eq (g2 := F0 m 43 ls [.int (nI kv)]) rfl ?_
      refine W.widen (k := 100 + 4200 * k + 26000 * (k / 8)) (n := 1000 + 45000 * k + 231000 * (k / 8)) (Nat.le_refl _) (Nat.le_refl _) ?_
      rw [h9] at hN
      refine lv_istore (pc := 43) (lv' := [(5, .int (nI kv)), (0, .ref ((D.2.1 400))), (1, .ref x0), (2, .int (nI T.nA)), (3, .int (nI st)), (4, .int (nI k))]) F.1 F.2.1 dL_law_43 hl (by decide) rfl (fun ls hl => ?_)
      refine lv_iload (pc := 45) F.1 F.2.1 dL_law_45 (lv_at hl 0 rfl) ?_
      refine lv_bipush (pc := 47) (v := nI 32) F.1 F.2.1 dL_law_47 (by decide) ?_
      refine mm_idiv (pc := 49) F (z := nI (kv / 32)) (pk_div (by omega) (by omega) (by omega)) (by decide) dL_law_49 ?_
      obtain ⟨kw, ekw⟩ : ∃ z9, z9 = (kv / 32) := ⟨_, rfl⟩
      refine W.eq (g2 := F0 m 50 ls [.int (nI kw)]) (by rw [ekw]) ?_
      have hw : kw < 134217728 := by omega
      refine lv_istore (pc := 50) (lv' := [(6, .int (nI kw)), (5, .int (nI kv)), (0, .ref ((D.2.1 400))), (1, .ref x0), (2, .int (nI T.nA)), (3, .int (nI st)), (4, .int (nI k))]) F.1 F.2.1 dL_law_50 hl (by decide) rfl (fun ls hl => ?_)
      refine lv_aload_n (pc := 52) F.1 F.2.1 dL_law_52 rfl (lv_at hl 3 rfl) ?_
      refine lv_iconst (pc := 53) (v := nI 0) F.1 F.2.1 dL_law_53 (by decide) ?_
      refine mm_runS (pc := 54) (As := [.ref x0, .int (nI 0)]) (rest := []) F hN (e_many0 l b D F.2.2.2.2.2.2.2.1 T x0 σ hV hW) mw_1105 mw_1106 mw_0 mw_1107 ⟨pmL_many, (Nat.le_of_ble_eq_true rfl), (Nat.le_of_ble_eq_true rfl)⟩ hl.1 rfl (Nat.le_of_ble_eq_true rfl) ⟨by show (100 + 4200 * k + 26000 * (k / 8)) + 150 ≤ 600312; omega, by show (1000 + 45000 * k + 231000 * (k / 8)) + 1000 ≤ 7293410; omega⟩ dL_law_54
        (fun _ _ _ _ _ _ h9 => False.elim h9) (fun v9 σ1 H locs hp9 hN => ?_)
      obtain ⟨rfl, hx1⟩ := hp9
      refine W.eq (g2 := F0 m 57 ls [.int (nI T.nP)]) rfl ?_
      refine W.widen (k := 100 + 4200 * k + 26000 * (k / 8) + 150) (n := 1000 + 45000 * k + 231000 * (k / 8) + 1000) (Nat.le_refl _) (Nat.le_refl _) ?_
      have hV1 := hx1.v
      have hF1 := mm_Fr.tr mm_Fr.rf hx1.fr
      refine lv_istore (pc := 57) (lv' := [(7, .int (nI T.nP)), (6, .int (nI kw)), (5, .int (nI kv)), (0, .ref ((D.2.1 400))), (1, .ref x0), (2, .int (nI T.nA)), (3, .int (nI st)), (4, .int (nI k))]) F.1 F.2.1 dL_law_57 hl (by decide) rfl (fun ls hl => ?_)
      refine lv_iload (pc := 59) F.1 F.2.1 dL_law_59 (lv_at hl 1 rfl) ?_
      refine lv_iconst (pc := 61) (v := nI 1) F.1 F.2.1 dL_law_61 (by decide) ?_
      refine lv_iload_n (pc := 62) F.1 F.2.1 dL_law_62 rfl (lv_at hl 5 rfl) ?_
      refine va_mmax (pc := 63) F.1 F.2.1 (F.2.2.1.trans hl.1.symm) F.2.2.2.1 (F.2.2.2.2.1 _ mw_1159) (F.2.2.2.2.1 _ mw_266) (F.2.2.2.2.1 _ mw_16) (F.2.2.2.2.1 _ mw_267) (Nat.le_of_ble_eq_true rfl) (Nat.le_of_ble_eq_true rfl) (by show 100 + 4200 * k + 26000 * (k / 8) + 150 ≤ 600312; omega) (by show 1000 + 45000 * k + 231000 * (k / 8) + 1000 ≤ 7293410; omega) dL_law_63 ?_
      refine W.eq (g2 := F0 m 66 ls [.int (nI ((max 1 T.nA))), .int (nI kw)]) (congrArg (fun z => F0 m 66 ls (.int z :: [.int (nI kw)])) (mm_max (by omega) (by omega))) ?_
      refine mm_irem (pc := 66) F (z := nI (kw % ((max 1 T.nA)))) (lq_mod (by omega) (by omega) (by omega)) (lq_ne0 (by omega) (by omega)) dL_law_66 ?_
      obtain ⟨ka, eka⟩ : ∃ z9, z9 = (kw % ((max 1 T.nA))) := ⟨_, rfl⟩
      refine W.eq (g2 := F0 m 67 ls [.int (nI ka)]) (by rw [eka]) ?_
      have ha : ka < 16 := by rw [eka]; exact Nat.lt_of_lt_of_le (Nat.mod_lt _ (by omega)) (by omega)
      refine lv_istore (pc := 67) (lv' := [(8, .int (nI ka)), (7, .int (nI T.nP)), (6, .int (nI kw)), (5, .int (nI kv)), (0, .ref ((D.2.1 400))), (1, .ref x0), (2, .int (nI T.nA)), (3, .int (nI st)), (4, .int (nI k))]) F.1 F.2.1 dL_law_67 hl (by decide) rfl (fun ls hl => ?_)
      refine lv_iload (pc := 69) F.1 F.2.1 dL_law_69 (lv_at hl 2 rfl) ?_
      refine lv_iconst (pc := 71) (v := nI 5) F.1 F.2.1 dL_law_71 (by decide) ?_
      refine mm_idiv (pc := 72) F (z := nI (kw / 5)) (pk_div (by omega) (by omega) (by omega)) (by decide) dL_law_72 ?_
      refine lv_iconst (pc := 73) (v := nI 1) F.1 F.2.1 dL_law_73 (by decide) ?_
      refine lv_iload (pc := 74) F.1 F.2.1 dL_law_74 (lv_at hl 1 rfl) ?_
      refine va_mmax (pc := 76) F.1 F.2.1 (F.2.2.1.trans hl.1.symm) F.2.2.2.1 (F.2.2.2.2.1 _ mw_1159) (F.2.2.2.2.1 _ mw_266) (F.2.2.2.2.1 _ mw_16) (F.2.2.2.2.1 _ mw_267) (Nat.le_of_ble_eq_true rfl) (Nat.le_of_ble_eq_true rfl) (by show 100 + 4200 * k + 26000 * (k / 8) + 150 ≤ 600312; omega) (by show 1000 + 45000 * k + 231000 * (k / 8) + 1000 ≤ 7293410; omega) dL_law_76 ?_
      refine W.eq (g2 := F0 m 79 ls [.int (nI ((max 1 T.nP))), .int (nI (kw / 5))]) (congrArg (fun z => F0 m 79 ls (.int z :: [.int (nI (kw / 5))])) (mm_max (by omega) (by omega))) ?_
      refine mm_irem (pc := 79) F (z := nI ((kw / 5) % ((max 1 T.nP)))) (lq_mod (by omega) (by omega) (by omega)) (lq_ne0 (by omega) (by omega)) dL_law_79 ?_
      obtain ⟨kp, ekp⟩ : ∃ z9, z9 = ((kw / 5) % ((max 1 T.nP))) := ⟨_, rfl⟩
      refine W.eq (g2 := F0 m 80 ls [.int (nI kp)]) (by rw [ekp]) ?_
      have hp : kp < 32 := by rw [ekp]; exact Nat.lt_of_lt_of_le (Nat.mod_lt _ (by omega)) (by omega)
      refine lv_istore (pc := 80) (lv' := [(9, .int (nI kp)), (8, .int (nI ka)), (7, .int (nI T.nP)), (6, .int (nI kw)), (5, .int (nI kv)), (0, .ref ((D.2.1 400))), (1, .ref x0), (2, .int (nI T.nA)), (3, .int (nI st)), (4, .int (nI k))]) F.1 F.2.1 dL_law_80 hl (by decide) rfl (fun ls hl => ?_)
      refine lv_iload (pc := 82) F.1 F.2.1 dL_law_82 (lv_at hl 3 rfl) ?_
      refine lv_iconst (pc := 84) (v := nI 1) F.1 F.2.1 dL_law_84 (by decide) ?_
      refine lv_aload_n (pc := 85) F.1 F.2.1 dL_law_85 rfl (lv_at hl 6 rfl) ?_
      refine lv_iconst (pc := 86) (v := nI 2) F.1 F.2.1 dL_law_86 (by decide) ?_
      refine mm_runS (pc := 87) (As := [.ref x0, .int (nI 2)]) (rest := [.int (nI 1), .int (nI kw)]) F hN (e_many2 l b D F.2.2.2.2.2.2.2.1 T x0 σ1 hV1 hW) mw_1105 mw_1106 mw_0 mw_1107 ⟨pmL_many, (Nat.le_of_ble_eq_true rfl), (Nat.le_of_ble_eq_true rfl)⟩ hl.1 rfl (Nat.le_of_ble_eq_true rfl) ⟨by show (100 + 4200 * k + 26000 * (k / 8) + 150) + 150 ≤ 600312; omega, by show (1000 + 45000 * k + 231000 * (k / 8) + 1000) + 1000 ≤ 7293410; omega⟩ dL_law_87
        (fun _ _ _ _ _ _ h9 => False.elim h9) (fun v9 σ2 H locs hp9 hN => ?_)
      obtain ⟨rfl, hx2⟩ := hp9
      refine W.eq (g2 := F0 m 90 ls [.int (nI T.nT), .int (nI 1), .int (nI kw)]) rfl ?_
      refine W.widen (k := 100 + 4200 * k + 26000 * (k / 8) + 150 + 150) (n := 1000 + 45000 * k + 231000 * (k / 8) + 1000 + 1000) (Nat.le_refl _) (Nat.le_refl _) ?_
      have hV2 := hx2.v
      have hF2 := mm_Fr.tr hF1 hx2.fr
      refine va_mmax (pc := 90) F.1 F.2.1 (F.2.2.1.trans hl.1.symm) F.2.2.2.1 (F.2.2.2.2.1 _ mw_1159) (F.2.2.2.2.1 _ mw_266) (F.2.2.2.2.1 _ mw_16) (F.2.2.2.2.1 _ mw_267) (Nat.le_of_ble_eq_true rfl) (Nat.le_of_ble_eq_true rfl) (by show 100 + 4200 * k + 26000 * (k / 8) + 150 + 150 ≤ 600312; omega) (by show 1000 + 45000 * k + 231000 * (k / 8) + 1000 + 1000 ≤ 7293410; omega) dL_law_90 ?_
      refine W.eq (g2 := F0 m 93 ls [.int (nI ((max 1 T.nT))), .int (nI kw)]) (congrArg (fun z => F0 m 93 ls (.int z :: [.int (nI kw)])) (mm_max (by omega) (by omega))) ?_
      refine mm_irem (pc := 93) F (z := nI (kw % ((max 1 T.nT)))) (lq_mod (by omega) (by omega) (by omega)) (lq_ne0 (by omega) (by omega)) dL_law_93 ?_
      obtain ⟨kt, ekt⟩ : ∃ z9, z9 = (kw % ((max 1 T.nT))) := ⟨_, rfl⟩
      refine W.eq (g2 := F0 m 94 ls [.int (nI kt)]) (by rw [ekt]) ?_
      have ht : kt < 8 := by rw [ekt]; exact Nat.lt_of_lt_of_le (Nat.mod_lt _ (by omega)) (by omega)
      refine lv_istore (pc := 94) (lv' := [(10, .int (nI kt)), (9, .int (nI kp)), (8, .int (nI ka)), (7, .int (nI T.nP)), (6, .int (nI kw)), (5, .int (nI kv)), (0, .ref ((D.2.1 400))), (1, .ref x0), (2, .int (nI T.nA)), (3, .int (nI st)), (4, .int (nI k))]) F.1 F.2.1 dL_law_94 hl (by decide) rfl (fun ls hl => ?_)
      refine lv_iload (pc := 96) F.1 F.2.1 dL_law_96 (lv_at hl 10 rfl) ?_
      refine lv_iconst (pc := 98) (v := nI 2) F.1 F.2.1 dL_law_98 (by decide) ?_
      refine mm_irem (pc := 99) F (z := nI (k % 2)) (lq_mod (by omega) (by omega) (by omega)) (lq_ne0 (by omega) (by omega)) dL_law_99 ?_
      refine mm_if_ne (pc := 100) F (tgt := 107) (by omega) dL_law_100 (by decide) (fun cz100 => ?_) (fun cz100 => ?_)
      ·
        refine lv_iconst (pc := 107) (v := nI 0) F.1 F.2.1 dL_law_107 (by decide) ?_
        refine lv_istore (pc := 108) (lv' := [(11, .int (nI 0)), (10, .int (nI kt)), (9, .int (nI kp)), (8, .int (nI ka)), (7, .int (nI T.nP)), (6, .int (nI kw)), (5, .int (nI kv)), (0, .ref ((D.2.1 400))), (1, .ref x0), (2, .int (nI T.nA)), (3, .int (nI st)), (4, .int (nI k))]) F.1 F.2.1 dL_law_108 hl (by decide) rfl (fun ls hl => ?_)
        refine lv_iload (pc := 110) F.1 F.2.1 dL_law_110 (lv_at hl 0 rfl) ?_
        refine mm_if_eq (pc := 112) F (tgt := 122) (by omega) dL_law_112 (by decide) (fun cz112 => ?_) (fun h9 => absurd h9 (by decide))
        refine lv_lconst (pc := 122) (v := lN 0) F.1 F.2.1 dL_law_122 (by decide) ?_
        refine lv_lstore (pc := 123) (lv' := [(12, .long (lN 0)), (11, .int (nI 0)), (10, .int (nI kt)), (9, .int (nI kp)), (8, .int (nI ka)), (7, .int (nI T.nP)), (6, .int (nI kw)), (5, .int (nI kv)), (0, .ref ((D.2.1 400))), (1, .ref x0), (2, .int (nI T.nA)), (3, .int (nI st)), (4, .int (nI k))]) F.1 F.2.1 dL_law_123 hl (by decide) rfl (fun ls hl => ?_)
        refine W.widen (k := 100 + 4200 * k + 26000 * (k / 8) + 1700) (n := 1000 + 45000 * k + 231000 * (k / 8) + 13000) (by omega) (by omega) ?_
        refine law_mid F hN hV2 hW hI (lv_sub hl [8, 9, 10, 11, 12, 7, 6, 5, 4, 3, 2, 1, 0] rfl) (by omega) (by omega) hw ha hp ht (by omega) (by omega) (fun T2 its σ2 ls H locs hV2 hW2 hI2 hrel hN2 hl2 => ?_)
        refine law_tail F hN2 hV2 hW2 hI2 hrel (by omega) (by decide) (fun h9 => absurd h9 (by decide)) hl2 (by omega) (by omega) (fun h7 σ3 ls H locs hV3 hN3 hl3 => ?_) (fun h7 σ3 ls H locs hV3 hN3 hl3 => ?_)
        · exact W.widen (by omega) (by omega) (ih (k + 1) T2 σ3 ls H locs (by omega) (by omega) hV3 hW2 hI2 hN3 hl3)
        · exact W.widen (by omega) (by omega) (ih (k + 1) T2 σ3 ls H locs (by omega) (by omega) hV3 hW2 hI2 hN3 hl3)
      ·
        refine lv_iconst (pc := 103) (v := nI 1) F.1 F.2.1 dL_law_103 (by decide) ?_
        refine lv_goto (pc := 104) (tgt := 108) F.1 F.2.1 dL_law_104 (by decide) ?_
        refine lv_istore (pc := 108) (lv' := [(11, .int (nI 1)), (10, .int (nI kt)), (9, .int (nI kp)), (8, .int (nI ka)), (7, .int (nI T.nP)), (6, .int (nI kw)), (5, .int (nI kv)), (0, .ref ((D.2.1 400))), (1, .ref x0), (2, .int (nI T.nA)), (3, .int (nI st)), (4, .int (nI k))]) F.1 F.2.1 dL_law_108 hl (by decide) rfl (fun ls hl => ?_)
        refine lv_iload (pc := 110) F.1 F.2.1 dL_law_110 (lv_at hl 0 rfl) ?_
        refine mm_if_eq (pc := 112) F (tgt := 122) (by omega) dL_law_112 (by decide) (fun h9 => absurd h9 (by decide)) (fun cz112 => ?_)
        refine lv_aload_n (pc := 115) F.1 F.2.1 dL_law_115 rfl (lv_at hl 8 rfl) ?_
        refine mm_runS (pc := 116) (As := [.ref x0]) (rest := []) F hN (e_sum l b D F.2.2.2.2.2.2.2.1 T x0 σ2 hV2 hW) mw_1108 mw_1109 mw_0 mw_1110 ⟨pmL_sum, (Nat.le_of_ble_eq_true rfl), (Nat.le_of_ble_eq_true rfl)⟩ hl.1 rfl (Nat.le_of_ble_eq_true rfl) ⟨by show (100 + 4200 * k + 26000 * (k / 8) + 150 + 150) + 1400 ≤ 600312; omega, by show (1000 + 45000 * k + 231000 * (k / 8) + 1000 + 1000) + 11000 ≤ 7293410; omega⟩ dL_law_116
          (fun _ _ _ _ _ _ h9 => False.elim h9) (fun v9 σ3 H locs hp9 hN => ?_)
        obtain ⟨rfl, hx3⟩ := hp9
        refine W.eq (g2 := F0 m 119 ls [.long (lq_sum T)]) rfl ?_
        refine W.widen (k := 100 + 4200 * k + 26000 * (k / 8) + 150 + 150 + 1400) (n := 1000 + 45000 * k + 231000 * (k / 8) + 1000 + 1000 + 11000) (Nat.le_refl _) (Nat.le_refl _) ?_
        have hV3 := hx3.v
        refine lv_goto (pc := 119) (tgt := 123) F.1 F.2.1 dL_law_119 (by decide) ?_
        refine lv_lstore (pc := 123) (lv' := [(12, .long (lq_sum T)), (11, .int (nI 1)), (10, .int (nI kt)), (9, .int (nI kp)), (8, .int (nI ka)), (7, .int (nI T.nP)), (6, .int (nI kw)), (5, .int (nI kv)), (0, .ref ((D.2.1 400))), (1, .ref x0), (2, .int (nI T.nA)), (3, .int (nI st)), (4, .int (nI k))]) F.1 F.2.1 dL_law_123 hl (by decide) rfl (fun ls hl => ?_)
        refine W.widen (k := 100 + 4200 * k + 26000 * (k / 8) + 1700) (n := 1000 + 45000 * k + 231000 * (k / 8) + 13000) (by omega) (by omega) ?_
        refine law_mid F hN hV3 hW hI (lv_sub hl [8, 9, 10, 11, 12, 7, 6, 5, 4, 3, 2, 1, 0] rfl) (by omega) (by omega) hw ha hp ht (by omega) (by omega) (fun T2 its σ2 ls H locs hV2 hW2 hI2 hrel hN2 hl2 => ?_)
        refine law_tail F hN2 hV2 hW2 hI2 hrel (by omega) (by decide) (fun _ => rfl) hl2 (by omega) (by omega) (fun h7 σ3 ls H locs hV3 hN3 hl3 => ?_) (fun h7 σ3 ls H locs hV3 hN3 hl3 => ?_)
        · exact W.widen (by omega) (by omega) (ih (k + 1) T2 σ3 ls H locs (by omega) (by omega) hV3 hW2 hI2 hN3 hl3)
        · exact W.widen (by omega) (by omega) (ih (k + 1) T2 σ3 ls H locs (by omega) (by omega) hV3 hW2 hI2 hN3 hl3)

