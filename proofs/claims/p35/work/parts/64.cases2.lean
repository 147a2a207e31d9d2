def lq_pv (T : mm_T) (t hh j : Nat) : Int32 := lq_i (mm_q_preview T t hh j) (mm_oc T t hh j)
def lq_du (T : mm_T) (t hh u : Nat) : Nat → Int32 := fun j => if j < u then lq_pv T t hh j else 0
theorem lq_du0 {T : mm_T} {t hh : Nat} : lq_du T t hh 0 = fun _ => 0 := funext fun j => if_neg (Nat.not_lt_zero j)
theorem lq_du1 {T : mm_T} {t hh u : Nat} : va_up (lq_du T t hh u) u (lq_pv T t hh u) = lq_du T t hh (u + 1) := by
  funext j
  by_cases e : j = u
  · subst e
    rw [va_up_self]
    exact (if_pos (Nat.lt_succ_self j)).symm
  · rw [va_up_ne _ _ e]
    unfold lq_du
    by_cases h : j < u
    · rw [if_pos h, if_pos (by omega)]
    · rw [if_neg h, if_neg (by omega)]
theorem lq_dur {T : mm_T} {t hh v : Nat} (hv : v < T.nP) (ht : t < T.nT) : lq_du T t hh T.nP v = nI ((mm_t_run T t hh).oc T.nR v) := by
  rw [(mm_tr_n (T := T) (t := t) (hh := hh) hv).1]
  unfold lq_du lq_pv
  rw [if_pos hv]
  exact lq_i0 (by unfold mm_q_preview; rw [if_pos ⟨ht, hv⟩])
theorem lq_run0 {T : mm_T} {t hh : Nat} (h : mm_q_run T t hh = 0) : t < T.nT ∧ T.nR < 10 := by
  unfold mm_q_run at h
  by_cases e : t < T.nT
  · rw [if_pos e] at h
    by_cases e2 : T.nR < 10
    · exact ⟨e, e2⟩
    · rw [if_neg e2] at h; cases h
  · rw [if_neg e] at h; omega
theorem lq_back0 {T : mm_T} {k i ch : Nat} (h : mm_q_comesBack T k i ch = 0) : (k < T.nR ∧ i < T.rp k) ∧ (ch = 117 ∨ ch = 109 ∨ ch = 100) ∧ T.oc k i = 108 ∧ T.bk k i = 0 := by
  unfold mm_q_comesBack at h
  by_cases e : k < T.nR ∧ i < T.rp k
  · rw [if_pos e] at h
    by_cases e2 : ch = 117 ∨ ch = 109 ∨ ch = 100
    · rw [if_pos e2] at h
      by_cases e3 : T.oc k i = 108 ∧ T.bk k i = 0
      · exact ⟨e, e2, e3⟩
      · rw [if_neg e3] at h; cases h
    · rw [if_neg e2] at h; cases h
  · rw [if_neg e] at h; cases h
theorem lq_back3 {T : mm_T} {k i ch : Nat} (h1 : k < T.nR ∧ i < T.rp k) (h2 : ch = 117 ∨ ch = 109 ∨ ch = 100) (h3 : T.bk k i = 1) : mm_q_comesBack T k i ch = 3 := by
  unfold mm_q_comesBack
  rw [if_pos h1, if_pos h2, if_neg (fun q => by rw [h3] at q; exact absurd q.2 (by decide))]
set_option maxHeartbeats 4000000 in
set_option maxRecDepth 100000 in
theorem lc_run {p : Program} {l : Launch} {e : Env} {s : State} {m : MethodId} {args : Array Value} {below : List Frame} {meth : Method} {c : Code} {H : Heap} {locs : List Loc} {cells slots : Nat} {Q : State → Prop} {b : Nat} {D : mm_D} {σ : mm_S} {T : mm_T} {x0 st k kw ka kp kt wt : Nat} {bf : Int64} {ls : Array Slot}
    (F : mm_F p l s m args meth c b D RL cL_law 20) (hN : mm_N b D s σ H locs) (hV : lq_V σ T x0) (hW : mm_WF T) (hI : lq_I T) (hl : lv_has ls 20 (lq_l1 D x0 T.nA st k kw T.nP ka kp kt wt bf)) (hw : kw < 134217728) (ha : ka < 16) (hp : kp < 32) (ht : kt < 8) (hc : cells + 1000 ≤ 600312) (hs : slots + 15000 ≤ 7293410)
    (kk : ∀ (T2 : mm_T) (its : Int32) (σ2 : mm_S) (ls : Array Slot) (H : Heap) (locs : List Loc), lq_V σ2 T2 x0 → mm_WF T2 → lq_I T2 → (its < (-1000) → T2 = T) → mm_N b D s σ2 H locs → lv_has ls 20 (lq_l2 D x0 T2.nA st k wt bf its) → W p l e room_1 s m args below meth c H locs (cells + 1000) (slots + 15000) Q (F0 m 857 ls [])) : W p l e room_1 s m args below meth c H locs cells slots Q (F0 m 628 ls []) := by
  have hl : lv_has ls 20 [(0, .ref ((D.2.1 400))), (1, .ref x0), (2, .int (nI T.nA)), (3, .int (nI st)), (4, .int (nI k)), (6, .int (nI kw)), (7, .int (nI T.nP)), (8, .int (nI ka)), (9, .int (nI kp)), (10, .int (nI kt)), (11, .int (nI wt)), (12, .long bf), (14, .int (nI 0))] := hl
  have wnA := hW.hnA
  have wnP := hW.hnP
  have wnT := hW.hnT
  have wnR := hW.hnR
  have wpa := hW.hpa
  have wen0 := hW.hen 0
  have wen1 := hW.hen 1
  have wbo := hW.hbo
  refine lv_iload (pc := 628) F.1 F.2.1 dL_law_628 (lv_at hl 5 rfl) ?_
  refine lv_iconst (pc := 630) (v := nI 4) F.1 F.2.1 dL_law_630 (by decide) ?_
  refine mm_idiv (pc := 631) F (z := nI (kw / 4)) (pk_div (by omega) (by omega) (by omega)) (by decide) dL_law_631 ?_
  refine lv_iconst (pc := 632) (v := nI 2) F.1 F.2.1 dL_law_632 (by decide) ?_
  refine mm_irem (pc := 633) F (z := nI ((kw / 4) % 2)) (lq_mod (by omega) (by omega) (by omega)) (lq_ne0 (by omega) (by omega)) dL_law_633 ?_
  refine mm_if_ne (pc := 634) F (tgt := 641) (by omega) dL_law_634 (by decide) (fun cz634 => ?_) (fun cz634 => ?_)
  ·
    refine lv_iconst (pc := 641) (v := nI 0) F.1 F.2.1 dL_law_641 (by decide) ?_
    refine lv_istore (pc := 642) (lv' := [(16, .int (nI 0)), (0, .ref ((D.2.1 400))), (1, .ref x0), (2, .int (nI T.nA)), (3, .int (nI st)), (4, .int (nI k)), (6, .int (nI kw)), (7, .int (nI T.nP)), (8, .int (nI ka)), (9, .int (nI kp)), (10, .int (nI kt)), (11, .int (nI wt)), (12, .long bf), (14, .int (nI 0))]) F.1 F.2.1 dL_law_642 hl (by decide) rfl (fun ls hl => ?_)
    refine lv_bipush (pc := 644) (v := nI 24) F.1 F.2.1 dL_law_644 (by decide) ?_
    refine mm_newa (pc := 646) F hN 2 0 (24) (x := (24, .inl (fun _ => 0))) (atype := .int) rfl (by omega) mw_484 rfl (by intro C h; cases h) (by decide) (rfl) (by show cells + 1 ≤ 600312; omega) (by show slots + 24 ≤ 7293410; omega) dL_law_646 (fun q1 H hq1 hN => ?_)
    have hN : mm_N b D s (mm_u σ q1 (mm_arr 2 0 (24, .inl (fun _ => 0)))) _ _ := hN
    obtain ⟨σ2, eσ2⟩ : ∃ z9, z9 = mm_u σ q1 (mm_arr 2 0 (24, .inl (fun _ => 0))) := ⟨_, rfl⟩
    rw [← eσ2] at hN
    have hA2 : σ2 q1 = mm_ari 2 0 24 (lq_du T kt 0 0) := by rw [lq_du0, eσ2]; exact mm_u_eq
    have hV2 : lq_V σ2 T x0 := hV.kept (fun a9 e9 he => by rw [eσ2, mm_u_ne (fun z9 => by rw [z9, hq1] at he; cases he)]; exact he)
    have hz9 : ∀ o9 e9, o9 ≠ 0 → ¬ σ q1 = some (o9, e9) := fun o9 e9 ho9 he9 => by
      have h8 := (mm_Fr.rf : mm_Fr 0 σ _) q1 o9 e9 ho9 he9
      rw [hq1] at h8
      cases h8
    have hF2 : mm_Fr 0 σ σ2 := mm_Fr.tr mm_Fr.rf (by rw [eσ2]; exact mm_Fr.new hq1)
    refine lv_astore (pc := 648) (lv' := [(17, .ref q1), (16, .int (nI 0)), (0, .ref ((D.2.1 400))), (1, .ref x0), (2, .int (nI T.nA)), (3, .int (nI st)), (4, .int (nI k)), (6, .int (nI kw)), (7, .int (nI T.nP)), (8, .int (nI ka)), (9, .int (nI kp)), (10, .int (nI kt)), (11, .int (nI wt)), (12, .long bf), (14, .int (nI 0))]) F.1 F.2.1 dL_law_648 hl (by decide) rfl (fun ls hl => ?_)
    refine lv_iconst (pc := 650) (v := nI 0) F.1 F.2.1 dL_law_650 (by decide) ?_
    refine lv_istore (pc := 651) (lv' := [(18, .int (nI 0)), (17, .ref q1), (16, .int (nI 0)), (0, .ref ((D.2.1 400))), (1, .ref x0), (2, .int (nI T.nA)), (3, .int (nI st)), (4, .int (nI k)), (6, .int (nI kw)), (7, .int (nI T.nP)), (8, .int (nI ka)), (9, .int (nI kp)), (10, .int (nI kt)), (11, .int (nI wt)), (12, .long bf), (14, .int (nI 0))]) F.1 F.2.1 dL_law_651 hl (by decide) rfl (fun ls hl => ?_)
    refine W.widen (k := cells + 1 + 6 * 0) (n := slots + 24 + 40 * 0) (by omega) (by omega) ?_
    have lp653 : ∀ (k653 u : Nat) (σu : mm_S) (ls : Array Slot) (H : Heap) (locs : List Loc), T.nP < u + k653 → u ≤ T.nP → (lq_V σu T x0) → (mm_Fr 0 σ σu) → (σu q1 = mm_ari 2 0 24 (lq_du T kt 0 u)) → mm_N b D s σu H locs → lv_has ls 20 [(0, .ref ((D.2.1 400))), (1, .ref x0), (2, .int (nI T.nA)), (3, .int (nI st)), (4, .int (nI k)), (7, .int (nI T.nP)), (10, .int (nI kt)), (11, .int (nI wt)), (12, .long bf), (14, .int (nI 0)), (16, .int (nI 0)), (17, .ref q1), (18, .int (nI u))] →
        W p l e room_1 s m args below meth c H locs (cells + 1 + 6 * u) (slots + 24 + 40 * u) Q (F0 m 653 ls []) := by
      intro k653
      induction k653 with
      | zero => intro u σu ls H locs hk653 hi653 hVu hFu hAu hN hl; omega
      | succ k653 ih653 =>
        intro u σu ls H locs hk653 hi653 hVu hFu hAu hN hl
        refine lv_iload (pc := 653) F.1 F.2.1 dL_law_653 (lv_at hl 12 rfl) ?_
        refine lv_iload (pc := 655) F.1 F.2.1 dL_law_655 (lv_at hl 5 rfl) ?_
        refine mm_icmp_ge (pc := 657) F (x := u) (y := T.nP) (tgt := 682) (by omega) (by omega) dL_law_657 (by decide) (fun cz657 => ?_) (fun cz657 => ?_)
        ·
          refine lv_aload_n (pc := 682) F.1 F.2.1 dL_law_682 rfl (lv_at hl 1 rfl) ?_
          refine lv_iload (pc := 683) F.1 F.2.1 dL_law_683 (lv_at hl 6 rfl) ?_
          refine lv_iload (pc := 685) F.1 F.2.1 dL_law_685 (lv_at hl 10 rfl) ?_
          have hun : u = T.nP := by omega
          rw [hun] at hAu
          refine mm_runSX (pc := 687) (As := [.ref x0, .int (nI kt), .int (nI 0)]) (rest := []) F hN (e_run l b D F.2.2.2.2.2.2.2.1 T x0 σu hVu hW kt (by omega) 0 (by decide)) mw_547 mw_548 mw_0 mw_549 ⟨pmL_run, (Nat.le_of_ble_eq_true rfl), (Nat.le_of_ble_eq_true rfl)⟩ hl.1 rfl (Nat.le_of_ble_eq_true rfl) ⟨by show (cells + 1 + 6 * u) + 100 ≤ 600312; omega, by show (slots + 24 + 40 * u) + 9000 ≤ 7293410; omega⟩ dL_law_687
            (fun _ _ _ _ _ _ h9 => False.elim h9) (fun v9 σ3 H locs hp9 hN => ?_)
          obtain ⟨rfl, hx3⟩ := hp9
          refine W.eq (g2 := F0 m 690 ls [.int (lq_i (mm_q_run T kt 0) (T.nR))]) rfl ?_
          refine W.widen (k := cells + 1 + 6 * u + 100) (n := slots + 24 + 40 * u + 9000) (Nat.le_refl _) (Nat.le_refl _) ?_
          have hV3 := hx3.v
          have hF3 := mm_Fr.tr hFu hx3.fr
          have hA3 := hx3.fr q1 2 _ (by decide) hAu
          obtain ⟨T2, eT2⟩ : ∃ z9, z9 = (if mm_q_run T kt 0 = 0 then (mm_t_run T kt 0) else T) := ⟨_, rfl⟩
          have hV3 : lq_V σ3 T2 x0 := by rw [eT2]; exact hx3.v
          have hW2 : mm_WF T2 := by rw [eT2]; exact mm_wf_run hW kt (by omega) 0 (by decide)
          have hI2 : lq_I T2 := by rw [eT2]; exact lq_i_run hI kt 0
          have hA2 : T2.nA = T.nA := by rw [eT2]; (repeat' split) <;> rfl
          by_cases hq : mm_q_run T kt 0 = 0
          ·
            have e2 : T2 = (mm_t_run T kt 0) := by rw [eT2, if_pos hq]
            obtain ⟨r1, r2⟩ := lq_run0 hq
            have f1 : T2.nR = T.nR + 1 := by rw [e2]; rfl
            have f2 : T2.rp T.nR = T.nP := by rw [e2]; exact mm_tr_r.1
            refine W.eq (g2 := F0 m 690 ls [.int (nI ((T.nR)))]) (by rw [lq_i0 hq]) ?_
            refine lv_istore (pc := 690) (lv' := [(14, .int (nI ((T.nR)))), (0, .ref ((D.2.1 400))), (1, .ref x0), (2, .int (nI T.nA)), (3, .int (nI st)), (4, .int (nI k)), (7, .int (nI T.nP)), (10, .int (nI kt)), (11, .int (nI wt)), (12, .long bf), (16, .int (nI 0)), (17, .ref q1), (18, .int (nI u))]) F.1 F.2.1 dL_law_690 hl (by decide) rfl (fun ls hl => ?_)
            refine lv_iconst (pc := 692) (v := nI 0) F.1 F.2.1 dL_law_692 (by decide) ?_
            refine lv_istore (pc := 693) (lv' := [(18, .int (nI 0)), (14, .int (nI ((T.nR)))), (0, .ref ((D.2.1 400))), (1, .ref x0), (2, .int (nI T.nA)), (3, .int (nI st)), (4, .int (nI k)), (7, .int (nI T.nP)), (10, .int (nI kt)), (11, .int (nI wt)), (12, .long bf), (16, .int (nI 0)), (17, .ref q1)]) F.1 F.2.1 dL_law_693 hl (by decide) rfl (fun ls hl => ?_)
            refine W.widen (k := cells + 250 + 6 * 0) (n := slots + 10000 + 40 * 0) (by omega) (by omega) ?_
            have lp695 : ∀ (k695 v : Nat) (σv : mm_S) (ls : Array Slot) (H : Heap) (locs : List Loc), T.nP < v + k695 → v ≤ T.nP → (lq_V σv T2 x0) → (mm_Fr 0 σ σv) → (σv q1 = mm_ari 2 0 24 (lq_du T kt 0 T.nP)) → mm_N b D s σv H locs → lv_has ls 20 [(0, .ref ((D.2.1 400))), (1, .ref x0), (2, .int (nI T.nA)), (3, .int (nI st)), (4, .int (nI k)), (7, .int (nI T.nP)), (10, .int (nI kt)), (11, .int (nI wt)), (12, .long bf), (14, .int (nI T.nR)), (17, .ref q1), (18, .int (nI v))] →
                W p l e room_1 s m args below meth c H locs (cells + 250 + 6 * v) (slots + 10000 + 40 * v) Q (F0 m 695 ls []) := by
              intro k695
              induction k695 with
              | zero => intro v σv ls H locs hk695 hi695 hVv hFv hAv hN hl; omega
              | succ k695 ih695 =>
                intro v σv ls H locs hk695 hi695 hVv hFv hAv hN hl
                refine lv_iload (pc := 695) F.1 F.2.1 dL_law_695 (lv_at hl 11 rfl) ?_
                refine lv_iload (pc := 697) F.1 F.2.1 dL_law_697 (lv_at hl 5 rfl) ?_
                refine mm_icmp_ge (pc := 699) F (x := v) (y := T.nP) (tgt := 732) (by omega) (by omega) dL_law_699 (by decide) (fun cz699 => ?_) (fun cz699 => ?_)
                ·
                  refine lv_goto (pc := 732) (tgt := 857) F.1 F.2.1 dL_law_732 (by decide) ?_
                  exact W.widen (by omega) (by omega) (kk T2 (nI T.nR) σv ls H locs hVv hW2 hI2 (fun h9 => absurd h9 (lq_nlt (by omega))) hN (lq_l2e (hA2.symm) (lv_sub hl [0, 1, 2, 3, 4, 7, 8, 9] rfl)))
                ·
                  refine lv_iload (pc := 702) F.1 F.2.1 dL_law_702 (lv_at hl 9 rfl) ?_
                  refine mm_if_lt (pc := 704) F (tgt := 732) (by omega) dL_law_704 (by decide) ?_
                  refine lv_aload_n (pc := 707) F.1 F.2.1 dL_law_707 rfl (lv_at hl 1 rfl) ?_
                  refine lv_iload (pc := 708) F.1 F.2.1 dL_law_708 (lv_at hl 9 rfl) ?_
                  refine lv_iload (pc := 710) F.1 F.2.1 dL_law_710 (lv_at hl 11 rfl) ?_
                  refine lv_iconst (pc := 712) (v := nI 0) F.1 F.2.1 dL_law_712 (by decide) ?_
                  refine mm_runSX (pc := 713) (As := [.ref x0, .int (nI T.nR), .int (nI v), .int (nI 0)]) (rest := []) F hN (e_outc l b D F.2.2.2.2.2.2.2.1 T2 x0 σv hVv hW2 T.nR (by omega) v (by omega)) mw_984 mw_985 mw_0 mw_986 ⟨pmL_told, (Nat.le_of_ble_eq_true rfl), (Nat.le_of_ble_eq_true rfl)⟩ hl.1 rfl (Nat.le_of_ble_eq_true rfl) ⟨by show (cells + 250 + 6 * v) + 6 ≤ 600312; omega, by show (slots + 10000 + 40 * v) + 40 ≤ 7293410; omega⟩ dL_law_713
                    (fun _ _ _ _ _ _ h9 => False.elim h9) (fun v9 σ4 H locs hp9 hN => ?_)
                  obtain ⟨rfl, hx4⟩ := hp9
                  refine W.eq (g2 := F0 m 716 ls [.int (lq_i (mm_q_outcome T2 T.nR v) (T2.oc T.nR v))]) rfl ?_
                  refine W.widen (k := cells + 250 + 6 * v + 6) (n := slots + 10000 + 40 * v + 40) (Nat.le_refl _) (Nat.le_refl _) ?_
                  have hV4 := hx4.v
                  have hF4 := mm_Fr.tr hFv hx4.fr
                  have hA4 := hx4.fr q1 2 _ (by decide) hAv
                  refine W.eq (g2 := F0 m 716 ls [.int (nI ((T2.oc T.nR v)))]) (by rw [lq_i0 (by unfold mm_q_outcome; (repeat' split) <;> omega)]) ?_
                  refine W.eq (g2 := F0 m 716 ls [.int (nI (T2.oc T.nR v))]) (by rfl) ?_
                  refine lv_aload (pc := 716) F.1 F.2.1 dL_law_716 (lv_at hl 10 rfl) ?_
                  refine lv_iload (pc := 718) F.1 F.2.1 dL_law_718 (lv_at hl 11 rfl) ?_
                  refine mm_iald (pc := 720) F hN (hA4) (j := v) (rfl) (by omega) (by decide) dL_law_720 ?_
                  refine W.eq (g2 := F0 m 721 ls [.int (nI (T2.oc T.nR v)), .int (nI (T2.oc T.nR v))]) (by rw [lq_dur (by omega) r1, ← e2]) ?_
                  refine lv_icmp_eq (pc := 721) (tgt := 726) F.1 F.2.1 dL_law_721 (by decide) (fun cz721 => ?_) (fun cz721 => ?_)
                  ·
                    refine lv_iinc (pc := 726) (v := nI (v + 1)) (lv' := [(18, .int (nI (v + 1))), (0, .ref ((D.2.1 400))), (1, .ref x0), (2, .int (nI T.nA)), (3, .int (nI st)), (4, .int (nI k)), (7, .int (nI T.nP)), (10, .int (nI kt)), (11, .int (nI wt)), (12, .long bf), (14, .int (nI T.nR)), (17, .ref q1)]) F.1 F.2.1 dL_law_726 hl (k := 11) rfl (by rw [← nI_add]; rfl) (by decide) rfl (fun ls hl => ?_)
                    refine lv_goto (pc := 729) (tgt := 695) F.1 F.2.1 dL_law_729 (by decide) ?_
                    refine W.widen (k := cells + 250 + 6 * (v + 1)) (n := slots + 10000 + 40 * (v + 1)) (by omega) (by omega) ?_
                    exact ih695 (v + 1) σ4 ls _ _ (by omega) (by omega) (hV4) (hF4) (hA4) hN (lv_sub hl [1, 2, 3, 4, 5, 6, 7, 8, 9, 10, 11, 0] rfl)
                  ·
                    exact absurd rfl cz721
            exact lp695 (T.nP + 1) 0 σ3 ls _ _ (by omega) (by omega) (hV3) (hF3) (hA3) hN (lv_sub hl [2, 3, 4, 5, 6, 7, 8, 9, 10, 1, 12, 0] rfl)
          ·
            have e2 : T2 = T := by rw [eT2, if_neg hq]
            refine W.eq (g2 := F0 m 690 ls [.int (lq_e (mm_q_run T kt 0))]) (by rw [lq_iz hq]) ?_
            refine lv_istore (pc := 690) (lv' := [(14, .int (lq_e (mm_q_run T kt 0))), (0, .ref ((D.2.1 400))), (1, .ref x0), (2, .int (nI T.nA)), (3, .int (nI st)), (4, .int (nI k)), (7, .int (nI T.nP)), (10, .int (nI kt)), (11, .int (nI wt)), (12, .long bf), (16, .int (nI 0)), (17, .ref q1), (18, .int (nI u))]) F.1 F.2.1 dL_law_690 hl (by decide) rfl (fun ls hl => ?_)
            refine lv_iconst (pc := 692) (v := nI 0) F.1 F.2.1 dL_law_692 (by decide) ?_
            refine lv_istore (pc := 693) (lv' := [(18, .int (nI 0)), (14, .int (lq_e (mm_q_run T kt 0))), (0, .ref ((D.2.1 400))), (1, .ref x0), (2, .int (nI T.nA)), (3, .int (nI st)), (4, .int (nI k)), (7, .int (nI T.nP)), (10, .int (nI kt)), (11, .int (nI wt)), (12, .long bf), (16, .int (nI 0)), (17, .ref q1)]) F.1 F.2.1 dL_law_693 hl (by decide) rfl (fun ls hl => ?_)
            refine lv_iload (pc := 695) F.1 F.2.1 dL_law_695 (lv_at hl 0 rfl) ?_
            refine lv_iload (pc := 697) F.1 F.2.1 dL_law_697 (lv_at hl 7 rfl) ?_
            refine mm_icmp_ge (pc := 699) F (x := 0) (y := T.nP) (tgt := 732) (by omega) (by omega) dL_law_699 (by decide) (fun cz699 => ?_) (fun cz699 => ?_)
            ·
              refine lv_goto (pc := 732) (tgt := 857) F.1 F.2.1 dL_law_732 (by decide) ?_
              exact W.widen (by omega) (by omega) (kk T2 (lq_e (mm_q_run T kt 0)) σ3 ls H locs hV3 hW2 hI2 (fun _ => e2) hN (lq_l2e (hA2.symm) (lv_sub hl [2, 3, 4, 5, 6, 9, 10, 1] rfl)))
            ·
              refine lv_iload (pc := 702) F.1 F.2.1 dL_law_702 (lv_at hl 1 rfl) ?_
              refine lv_if_lt (pc := 704) (tgt := 732) F.1 F.2.1 dL_law_704 (by decide) (fun cz704 => ?_) (fun cz704 => ?_)
              ·
                refine lv_goto (pc := 732) (tgt := 857) F.1 F.2.1 dL_law_732 (by decide) ?_
                exact W.widen (by omega) (by omega) (kk T2 (lq_e (mm_q_run T kt 0)) σ3 ls H locs hV3 hW2 hI2 (fun _ => e2) hN (lq_l2e (hA2.symm) (lv_sub hl [2, 3, 4, 5, 6, 9, 10, 1] rfl)))
              ·
                exact absurd (lq_elt _) cz704
        ·
          refine lv_aload (pc := 660) F.1 F.2.1 dL_law_660 (lv_at hl 11 rfl) ?_
          refine lv_iload (pc := 662) F.1 F.2.1 dL_law_662 (lv_at hl 12 rfl) ?_
          refine lv_aload_n (pc := 664) F.1 F.2.1 dL_law_664 rfl (lv_at hl 1 rfl) ?_
          refine lv_iload (pc := 665) F.1 F.2.1 dL_law_665 (lv_at hl 6 rfl) ?_
          refine lv_iload (pc := 667) F.1 F.2.1 dL_law_667 (lv_at hl 10 rfl) ?_
          refine lv_iload (pc := 669) F.1 F.2.1 dL_law_669 (lv_at hl 12 rfl) ?_
          refine lv_iconst (pc := 671) (v := nI 0) F.1 F.2.1 dL_law_671 (by decide) ?_
          refine mm_runSX (pc := 672) (As := [.ref x0, .int (nI kt), .int (nI 0), .int (nI u), .int (nI 0)]) (rest := [.int (nI u), .ref q1]) F hN (e_prev l b D F.2.2.2.2.2.2.2.1 T x0 σu hVu hW kt (by omega) 0 (by decide) u (by omega)) mw_929 mw_930 mw_0 mw_931 ⟨pmL_preview, (Nat.le_of_ble_eq_true rfl), (Nat.le_of_ble_eq_true rfl)⟩ hl.1 rfl (Nat.le_of_ble_eq_true rfl) ⟨by show (cells + 1 + 6 * u) + 6 ≤ 600312; omega, by show (slots + 24 + 40 * u) + 40 ≤ 7293410; omega⟩ dL_law_672
            (fun _ _ _ _ _ _ h9 => False.elim h9) (fun v9 σ5 H locs hp9 hN => ?_)
          obtain ⟨rfl, hx5⟩ := hp9
          refine W.eq (g2 := F0 m 675 ls [.int (lq_i (mm_q_preview T kt 0 u) (mm_oc T kt 0 u)), .int (nI u), .ref q1]) rfl ?_
          refine W.widen (k := cells + 1 + 6 * u + 6) (n := slots + 24 + 40 * u + 40) (Nat.le_refl _) (Nat.le_refl _) ?_
          have hV5 := hx5.v
          have hF5 := mm_Fr.tr hFu hx5.fr
          have hA5 := hx5.fr q1 2 _ (by decide) hAu
          refine W.eq (g2 := F0 m 675 ls [.int (lq_pv T kt 0 u), .int (nI u), .ref q1]) (by rfl) ?_
          refine mm_iast (pc := 675) F hN (hA5) (j := u) (rfl) (by omega) (by decide) dL_law_675 (fun H locs hN => ?_)
          rw [lq_du1] at hN
          obtain ⟨σ6, eσ6⟩ : ∃ z9, z9 = mm_u σ5 q1 (mm_ari 2 0 24 (lq_du T kt 0 (u + 1))) := ⟨_, rfl⟩
          rw [← eσ6] at hN
          have hA6 : σ6 q1 = mm_ari 2 0 24 (lq_du T kt 0 (u + 1)) := by rw [eσ6]; exact mm_u_eq
          have hV6 : lq_V σ6 T x0 := hV5.kept (fun a9 e9 he => by rw [eσ6, mm_u_ne (fun z9 => by rw [z9, hA5] at he; cases he)]; exact he)
          have hF6 : mm_Fr 0 σ σ6 := fun a9 o9 e9 ho9 he9 => by
            rw [eσ6, mm_u_ne (fun z9 => ?_)]
            · exact hF5 a9 o9 e9 ho9 he9
            · rw [z9] at he9
              exact absurd he9 (hz9 o9 e9 ho9)
          refine lv_iinc (pc := 676) (v := nI (u + 1)) (lv' := [(18, .int (nI (u + 1))), (0, .ref ((D.2.1 400))), (1, .ref x0), (2, .int (nI T.nA)), (3, .int (nI st)), (4, .int (nI k)), (7, .int (nI T.nP)), (10, .int (nI kt)), (11, .int (nI wt)), (12, .long bf), (14, .int (nI 0)), (16, .int (nI 0)), (17, .ref q1)]) F.1 F.2.1 dL_law_676 hl (k := 12) rfl (by rw [← nI_add]; rfl) (by decide) rfl (fun ls hl => ?_)
          refine lv_goto (pc := 679) (tgt := 653) F.1 F.2.1 dL_law_679 (by decide) ?_
          refine W.widen (k := cells + 1 + 6 * (u + 1)) (n := slots + 24 + 40 * (u + 1)) (by omega) (by omega) ?_
          exact ih653 (u + 1) σ6 ls _ _ (by omega) (by omega) (hV6) (hF6) (hA6) hN (lv_sub hl [1, 2, 3, 4, 5, 6, 7, 8, 9, 10, 11, 12, 0] rfl)
    exact lp653 (T.nP + 1) 0 σ2 ls _ _ (by omega) (by omega) (hV2) (hF2) (hA2) hN (lv_sub hl [3, 4, 5, 6, 7, 9, 12, 13, 14, 15, 2, 1, 0] rfl)
  ·
    refine lv_iconst (pc := 637) (v := nI 1) F.1 F.2.1 dL_law_637 (by decide) ?_
    refine lv_goto (pc := 638) (tgt := 642) F.1 F.2.1 dL_law_638 (by decide) ?_
    refine lv_istore (pc := 642) (lv' := [(16, .int (nI 1)), (0, .ref ((D.2.1 400))), (1, .ref x0), (2, .int (nI T.nA)), (3, .int (nI st)), (4, .int (nI k)), (6, .int (nI kw)), (7, .int (nI T.nP)), (8, .int (nI ka)), (9, .int (nI kp)), (10, .int (nI kt)), (11, .int (nI wt)), (12, .long bf), (14, .int (nI 0))]) F.1 F.2.1 dL_law_642 hl (by decide) rfl (fun ls hl => ?_)
    refine lv_bipush (pc := 644) (v := nI 24) F.1 F.2.1 dL_law_644 (by decide) ?_
    refine mm_newa (pc := 646) F hN 2 0 (24) (x := (24, .inl (fun _ => 0))) (atype := .int) rfl (by omega) mw_484 rfl (by intro C h; cases h) (by decide) (rfl) (by show cells + 1 ≤ 600312; omega) (by show slots + 24 ≤ 7293410; omega) dL_law_646 (fun q7 H hq7 hN => ?_)
    have hN : mm_N b D s (mm_u σ q7 (mm_arr 2 0 (24, .inl (fun _ => 0)))) _ _ := hN
    obtain ⟨σ8, eσ8⟩ : ∃ z9, z9 = mm_u σ q7 (mm_arr 2 0 (24, .inl (fun _ => 0))) := ⟨_, rfl⟩
    rw [← eσ8] at hN
    have hA8 : σ8 q7 = mm_ari 2 0 24 (lq_du T kt 1 0) := by rw [lq_du0, eσ8]; exact mm_u_eq
    have hV8 : lq_V σ8 T x0 := hV.kept (fun a9 e9 he => by rw [eσ8, mm_u_ne (fun z9 => by rw [z9, hq7] at he; cases he)]; exact he)
    have hz9 : ∀ o9 e9, o9 ≠ 0 → ¬ σ q7 = some (o9, e9) := fun o9 e9 ho9 he9 => by
      have h8 := (mm_Fr.rf : mm_Fr 0 σ _) q7 o9 e9 ho9 he9
      rw [hq7] at h8
      cases h8
    have hF8 : mm_Fr 0 σ σ8 := mm_Fr.tr mm_Fr.rf (by rw [eσ8]; exact mm_Fr.new hq7)
    refine lv_astore (pc := 648) (lv' := [(17, .ref q7), (16, .int (nI 1)), (0, .ref ((D.2.1 400))), (1, .ref x0), (2, .int (nI T.nA)), (3, .int (nI st)), (4, .int (nI k)), (6, .int (nI kw)), (7, .int (nI T.nP)), (8, .int (nI ka)), (9, .int (nI kp)), (10, .int (nI kt)), (11, .int (nI wt)), (12, .long bf), (14, .int (nI 0))]) F.1 F.2.1 dL_law_648 hl (by decide) rfl (fun ls hl => ?_)
    refine lv_iconst (pc := 650) (v := nI 0) F.1 F.2.1 dL_law_650 (by decide) ?_
    refine lv_istore (pc := 651) (lv' := [(18, .int (nI 0)), (17, .ref q7), (16, .int (nI 1)), (0, .ref ((D.2.1 400))), (1, .ref x0), (2, .int (nI T.nA)), (3, .int (nI st)), (4, .int (nI k)), (6, .int (nI kw)), (7, .int (nI T.nP)), (8, .int (nI ka)), (9, .int (nI kp)), (10, .int (nI kt)), (11, .int (nI wt)), (12, .long bf), (14, .int (nI 0))]) F.1 F.2.1 dL_law_651 hl (by decide) rfl (fun ls hl => ?_)
    refine W.widen (k := cells + 1 + 6 * 0) (n := slots + 24 + 40 * 0) (by omega) (by omega) ?_
    have lp653 : ∀ (k653 u : Nat) (σu : mm_S) (ls : Array Slot) (H : Heap) (locs : List Loc), T.nP < u + k653 → u ≤ T.nP → (lq_V σu T x0) → (mm_Fr 0 σ σu) → (σu q7 = mm_ari 2 0 24 (lq_du T kt 1 u)) → mm_N b D s σu H locs → lv_has ls 20 [(0, .ref ((D.2.1 400))), (1, .ref x0), (2, .int (nI T.nA)), (3, .int (nI st)), (4, .int (nI k)), (7, .int (nI T.nP)), (10, .int (nI kt)), (11, .int (nI wt)), (12, .long bf), (14, .int (nI 0)), (16, .int (nI 1)), (17, .ref q7), (18, .int (nI u))] →
        W p l e room_1 s m args below meth c H locs (cells + 1 + 6 * u) (slots + 24 + 40 * u) Q (F0 m 653 ls []) := by
      intro k653
      induction k653 with
      | zero => intro u σu ls H locs hk653 hi653 hVu hFu hAu hN hl; omega
      | succ k653 ih653 =>
        intro u σu ls H locs hk653 hi653 hVu hFu hAu hN hl
        refine lv_iload (pc := 653) F.1 F.2.1 dL_law_653 (lv_at hl 12 rfl) ?_
        refine lv_iload (pc := 655) F.1 F.2.1 dL_law_655 (lv_at hl 5 rfl) ?_
        refine mm_icmp_ge (pc := 657) F (x := u) (y := T.nP) (tgt := 682) (by omega) (by omega) dL_law_657 (by decide) (fun cz657 => ?_) (fun cz657 => ?_)
        ·
          refine lv_aload_n (pc := 682) F.1 F.2.1 dL_law_682 rfl (lv_at hl 1 rfl) ?_
          refine lv_iload (pc := 683) F.1 F.2.1 dL_law_683 (lv_at hl 6 rfl) ?_
          refine lv_iload (pc := 685) F.1 F.2.1 dL_law_685 (lv_at hl 10 rfl) ?_
          have hun : u = T.nP := by omega
          rw [hun] at hAu
          refine mm_runSX (pc := 687) (As := [.ref x0, .int (nI kt), .int (nI 1)]) (rest := []) F hN (e_run l b D F.2.2.2.2.2.2.2.1 T x0 σu hVu hW kt (by omega) 1 (by decide)) mw_547 mw_548 mw_0 mw_549 ⟨pmL_run, (Nat.le_of_ble_eq_true rfl), (Nat.le_of_ble_eq_true rfl)⟩ hl.1 rfl (Nat.le_of_ble_eq_true rfl) ⟨by show (cells + 1 + 6 * u) + 100 ≤ 600312; omega, by show (slots + 24 + 40 * u) + 9000 ≤ 7293410; omega⟩ dL_law_687
            (fun _ _ _ _ _ _ h9 => False.elim h9) (fun v9 σ9 H locs hp9 hN => ?_)
          obtain ⟨rfl, hx9⟩ := hp9
          refine W.eq (g2 := F0 m 690 ls [.int (lq_i (mm_q_run T kt 1) (T.nR))]) rfl ?_
          refine W.widen (k := cells + 1 + 6 * u + 100) (n := slots + 24 + 40 * u + 9000) (Nat.le_refl _) (Nat.le_refl _) ?_
          have hV9 := hx9.v
          have hF9 := mm_Fr.tr hFu hx9.fr
          have hA9 := hx9.fr q7 2 _ (by decide) hAu
          obtain ⟨T2, eT2⟩ : ∃ z9, z9 = (if mm_q_run T kt 1 = 0 then (mm_t_run T kt 1) else T) := ⟨_, rfl⟩
          have hV9 : lq_V σ9 T2 x0 := by rw [eT2]; exact hx9.v
          have hW2 : mm_WF T2 := by rw [eT2]; exact mm_wf_run hW kt (by omega) 1 (by decide)
          have hI2 : lq_I T2 := by rw [eT2]; exact lq_i_run hI kt 1
          have hA2 : T2.nA = T.nA := by rw [eT2]; (repeat' split) <;> rfl
          by_cases hq : mm_q_run T kt 1 = 0
          ·
            have e2 : T2 = (mm_t_run T kt 1) := by rw [eT2, if_pos hq]
            obtain ⟨r1, r2⟩ := lq_run0 hq
            have f1 : T2.nR = T.nR + 1 := by rw [e2]; rfl
            have f2 : T2.rp T.nR = T.nP := by rw [e2]; exact mm_tr_r.1
            refine W.eq (g2 := F0 m 690 ls [.int (nI ((T.nR)))]) (by rw [lq_i0 hq]) ?_
            refine lv_istore (pc := 690) (lv' := [(14, .int (nI ((T.nR)))), (0, .ref ((D.2.1 400))), (1, .ref x0), (2, .int (nI T.nA)), (3, .int (nI st)), (4, .int (nI k)), (7, .int (nI T.nP)), (10, .int (nI kt)), (11, .int (nI wt)), (12, .long bf), (16, .int (nI 1)), (17, .ref q7), (18, .int (nI u))]) F.1 F.2.1 dL_law_690 hl (by decide) rfl (fun ls hl => ?_)
            refine lv_iconst (pc := 692) (v := nI 0) F.1 F.2.1 dL_law_692 (by decide) ?_
            refine lv_istore (pc := 693) (lv' := [(18, .int (nI 0)), (14, .int (nI ((T.nR)))), (0, .ref ((D.2.1 400))), (1, .ref x0), (2, .int (nI T.nA)), (3, .int (nI st)), (4, .int (nI k)), (7, .int (nI T.nP)), (10, .int (nI kt)), (11, .int (nI wt)), (12, .long bf), (16, .int (nI 1)), (17, .ref q7)]) F.1 F.2.1 dL_law_693 hl (by decide) rfl (fun ls hl => ?_)
            refine W.widen (k := cells + 250 + 6 * 0) (n := slots + 10000 + 40 * 0) (by omega) (by omega) ?_
            have lp695 : ∀ (k695 v : Nat) (σv : mm_S) (ls : Array Slot) (H : Heap) (locs : List Loc), T.nP < v + k695 → v ≤ T.nP → (lq_V σv T2 x0) → (mm_Fr 0 σ σv) → (σv q7 = mm_ari 2 0 24 (lq_du T kt 1 T.nP)) → mm_N b D s σv H locs → lv_has ls 20 [(0, .ref ((D.2.1 400))), (1, .ref x0), (2, .int (nI T.nA)), (3, .int (nI st)), (4, .int (nI k)), (7, .int (nI T.nP)), (10, .int (nI kt)), (11, .int (nI wt)), (12, .long bf), (14, .int (nI T.nR)), (17, .ref q7), (18, .int (nI v))] →
                W p l e room_1 s m args below meth c H locs (cells + 250 + 6 * v) (slots + 10000 + 40 * v) Q (F0 m 695 ls []) := by
              intro k695
              induction k695 with
              | zero => intro v σv ls H locs hk695 hi695 hVv hFv hAv hN hl; omega
              | succ k695 ih695 =>
                intro v σv ls H locs hk695 hi695 hVv hFv hAv hN hl
                refine lv_iload (pc := 695) F.1 F.2.1 dL_law_695 (lv_at hl 11 rfl) ?_
                refine lv_iload (pc := 697) F.1 F.2.1 dL_law_697 (lv_at hl 5 rfl) ?_
                refine mm_icmp_ge (pc := 699) F (x := v) (y := T.nP) (tgt := 732) (by omega) (by omega) dL_law_699 (by decide) (fun cz699 => ?_) (fun cz699 => ?_)
                ·
                  refine lv_goto (pc := 732) (tgt := 857) F.1 F.2.1 dL_law_732 (by decide) ?_
                  exact W.widen (by omega) (by omega) (kk T2 (nI T.nR) σv ls H locs hVv hW2 hI2 (fun h9 => absurd h9 (lq_nlt (by omega))) hN (lq_l2e (hA2.symm) (lv_sub hl [0, 1, 2, 3, 4, 7, 8, 9] rfl)))
                ·
                  refine lv_iload (pc := 702) F.1 F.2.1 dL_law_702 (lv_at hl 9 rfl) ?_
                  refine mm_if_lt (pc := 704) F (tgt := 732) (by omega) dL_law_704 (by decide) ?_
                  refine lv_aload_n (pc := 707) F.1 F.2.1 dL_law_707 rfl (lv_at hl 1 rfl) ?_
                  refine lv_iload (pc := 708) F.1 F.2.1 dL_law_708 (lv_at hl 9 rfl) ?_
                  refine lv_iload (pc := 710) F.1 F.2.1 dL_law_710 (lv_at hl 11 rfl) ?_
                  refine lv_iconst (pc := 712) (v := nI 0) F.1 F.2.1 dL_law_712 (by decide) ?_
                  refine mm_runSX (pc := 713) (As := [.ref x0, .int (nI T.nR), .int (nI v), .int (nI 0)]) (rest := []) F hN (e_outc l b D F.2.2.2.2.2.2.2.1 T2 x0 σv hVv hW2 T.nR (by omega) v (by omega)) mw_984 mw_985 mw_0 mw_986 ⟨pmL_told, (Nat.le_of_ble_eq_true rfl), (Nat.le_of_ble_eq_true rfl)⟩ hl.1 rfl (Nat.le_of_ble_eq_true rfl) ⟨by show (cells + 250 + 6 * v) + 6 ≤ 600312; omega, by show (slots + 10000 + 40 * v) + 40 ≤ 7293410; omega⟩ dL_law_713
                    (fun _ _ _ _ _ _ h9 => False.elim h9) (fun v9 σ10 H locs hp9 hN => ?_)
                  obtain ⟨rfl, hx10⟩ := hp9
                  refine W.eq (g2 := F0 m 716 ls [.int (lq_i (mm_q_outcome T2 T.nR v) (T2.oc T.nR v))]) rfl ?_
                  refine W.widen (k := cells + 250 + 6 * v + 6) (n := slots + 10000 + 40 * v + 40) (Nat.le_refl _) (Nat.le_refl _) ?_
                  have hV10 := hx10.v
                  have hF10 := mm_Fr.tr hFv hx10.fr
                  have hA10 := hx10.fr q7 2 _ (by decide) hAv
                  refine W.eq (g2 := F0 m 716 ls [.int (nI ((T2.oc T.nR v)))]) (by rw [lq_i0 (by unfold mm_q_outcome; (repeat' split) <;> omega)]) ?_
                  refine W.eq (g2 := F0 m 716 ls [.int (nI (T2.oc T.nR v))]) (by rfl) ?_
                  refine lv_aload (pc := 716) F.1 F.2.1 dL_law_716 (lv_at hl 10 rfl) ?_
                  refine lv_iload (pc := 718) F.1 F.2.1 dL_law_718 (lv_at hl 11 rfl) ?_
                  refine mm_iald (pc := 720) F hN (hA10) (j := v) (rfl) (by omega) (by decide) dL_law_720 ?_
                  refine W.eq (g2 := F0 m 721 ls [.int (nI (T2.oc T.nR v)), .int (nI (T2.oc T.nR v))]) (by rw [lq_dur (by omega) r1, ← e2]) ?_
                  refine lv_icmp_eq (pc := 721) (tgt := 726) F.1 F.2.1 dL_law_721 (by decide) (fun cz721 => ?_) (fun cz721 => ?_)
                  ·
                    refine lv_iinc (pc := 726) (v := nI (v + 1)) (lv' := [(18, .int (nI (v + 1))), (0, .ref ((D.2.1 400))), (1, .ref x0), (2, .int (nI T.nA)), (3, .int (nI st)), (4, .int (nI k)), (7, .int (nI T.nP)), (10, .int (nI kt)), (11, .int (nI wt)), (12, .long bf), (14, .int (nI T.nR)), (17, .ref q7)]) F.1 F.2.1 dL_law_726 hl (k := 11) rfl (by rw [← nI_add]; rfl) (by decide) rfl (fun ls hl => ?_)
                    refine lv_goto (pc := 729) (tgt := 695) F.1 F.2.1 dL_law_729 (by decide) ?_
                    refine W.widen (k := cells + 250 + 6 * (v + 1)) (n := slots + 10000 + 40 * (v + 1)) (by omega) (by omega) ?_
                    exact ih695 (v + 1) σ10 ls _ _ (by omega) (by omega) (hV10) (hF10) (hA10) hN (lv_sub hl [1, 2, 3, 4, 5, 6, 7, 8, 9, 10, 11, 0] rfl)
                  ·
                    exact absurd rfl cz721
            exact lp695 (T.nP + 1) 0 σ9 ls _ _ (by omega) (by omega) (hV9) (hF9) (hA9) hN (lv_sub hl [2, 3, 4, 5, 6, 7, 8, 9, 10, 1, 12, 0] rfl)
          ·
            have e2 : T2 = T := by rw [eT2, if_neg hq]
            refine W.eq (g2 := F0 m 690 ls [.int (lq_e (mm_q_run T kt 1))]) (by rw [lq_iz hq]) ?_
            refine lv_istore (pc := 690) (lv' := [(14, .int (lq_e (mm_q_run T kt 1))), (0, .ref ((D.2.1 400))), (1, .ref x0), (2, .int (nI T.nA)), (3, .int (nI st)), (4, .int (nI k)), (7, .int (nI T.nP)), (10, .int (nI kt)), (11, .int (nI wt)), (12, .long bf), (16, .int (nI 1)), (17, .ref q7), (18, .int (nI u))]) F.1 F.2.1 dL_law_690 hl (by decide) rfl (fun ls hl => ?_)
            refine lv_iconst (pc := 692) (v := nI 0) F.1 F.2.1 dL_law_692 (by decide) ?_
            refine lv_istore (pc := 693) (lv' := [(18, .int (nI 0)), (14, .int (lq_e (mm_q_run T kt 1))), (0, .ref ((D.2.1 400))), (1, .ref x0), (2, .int (nI T.nA)), (3, .int (nI st)), (4, .int (nI k)), (7, .int (nI T.nP)), (10, .int (nI kt)), (11, .int (nI wt)), (12, .long bf), (16, .int (nI 1)), (17, .ref q7)]) F.1 F.2.1 dL_law_693 hl (by decide) rfl (fun ls hl => ?_)
            refine lv_iload (pc := 695) F.1 F.2.1 dL_law_695 (lv_at hl 0 rfl) ?_
            refine lv_iload (pc := 697) F.1 F.2.1 dL_law_697 (lv_at hl 7 rfl) ?_
            refine mm_icmp_ge (pc := 699) F (x := 0) (y := T.nP) (tgt := 732) (by omega) (by omega) dL_law_699 (by decide) (fun cz699 => ?_) (fun cz699 => ?_)
            ·
              refine lv_goto (pc := 732) (tgt := 857) F.1 F.2.1 dL_law_732 (by decide) ?_
              exact W.widen (by omega) (by omega) (kk T2 (lq_e (mm_q_run T kt 1)) σ9 ls H locs hV9 hW2 hI2 (fun _ => e2) hN (lq_l2e (hA2.symm) (lv_sub hl [2, 3, 4, 5, 6, 9, 10, 1] rfl)))
            ·
              refine lv_iload (pc := 702) F.1 F.2.1 dL_law_702 (lv_at hl 1 rfl) ?_
              refine lv_if_lt (pc := 704) (tgt := 732) F.1 F.2.1 dL_law_704 (by decide) (fun cz704 => ?_) (fun cz704 => ?_)
              ·
                refine lv_goto (pc := 732) (tgt := 857) F.1 F.2.1 dL_law_732 (by decide) ?_
                exact W.widen (by omega) (by omega) (kk T2 (lq_e (mm_q_run T kt 1)) σ9 ls H locs hV9 hW2 hI2 (fun _ => e2) hN (lq_l2e (hA2.symm) (lv_sub hl [2, 3, 4, 5, 6, 9, 10, 1] rfl)))
              ·
                exact absurd (lq_elt _) cz704
        ·
          refine lv_aload (pc := 660) F.1 F.2.1 dL_law_660 (lv_at hl 11 rfl) ?_
          refine lv_iload (pc := 662) F.1 F.2.1 dL_law_662 (lv_at hl 12 rfl) ?_
          refine lv_aload_n (pc := 664) F.1 F.2.1 dL_law_664 rfl (lv_at hl 1 rfl) ?_
          refine lv_iload (pc := 665) F.1 F.2.1 dL_law_665 (lv_at hl 6 rfl) ?_
          refine lv_iload (pc := 667) F.1 F.2.1 dL_law_667 (lv_at hl 10 rfl) ?_
          refine lv_iload (pc := 669) F.1 F.2.1 dL_law_669 (lv_at hl 12 rfl) ?_
          refine lv_iconst (pc := 671) (v := nI 0) F.1 F.2.1 dL_law_671 (by decide) ?_
          refine mm_runSX (pc := 672) (As := [.ref x0, .int (nI kt), .int (nI 1), .int (nI u), .int (nI 0)]) (rest := [.int (nI u), .ref q7]) F hN (e_prev l b D F.2.2.2.2.2.2.2.1 T x0 σu hVu hW kt (by omega) 1 (by decide) u (by omega)) mw_929 mw_930 mw_0 mw_931 ⟨pmL_preview, (Nat.le_of_ble_eq_true rfl), (Nat.le_of_ble_eq_true rfl)⟩ hl.1 rfl (Nat.le_of_ble_eq_true rfl) ⟨by show (cells + 1 + 6 * u) + 6 ≤ 600312; omega, by show (slots + 24 + 40 * u) + 40 ≤ 7293410; omega⟩ dL_law_672
            (fun _ _ _ _ _ _ h9 => False.elim h9) (fun v9 σ11 H locs hp9 hN => ?_)
          obtain ⟨rfl, hx11⟩ := hp9
          refine W.eq (g2 := F0 m 675 ls [.int (lq_i (mm_q_preview T kt 1 u) (mm_oc T kt 1 u)), .int (nI u), .ref q7]) rfl ?_
          refine W.widen (k := cells + 1 + 6 * u + 6) (n := slots + 24 + 40 * u + 40) (Nat.le_refl _) (Nat.le_refl _) ?_
          have hV11 := hx11.v
          have hF11 := mm_Fr.tr hFu hx11.fr
          have hA11 := hx11.fr q7 2 _ (by decide) hAu
          refine W.eq (g2 := F0 m 675 ls [.int (lq_pv T kt 1 u), .int (nI u), .ref q7]) (by rfl) ?_
          refine mm_iast (pc := 675) F hN (hA11) (j := u) (rfl) (by omega) (by decide) dL_law_675 (fun H locs hN => ?_)
          rw [lq_du1] at hN
          obtain ⟨σ12, eσ12⟩ : ∃ z9, z9 = mm_u σ11 q7 (mm_ari 2 0 24 (lq_du T kt 1 (u + 1))) := ⟨_, rfl⟩
          rw [← eσ12] at hN
          have hA12 : σ12 q7 = mm_ari 2 0 24 (lq_du T kt 1 (u + 1)) := by rw [eσ12]; exact mm_u_eq
          have hV12 : lq_V σ12 T x0 := hV11.kept (fun a9 e9 he => by rw [eσ12, mm_u_ne (fun z9 => by rw [z9, hA11] at he; cases he)]; exact he)
          have hF12 : mm_Fr 0 σ σ12 := fun a9 o9 e9 ho9 he9 => by
            rw [eσ12, mm_u_ne (fun z9 => ?_)]
            · exact hF11 a9 o9 e9 ho9 he9
            · rw [z9] at he9
              exact absurd he9 (hz9 o9 e9 ho9)
          refine lv_iinc (pc := 676) (v := nI (u + 1)) (lv' := [(18, .int (nI (u + 1))), (0, .ref ((D.2.1 400))), (1, .ref x0), (2, .int (nI T.nA)), (3, .int (nI st)), (4, .int (nI k)), (7, .int (nI T.nP)), (10, .int (nI kt)), (11, .int (nI wt)), (12, .long bf), (14, .int (nI 0)), (16, .int (nI 1)), (17, .ref q7)]) F.1 F.2.1 dL_law_676 hl (k := 12) rfl (by rw [← nI_add]; rfl) (by decide) rfl (fun ls hl => ?_)
          refine lv_goto (pc := 679) (tgt := 653) F.1 F.2.1 dL_law_679 (by decide) ?_
          refine W.widen (k := cells + 1 + 6 * (u + 1)) (n := slots + 24 + 40 * (u + 1)) (by omega) (by omega) ?_
          exact ih653 (u + 1) σ12 ls _ _ (by omega) (by omega) (hV12) (hF12) (hA12) hN (lv_sub hl [1, 2, 3, 4, 5, 6, 7, 8, 9, 10, 11, 12, 0] rfl)
    exact lp653 (T.nP + 1) 0 σ8 ls _ _ (by omega) (by omega) (hV8) (hF8) (hA8) hN (lv_sub hl [3, 4, 5, 6, 7, 9, 12, 13, 14, 15, 2, 1, 0] rfl)

set_option maxHeartbeats 4000000 in
set_option maxRecDepth 100000 in
theorem lc_back {p : Program} {l : Launch} {e : Env} {s : State} {m : MethodId} {args : Array Value} {below : List Frame} {meth : Method} {c : Code} {H : Heap} {locs : List Loc} {cells slots : Nat} {Q : State → Prop} {b : Nat} {D : mm_D} {σ : mm_S} {T : mm_T} {x0 st k kw ka kp kt wt : Nat} {bf : Int64} {ls : Array Slot}
    (F : mm_F p l s m args meth c b D RL cL_law 20) (hN : mm_N b D s σ H locs) (hV : lq_V σ T x0) (hW : mm_WF T) (hI : lq_I T) (hl : lv_has ls 20 (lq_l1 D x0 T.nA st k kw T.nP ka kp kt wt bf)) (hw : kw < 134217728) (ha : ka < 16) (hp : kp < 32) (ht : kt < 8) (hc : cells + 1000 ≤ 600312) (hs : slots + 15000 ≤ 7293410)
    (kk : ∀ (T2 : mm_T) (its : Int32) (σ2 : mm_S) (ls : Array Slot) (H : Heap) (locs : List Loc), lq_V σ2 T2 x0 → mm_WF T2 → lq_I T2 → (its < (-1000) → T2 = T) → mm_N b D s σ2 H locs → lv_has ls 20 (lq_l2 D x0 T2.nA st k wt bf its) → W p l e room_1 s m args below meth c H locs (cells + 1000) (slots + 15000) Q (F0 m 857 ls [])) : W p l e room_1 s m args below meth c H locs cells slots Q (F0 m 735 ls []) := by
  have hl : lv_has ls 20 [(0, .ref ((D.2.1 400))), (1, .ref x0), (2, .int (nI T.nA)), (3, .int (nI st)), (4, .int (nI k)), (6, .int (nI kw)), (7, .int (nI T.nP)), (8, .int (nI ka)), (9, .int (nI kp)), (10, .int (nI kt)), (11, .int (nI wt)), (12, .long bf), (14, .int (nI 0))] := hl
  have wnA := hW.hnA
  have wnP := hW.hnP
  have wnT := hW.hnT
  have wnR := hW.hnR
  have wpa := hW.hpa
  have wen0 := hW.hen 0
  have wen1 := hW.hen 1
  have wbo := hW.hbo
  refine lv_iload (pc := 735) F.1 F.2.1 dL_law_735 (lv_at hl 5 rfl) ?_
  refine lv_iconst (pc := 737) (v := nI 1) F.1 F.2.1 dL_law_737 (by decide) ?_
  refine lv_aload_n (pc := 738) F.1 F.2.1 dL_law_738 rfl (lv_at hl 1 rfl) ?_
  refine lv_iconst (pc := 739) (v := nI 1) F.1 F.2.1 dL_law_739 (by decide) ?_
  refine mm_runS (pc := 740) (As := [.ref x0, .int (nI 1)]) (rest := [.int (nI 1), .int (nI kw)]) F hN (e_many1 l b D F.2.2.2.2.2.2.2.1 T x0 σ hV hW) mw_1105 mw_1106 mw_0 mw_1107 ⟨pmL_many, (Nat.le_of_ble_eq_true rfl), (Nat.le_of_ble_eq_true rfl)⟩ hl.1 rfl (Nat.le_of_ble_eq_true rfl) ⟨by show cells + 150 ≤ 600312; omega, by show slots + 1000 ≤ 7293410; omega⟩ dL_law_740
    (fun _ _ _ _ _ _ h9 => False.elim h9) (fun v9 σ1 H locs hp9 hN => ?_)
  obtain ⟨rfl, hx1⟩ := hp9
  refine W.eq (g2 := F0 m 743 ls [.int (nI T.nR), .int (nI 1), .int (nI kw)]) rfl ?_
  refine W.widen (k := cells + 150) (n := slots + 1000) (Nat.le_refl _) (Nat.le_refl _) ?_
  have hV1 := hx1.v
  have hF1 := mm_Fr.tr mm_Fr.rf hx1.fr
  refine va_mmax (pc := 743) F.1 F.2.1 (F.2.2.1.trans hl.1.symm) F.2.2.2.1 (F.2.2.2.2.1 _ mw_1159) (F.2.2.2.2.1 _ mw_266) (F.2.2.2.2.1 _ mw_16) (F.2.2.2.2.1 _ mw_267) (Nat.le_of_ble_eq_true rfl) (Nat.le_of_ble_eq_true rfl) (by show cells + 150 ≤ 600312; omega) (by show slots + 1000 ≤ 7293410; omega) dL_law_743 ?_
  refine W.eq (g2 := F0 m 746 ls [.int (nI ((max 1 T.nR))), .int (nI kw)]) (congrArg (fun z => F0 m 746 ls (.int z :: [.int (nI kw)])) (mm_max (by omega) (by omega))) ?_
  refine mm_irem (pc := 746) F (z := nI (kw % ((max 1 T.nR)))) (lq_mod (by omega) (by omega) (by omega)) (lq_ne0 (by omega) (by omega)) dL_law_746 ?_
  obtain ⟨kr, ekr⟩ : ∃ z9, z9 = (kw % ((max 1 T.nR))) := ⟨_, rfl⟩
  refine W.eq (g2 := F0 m 747 ls [.int (nI kr)]) (by rw [ekr]) ?_
  have hkr : kr < 134217728 := by rw [ekr]; exact Nat.lt_of_le_of_lt (Nat.mod_le _ _) (by omega)
  refine lv_istore (pc := 747) (lv' := [(16, .int (nI kr)), (0, .ref ((D.2.1 400))), (1, .ref x0), (2, .int (nI T.nA)), (3, .int (nI st)), (4, .int (nI k)), (6, .int (nI kw)), (7, .int (nI T.nP)), (8, .int (nI ka)), (9, .int (nI kp)), (10, .int (nI kt)), (11, .int (nI wt)), (12, .long bf), (14, .int (nI 0))]) F.1 F.2.1 dL_law_747 hl (by decide) rfl (fun ls hl => ?_)
  refine va_ldcS (pc := 749) F.1 F.2.1 F.2.2.2.1 (lq_strE F.2.2.2.2.2.1).2.1.2.2 dL_law_749 ?_
  refine W.eq (g2 := F0 m 751 ls [.ref ((D.2.1 (200 + 2)))]) rfl ?_
  refine lv_iload (pc := 751) F.1 F.2.1 dL_law_751 (lv_at hl 6 rfl) ?_
  refine lv_bipush (pc := 753) (v := nI 7) F.1 F.2.1 dL_law_753 (by decide) ?_
  refine mm_idiv (pc := 755) F (z := nI (kw / 7)) (pk_div (by omega) (by omega) (by omega)) (by decide) dL_law_755 ?_
  refine lv_iconst (pc := 756) (v := nI 4) F.1 F.2.1 dL_law_756 (by decide) ?_
  refine mm_irem (pc := 757) F (z := nI ((kw / 7) % 4)) (lq_mod (by omega) (by omega) (by omega)) (lq_ne0 (by omega) (by omega)) dL_law_757 ?_
  refine mm_runV (pc := 758) (As := [.int (nI ((kw / 7) % 4))]) (rest := []) F hN (e_charAt l b D F.2.2.2.2.2.2.2.1 2 (by decide) ((kw / 7) % 4) (by omega) σ1) mw_1160 mw_1161 mw_1162 mw_11 mw_1163 ⟨pmJ0_charAt_5068e, (Nat.le_of_ble_eq_true rfl), (Nat.le_of_ble_eq_true rfl)⟩ (by obtain ⟨cell, h1, h2, h3, -⟩ := (lq_sE F.2.2.2.2.2.1 (i := 2) (by decide)).1.kept hN.2.2.1; exact ⟨cell, h1, h2, h3⟩) hl.1 rfl (Nat.le_of_ble_eq_true rfl) ⟨by show cells + 150 + 0 ≤ 600312; omega, by show slots + 1000 + 0 ≤ 7293410; omega⟩ dL_law_758
    (fun _ _ _ _ _ _ h9 => False.elim h9) (fun v9 σ9 H locs hp9 hN => ?_)
  obtain ⟨⟨ch, hch, rfl⟩, h9⟩ := hp9
  rw [h9] at hN
  refine W.eq (g2 := F0 m 761 ls [.int (nI ch)]) rfl ?_
  refine W.widen (k := cells + 150) (n := slots + 1000) (Nat.le_refl _) (Nat.le_refl _) ?_
  refine lv_istore (pc := 761) (lv' := [(17, .int (nI ch)), (16, .int (nI kr)), (0, .ref ((D.2.1 400))), (1, .ref x0), (2, .int (nI T.nA)), (3, .int (nI st)), (4, .int (nI k)), (6, .int (nI kw)), (7, .int (nI T.nP)), (8, .int (nI ka)), (9, .int (nI kp)), (10, .int (nI kt)), (11, .int (nI wt)), (12, .long bf), (14, .int (nI 0))]) F.1 F.2.1 dL_law_761 hl (by decide) rfl (fun ls hl => ?_)
  refine lv_aload_n (pc := 763) F.1 F.2.1 dL_law_763 rfl (lv_at hl 3 rfl) ?_
  refine lv_iload (pc := 764) F.1 F.2.1 dL_law_764 (lv_at hl 10 rfl) ?_
  refine lv_iconst (pc := 766) (v := nI 0) F.1 F.2.1 dL_law_766 (by decide) ?_
  refine mm_runSX (pc := 767) (As := [.ref x0, .int (nI kp), .int (nI 0)]) (rest := []) F hN (e_addr l b D F.2.2.2.2.2.2.2.1 T x0 σ1 hV1 hW kp (by omega)) mw_438 mw_439 mw_0 mw_440 ⟨pmL_of, (Nat.le_of_ble_eq_true rfl), (Nat.le_of_ble_eq_true rfl)⟩ hl.1 rfl (Nat.le_of_ble_eq_true rfl) ⟨by show (cells + 150) + 6 ≤ 600312; omega, by show (slots + 1000) + 40 ≤ 7293410; omega⟩ dL_law_767
    (fun _ _ _ _ _ _ h9 => False.elim h9) (fun v9 σ2 H locs hp9 hN => ?_)
  obtain ⟨rfl, hx2⟩ := hp9
  refine W.eq (g2 := F0 m 770 ls [.int (lq_i (mm_q_addressOf T kp) (T.ho kp))]) rfl ?_
  refine W.widen (k := cells + 150 + 6) (n := slots + 1000 + 40) (Nat.le_refl _) (Nat.le_refl _) ?_
  have hV2 := hx2.v
  have hF2 := mm_Fr.tr hF1 hx2.fr
  by_cases hpp : kp < T.nP
  ·
    obtain ⟨who, wfl, wre⟩ := hW.hpe kp hpp
    have hg := hI.1 kp hpp
    refine W.eq (g2 := F0 m 770 ls [.int (nI ((T.ho kp)))]) (by rw [lq_i0 (by unfold mm_q_addressOf; (repeat' split) <;> omega)]) ?_
    refine lv_istore (pc := 770) (lv' := [(18, .int (nI ((T.ho kp)))), (17, .int (nI ch)), (16, .int (nI kr)), (0, .ref ((D.2.1 400))), (1, .ref x0), (2, .int (nI T.nA)), (3, .int (nI st)), (4, .int (nI k)), (6, .int (nI kw)), (7, .int (nI T.nP)), (8, .int (nI ka)), (9, .int (nI kp)), (10, .int (nI kt)), (11, .int (nI wt)), (12, .long bf), (14, .int (nI 0))]) F.1 F.2.1 dL_law_770 hl (by decide) rfl (fun ls hl => ?_)
    refine lv_aload_n (pc := 772) F.1 F.2.1 dL_law_772 rfl (lv_at hl 4 rfl) ?_
    refine lv_iload (pc := 773) F.1 F.2.1 dL_law_773 (lv_at hl 0 rfl) ?_
    refine lv_iconst (pc := 775) (v := nI 2) F.1 F.2.1 dL_law_775 (by decide) ?_
    refine mm_runSX (pc := 776) (As := [.ref x0, .int (nI ((T.ho kp))), .int (nI 2)]) (rest := []) F hN (e_strikes l b D F.2.2.2.2.2.2.2.1 T x0 σ2 hV2 hW ((T.ho kp)) (by omega)) mw_438 mw_439 mw_0 mw_440 ⟨pmL_of, (Nat.le_of_ble_eq_true rfl), (Nat.le_of_ble_eq_true rfl)⟩ hl.1 rfl (Nat.le_of_ble_eq_true rfl) ⟨by show (cells + 150 + 6) + 6 ≤ 600312; omega, by show (slots + 1000 + 40) + 40 ≤ 7293410; omega⟩ dL_law_776
      (fun _ _ _ _ _ _ h9 => False.elim h9) (fun v9 σ3 H locs hp9 hN => ?_)
    obtain ⟨rfl, hx3⟩ := hp9
    refine W.eq (g2 := F0 m 779 ls [.int (lq_i (mm_q_strikes T ((T.ho kp))) (T.sk ((T.ho kp))))]) rfl ?_
    refine W.widen (k := cells + 150 + 6 + 6) (n := slots + 1000 + 40 + 40) (Nat.le_refl _) (Nat.le_refl _) ?_
    have hV3 := hx3.v
    have hF3 := mm_Fr.tr hF2 hx3.fr
    refine W.eq (g2 := F0 m 779 ls [.int (nI ((T.sk ((T.ho kp)))))]) (by rw [lq_i0 (by unfold mm_q_strikes; (repeat' split) <;> omega)]) ?_
    refine W.eq (g2 := F0 m 779 ls [.int (nI (T.sk (T.ho kp)))]) (by rfl) ?_
    refine lv_istore (pc := 779) (lv' := [(19, .int (nI (T.sk (T.ho kp)))), (18, .int (nI ((T.ho kp)))), (17, .int (nI ch)), (16, .int (nI kr)), (0, .ref ((D.2.1 400))), (1, .ref x0), (2, .int (nI T.nA)), (3, .int (nI st)), (4, .int (nI k)), (6, .int (nI kw)), (7, .int (nI T.nP)), (8, .int (nI ka)), (9, .int (nI kp)), (10, .int (nI kt)), (11, .int (nI wt)), (12, .long bf), (14, .int (nI 0))]) F.1 F.2.1 dL_law_779 hl (by decide) rfl (fun ls hl => ?_)
    refine lv_aload_n (pc := 781) F.1 F.2.1 dL_law_781 rfl (lv_at hl 5 rfl) ?_
    refine lv_iload (pc := 782) F.1 F.2.1 dL_law_782 (lv_at hl 3 rfl) ?_
    refine lv_iload (pc := 784) F.1 F.2.1 dL_law_784 (lv_at hl 12 rfl) ?_
    refine lv_iload (pc := 786) F.1 F.2.1 dL_law_786 (lv_at hl 2 rfl) ?_
    refine mm_runSX (pc := 788) (As := [.ref x0, .int (nI kr), .int (nI kp), .int (nI ch)]) (rest := []) F hN (e_back l b D F.2.2.2.2.2.2.2.1 T x0 σ3 hV3 hW kr (by omega) kp (by omega) ch (by omega)) mw_960 mw_961 mw_0 mw_962 ⟨pmL_back, (Nat.le_of_ble_eq_true rfl), (Nat.le_of_ble_eq_true rfl)⟩ hl.1 rfl (Nat.le_of_ble_eq_true rfl) ⟨by show (cells + 150 + 6 + 6) + 6 ≤ 600312; omega, by show (slots + 1000 + 40 + 40) + 40 ≤ 7293410; omega⟩ dL_law_788
      (fun _ _ _ _ _ _ h9 => False.elim h9) (fun v9 σ4 H locs hp9 hN => ?_)
    obtain ⟨rfl, hx4⟩ := hp9
    refine W.eq (g2 := F0 m 791 ls [.int (lq_i (mm_q_comesBack T kr kp ch) (mm_sm (mm_u2 (T 19) kr kp 1 kr) (T.rp kr)))]) rfl ?_
    refine W.widen (k := cells + 150 + 6 + 6 + 6) (n := slots + 1000 + 40 + 40 + 40) (Nat.le_refl _) (Nat.le_refl _) ?_
    have hV4 := hx4.v
    have hF4 := mm_Fr.tr hF3 hx4.fr
    obtain ⟨T2, eT2⟩ : ∃ z9, z9 = (if mm_q_comesBack T kr kp ch = 0 then (if ch = 117 then (T.w 19 (mm_u2 (T 19) kr kp 1)).w 2 (mm_u2 (T 2) (T.ho kp) 0 (T.sk (T.ho kp) + 1)) else (T.w 19 (mm_u2 (T 19) kr kp 1)).w 6 (mm_u2 (T 6) kp 0 ch)) else T) := ⟨_, rfl⟩
    have hV4 : lq_V σ4 T2 x0 := by rw [eT2]; exact hx4.v
    have hW2 : mm_WF T2 := by rw [eT2]; exact mm_wf_comesBack hW kr (by omega) kp (by omega) ch (by omega)
    have hI2 : lq_I T2 := by rw [eT2]; exact lq_i_comesBack hI kr kp ch
    have hA2 : T2.nA = T.nA := by rw [eT2]; (repeat' split) <;> rfl
    by_cases hq : mm_q_comesBack T kr kp ch = 0
    ·
      have e2 : T2 = (if ch = 117 then (T.w 19 (mm_u2 (T 19) kr kp 1)).w 2 (mm_u2 (T 2) (T.ho kp) 0 (T.sk (T.ho kp) + 1)) else (T.w 19 (mm_u2 (T 19) kr kp 1)).w 6 (mm_u2 (T 6) kp 0 ch)) := by rw [eT2, if_pos hq]
      obtain ⟨⟨b1, b2⟩, b3, b4, b5⟩ := lq_back0 hq
      obtain ⟨wr1, wr2, wr3, wr4⟩ := hW.hru kr b1
      have hcn : mm_sm (mm_u2 (T 19) kr kp 1 kr) (T.rp kr) ≤ 1 * T.rp kr := mm_sm_le (fun i9 hi9 => by
        have g9 := (wr4 i9 hi9).2.2.2.2.1
        show (if kr = kr ∧ i9 = kp then 1 else T.bk kr i9) ≤ 1
        split <;> omega)
      have f1 : T2.nR = T.nR := by rw [e2]; split <;> rfl
      have f2 : T2.rp kr = T.rp kr := by rw [e2]; split <;> rfl
      have f3 : T2.bk kr kp = 1 := by rw [e2]; split <;> exact if_pos ⟨rfl, rfl⟩
      have f4 : T2.nP = T.nP := by rw [e2]; split <;> rfl
      have f5 : T2.go (T.ho kp) = 0 := by rw [e2]; split <;> exact hg
      obtain ⟨who2, wfl2, wre2⟩ := hW2.hpe kp (by omega)
      refine W.eq (g2 := F0 m 791 ls [.int (nI ((mm_sm (mm_u2 (T 19) kr kp 1 kr) (T.rp kr))))]) (by rw [lq_i0 hq]) ?_
      refine lv_istore (pc := 791) (lv' := [(14, .int (nI ((mm_sm (mm_u2 (T 19) kr kp 1 kr) (T.rp kr))))), (19, .int (nI (T.sk (T.ho kp)))), (18, .int (nI ((T.ho kp)))), (17, .int (nI ch)), (16, .int (nI kr)), (0, .ref ((D.2.1 400))), (1, .ref x0), (2, .int (nI T.nA)), (3, .int (nI st)), (4, .int (nI k)), (6, .int (nI kw)), (7, .int (nI T.nP)), (8, .int (nI ka)), (9, .int (nI kp)), (10, .int (nI kt)), (11, .int (nI wt)), (12, .long bf)]) F.1 F.2.1 dL_law_791 hl (by decide) rfl (fun ls hl => ?_)
      refine lv_iload (pc := 793) F.1 F.2.1 dL_law_793 (lv_at hl 0 rfl) ?_
      refine mm_if_lt (pc := 795) F (tgt := 834) (by omega) dL_law_795 (by decide) ?_
      refine lv_iload (pc := 798) F.1 F.2.1 dL_law_798 (lv_at hl 3 rfl) ?_
      refine lv_bipush (pc := 800) (v := nI 117) F.1 F.2.1 dL_law_800 (by decide) ?_
      refine mm_icmp_ne (pc := 802) F (x := ch) (y := 117) (tgt := 822) (by omega) (by omega) dL_law_802 (by decide) (fun cz802 => ?_) (fun cz802 => ?_)
      ·
        refine lv_aload_n (pc := 822) F.1 F.2.1 dL_law_822 rfl (lv_at hl 6 rfl) ?_
        refine lv_iload (pc := 823) F.1 F.2.1 dL_law_823 (lv_at hl 13 rfl) ?_
        refine lv_iconst (pc := 825) (v := nI 1) F.1 F.2.1 dL_law_825 (by decide) ?_
        refine mm_runSX (pc := 826) (As := [.ref x0, .int (nI kp), .int (nI 1)]) (rest := []) F hN (e_reason l b D F.2.2.2.2.2.2.2.1 T2 x0 σ4 hV4 hW2 kp (by omega)) mw_438 mw_439 mw_0 mw_440 ⟨pmL_of, (Nat.le_of_ble_eq_true rfl), (Nat.le_of_ble_eq_true rfl)⟩ hl.1 rfl (Nat.le_of_ble_eq_true rfl) ⟨by show (cells + 150 + 6 + 6 + 6) + 6 ≤ 600312; omega, by show (slots + 1000 + 40 + 40 + 40) + 40 ≤ 7293410; omega⟩ dL_law_826
          (fun _ _ _ _ _ _ h9 => False.elim h9) (fun v9 σ5 H locs hp9 hN => ?_)
        obtain ⟨rfl, hx5⟩ := hp9
        refine W.eq (g2 := F0 m 829 ls [.int (lq_i (mm_q_reasonOf T2 kp) (T2.re kp))]) rfl ?_
        refine W.widen (k := cells + 150 + 6 + 6 + 6 + 6) (n := slots + 1000 + 40 + 40 + 40 + 40) (Nat.le_refl _) (Nat.le_refl _) ?_
        have hV5 := hx5.v
        have hF5 := mm_Fr.tr hF4 hx5.fr
        refine W.eq (g2 := F0 m 829 ls [.int (nI ((T2.re kp)))]) (by rw [lq_i0 (by unfold mm_q_reasonOf; (repeat' split) <;> omega)]) ?_
        refine W.eq (g2 := F0 m 829 ls [.int (nI ch)]) (by rw [show T2.re kp = ch from by rw [e2, if_neg cz802]; exact if_pos ⟨rfl, rfl⟩]) ?_
        refine lv_iload (pc := 829) F.1 F.2.1 dL_law_829 (lv_at hl 3 rfl) ?_
        refine mm_icmp_ne (pc := 831) F (x := ch) (y := ch) (tgt := 855) (by omega) (by omega) dL_law_831 (by decide) (fun cz831 => ?_) (fun cz831 => ?_)
        ·
          exact absurd rfl cz831
        ·
          refine lv_iload (pc := 834) F.1 F.2.1 dL_law_834 (lv_at hl 0 rfl) ?_
          refine mm_if_lt (pc := 836) F (tgt := 857) (by omega) dL_law_836 (by decide) ?_
          refine lv_aload_n (pc := 839) F.1 F.2.1 dL_law_839 rfl (lv_at hl 6 rfl) ?_
          refine lv_iload (pc := 840) F.1 F.2.1 dL_law_840 (lv_at hl 4 rfl) ?_
          refine lv_iload (pc := 842) F.1 F.2.1 dL_law_842 (lv_at hl 13 rfl) ?_
          refine lv_iload (pc := 844) F.1 F.2.1 dL_law_844 (lv_at hl 3 rfl) ?_
          refine mm_runSX (pc := 846) (As := [.ref x0, .int (nI kr), .int (nI kp), .int (nI ch)]) (rest := []) F hN (e_back l b D F.2.2.2.2.2.2.2.1 T2 x0 σ5 hV5 hW2 kr (by omega) kp (by omega) ch (by omega)) mw_960 mw_961 mw_0 mw_962 ⟨pmL_back, (Nat.le_of_ble_eq_true rfl), (Nat.le_of_ble_eq_true rfl)⟩ hl.1 rfl (Nat.le_of_ble_eq_true rfl) ⟨by show (cells + 150 + 6 + 6 + 6 + 6) + 6 ≤ 600312; omega, by show (slots + 1000 + 40 + 40 + 40 + 40) + 40 ≤ 7293410; omega⟩ dL_law_846
            (fun _ _ _ _ _ _ h9 => False.elim h9) (fun v9 σ6 H locs hp9 hN => ?_)
          obtain ⟨rfl, hx6⟩ := hp9
          refine W.eq (g2 := F0 m 849 ls [.int (lq_i (mm_q_comesBack T2 kr kp ch) (mm_sm (mm_u2 (T2 19) kr kp 1 kr) (T2.rp kr)))]) rfl ?_
          refine W.widen (k := cells + 150 + 6 + 6 + 6 + 6 + 6) (n := slots + 1000 + 40 + 40 + 40 + 40 + 40) (Nat.le_refl _) (Nat.le_refl _) ?_
          have hV6 := hx6.v
          have hF6 := mm_Fr.tr hF5 hx6.fr
          have hq3 := lq_back3 (T := T2) (k := kr) (i := kp) (ch := ch) ⟨by omega, by omega⟩ b3 f3
          have hV6 : lq_V σ6 T2 x0 := by have h8 := hx6.v; rw [if_neg (by rw [hq3]; decide)] at h8; exact h8
          refine W.eq (g2 := F0 m 849 ls [.int ((-1003))]) (by rw [lq_i3 hq3]) ?_
          refine lv_sipush (pc := 849) (v := (-1003)) F.1 F.2.1 dL_law_849 (by decide) ?_
          refine lv_icmp_eq (pc := 852) (tgt := 857) F.1 F.2.1 dL_law_852 (by decide) (fun cz852 => ?_) (fun h9 => absurd h9 (by decide))
          exact W.widen (by omega) (by omega) (kk T2 (nI ((mm_sm (mm_u2 (T 19) kr kp 1 kr) (T.rp kr)))) σ6 ls H locs hV6 hW2 hI2 (fun h9 => absurd h9 (lq_nlt (by omega))) hN (lq_l2e (hA2.symm) (lv_sub hl [5, 6, 7, 8, 9, 15, 16, 0] rfl)))
      ·
        refine lv_aload_n (pc := 805) F.1 F.2.1 dL_law_805 rfl (lv_at hl 6 rfl) ?_
        refine lv_iload (pc := 806) F.1 F.2.1 dL_law_806 (lv_at hl 2 rfl) ?_
        refine lv_iconst (pc := 808) (v := nI 2) F.1 F.2.1 dL_law_808 (by decide) ?_
        refine mm_runSX (pc := 809) (As := [.ref x0, .int (nI ((T.ho kp))), .int (nI 2)]) (rest := []) F hN (e_strikes l b D F.2.2.2.2.2.2.2.1 T2 x0 σ4 hV4 hW2 ((T.ho kp)) (by omega)) mw_438 mw_439 mw_0 mw_440 ⟨pmL_of, (Nat.le_of_ble_eq_true rfl), (Nat.le_of_ble_eq_true rfl)⟩ hl.1 rfl (Nat.le_of_ble_eq_true rfl) ⟨by show (cells + 150 + 6 + 6 + 6) + 6 ≤ 600312; omega, by show (slots + 1000 + 40 + 40 + 40) + 40 ≤ 7293410; omega⟩ dL_law_809
          (fun _ _ _ _ _ _ h9 => False.elim h9) (fun v9 σ7 H locs hp9 hN => ?_)
        obtain ⟨rfl, hx7⟩ := hp9
        refine W.eq (g2 := F0 m 812 ls [.int (lq_i (mm_q_strikes T2 ((T.ho kp))) (T2.sk ((T.ho kp))))]) rfl ?_
        refine W.widen (k := cells + 150 + 6 + 6 + 6 + 6) (n := slots + 1000 + 40 + 40 + 40 + 40) (Nat.le_refl _) (Nat.le_refl _) ?_
        have hV7 := hx7.v
        have hF7 := mm_Fr.tr hF4 hx7.fr
        refine W.eq (g2 := F0 m 812 ls [.int (nI ((T2.sk ((T.ho kp)))))]) (by rw [lq_i0 (by unfold mm_q_strikes; (repeat' split) <;> omega)]) ?_
        refine W.eq (g2 := F0 m 812 ls [.int (nI (T.sk (T.ho kp)) + nI 1)]) (by rw [show T2.sk (T.ho kp) = T.sk (T.ho kp) + 1 from by rw [e2, if_pos cz802]; exact if_pos ⟨rfl, rfl⟩, nI_add]) ?_
        refine lv_iload (pc := 812) F.1 F.2.1 dL_law_812 (lv_at hl 1 rfl) ?_
        refine lv_iconst (pc := 814) (v := nI 1) F.1 F.2.1 dL_law_814 (by decide) ?_
        refine mm_iadd (pc := 815) F (z := (nI (T.sk (T.ho kp))) + (nI 1)) (rfl) dL_law_815 ?_
        refine lv_icmp_eq (pc := 816) (tgt := 834) F.1 F.2.1 dL_law_816 (by decide) (fun cz816 => ?_) (fun cz816 => ?_)
        ·
          refine lv_iload (pc := 834) F.1 F.2.1 dL_law_834 (lv_at hl 0 rfl) ?_
          refine mm_if_lt (pc := 836) F (tgt := 857) (by omega) dL_law_836 (by decide) ?_
          refine lv_aload_n (pc := 839) F.1 F.2.1 dL_law_839 rfl (lv_at hl 6 rfl) ?_
          refine lv_iload (pc := 840) F.1 F.2.1 dL_law_840 (lv_at hl 4 rfl) ?_
          refine lv_iload (pc := 842) F.1 F.2.1 dL_law_842 (lv_at hl 13 rfl) ?_
          refine lv_iload (pc := 844) F.1 F.2.1 dL_law_844 (lv_at hl 3 rfl) ?_
          refine mm_runSX (pc := 846) (As := [.ref x0, .int (nI kr), .int (nI kp), .int (nI ch)]) (rest := []) F hN (e_back l b D F.2.2.2.2.2.2.2.1 T2 x0 σ7 hV7 hW2 kr (by omega) kp (by omega) ch (by omega)) mw_960 mw_961 mw_0 mw_962 ⟨pmL_back, (Nat.le_of_ble_eq_true rfl), (Nat.le_of_ble_eq_true rfl)⟩ hl.1 rfl (Nat.le_of_ble_eq_true rfl) ⟨by show (cells + 150 + 6 + 6 + 6 + 6) + 6 ≤ 600312; omega, by show (slots + 1000 + 40 + 40 + 40 + 40) + 40 ≤ 7293410; omega⟩ dL_law_846
            (fun _ _ _ _ _ _ h9 => False.elim h9) (fun v9 σ8 H locs hp9 hN => ?_)
          obtain ⟨rfl, hx8⟩ := hp9
          refine W.eq (g2 := F0 m 849 ls [.int (lq_i (mm_q_comesBack T2 kr kp ch) (mm_sm (mm_u2 (T2 19) kr kp 1 kr) (T2.rp kr)))]) rfl ?_
          refine W.widen (k := cells + 150 + 6 + 6 + 6 + 6 + 6) (n := slots + 1000 + 40 + 40 + 40 + 40 + 40) (Nat.le_refl _) (Nat.le_refl _) ?_
          have hV8 := hx8.v
          have hF8 := mm_Fr.tr hF7 hx8.fr
          have hq3 := lq_back3 (T := T2) (k := kr) (i := kp) (ch := ch) ⟨by omega, by omega⟩ b3 f3
          have hV8 : lq_V σ8 T2 x0 := by have h8 := hx8.v; rw [if_neg (by rw [hq3]; decide)] at h8; exact h8
          refine W.eq (g2 := F0 m 849 ls [.int ((-1003))]) (by rw [lq_i3 hq3]) ?_
          refine lv_sipush (pc := 849) (v := (-1003)) F.1 F.2.1 dL_law_849 (by decide) ?_
          refine lv_icmp_eq (pc := 852) (tgt := 857) F.1 F.2.1 dL_law_852 (by decide) (fun cz852 => ?_) (fun h9 => absurd h9 (by decide))
          exact W.widen (by omega) (by omega) (kk T2 (nI ((mm_sm (mm_u2 (T 19) kr kp 1 kr) (T.rp kr)))) σ8 ls H locs hV8 hW2 hI2 (fun h9 => absurd h9 (lq_nlt (by omega))) hN (lq_l2e (hA2.symm) (lv_sub hl [5, 6, 7, 8, 9, 15, 16, 0] rfl)))
        ·
          exact absurd rfl cz816
    ·
      have e2 : T2 = T := by rw [eT2, if_neg hq]
      refine W.eq (g2 := F0 m 791 ls [.int (lq_e (mm_q_comesBack T kr kp ch))]) (by rw [lq_iz hq]) ?_
      refine lv_istore (pc := 791) (lv' := [(14, .int (lq_e (mm_q_comesBack T kr kp ch))), (19, .int (nI (T.sk (T.ho kp)))), (18, .int (nI ((T.ho kp)))), (17, .int (nI ch)), (16, .int (nI kr)), (0, .ref ((D.2.1 400))), (1, .ref x0), (2, .int (nI T.nA)), (3, .int (nI st)), (4, .int (nI k)), (6, .int (nI kw)), (7, .int (nI T.nP)), (8, .int (nI ka)), (9, .int (nI kp)), (10, .int (nI kt)), (11, .int (nI wt)), (12, .long bf)]) F.1 F.2.1 dL_law_791 hl (by decide) rfl (fun ls hl => ?_)
      refine lv_iload (pc := 793) F.1 F.2.1 dL_law_793 (lv_at hl 0 rfl) ?_
      refine lv_if_lt (pc := 795) (tgt := 834) F.1 F.2.1 dL_law_795 (by decide) (fun cz795 => ?_) (fun cz795 => ?_)
      ·
        refine lv_iload (pc := 834) F.1 F.2.1 dL_law_834 (lv_at hl 0 rfl) ?_
        refine lv_if_lt (pc := 836) (tgt := 857) F.1 F.2.1 dL_law_836 (by decide) (fun cz836 => ?_) (fun cz836 => ?_)
        ·
          exact W.widen (by omega) (by omega) (kk T2 (lq_e (mm_q_comesBack T kr kp ch)) σ4 ls H locs hV4 hW2 hI2 (fun _ => e2) hN (lq_l2e (hA2.symm) (lv_sub hl [5, 6, 7, 8, 9, 15, 16, 0] rfl)))
        ·
          exact absurd (lq_elt _) cz836
      ·
        exact absurd (lq_elt _) cz795
  ·
    refine W.eq (g2 := F0 m 770 ls [.int (nI 4294966295)]) (by rw [lq_i1 (by unfold mm_q_addressOf; (repeat' split) <;> omega)]; rfl) ?_
    refine lv_istore (pc := 770) (lv' := [(18, .int (nI 4294966295)), (17, .int (nI ch)), (16, .int (nI kr)), (0, .ref ((D.2.1 400))), (1, .ref x0), (2, .int (nI T.nA)), (3, .int (nI st)), (4, .int (nI k)), (6, .int (nI kw)), (7, .int (nI T.nP)), (8, .int (nI ka)), (9, .int (nI kp)), (10, .int (nI kt)), (11, .int (nI wt)), (12, .long bf), (14, .int (nI 0))]) F.1 F.2.1 dL_law_770 hl (by decide) rfl (fun ls hl => ?_)
    refine lv_aload_n (pc := 772) F.1 F.2.1 dL_law_772 rfl (lv_at hl 4 rfl) ?_
    refine lv_iload (pc := 773) F.1 F.2.1 dL_law_773 (lv_at hl 0 rfl) ?_
    refine lv_iconst (pc := 775) (v := nI 2) F.1 F.2.1 dL_law_775 (by decide) ?_
    refine mm_runSX (pc := 776) (As := [.ref x0, .int (nI 4294966295), .int (nI 2)]) (rest := []) F hN (e_strikes l b D F.2.2.2.2.2.2.2.1 T x0 σ2 hV2 hW 4294966295 (by decide)) mw_438 mw_439 mw_0 mw_440 ⟨pmL_of, (Nat.le_of_ble_eq_true rfl), (Nat.le_of_ble_eq_true rfl)⟩ hl.1 rfl (Nat.le_of_ble_eq_true rfl) ⟨by show (cells + 150 + 6) + 6 ≤ 600312; omega, by show (slots + 1000 + 40) + 40 ≤ 7293410; omega⟩ dL_law_776
      (fun _ _ _ _ _ _ h9 => False.elim h9) (fun v9 σ9 H locs hp9 hN => ?_)
    obtain ⟨rfl, hx9⟩ := hp9
    refine W.eq (g2 := F0 m 779 ls [.int (lq_i (mm_q_strikes T 4294966295) (T.sk 4294966295))]) rfl ?_
    refine W.widen (k := cells + 150 + 6 + 6) (n := slots + 1000 + 40 + 40) (Nat.le_refl _) (Nat.le_refl _) ?_
    have hV9 := hx9.v
    have hF9 := mm_Fr.tr hF2 hx9.fr
    refine W.eq (g2 := F0 m 779 ls [.int ((-1001))]) (by rw [lq_i1 (by unfold mm_q_strikes; (repeat' split) <;> omega)]) ?_
    refine lv_istore (pc := 779) (lv' := [(19, .int ((-1001))), (18, .int (nI 4294966295)), (17, .int (nI ch)), (16, .int (nI kr)), (0, .ref ((D.2.1 400))), (1, .ref x0), (2, .int (nI T.nA)), (3, .int (nI st)), (4, .int (nI k)), (6, .int (nI kw)), (7, .int (nI T.nP)), (8, .int (nI ka)), (9, .int (nI kp)), (10, .int (nI kt)), (11, .int (nI wt)), (12, .long bf), (14, .int (nI 0))]) F.1 F.2.1 dL_law_779 hl (by decide) rfl (fun ls hl => ?_)
    refine lv_aload_n (pc := 781) F.1 F.2.1 dL_law_781 rfl (lv_at hl 5 rfl) ?_
    refine lv_iload (pc := 782) F.1 F.2.1 dL_law_782 (lv_at hl 3 rfl) ?_
    refine lv_iload (pc := 784) F.1 F.2.1 dL_law_784 (lv_at hl 12 rfl) ?_
    refine lv_iload (pc := 786) F.1 F.2.1 dL_law_786 (lv_at hl 2 rfl) ?_
    refine mm_runSX (pc := 788) (As := [.ref x0, .int (nI kr), .int (nI kp), .int (nI ch)]) (rest := []) F hN (e_back l b D F.2.2.2.2.2.2.2.1 T x0 σ9 hV9 hW kr (by omega) kp (by omega) ch (by omega)) mw_960 mw_961 mw_0 mw_962 ⟨pmL_back, (Nat.le_of_ble_eq_true rfl), (Nat.le_of_ble_eq_true rfl)⟩ hl.1 rfl (Nat.le_of_ble_eq_true rfl) ⟨by show (cells + 150 + 6 + 6) + 6 ≤ 600312; omega, by show (slots + 1000 + 40 + 40) + 40 ≤ 7293410; omega⟩ dL_law_788
      (fun _ _ _ _ _ _ h9 => False.elim h9) (fun v9 σ10 H locs hp9 hN => ?_)
    obtain ⟨rfl, hx10⟩ := hp9
    refine W.eq (g2 := F0 m 791 ls [.int (lq_i (mm_q_comesBack T kr kp ch) (mm_sm (mm_u2 (T 19) kr kp 1 kr) (T.rp kr)))]) rfl ?_
    refine W.widen (k := cells + 150 + 6 + 6 + 6) (n := slots + 1000 + 40 + 40 + 40) (Nat.le_refl _) (Nat.le_refl _) ?_
    have hV10 := hx10.v
    have hF10 := mm_Fr.tr hF9 hx10.fr
    obtain ⟨T2, eT2⟩ : ∃ z9, z9 = (if mm_q_comesBack T kr kp ch = 0 then (if ch = 117 then (T.w 19 (mm_u2 (T 19) kr kp 1)).w 2 (mm_u2 (T 2) (T.ho kp) 0 (T.sk (T.ho kp) + 1)) else (T.w 19 (mm_u2 (T 19) kr kp 1)).w 6 (mm_u2 (T 6) kp 0 ch)) else T) := ⟨_, rfl⟩
    have hV10 : lq_V σ10 T2 x0 := by rw [eT2]; exact hx10.v
    have hW2 : mm_WF T2 := by rw [eT2]; exact mm_wf_comesBack hW kr (by omega) kp (by omega) ch (by omega)
    have hI2 : lq_I T2 := by rw [eT2]; exact lq_i_comesBack hI kr kp ch
    have hA2 : T2.nA = T.nA := by rw [eT2]; (repeat' split) <;> rfl
    by_cases hq : mm_q_comesBack T kr kp ch = 0
    ·
      have e2 : T2 = (if ch = 117 then (T.w 19 (mm_u2 (T 19) kr kp 1)).w 2 (mm_u2 (T 2) (T.ho kp) 0 (T.sk (T.ho kp) + 1)) else (T.w 19 (mm_u2 (T 19) kr kp 1)).w 6 (mm_u2 (T 6) kp 0 ch)) := by rw [eT2, if_pos hq]
      obtain ⟨⟨b1, b2⟩, b3⟩ := lq_back0 hq
      have b4 := (hW.hru kr b1).1
      omega
    ·
      have e2 : T2 = T := by rw [eT2, if_neg hq]
      refine W.eq (g2 := F0 m 791 ls [.int (lq_e (mm_q_comesBack T kr kp ch))]) (by rw [lq_iz hq]) ?_
      refine lv_istore (pc := 791) (lv' := [(14, .int (lq_e (mm_q_comesBack T kr kp ch))), (19, .int ((-1001))), (18, .int (nI 4294966295)), (17, .int (nI ch)), (16, .int (nI kr)), (0, .ref ((D.2.1 400))), (1, .ref x0), (2, .int (nI T.nA)), (3, .int (nI st)), (4, .int (nI k)), (6, .int (nI kw)), (7, .int (nI T.nP)), (8, .int (nI ka)), (9, .int (nI kp)), (10, .int (nI kt)), (11, .int (nI wt)), (12, .long bf)]) F.1 F.2.1 dL_law_791 hl (by decide) rfl (fun ls hl => ?_)
      refine lv_iload (pc := 793) F.1 F.2.1 dL_law_793 (lv_at hl 0 rfl) ?_
      refine lv_if_lt (pc := 795) (tgt := 834) F.1 F.2.1 dL_law_795 (by decide) (fun cz795 => ?_) (fun cz795 => ?_)
      ·
        refine lv_iload (pc := 834) F.1 F.2.1 dL_law_834 (lv_at hl 0 rfl) ?_
        refine lv_if_lt (pc := 836) (tgt := 857) F.1 F.2.1 dL_law_836 (by decide) (fun cz836 => ?_) (fun cz836 => ?_)
        ·
          exact W.widen (by omega) (by omega) (kk T2 (lq_e (mm_q_comesBack T kr kp ch)) σ10 ls H locs hV10 hW2 hI2 (fun _ => e2) hN (lq_l2e (hA2.symm) (lv_sub hl [5, 6, 7, 8, 9, 15, 16, 0] rfl)))
        ·
          exact absurd (lq_elt _) cz836
      ·
        exact absurd (lq_elt _) cz795

