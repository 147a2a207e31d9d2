theorem e_pap (l : Launch) (b : Nat) (D : mm_D) (hst : l.stackTraces = false) (T : mm_T) (x0 : Nat) (σ : mm_S) (hV : lq_V σ T x0) (hW : mm_WF T) : mm_K l b D yX6_paper (.code yX6_paper cX6_paper 1 (some .int)) ({ frames := 8, cells := 6, slots := 40, locals := 220 } : Room) [.ref x0] σ
    (fun v σ2 => mm_q_paper T = 0 ∧ v = some (.int (nI (T.pa))) ∧ mm_Xt σ σ2 (T) x0)
    (fun _ _ => False) := by
  obtain ⟨z, ad, hX, rfl⟩ := hV
  exact a_paper l b D hst T z ad σ hX hW

theorem e_env (l : Launch) (b : Nat) (D : mm_D) (hst : l.stackTraces = false) (T : mm_T) (x0 : Nat) (σ : mm_S) (hV : lq_V σ T x0) (hW : mm_WF T) (q : Nat) (zq : q < 2) : mm_K l b D yX6_envelopes (.code yX6_envelopes cX6_envelopes 2 (some .int)) ({ frames := 8, cells := 6, slots := 40, locals := 220 } : Room) [.ref x0, .int (nI q)] σ
    (fun v σ2 => mm_q_envelopes T q = 0 ∧ v = some (.int (nI (T.en q))) ∧ mm_Xt σ σ2 (T) x0)
    (fun _ _ => False) := by
  obtain ⟨z, ad, hX, rfl⟩ := hV
  exact a_envelopes l b D hst T z ad σ hX hW q zq

theorem e_sou (l : Launch) (b : Nat) (D : mm_D) (hst : l.stackTraces = false) (T : mm_T) (x0 : Nat) (σ : mm_S) (hV : lq_V σ T x0) (hW : mm_WF T) : mm_K l b D yX6_isSound (.code yX6_isSound cX6_isSound 3 (some .boolean)) ({ frames := 9, cells := 6, slots := 40, locals := 260 } : Room) [.ref x0] σ
    (fun v σ2 => mm_q_isSound T = 0 ∧ v = some (.int (nI (1))) ∧ mm_Xt σ σ2 (T) x0)
    (fun _ _ => False) := by
  obtain ⟨z, ad, hX, rfl⟩ := hV
  exact a_isSound l b D hst T z ad σ hX hW

theorem mm_Xt.of {σ σ2 : mm_S} {T' : mm_T} {x0 : Nat} (h : lq_V σ2 T' x0) (hF : mm_Fr 0 σ σ2) : mm_Xt σ σ2 T' x0 := by
  obtain ⟨z, ad, h1, h2⟩ := h
  exact ⟨z, ad, h1, h2, hF⟩
set_option maxHeartbeats 4000000 in
set_option maxRecDepth 100000 in
theorem e_many0 (l : Launch) (b : Nat) (D : mm_D) (hst : l.stackTraces = false) (T : mm_T) (x0 : Nat) (σ : mm_S) (hV : lq_V σ T x0) (hW : mm_WF T) : mm_K l b D yL_many (.code yL_many cL_many 3 (some .int)) ({ frames := 10, cells := 150, slots := 1000, locals := 300 } : Room) [.ref x0, .int (nI 0)] σ
    (fun v σ2 => v = some (.int (nI T.nP)) ∧ mm_Xt σ σ2 T x0)
    (fun _ _ => False) := by
  refine mm_of (cc := cL_many) (nL := 3) (ret := (some .int)) (by decide) rfl (Nat.le_of_ble_eq_true rfl) hst ?_
  intro p e s m args below meth c ls F ht hr hin hN hl
  have hl : lv_has ls 3 [(0, .ref x0), (1, .int (nI 0))] := hl
  have wnA := hW.hnA
  have wnP := hW.hnP
  have wnT := hW.hnT
  have wnR := hW.hnR
  have wpa := hW.hpa
  have wen0 := hW.hen 0
  have wen1 := hW.hen 1
  refine lv_iconst (pc := 0) (v := nI 0) F.1 F.2.1 dL_many_0 (by decide) ?_
  refine lv_istore_n (pc := 1) (lv' := [(2, .int (nI 0)), (0, .ref x0), (1, .int (nI 0))]) F.1 F.2.1 dL_many_1 rfl hl (by decide) rfl (fun ls hl => ?_)
  refine W.widen (k := 6 * 0) (n := 40 * 0) (by omega) (by omega) ?_
  have lp2 : ∀ (k2 u : Nat) (σu : mm_S) (ls : Array Slot) (H : Heap) (locs : List Loc), T.nP < u + k2 → u ≤ T.nP → (lq_V σu T x0) → (mm_Fr 0 σ σu) → mm_N b D s σu H locs → lv_has ls 3 [(0, .ref x0), (1, .int (nI 0)), (2, .int (nI u))] →
      W p l e ({ frames := 10, cells := 150, slots := 1000, locals := 300 } : Room) s m args below meth c H locs (6 * u) (40 * u) (mm_Q b D (fun v σ2 => v = some (.int (nI T.nP)) ∧ mm_Xt σ σ2 T x0) (fun _ _ => False) below args s ({ frames := 10, cells := 150, slots := 1000, locals := 300 } : Room)) (F0 m 2 ls []) := by
    intro k2
    induction k2 with
    | zero => intro u σu ls H locs hk2 hi2 hVu hFu hN hl; omega
    | succ k2 ih2 =>
      intro u σu ls H locs hk2 hi2 hVu hFu hN hl
      refine lv_iload_n (pc := 2) F.1 F.2.1 dL_many_2 rfl (lv_at hl 2 rfl) ?_
      refine lv_bipush (pc := 3) (v := nI 24) F.1 F.2.1 dL_many_3 (by decide) ?_
      refine mm_icmp_ge (pc := 5) F (x := u) (y := 24) (tgt := 51) (by omega) (by omega) dL_many_5 (by decide) (fun cz5 => ?_) (fun cz5 => ?_)
      ·
        refine lv_iload_n (pc := 51) F.1 F.2.1 dL_many_51 rfl (lv_at hl 2 rfl) ?_
        exact mm_iret (pc := 52) F hr hN (⟨congrArg (fun q => some (Value.int (nI q))) (by omega), mm_Xt.of hVu hFu⟩) (by show 6 * u ≤ 150; omega) (by show 40 * u ≤ 1000; omega) dL_many_52
      ·
        refine lv_iload_n (pc := 8) F.1 F.2.1 dL_many_8 rfl (lv_at hl 1 rfl) ?_
        refine mm_if_ne (pc := 9) F (tgt := 21) (by omega) dL_many_9 (by decide) (fun h9 => absurd h9 (by decide)) (fun cz9 => ?_)
        refine lv_aload_n (pc := 12) F.1 F.2.1 dL_many_12 rfl (lv_at hl 0 rfl) ?_
        refine lv_iload_n (pc := 13) F.1 F.2.1 dL_many_13 rfl (lv_at hl 2 rfl) ?_
        refine lv_iconst (pc := 14) (v := nI 0) F.1 F.2.1 dL_many_14 (by decide) ?_
        refine mm_runSX (pc := 15) (As := [.ref x0, .int (nI u), .int (nI 0)]) (rest := []) F hN (e_addr l b D hst T x0 σu hVu hW u (by omega)) mw_438 mw_439 mw_0 mw_440 ⟨pmL_of, (Nat.le_of_ble_eq_true rfl), (Nat.le_of_ble_eq_true rfl)⟩ hl.1 rfl (Nat.le_of_ble_eq_true rfl) ⟨by show (6 * u) + 6 ≤ 150; omega, by show (40 * u) + 40 ≤ 1000; omega⟩ dL_many_15
          (fun _ _ _ _ _ _ h9 => False.elim h9) (fun v9 σ1 H locs hp9 hN => ?_)
        obtain ⟨rfl, hx1⟩ := hp9
        refine W.eq (g2 := F0 m 18 ls [.int (lq_i (mm_q_addressOf T u) (T.ho u))]) rfl ?_
        refine W.widen (k := 6 * u + 6) (n := 40 * u + 40) (Nat.le_refl _) (Nat.le_refl _) ?_
        have hV1 := hx1.v
        have hF1 := mm_Fr.tr hFu hx1.fr
        by_cases h9 : u < T.nP
        ·
          obtain ⟨who, wfl, wre⟩ := hW.hpe u h9
          refine W.eq (g2 := F0 m 18 ls [.int (nI ((T.ho u)))]) (by rw [lq_i0 (by unfold mm_q_addressOf; (repeat' split) <;> omega)]) ?_
          refine lv_goto (pc := 18) (tgt := 42) F.1 F.2.1 dL_many_18 (by decide) ?_
          refine mm_if_lt (pc := 42) F (tgt := 51) (by omega) dL_many_42 (by decide) ?_
          refine lv_iinc (pc := 45) (v := nI (u + 1)) (lv' := [(2, .int (nI (u + 1))), (0, .ref x0), (1, .int (nI 0))]) F.1 F.2.1 dL_many_45 hl (k := 2) rfl (by rw [← nI_add]; rfl) (by decide) rfl (fun ls hl => ?_)
          refine lv_goto (pc := 48) (tgt := 2) F.1 F.2.1 dL_many_48 (by decide) ?_
          refine W.widen (k := 6 * (u + 1)) (n := 40 * (u + 1)) (by omega) (by omega) ?_
          exact ih2 (u + 1) σ1 ls _ _ (by omega) (by omega) (hV1) (hF1) hN (lv_sub hl [1, 2, 0] rfl)
        ·
          refine W.eq (g2 := F0 m 18 ls [.int ((-1001))]) (by rw [lq_i1 (by unfold mm_q_addressOf; (repeat' split) <;> omega)]) ?_
          refine lv_goto (pc := 18) (tgt := 42) F.1 F.2.1 dL_many_18 (by decide) ?_
          refine lv_if_lt (pc := 42) (tgt := 51) F.1 F.2.1 dL_many_42 (by decide) (fun cz42 => ?_) (fun h9 => absurd h9 (by decide))
          refine lv_iload_n (pc := 51) F.1 F.2.1 dL_many_51 rfl (lv_at hl 2 rfl) ?_
          exact mm_iret (pc := 52) F hr hN (⟨congrArg (fun q => some (Value.int (nI q))) (by omega), mm_Xt.of hV1 hF1⟩) (by show 6 * u + 6 ≤ 150; omega) (by show 40 * u + 40 ≤ 1000; omega) dL_many_52
  exact lp2 (T.nP + 1) 0 σ ls _ _ (by omega) (by omega) (hV) (mm_Fr.rf) hN (lv_sub hl [1, 2, 0] rfl)

set_option maxHeartbeats 4000000 in
set_option maxRecDepth 100000 in
theorem e_many1 (l : Launch) (b : Nat) (D : mm_D) (hst : l.stackTraces = false) (T : mm_T) (x0 : Nat) (σ : mm_S) (hV : lq_V σ T x0) (hW : mm_WF T) : mm_K l b D yL_many (.code yL_many cL_many 3 (some .int)) ({ frames := 10, cells := 150, slots := 1000, locals := 300 } : Room) [.ref x0, .int (nI 1)] σ
    (fun v σ2 => v = some (.int (nI T.nR)) ∧ mm_Xt σ σ2 T x0)
    (fun _ _ => False) := by
  refine mm_of (cc := cL_many) (nL := 3) (ret := (some .int)) (by decide) rfl (Nat.le_of_ble_eq_true rfl) hst ?_
  intro p e s m args below meth c ls F ht hr hin hN hl
  have hl : lv_has ls 3 [(0, .ref x0), (1, .int (nI 1))] := hl
  have wnA := hW.hnA
  have wnP := hW.hnP
  have wnT := hW.hnT
  have wnR := hW.hnR
  have wpa := hW.hpa
  have wen0 := hW.hen 0
  have wen1 := hW.hen 1
  refine lv_iconst (pc := 0) (v := nI 0) F.1 F.2.1 dL_many_0 (by decide) ?_
  refine lv_istore_n (pc := 1) (lv' := [(2, .int (nI 0)), (0, .ref x0), (1, .int (nI 1))]) F.1 F.2.1 dL_many_1 rfl hl (by decide) rfl (fun ls hl => ?_)
  refine W.widen (k := 6 * 0) (n := 40 * 0) (by omega) (by omega) ?_
  have lp2 : ∀ (k2 u : Nat) (σu : mm_S) (ls : Array Slot) (H : Heap) (locs : List Loc), T.nR < u + k2 → u ≤ T.nR → (lq_V σu T x0) → (mm_Fr 0 σ σu) → mm_N b D s σu H locs → lv_has ls 3 [(0, .ref x0), (1, .int (nI 1)), (2, .int (nI u))] →
      W p l e ({ frames := 10, cells := 150, slots := 1000, locals := 300 } : Room) s m args below meth c H locs (6 * u) (40 * u) (mm_Q b D (fun v σ2 => v = some (.int (nI T.nR)) ∧ mm_Xt σ σ2 T x0) (fun _ _ => False) below args s ({ frames := 10, cells := 150, slots := 1000, locals := 300 } : Room)) (F0 m 2 ls []) := by
    intro k2
    induction k2 with
    | zero => intro u σu ls H locs hk2 hi2 hVu hFu hN hl; omega
    | succ k2 ih2 =>
      intro u σu ls H locs hk2 hi2 hVu hFu hN hl
      refine lv_iload_n (pc := 2) F.1 F.2.1 dL_many_2 rfl (lv_at hl 2 rfl) ?_
      refine lv_bipush (pc := 3) (v := nI 24) F.1 F.2.1 dL_many_3 (by decide) ?_
      refine mm_icmp_ge (pc := 5) F (x := u) (y := 24) (tgt := 51) (by omega) (by omega) dL_many_5 (by decide) (fun cz5 => ?_) (fun cz5 => ?_)
      ·
        refine lv_iload_n (pc := 51) F.1 F.2.1 dL_many_51 rfl (lv_at hl 2 rfl) ?_
        exact mm_iret (pc := 52) F hr hN (⟨congrArg (fun q => some (Value.int (nI q))) (by omega), mm_Xt.of hVu hFu⟩) (by show 6 * u ≤ 150; omega) (by show 40 * u ≤ 1000; omega) dL_many_52
      ·
        refine lv_iload_n (pc := 8) F.1 F.2.1 dL_many_8 rfl (lv_at hl 1 rfl) ?_
        refine mm_if_ne (pc := 9) F (tgt := 21) (by omega) dL_many_9 (by decide) (fun cz9 => ?_) (fun h9 => absurd h9 (by decide))
        refine lv_iload_n (pc := 21) F.1 F.2.1 dL_many_21 rfl (lv_at hl 1 rfl) ?_
        refine lv_iconst (pc := 22) (v := nI 1) F.1 F.2.1 dL_many_22 (by decide) ?_
        refine mm_icmp_ne (pc := 23) F (x := 1) (y := 1) (tgt := 36) (by omega) (by omega) dL_many_23 (by decide) (fun h9 => absurd h9 (by decide)) (fun cz23 => ?_)
        refine lv_aload_n (pc := 26) F.1 F.2.1 dL_many_26 rfl (lv_at hl 0 rfl) ?_
        refine lv_iload_n (pc := 27) F.1 F.2.1 dL_many_27 rfl (lv_at hl 2 rfl) ?_
        refine lv_iconst (pc := 28) (v := nI 0) F.1 F.2.1 dL_many_28 (by decide) ?_
        refine lv_iconst (pc := 29) (v := nI 1) F.1 F.2.1 dL_many_29 (by decide) ?_
        refine mm_runSX (pc := 30) (As := [.ref x0, .int (nI u), .int (nI 0), .int (nI 1)]) (rest := []) F hN (e_lett l b D hst T x0 σu hVu hW u (by omega) 0) mw_984 mw_985 mw_0 mw_986 ⟨pmL_told, (Nat.le_of_ble_eq_true rfl), (Nat.le_of_ble_eq_true rfl)⟩ hl.1 rfl (Nat.le_of_ble_eq_true rfl) ⟨by show (6 * u) + 6 ≤ 150; omega, by show (40 * u) + 40 ≤ 1000; omega⟩ dL_many_30
          (fun _ _ _ _ _ _ h9 => False.elim h9) (fun v9 σ1 H locs hp9 hN => ?_)
        obtain ⟨rfl, hx1⟩ := hp9
        refine W.eq (g2 := F0 m 33 ls [.int (lq_i (mm_q_letters T u) (mm_sm (fun p => if T.oc u p = 108 then 1 else 0) (T.rp u)))]) rfl ?_
        refine W.widen (k := 6 * u + 6) (n := 40 * u + 40) (Nat.le_refl _) (Nat.le_refl _) ?_
        have hV1 := hx1.v
        have hF1 := mm_Fr.tr hFu hx1.fr
        by_cases h9 : u < T.nR
        ·
          have hnl := lq_nl_le hW h9
          refine W.eq (g2 := F0 m 33 ls [.int (nI ((mm_sm (fun p => if T.oc u p = 108 then 1 else 0) (T.rp u))))]) (by rw [lq_i0 (by unfold mm_q_letters; (repeat' split) <;> omega)]) ?_
          refine W.eq (g2 := F0 m 33 ls [.int (nI (mm_nl T u))]) (by rfl) ?_
          refine lv_goto (pc := 33) (tgt := 42) F.1 F.2.1 dL_many_33 (by decide) ?_
          refine mm_if_lt (pc := 42) F (tgt := 51) (by omega) dL_many_42 (by decide) ?_
          refine lv_iinc (pc := 45) (v := nI (u + 1)) (lv' := [(2, .int (nI (u + 1))), (0, .ref x0), (1, .int (nI 1))]) F.1 F.2.1 dL_many_45 hl (k := 2) rfl (by rw [← nI_add]; rfl) (by decide) rfl (fun ls hl => ?_)
          refine lv_goto (pc := 48) (tgt := 2) F.1 F.2.1 dL_many_48 (by decide) ?_
          refine W.widen (k := 6 * (u + 1)) (n := 40 * (u + 1)) (by omega) (by omega) ?_
          exact ih2 (u + 1) σ1 ls _ _ (by omega) (by omega) (hV1) (hF1) hN (lv_sub hl [1, 2, 0] rfl)
        ·
          refine W.eq (g2 := F0 m 33 ls [.int ((-1001))]) (by rw [lq_i1 (by unfold mm_q_letters; (repeat' split) <;> omega)]) ?_
          refine lv_goto (pc := 33) (tgt := 42) F.1 F.2.1 dL_many_33 (by decide) ?_
          refine lv_if_lt (pc := 42) (tgt := 51) F.1 F.2.1 dL_many_42 (by decide) (fun cz42 => ?_) (fun h9 => absurd h9 (by decide))
          refine lv_iload_n (pc := 51) F.1 F.2.1 dL_many_51 rfl (lv_at hl 2 rfl) ?_
          exact mm_iret (pc := 52) F hr hN (⟨congrArg (fun q => some (Value.int (nI q))) (by omega), mm_Xt.of hV1 hF1⟩) (by show 6 * u + 6 ≤ 150; omega) (by show 40 * u + 40 ≤ 1000; omega) dL_many_52
  exact lp2 (T.nR + 1) 0 σ ls _ _ (by omega) (by omega) (hV) (mm_Fr.rf) hN (lv_sub hl [1, 2, 0] rfl)

set_option maxHeartbeats 4000000 in
set_option maxRecDepth 100000 in
theorem e_many2 (l : Launch) (b : Nat) (D : mm_D) (hst : l.stackTraces = false) (T : mm_T) (x0 : Nat) (σ : mm_S) (hV : lq_V σ T x0) (hW : mm_WF T) : mm_K l b D yL_many (.code yL_many cL_many 3 (some .int)) ({ frames := 10, cells := 150, slots := 1000, locals := 300 } : Room) [.ref x0, .int (nI 2)] σ
    (fun v σ2 => v = some (.int (nI T.nT)) ∧ mm_Xt σ σ2 T x0)
    (fun _ _ => False) := by
  refine mm_of (cc := cL_many) (nL := 3) (ret := (some .int)) (by decide) rfl (Nat.le_of_ble_eq_true rfl) hst ?_
  intro p e s m args below meth c ls F ht hr hin hN hl
  have hl : lv_has ls 3 [(0, .ref x0), (1, .int (nI 2))] := hl
  have wnA := hW.hnA
  have wnP := hW.hnP
  have wnT := hW.hnT
  have wnR := hW.hnR
  have wpa := hW.hpa
  have wen0 := hW.hen 0
  have wen1 := hW.hen 1
  refine lv_iconst (pc := 0) (v := nI 0) F.1 F.2.1 dL_many_0 (by decide) ?_
  refine lv_istore_n (pc := 1) (lv' := [(2, .int (nI 0)), (0, .ref x0), (1, .int (nI 2))]) F.1 F.2.1 dL_many_1 rfl hl (by decide) rfl (fun ls hl => ?_)
  refine W.widen (k := 6 * 0) (n := 40 * 0) (by omega) (by omega) ?_
  have lp2 : ∀ (k2 u : Nat) (σu : mm_S) (ls : Array Slot) (H : Heap) (locs : List Loc), T.nT < u + k2 → u ≤ T.nT → (lq_V σu T x0) → (mm_Fr 0 σ σu) → mm_N b D s σu H locs → lv_has ls 3 [(0, .ref x0), (1, .int (nI 2)), (2, .int (nI u))] →
      W p l e ({ frames := 10, cells := 150, slots := 1000, locals := 300 } : Room) s m args below meth c H locs (6 * u) (40 * u) (mm_Q b D (fun v σ2 => v = some (.int (nI T.nT)) ∧ mm_Xt σ σ2 T x0) (fun _ _ => False) below args s ({ frames := 10, cells := 150, slots := 1000, locals := 300 } : Room)) (F0 m 2 ls []) := by
    intro k2
    induction k2 with
    | zero => intro u σu ls H locs hk2 hi2 hVu hFu hN hl; omega
    | succ k2 ih2 =>
      intro u σu ls H locs hk2 hi2 hVu hFu hN hl
      refine lv_iload_n (pc := 2) F.1 F.2.1 dL_many_2 rfl (lv_at hl 2 rfl) ?_
      refine lv_bipush (pc := 3) (v := nI 24) F.1 F.2.1 dL_many_3 (by decide) ?_
      refine mm_icmp_ge (pc := 5) F (x := u) (y := 24) (tgt := 51) (by omega) (by omega) dL_many_5 (by decide) (fun cz5 => ?_) (fun cz5 => ?_)
      ·
        refine lv_iload_n (pc := 51) F.1 F.2.1 dL_many_51 rfl (lv_at hl 2 rfl) ?_
        exact mm_iret (pc := 52) F hr hN (⟨congrArg (fun q => some (Value.int (nI q))) (by omega), mm_Xt.of hVu hFu⟩) (by show 6 * u ≤ 150; omega) (by show 40 * u ≤ 1000; omega) dL_many_52
      ·
        refine lv_iload_n (pc := 8) F.1 F.2.1 dL_many_8 rfl (lv_at hl 1 rfl) ?_
        refine mm_if_ne (pc := 9) F (tgt := 21) (by omega) dL_many_9 (by decide) (fun cz9 => ?_) (fun h9 => absurd h9 (by decide))
        refine lv_iload_n (pc := 21) F.1 F.2.1 dL_many_21 rfl (lv_at hl 1 rfl) ?_
        refine lv_iconst (pc := 22) (v := nI 1) F.1 F.2.1 dL_many_22 (by decide) ?_
        refine mm_icmp_ne (pc := 23) F (x := 2) (y := 1) (tgt := 36) (by omega) (by omega) dL_many_23 (by decide) (fun cz23 => ?_) (fun h9 => absurd h9 (by decide))
        refine lv_aload_n (pc := 36) F.1 F.2.1 dL_many_36 rfl (lv_at hl 0 rfl) ?_
        refine lv_iload_n (pc := 37) F.1 F.2.1 dL_many_37 rfl (lv_at hl 2 rfl) ?_
        refine lv_iconst (pc := 38) (v := nI 0) F.1 F.2.1 dL_many_38 (by decide) ?_
        refine mm_runSX (pc := 39) (As := [.ref x0, .int (nI u), .int (nI 0)]) (rest := []) F hN (e_pages l b D hst T x0 σu hVu hW u (by omega) 0 (by decide)) mw_507 mw_508 mw_0 mw_509 ⟨pmL_pages, (Nat.le_of_ble_eq_true rfl), (Nat.le_of_ble_eq_true rfl)⟩ hl.1 rfl (Nat.le_of_ble_eq_true rfl) ⟨by show (6 * u) + 6 ≤ 150; omega, by show (40 * u) + 40 ≤ 1000; omega⟩ dL_many_39
          (fun _ _ _ _ _ _ h9 => False.elim h9) (fun v9 σ1 H locs hp9 hN => ?_)
        obtain ⟨rfl, hx1⟩ := hp9
        refine W.eq (g2 := F0 m 42 ls [.int (lq_i (mm_q_pagesFor T u 0) (mm_pgs T u 0))]) rfl ?_
        refine W.widen (k := 6 * u + 6) (n := 40 * u + 40) (Nat.le_refl _) (Nat.le_refl _) ?_
        have hV1 := hx1.v
        have hF1 := mm_Fr.tr hFu hx1.fr
        by_cases h9 : u < T.nT
        ·
          have hpg := mm_pgs_le (x := 0) hW h9
          refine W.eq (g2 := F0 m 42 ls [.int (nI ((mm_pgs T u 0)))]) (by rw [lq_i0 (by unfold mm_q_pagesFor; (repeat' split) <;> omega)]) ?_
          refine mm_if_lt (pc := 42) F (tgt := 51) (by omega) dL_many_42 (by decide) ?_
          refine lv_iinc (pc := 45) (v := nI (u + 1)) (lv' := [(2, .int (nI (u + 1))), (0, .ref x0), (1, .int (nI 2))]) F.1 F.2.1 dL_many_45 hl (k := 2) rfl (by rw [← nI_add]; rfl) (by decide) rfl (fun ls hl => ?_)
          refine lv_goto (pc := 48) (tgt := 2) F.1 F.2.1 dL_many_48 (by decide) ?_
          refine W.widen (k := 6 * (u + 1)) (n := 40 * (u + 1)) (by omega) (by omega) ?_
          exact ih2 (u + 1) σ1 ls _ _ (by omega) (by omega) (hV1) (hF1) hN (lv_sub hl [1, 2, 0] rfl)
        ·
          refine W.eq (g2 := F0 m 42 ls [.int ((-1001))]) (by rw [lq_i1 (by unfold mm_q_pagesFor; (repeat' split) <;> omega)]) ?_
          refine lv_if_lt (pc := 42) (tgt := 51) F.1 F.2.1 dL_many_42 (by decide) (fun cz42 => ?_) (fun h9 => absurd h9 (by decide))
          refine lv_iload_n (pc := 51) F.1 F.2.1 dL_many_51 rfl (lv_at hl 2 rfl) ?_
          exact mm_iret (pc := 52) F hr hN (⟨congrArg (fun q => some (Value.int (nI q))) (by omega), mm_Xt.of hV1 hF1⟩) (by show 6 * u + 6 ≤ 150; omega) (by show 40 * u + 40 ≤ 1000; omega) dL_many_52
  exact lp2 (T.nT + 1) 0 σ ls _ _ (by omega) (by omega) (hV) (mm_Fr.rf) hN (lv_sub hl [1, 2, 0] rfl)

/-- n steps -/
def lq_it (f : Nat → Int64 → Int64) : Nat → Int64 → Int64
  | 0, s => s
  | n + 1, s => f n (lq_it f n s)
theorem lq_it0 {f : Nat → Int64 → Int64} {s : Int64} : lq_it f 0 s = s := rfl
theorem lq_itS {f : Nat → Int64 → Int64} {n : Nat} {s : Int64} : lq_it f (n + 1) s = f n (lq_it f n s) := rfl
def lq_s0 (T : mm_T) : Int64 := (nI T.pa).toInt64 + lN 31 * (nI (T.en 0)).toInt64 + lN 961 * (nI (T.en 1)).toInt64 + lN 7 * (nI T.nT).toInt64
def lq_f1 (T : mm_T) (u : Nat) (s : Int64) : Int64 := lN 31 * s + (lq_i (mm_q_strikes T u) (T.sk u)).toInt64
def lq_f2 (T : mm_T) (u : Nat) (s : Int64) : Int64 := lN 31 * s + (lq_i (mm_q_addressOf T u) (T.ho u)).toInt64 + lN 3 * (lq_i (mm_q_reasonOf T u) (T.re u)).toInt64
def lq_co (T : mm_T) (r : Nat) : Int64 := if mm_q_costOf T r = 0 then lN (mm_sm (fun p => if T.oc r p = 108 then T.ps r p else 0) (T.rp r)) else (-1001)
def lq_f3 (T : mm_T) (r : Nat) (s : Int64) : Int64 := lN 31 * s + (lq_i (mm_q_letters T r) (mm_sm (fun p => if T.oc r p = 108 then 1 else 0) (T.rp r))).toInt64 + lN 3 * lq_co T r + lN 5 * (lq_i (mm_q_proofAt T r 0) ((mm_pl (mm_fr T r) (T.rp r) 8).getD 0 0)).toInt64
def lq_f5 (T : mm_T) (u f : Nat) (s : Int64) : Int64 := lN 31 * s + (lq_i (mm_q_pagesFor T u f) (mm_pgs T u f)).toInt64
def lq_f4 (T : mm_T) (u : Nat) (s : Int64) : Int64 := lq_it (lq_f5 T u) 8 s
def lq_sum (T : mm_T) : Int64 := lN 31 * lq_it (lq_f4 T) 4 (lq_it (lq_f3 T) T.nR (lq_it (lq_f2 T) T.nP (lq_it (lq_f1 T) 12 (lq_s0 T)))) + (lq_fb (lq_sh T)).toInt64
set_option maxHeartbeats 4000000 in
set_option maxRecDepth 100000 in
theorem e_sum (l : Launch) (b : Nat) (D : mm_D) (hst : l.stackTraces = false) (T : mm_T) (x0 : Nat) (σ : mm_S) (hV : lq_V σ T x0) (hW : mm_WF T) : mm_K l b D yL_sum (.code yL_sum cL_sum 7 (some .long)) ({ frames := 11, cells := 1400, slots := 11000, locals := 400 } : Room) [.ref x0] σ
    (fun v σ2 => v = some (.long (lq_sum T)) ∧ mm_Xt σ σ2 T x0)
    (fun _ _ => False) := by
  refine mm_of (cc := cL_sum) (nL := 7) (ret := (some .long)) (by decide) rfl (Nat.le_of_ble_eq_true rfl) hst ?_
  intro p e s m args below meth c ls F ht hr hin hN hl
  have hl : lv_has ls 7 [(0, .ref x0)] := hl
  have wnA := hW.hnA
  have wnP := hW.hnP
  have wnT := hW.hnT
  have wnR := hW.hnR
  have wpa := hW.hpa
  have wen0 := hW.hen 0
  have wen1 := hW.hen 1
  refine lv_aload_n (pc := 0) F.1 F.2.1 dL_sum_0 rfl (lv_at hl 0 rfl) ?_
  refine lv_iconst (pc := 1) (v := nI 0) F.1 F.2.1 dL_sum_1 (by decide) ?_
  refine mm_runS (pc := 2) (As := [.ref x0, .int (nI 0)]) (rest := []) F hN (e_many0 l b D hst T x0 σ hV hW) mw_1105 mw_1106 mw_0 mw_1107 ⟨pmL_many, (Nat.le_of_ble_eq_true rfl), (Nat.le_of_ble_eq_true rfl)⟩ hl.1 rfl (Nat.le_of_ble_eq_true rfl) ⟨(Nat.le_of_ble_eq_true rfl), (Nat.le_of_ble_eq_true rfl)⟩ dL_sum_2
    (fun _ _ _ _ _ _ h9 => False.elim h9) (fun v9 σ1 H locs hp9 hN => ?_)
  obtain ⟨rfl, hx1⟩ := hp9
  refine W.eq (g2 := F0 m 5 ls [.int (nI T.nP)]) rfl ?_
  refine W.widen (k := 150) (n := 1000) (Nat.le_of_ble_eq_true rfl) (Nat.le_of_ble_eq_true rfl) ?_
  have hV1 := hx1.v
  have hF1 := mm_Fr.tr mm_Fr.rf hx1.fr
  refine lv_istore_n (pc := 5) (lv' := [(1, .int (nI T.nP)), (0, .ref x0)]) F.1 F.2.1 dL_sum_5 rfl hl (by decide) rfl (fun ls hl => ?_)
  refine lv_aload_n (pc := 6) F.1 F.2.1 dL_sum_6 rfl (lv_at hl 1 rfl) ?_
  refine lv_iconst (pc := 7) (v := nI 1) F.1 F.2.1 dL_sum_7 (by decide) ?_
  refine mm_runS (pc := 8) (As := [.ref x0, .int (nI 1)]) (rest := []) F hN (e_many1 l b D hst T x0 σ1 hV1 hW) mw_1105 mw_1106 mw_0 mw_1107 ⟨pmL_many, (Nat.le_of_ble_eq_true rfl), (Nat.le_of_ble_eq_true rfl)⟩ hl.1 rfl (Nat.le_of_ble_eq_true rfl) ⟨(Nat.le_of_ble_eq_true rfl), (Nat.le_of_ble_eq_true rfl)⟩ dL_sum_8
    (fun _ _ _ _ _ _ h9 => False.elim h9) (fun v9 σ2 H locs hp9 hN => ?_)
  obtain ⟨rfl, hx2⟩ := hp9
  refine W.eq (g2 := F0 m 11 ls [.int (nI T.nR)]) rfl ?_
  refine W.widen (k := 300) (n := 2000) (Nat.le_of_ble_eq_true rfl) (Nat.le_of_ble_eq_true rfl) ?_
  have hV2 := hx2.v
  have hF2 := mm_Fr.tr hF1 hx2.fr
  refine lv_istore_n (pc := 11) (lv' := [(2, .int (nI T.nR)), (1, .int (nI T.nP)), (0, .ref x0)]) F.1 F.2.1 dL_sum_11 rfl hl (by decide) rfl (fun ls hl => ?_)
  refine lv_aload_n (pc := 12) F.1 F.2.1 dL_sum_12 rfl (lv_at hl 2 rfl) ?_
  refine mm_runV (pc := 13) (As := []) (rest := []) F hN (e_pap l b D hst T x0 σ2 hV2 hW) mw_1111 mw_1112 mw_1113 mw_1 mw_1114 ⟨pmX6_paper, (Nat.le_of_ble_eq_true rfl), (Nat.le_of_ble_eq_true rfl)⟩ (hV2.o.elim fun fs9 ho9 => mm_recv F.2.2.2.2.2.1 hN ho9 rfl) hl.1 rfl (Nat.le_of_ble_eq_true rfl) ⟨(Nat.le_of_ble_eq_true rfl), (Nat.le_of_ble_eq_true rfl)⟩ dL_sum_13
    (fun _ _ _ _ _ _ h9 => False.elim h9) (fun v9 σ3 H locs hp9 hN => ?_)
  obtain ⟨-, rfl, hx3⟩ := hp9
  refine W.eq (g2 := F0 m 16 ls [.int (nI T.pa)]) rfl ?_
  refine W.widen (k := 306) (n := 2040) (Nat.le_of_ble_eq_true rfl) (Nat.le_of_ble_eq_true rfl) ?_
  have hV3 := hx3.v
  have hF3 := mm_Fr.tr hF2 hx3.fr
  refine lv_i2l (pc := 16) (v := (nI T.pa).toInt64) F.1 F.2.1 dL_sum_16 rfl ?_
  refine lv_ldc2 (pc := 17) (v := lN 31) F.1 F.2.1 F.2.2.2.1 (F.2.2.2.2.1 _ mw_1115) dL_sum_17 ?_
  refine lv_aload_n (pc := 20) F.1 F.2.1 dL_sum_20 rfl (lv_at hl 2 rfl) ?_
  refine lv_iconst (pc := 21) (v := nI 0) F.1 F.2.1 dL_sum_21 (by decide) ?_
  refine mm_runV (pc := 22) (As := [.int (nI 0)]) (rest := [.long (lN 31), .long ((nI T.pa).toInt64)]) F hN (e_env l b D hst T x0 σ3 hV3 hW 0 (by decide)) mw_1116 mw_1117 mw_1118 mw_1 mw_1119 ⟨pmX6_envelopes, (Nat.le_of_ble_eq_true rfl), (Nat.le_of_ble_eq_true rfl)⟩ (hV3.o.elim fun fs9 ho9 => mm_recv F.2.2.2.2.2.1 hN ho9 rfl) hl.1 rfl (Nat.le_of_ble_eq_true rfl) ⟨(Nat.le_of_ble_eq_true rfl), (Nat.le_of_ble_eq_true rfl)⟩ dL_sum_22
    (fun _ _ _ _ _ _ h9 => False.elim h9) (fun v9 σ4 H locs hp9 hN => ?_)
  obtain ⟨-, rfl, hx4⟩ := hp9
  refine W.eq (g2 := F0 m 25 ls [.int (nI (T.en 0)), .long (lN 31), .long ((nI T.pa).toInt64)]) rfl ?_
  refine W.widen (k := 312) (n := 2080) (Nat.le_of_ble_eq_true rfl) (Nat.le_of_ble_eq_true rfl) ?_
  have hV4 := hx4.v
  have hF4 := mm_Fr.tr hF3 hx4.fr
  refine lv_i2l (pc := 25) (v := (nI (T.en 0)).toInt64) F.1 F.2.1 dL_sum_25 rfl ?_
  refine lv_lmul (pc := 26) F.1 F.2.1 dL_sum_26 ?_
  refine lv_ladd (pc := 27) F.1 F.2.1 dL_sum_27 ?_
  refine lv_ldc2 (pc := 28) (v := lN 961) F.1 F.2.1 F.2.2.2.1 (F.2.2.2.2.1 _ mw_1120) dL_sum_28 ?_
  refine lv_aload_n (pc := 31) F.1 F.2.1 dL_sum_31 rfl (lv_at hl 2 rfl) ?_
  refine lv_iconst (pc := 32) (v := nI 1) F.1 F.2.1 dL_sum_32 (by decide) ?_
  refine mm_runV (pc := 33) (As := [.int (nI 1)]) (rest := [.long (lN 961), .long (((nI T.pa).toInt64) + ((lN 31) * ((nI (T.en 0)).toInt64)))]) F hN (e_env l b D hst T x0 σ4 hV4 hW 1 (by decide)) mw_1116 mw_1117 mw_1118 mw_1 mw_1119 ⟨pmX6_envelopes, (Nat.le_of_ble_eq_true rfl), (Nat.le_of_ble_eq_true rfl)⟩ (hV4.o.elim fun fs9 ho9 => mm_recv F.2.2.2.2.2.1 hN ho9 rfl) hl.1 rfl (Nat.le_of_ble_eq_true rfl) ⟨(Nat.le_of_ble_eq_true rfl), (Nat.le_of_ble_eq_true rfl)⟩ dL_sum_33
    (fun _ _ _ _ _ _ h9 => False.elim h9) (fun v9 σ5 H locs hp9 hN => ?_)
  obtain ⟨-, rfl, hx5⟩ := hp9
  refine W.eq (g2 := F0 m 36 ls [.int (nI (T.en 1)), .long (lN 961), .long (((nI T.pa).toInt64) + ((lN 31) * ((nI (T.en 0)).toInt64)))]) rfl ?_
  refine W.widen (k := 318) (n := 2120) (Nat.le_of_ble_eq_true rfl) (Nat.le_of_ble_eq_true rfl) ?_
  have hV5 := hx5.v
  have hF5 := mm_Fr.tr hF4 hx5.fr
  refine lv_i2l (pc := 36) (v := (nI (T.en 1)).toInt64) F.1 F.2.1 dL_sum_36 rfl ?_
  refine lv_lmul (pc := 37) F.1 F.2.1 dL_sum_37 ?_
  refine lv_ladd (pc := 38) F.1 F.2.1 dL_sum_38 ?_
  refine lv_ldc2 (pc := 39) (v := lN 7) F.1 F.2.1 F.2.2.2.1 (F.2.2.2.2.1 _ mw_1121) dL_sum_39 ?_
  refine lv_aload_n (pc := 42) F.1 F.2.1 dL_sum_42 rfl (lv_at hl 2 rfl) ?_
  refine lv_iconst (pc := 43) (v := nI 2) F.1 F.2.1 dL_sum_43 (by decide) ?_
  refine mm_runS (pc := 44) (As := [.ref x0, .int (nI 2)]) (rest := [.long (lN 7), .long ((((nI T.pa).toInt64) + ((lN 31) * ((nI (T.en 0)).toInt64))) + ((lN 961) * ((nI (T.en 1)).toInt64)))]) F hN (e_many2 l b D hst T x0 σ5 hV5 hW) mw_1105 mw_1106 mw_0 mw_1107 ⟨pmL_many, (Nat.le_of_ble_eq_true rfl), (Nat.le_of_ble_eq_true rfl)⟩ hl.1 rfl (Nat.le_of_ble_eq_true rfl) ⟨(Nat.le_of_ble_eq_true rfl), (Nat.le_of_ble_eq_true rfl)⟩ dL_sum_44
    (fun _ _ _ _ _ _ h9 => False.elim h9) (fun v9 σ6 H locs hp9 hN => ?_)
  obtain ⟨rfl, hx6⟩ := hp9
  refine W.eq (g2 := F0 m 47 ls [.int (nI T.nT), .long (lN 7), .long ((((nI T.pa).toInt64) + ((lN 31) * ((nI (T.en 0)).toInt64))) + ((lN 961) * ((nI (T.en 1)).toInt64)))]) rfl ?_
  refine W.widen (k := 468) (n := 3120) (Nat.le_of_ble_eq_true rfl) (Nat.le_of_ble_eq_true rfl) ?_
  have hV6 := hx6.v
  have hF6 := mm_Fr.tr hF5 hx6.fr
  refine lv_i2l (pc := 47) (v := (nI T.nT).toInt64) F.1 F.2.1 dL_sum_47 rfl ?_
  refine lv_lmul (pc := 48) F.1 F.2.1 dL_sum_48 ?_
  refine lv_ladd (pc := 49) F.1 F.2.1 dL_sum_49 ?_
  refine lv_lstore_n (pc := 50) (lv' := [(3, .long (((((nI T.pa).toInt64) + ((lN 31) * ((nI (T.en 0)).toInt64))) + ((lN 961) * ((nI (T.en 1)).toInt64))) + ((lN 7) * ((nI T.nT).toInt64)))), (2, .int (nI T.nR)), (1, .int (nI T.nP)), (0, .ref x0)]) F.1 F.2.1 dL_sum_50 rfl hl (by decide) rfl (fun ls hl => ?_)
  refine lv_iconst (pc := 51) (v := nI 0) F.1 F.2.1 dL_sum_51 (by decide) ?_
  refine lv_istore (pc := 52) (lv' := [(5, .int (nI 0)), (3, .long (((((nI T.pa).toInt64) + ((lN 31) * ((nI (T.en 0)).toInt64))) + ((lN 961) * ((nI (T.en 1)).toInt64))) + ((lN 7) * ((nI T.nT).toInt64)))), (2, .int (nI T.nR)), (1, .int (nI T.nP)), (0, .ref x0)]) F.1 F.2.1 dL_sum_52 hl (by decide) rfl (fun ls hl => ?_)
  refine W.widen (k := 500 + 6 * 0) (n := 4000 + 40 * 0) (by omega) (by omega) ?_
  have lp54 : ∀ (k54 u : Nat) (σu : mm_S) (sv : Int64) (ls : Array Slot) (H : Heap) (locs : List Loc), 12 < u + k54 → u ≤ 12 → (lq_V σu T x0) → (mm_Fr 0 σ σu) → (sv = lq_it (lq_f1 T) u (lq_s0 T)) → mm_N b D s σu H locs → lv_has ls 7 [(0, .ref x0), (1, .int (nI T.nP)), (2, .int (nI T.nR)), (3, .long sv), (5, .int (nI u))] →
      W p l e ({ frames := 11, cells := 1400, slots := 11000, locals := 400 } : Room) s m args below meth c H locs (500 + 6 * u) (4000 + 40 * u) (mm_Q b D (fun v σ2 => v = some (.long (lq_sum T)) ∧ mm_Xt σ σ2 T x0) (fun _ _ => False) below args s ({ frames := 11, cells := 1400, slots := 11000, locals := 400 } : Room)) (F0 m 54 ls []) := by
    intro k54
    induction k54 with
    | zero => intro u σu sv ls H locs hk54 hi54 hVu hFu hsv hN hl; omega
    | succ k54 ih54 =>
      intro u σu sv ls H locs hk54 hi54 hVu hFu hsv hN hl
      refine lv_iload (pc := 54) F.1 F.2.1 dL_sum_54 (lv_at hl 4 rfl) ?_
      refine lv_bipush (pc := 56) (v := nI 12) F.1 F.2.1 dL_sum_56 (by decide) ?_
      refine mm_icmp_ge (pc := 58) F (x := u) (y := 12) (tgt := 82) (by omega) (by omega) dL_sum_58 (by decide) (fun cz58 => ?_) (fun cz58 => ?_)
      ·
        refine lv_iconst (pc := 82) (v := nI 0) F.1 F.2.1 dL_sum_82 (by decide) ?_
        refine lv_istore (pc := 83) (lv' := [(5, .int (nI 0)), (0, .ref x0), (1, .int (nI T.nP)), (2, .int (nI T.nR)), (3, .long sv)]) F.1 F.2.1 dL_sum_83 hl (by decide) rfl (fun ls hl => ?_)
        refine W.widen (k := 600 + 12 * 0) (n := 5000 + 80 * 0) (by omega) (by omega) ?_
        have lp85 : ∀ (k85 v : Nat) (σv : mm_S) (sv : Int64) (ls : Array Slot) (H : Heap) (locs : List Loc), T.nP < v + k85 → v ≤ T.nP → (lq_V σv T x0) → (mm_Fr 0 σ σv) → (sv = lq_it (lq_f2 T) v (lq_it (lq_f1 T) 12 (lq_s0 T))) → mm_N b D s σv H locs → lv_has ls 7 [(0, .ref x0), (1, .int (nI T.nP)), (2, .int (nI T.nR)), (3, .long sv), (5, .int (nI v))] →
            W p l e ({ frames := 11, cells := 1400, slots := 11000, locals := 400 } : Room) s m args below meth c H locs (600 + 12 * v) (5000 + 80 * v) (mm_Q b D (fun v σ2 => v = some (.long (lq_sum T)) ∧ mm_Xt σ σ2 T x0) (fun _ _ => False) below args s ({ frames := 11, cells := 1400, slots := 11000, locals := 400 } : Room)) (F0 m 85 ls []) := by
          intro k85
          induction k85 with
          | zero => intro v σv sv ls H locs hk85 hi85 hVv hFv hsv hN hl; omega
          | succ k85 ih85 =>
            intro v σv sv ls H locs hk85 hi85 hVv hFv hsv hN hl
            refine lv_iload (pc := 85) F.1 F.2.1 dL_sum_85 (lv_at hl 4 rfl) ?_
            refine lv_iload_n (pc := 87) F.1 F.2.1 dL_sum_87 rfl (lv_at hl 1 rfl) ?_
            refine mm_icmp_ge (pc := 88) F (x := v) (y := T.nP) (tgt := 125) (by omega) (by omega) dL_sum_88 (by decide) (fun cz88 => ?_) (fun cz88 => ?_)
            ·
              refine lv_iconst (pc := 125) (v := nI 0) F.1 F.2.1 dL_sum_125 (by decide) ?_
              refine lv_istore (pc := 126) (lv' := [(5, .int (nI 0)), (0, .ref x0), (1, .int (nI T.nP)), (2, .int (nI T.nR)), (3, .long sv)]) F.1 F.2.1 dL_sum_126 hl (by decide) rfl (fun ls hl => ?_)
              refine W.widen (k := 900 + 18 * 0) (n := 7000 + 120 * 0) (by omega) (by omega) ?_
              have lp128 : ∀ (k128 r : Nat) (σr : mm_S) (sv : Int64) (ls : Array Slot) (H : Heap) (locs : List Loc), T.nR < r + k128 → r ≤ T.nR → (lq_V σr T x0) → (mm_Fr 0 σ σr) → (sv = lq_it (lq_f3 T) r (lq_it (lq_f2 T) T.nP (lq_it (lq_f1 T) 12 (lq_s0 T)))) → mm_N b D s σr H locs → lv_has ls 7 [(0, .ref x0), (1, .int (nI T.nP)), (2, .int (nI T.nR)), (3, .long sv), (5, .int (nI r))] →
                  W p l e ({ frames := 11, cells := 1400, slots := 11000, locals := 400 } : Room) s m args below meth c H locs (900 + 18 * r) (7000 + 120 * r) (mm_Q b D (fun v σ2 => v = some (.long (lq_sum T)) ∧ mm_Xt σ σ2 T x0) (fun _ _ => False) below args s ({ frames := 11, cells := 1400, slots := 11000, locals := 400 } : Room)) (F0 m 128 ls []) := by
                intro k128
                induction k128 with
                | zero => intro r σr sv ls H locs hk128 hi128 hVr hFr hsv hN hl; omega
                | succ k128 ih128 =>
                  intro r σr sv ls H locs hk128 hi128 hVr hFr hsv hN hl
                  refine lv_iload (pc := 128) F.1 F.2.1 dL_sum_128 (lv_at hl 4 rfl) ?_
                  refine lv_iload_n (pc := 130) F.1 F.2.1 dL_sum_130 rfl (lv_at hl 2 rfl) ?_
                  refine mm_icmp_ge (pc := 131) F (x := r) (y := T.nR) (tgt := 181) (by omega) (by omega) dL_sum_131 (by decide) (fun cz131 => ?_) (fun cz131 => ?_)
                  ·
                    refine lv_iconst (pc := 181) (v := nI 0) F.1 F.2.1 dL_sum_181 (by decide) ?_
                    refine lv_istore (pc := 182) (lv' := [(5, .int (nI 0)), (0, .ref x0), (1, .int (nI T.nP)), (2, .int (nI T.nR)), (3, .long sv)]) F.1 F.2.1 dL_sum_182 hl (by decide) rfl (fun ls hl => ?_)
                    refine W.widen (k := 1100 + 48 * 0) (n := 9000 + 320 * 0) (by omega) (by omega) ?_
                    have lp184 : ∀ (k184 w : Nat) (σw : mm_S) (sv : Int64) (ls : Array Slot) (H : Heap) (locs : List Loc), 4 < w + k184 → w ≤ 4 → (lq_V σw T x0) → (mm_Fr 0 σ σw) → (sv = lq_it (lq_f4 T) w (lq_it (lq_f3 T) T.nR (lq_it (lq_f2 T) T.nP (lq_it (lq_f1 T) 12 (lq_s0 T))))) → mm_N b D s σw H locs → lv_has ls 7 [(0, .ref x0), (1, .int (nI T.nP)), (2, .int (nI T.nR)), (3, .long sv), (5, .int (nI w))] →
                        W p l e ({ frames := 11, cells := 1400, slots := 11000, locals := 400 } : Room) s m args below meth c H locs (1100 + 48 * w) (9000 + 320 * w) (mm_Q b D (fun v σ2 => v = some (.long (lq_sum T)) ∧ mm_Xt σ σ2 T x0) (fun _ _ => False) below args s ({ frames := 11, cells := 1400, slots := 11000, locals := 400 } : Room)) (F0 m 184 ls []) := by
                      intro k184
                      induction k184 with
                      | zero => intro w σw sv ls H locs hk184 hi184 hVw hFw hsv hN hl; omega
                      | succ k184 ih184 =>
                        intro w σw sv ls H locs hk184 hi184 hVw hFw hsv hN hl
                        refine lv_iload (pc := 184) F.1 F.2.1 dL_sum_184 (lv_at hl 4 rfl) ?_
                        refine lv_iconst (pc := 186) (v := nI 4) F.1 F.2.1 dL_sum_186 (by decide) ?_
                        refine mm_icmp_ge (pc := 187) F (x := w) (y := 4) (tgt := 228) (by omega) (by omega) dL_sum_187 (by decide) (fun cz187 => ?_) (fun cz187 => ?_)
                        ·
                          have hS : sv = lq_it (lq_f4 T) 4 (lq_it (lq_f3 T) T.nR (lq_it (lq_f2 T) T.nP (lq_it (lq_f1 T) 12 (lq_s0 T)))) := by rw [hsv, show w = 4 from by omega]
                          refine lv_ldc2 (pc := 228) (v := lN 31) F.1 F.2.1 F.2.2.2.1 (F.2.2.2.2.1 _ mw_1115) dL_sum_228 ?_
                          refine lv_lload_n (pc := 231) F.1 F.2.1 dL_sum_231 rfl (lv_at hl 3 rfl) ?_
                          refine lv_lmul (pc := 232) F.1 F.2.1 dL_sum_232 ?_
                          refine lv_aload_n (pc := 233) F.1 F.2.1 dL_sum_233 rfl (lv_at hl 0 rfl) ?_
                          refine mm_runSX (pc := 234) (As := [.ref x0]) (rest := [.long ((lN 31) * sv)]) F hN (e_share l b D hst T x0 σw hVw hW) mw_1064 mw_1065 mw_0 mw_1066 ⟨pmL_share, (Nat.le_of_ble_eq_true rfl), (Nat.le_of_ble_eq_true rfl)⟩ hl.1 rfl (Nat.le_of_ble_eq_true rfl) ⟨by show (1100 + 48 * w) + 6 ≤ 1400; omega, by show (9000 + 320 * w) + 40 ≤ 11000; omega⟩ dL_sum_234
                            (fun _ _ _ _ _ _ h9 => False.elim h9) (fun v9 σ7 H locs hp9 hN => ?_)
                          obtain ⟨rfl, hx7⟩ := hp9
                          refine W.eq (g2 := F0 m 237 ls [.float ((if mm_q_returnShare T = 0 then FP.fdiv (FP.i2f (nI (mm_sm (mm_nb9 T) T.nR))) (FP.i2f (nI (mm_sm (mm_nl T) T.nR))) else 3212836864)), .long ((lN 31) * sv)]) rfl ?_
                          refine W.widen (k := 1100 + 48 * w + 6) (n := 9000 + 320 * w + 40) (Nat.le_refl _) (Nat.le_refl _) ?_
                          have hV7 := hx7.v
                          have hF7 := mm_Fr.tr hFw hx7.fr
                          refine W.eq (g2 := F0 m 237 ls [.float (lq_sh T), .long ((lN 31) * sv)]) rfl ?_
                          refine mm_runS (pc := 237) (As := [.float (lq_sh T)]) (rest := [.long ((lN 31) * sv)]) F hN (e_bits l b D hst (lq_sh T) σ7) mw_1124 mw_1125 mw_19 mw_1126 ⟨pmJxf58ca_floatToIntBits_5c35a, (Nat.le_of_ble_eq_true rfl), (Nat.le_of_ble_eq_true rfl)⟩ hl.1 rfl (Nat.le_of_ble_eq_true rfl) ⟨by show (1100 + 48 * w + 6) + 0 ≤ 1400; omega, by show (9000 + 320 * w + 40) + 0 ≤ 11000; omega⟩ dL_sum_237
                            (fun _ _ _ _ _ _ h9 => False.elim h9) (fun v9 σz H locs hp9 hN => ?_)
                          obtain ⟨rfl, h9⟩ := hp9
                          refine W.eq (g2 := F0 m 240 ls [.int (lq_fb (lq_sh T)), .long ((lN 31) * sv)]) rfl ?_
                          refine W.widen (k := 1100 + 48 * w + 6) (n := 9000 + 320 * w + 40) (Nat.le_refl _) (Nat.le_refl _) ?_
                          rw [h9] at hN
                          refine lv_i2l (pc := 240) (v := (lq_fb (lq_sh T)).toInt64) F.1 F.2.1 dL_sum_240 rfl ?_
                          refine lv_ladd (pc := 241) F.1 F.2.1 dL_sum_241 ?_
                          exact mm_lret (pc := 242) F hr hN (⟨by rw [lq_sum, ← hS], mm_Xt.of hV7 hF7⟩) (by show 1100 + 48 * w + 6 ≤ 1400; omega) (by show 9000 + 320 * w + 40 ≤ 11000; omega) dL_sum_242
                        ·
                          refine lv_iconst (pc := 190) (v := nI 0) F.1 F.2.1 dL_sum_190 (by decide) ?_
                          refine lv_istore (pc := 191) (lv' := [(6, .int (nI 0)), (0, .ref x0), (1, .int (nI T.nP)), (2, .int (nI T.nR)), (3, .long sv), (5, .int (nI w))]) F.1 F.2.1 dL_sum_191 hl (by decide) rfl (fun ls hl => ?_)
                          refine W.widen (k := 1100 + 48 * w + 6 * 0) (n := 9000 + 320 * w + 40 * 0) (by omega) (by omega) ?_
                          have lp193 : ∀ (k193 f : Nat) (σf : mm_S) (sf : Int64) (ls : Array Slot) (H : Heap) (locs : List Loc), 8 < f + k193 → f ≤ 8 → (lq_V σf T x0) → (mm_Fr 0 σ σf) → (sf = lq_it (lq_f5 T w) f (lq_it (lq_f4 T) w (lq_it (lq_f3 T) T.nR (lq_it (lq_f2 T) T.nP (lq_it (lq_f1 T) 12 (lq_s0 T)))))) → mm_N b D s σf H locs → lv_has ls 7 [(0, .ref x0), (1, .int (nI T.nP)), (2, .int (nI T.nR)), (3, .long sf), (5, .int (nI w)), (6, .int (nI f))] →
                              W p l e ({ frames := 11, cells := 1400, slots := 11000, locals := 400 } : Room) s m args below meth c H locs (1100 + 48 * w + 6 * f) (9000 + 320 * w + 40 * f) (mm_Q b D (fun v σ2 => v = some (.long (lq_sum T)) ∧ mm_Xt σ σ2 T x0) (fun _ _ => False) below args s ({ frames := 11, cells := 1400, slots := 11000, locals := 400 } : Room)) (F0 m 193 ls []) := by
                            intro k193
                            induction k193 with
                            | zero => intro f σf sf ls H locs hk193 hi193 hVf hFf hsf hN hl; omega
                            | succ k193 ih193 =>
                              intro f σf sf ls H locs hk193 hi193 hVf hFf hsf hN hl
                              refine lv_iload (pc := 193) F.1 F.2.1 dL_sum_193 (lv_at hl 5 rfl) ?_
                              refine lv_bipush (pc := 195) (v := nI 8) F.1 F.2.1 dL_sum_195 (by decide) ?_
                              refine mm_icmp_ge (pc := 197) F (x := f) (y := 8) (tgt := 222) (by omega) (by omega) dL_sum_197 (by decide) (fun cz197 => ?_) (fun cz197 => ?_)
                              ·
                                have hsw : sf = lq_it (lq_f4 T) (w + 1) (lq_it (lq_f3 T) T.nR (lq_it (lq_f2 T) T.nP (lq_it (lq_f1 T) 12 (lq_s0 T)))) := by rw [hsf, show f = 8 from by omega, lq_itS]; rfl
                                refine lv_iinc (pc := 222) (v := nI (w + 1)) (lv' := [(5, .int (nI (w + 1))), (0, .ref x0), (1, .int (nI T.nP)), (2, .int (nI T.nR)), (3, .long sf), (6, .int (nI f))]) F.1 F.2.1 dL_sum_222 hl (k := 4) rfl (by rw [← nI_add]; rfl) (by decide) rfl (fun ls hl => ?_)
                                refine lv_goto (pc := 225) (tgt := 184) F.1 F.2.1 dL_sum_225 (by decide) ?_
                                refine W.widen (k := 1100 + 48 * (w + 1)) (n := 9000 + 320 * (w + 1)) (by omega) (by omega) ?_
                                exact ih184 (w + 1) σf sf ls _ _ (by omega) (by omega) (hVf) (hFf) (hsw) hN (lv_sub hl [1, 2, 3, 4, 0] rfl)
                              ·
                                refine lv_ldc2 (pc := 200) (v := lN 31) F.1 F.2.1 F.2.2.2.1 (F.2.2.2.2.1 _ mw_1115) dL_sum_200 ?_
                                refine lv_lload_n (pc := 203) F.1 F.2.1 dL_sum_203 rfl (lv_at hl 3 rfl) ?_
                                refine lv_lmul (pc := 204) F.1 F.2.1 dL_sum_204 ?_
                                refine lv_aload_n (pc := 205) F.1 F.2.1 dL_sum_205 rfl (lv_at hl 0 rfl) ?_
                                refine lv_iload (pc := 206) F.1 F.2.1 dL_sum_206 (lv_at hl 4 rfl) ?_
                                refine lv_iload (pc := 208) F.1 F.2.1 dL_sum_208 (lv_at hl 5 rfl) ?_
                                refine mm_runSX (pc := 210) (As := [.ref x0, .int (nI w), .int (nI f)]) (rest := [.long ((lN 31) * sf)]) F hN (e_pages l b D hst T x0 σf hVf hW w (by omega) f (by omega)) mw_507 mw_508 mw_0 mw_509 ⟨pmL_pages, (Nat.le_of_ble_eq_true rfl), (Nat.le_of_ble_eq_true rfl)⟩ hl.1 rfl (Nat.le_of_ble_eq_true rfl) ⟨by show (1100 + 48 * w + 6 * f) + 6 ≤ 1400; omega, by show (9000 + 320 * w + 40 * f) + 40 ≤ 11000; omega⟩ dL_sum_210
                                  (fun _ _ _ _ _ _ h9 => False.elim h9) (fun v9 σ8 H locs hp9 hN => ?_)
                                obtain ⟨rfl, hx8⟩ := hp9
                                refine W.eq (g2 := F0 m 213 ls [.int (lq_i (mm_q_pagesFor T w f) (mm_pgs T w f)), .long ((lN 31) * sf)]) rfl ?_
                                refine W.widen (k := 1100 + 48 * w + 6 * f + 6) (n := 9000 + 320 * w + 40 * f + 40) (Nat.le_refl _) (Nat.le_refl _) ?_
                                have hV8 := hx8.v
                                have hF8 := mm_Fr.tr hFf hx8.fr
                                refine lv_i2l (pc := 213) (v := (lq_i (mm_q_pagesFor T w f) (mm_pgs T w f)).toInt64) F.1 F.2.1 dL_sum_213 rfl ?_
                                refine lv_ladd (pc := 214) F.1 F.2.1 dL_sum_214 ?_
                                refine lv_lstore_n (pc := 215) (lv' := [(3, .long (((lN 31) * sf) + ((lq_i (mm_q_pagesFor T w f) (mm_pgs T w f)).toInt64))), (0, .ref x0), (1, .int (nI T.nP)), (2, .int (nI T.nR)), (5, .int (nI w)), (6, .int (nI f))]) F.1 F.2.1 dL_sum_215 rfl hl (by decide) rfl (fun ls hl => ?_)
                                refine lv_iinc (pc := 216) (v := nI (f + 1)) (lv' := [(6, .int (nI (f + 1))), (3, .long (((lN 31) * sf) + ((lq_i (mm_q_pagesFor T w f) (mm_pgs T w f)).toInt64))), (0, .ref x0), (1, .int (nI T.nP)), (2, .int (nI T.nR)), (5, .int (nI w))]) F.1 F.2.1 dL_sum_216 hl (k := 5) rfl (by rw [← nI_add]; rfl) (by decide) rfl (fun ls hl => ?_)
                                refine lv_goto (pc := 219) (tgt := 193) F.1 F.2.1 dL_sum_219 (by decide) ?_
                                refine W.widen (k := 1100 + 48 * w + 6 * (f + 1)) (n := 9000 + 320 * w + 40 * (f + 1)) (by omega) (by omega) ?_
                                exact ih193 (f + 1) σ8 ((((lN 31) * sf) + ((lq_i (mm_q_pagesFor T w f) (mm_pgs T w f)).toInt64))) ls _ _ (by omega) (by omega) (hV8) (hF8) (by rw [hsf, lq_itS]; rfl) hN (lv_sub hl [2, 3, 4, 1, 5, 0] rfl)
                          exact lp193 (8 + 1) 0 σw sv ls _ _ (by omega) (by omega) (hVw) (hFw) (by rw [hsv, lq_it0]) hN (lv_sub hl [1, 2, 3, 4, 5, 0] rfl)
                    exact lp184 (4 + 1) 0 σr sv ls _ _ (by omega) (by omega) (hVr) (hFr) (by rw [hsv, show r = T.nR from by omega, lq_it0]) hN (lv_sub hl [1, 2, 3, 4, 0] rfl)
                  ·
                    refine lv_ldc2 (pc := 134) (v := lN 31) F.1 F.2.1 F.2.2.2.1 (F.2.2.2.2.1 _ mw_1115) dL_sum_134 ?_
                    refine lv_lload_n (pc := 137) F.1 F.2.1 dL_sum_137 rfl (lv_at hl 3 rfl) ?_
                    refine lv_lmul (pc := 138) F.1 F.2.1 dL_sum_138 ?_
                    refine lv_aload_n (pc := 139) F.1 F.2.1 dL_sum_139 rfl (lv_at hl 0 rfl) ?_
                    refine lv_iload (pc := 140) F.1 F.2.1 dL_sum_140 (lv_at hl 4 rfl) ?_
                    refine lv_iconst (pc := 142) (v := nI 0) F.1 F.2.1 dL_sum_142 (by decide) ?_
                    refine lv_iconst (pc := 143) (v := nI 1) F.1 F.2.1 dL_sum_143 (by decide) ?_
                    refine mm_runSX (pc := 144) (As := [.ref x0, .int (nI r), .int (nI 0), .int (nI 1)]) (rest := [.long ((lN 31) * sv)]) F hN (e_lett l b D hst T x0 σr hVr hW r (by omega) 0) mw_984 mw_985 mw_0 mw_986 ⟨pmL_told, (Nat.le_of_ble_eq_true rfl), (Nat.le_of_ble_eq_true rfl)⟩ hl.1 rfl (Nat.le_of_ble_eq_true rfl) ⟨by show (900 + 18 * r) + 6 ≤ 1400; omega, by show (7000 + 120 * r) + 40 ≤ 11000; omega⟩ dL_sum_144
                      (fun _ _ _ _ _ _ h9 => False.elim h9) (fun v9 σ9 H locs hp9 hN => ?_)
                    obtain ⟨rfl, hx9⟩ := hp9
                    refine W.eq (g2 := F0 m 147 ls [.int (lq_i (mm_q_letters T r) (mm_sm (fun p => if T.oc r p = 108 then 1 else 0) (T.rp r))), .long ((lN 31) * sv)]) rfl ?_
                    refine W.widen (k := 900 + 18 * r + 6) (n := 7000 + 120 * r + 40) (Nat.le_refl _) (Nat.le_refl _) ?_
                    have hV9 := hx9.v
                    have hF9 := mm_Fr.tr hFr hx9.fr
                    refine lv_i2l (pc := 147) (v := (lq_i (mm_q_letters T r) (mm_sm (fun p => if T.oc r p = 108 then 1 else 0) (T.rp r))).toInt64) F.1 F.2.1 dL_sum_147 rfl ?_
                    refine lv_ladd (pc := 148) F.1 F.2.1 dL_sum_148 ?_
                    refine lv_ldc2 (pc := 149) (v := lN 3) F.1 F.2.1 F.2.2.2.1 (F.2.2.2.2.1 _ mw_1122) dL_sum_149 ?_
                    refine lv_aload_n (pc := 152) F.1 F.2.1 dL_sum_152 rfl (lv_at hl 0 rfl) ?_
                    refine lv_iload (pc := 153) F.1 F.2.1 dL_sum_153 (lv_at hl 4 rfl) ?_
                    refine mm_runSX (pc := 155) (As := [.ref x0, .int (nI r)]) (rest := [.long (lN 3), .long (((lN 31) * sv) + ((lq_i (mm_q_letters T r) (mm_sm (fun p => if T.oc r p = 108 then 1 else 0) (T.rp r))).toInt64))]) F hN (e_cost l b D hst T x0 σ9 hV9 hW r (by omega)) mw_1051 mw_1052 mw_0 mw_1053 ⟨pmL_cost, (Nat.le_of_ble_eq_true rfl), (Nat.le_of_ble_eq_true rfl)⟩ hl.1 rfl (Nat.le_of_ble_eq_true rfl) ⟨by show (900 + 18 * r + 6) + 6 ≤ 1400; omega, by show (7000 + 120 * r + 40) + 40 ≤ 11000; omega⟩ dL_sum_155
                      (fun _ _ _ _ _ _ h9 => False.elim h9) (fun v9 σ10 H locs hp9 hN => ?_)
                    obtain ⟨rfl, hx10⟩ := hp9
                    refine W.eq (g2 := F0 m 158 ls [.long ((if mm_q_costOf T r = 0 then lN (mm_sm (fun p => if T.oc r p = 108 then T.ps r p else 0) (T.rp r)) else (-1001))), .long (lN 3), .long (((lN 31) * sv) + ((lq_i (mm_q_letters T r) (mm_sm (fun p => if T.oc r p = 108 then 1 else 0) (T.rp r))).toInt64))]) rfl ?_
                    refine W.widen (k := 900 + 18 * r + 6 + 6) (n := 7000 + 120 * r + 40 + 40) (Nat.le_refl _) (Nat.le_refl _) ?_
                    have hV10 := hx10.v
                    have hF10 := mm_Fr.tr hF9 hx10.fr
                    refine lv_lmul (pc := 158) F.1 F.2.1 dL_sum_158 ?_
                    refine lv_ladd (pc := 159) F.1 F.2.1 dL_sum_159 ?_
                    refine lv_ldc2 (pc := 160) (v := lN 5) F.1 F.2.1 F.2.2.2.1 (F.2.2.2.2.1 _ mw_1123) dL_sum_160 ?_
                    refine lv_aload_n (pc := 163) F.1 F.2.1 dL_sum_163 rfl (lv_at hl 0 rfl) ?_
                    refine lv_iload (pc := 164) F.1 F.2.1 dL_sum_164 (lv_at hl 4 rfl) ?_
                    refine lv_iconst (pc := 166) (v := nI 0) F.1 F.2.1 dL_sum_166 (by decide) ?_
                    refine lv_iconst (pc := 167) (v := nI 5) F.1 F.2.1 dL_sum_167 (by decide) ?_
                    refine mm_runSX (pc := 168) (As := [.ref x0, .int (nI r), .int (nI 0), .int (nI 5)]) (rest := [.long (lN 5), .long ((((lN 31) * sv) + ((lq_i (mm_q_letters T r) (mm_sm (fun p => if T.oc r p = 108 then 1 else 0) (T.rp r))).toInt64)) + ((lN 3) * ((if mm_q_costOf T r = 0 then lN (mm_sm (fun p => if T.oc r p = 108 then T.ps r p else 0) (T.rp r)) else (-1001)))))]) F hN (e_proof l b D hst T x0 σ10 hV10 hW r (by omega) 0 (by decide)) mw_984 mw_985 mw_0 mw_986 ⟨pmL_told, (Nat.le_of_ble_eq_true rfl), (Nat.le_of_ble_eq_true rfl)⟩ hl.1 rfl (Nat.le_of_ble_eq_true rfl) ⟨by show (900 + 18 * r + 6 + 6) + 6 ≤ 1400; omega, by show (7000 + 120 * r + 40 + 40) + 40 ≤ 11000; omega⟩ dL_sum_168
                      (fun _ _ _ _ _ _ h9 => False.elim h9) (fun v9 σ11 H locs hp9 hN => ?_)
                    obtain ⟨rfl, hx11⟩ := hp9
                    refine W.eq (g2 := F0 m 171 ls [.int (lq_i (mm_q_proofAt T r 0) ((mm_pl (mm_fr T r) (T.rp r) 8).getD 0 0)), .long (lN 5), .long ((((lN 31) * sv) + ((lq_i (mm_q_letters T r) (mm_sm (fun p => if T.oc r p = 108 then 1 else 0) (T.rp r))).toInt64)) + ((lN 3) * ((if mm_q_costOf T r = 0 then lN (mm_sm (fun p => if T.oc r p = 108 then T.ps r p else 0) (T.rp r)) else (-1001)))))]) rfl ?_
                    refine W.widen (k := 900 + 18 * r + 6 + 6 + 6) (n := 7000 + 120 * r + 40 + 40 + 40) (Nat.le_refl _) (Nat.le_refl _) ?_
                    have hV11 := hx11.v
                    have hF11 := mm_Fr.tr hF10 hx11.fr
                    refine lv_i2l (pc := 171) (v := (lq_i (mm_q_proofAt T r 0) ((mm_pl (mm_fr T r) (T.rp r) 8).getD 0 0)).toInt64) F.1 F.2.1 dL_sum_171 rfl ?_
                    refine lv_lmul (pc := 172) F.1 F.2.1 dL_sum_172 ?_
                    refine lv_ladd (pc := 173) F.1 F.2.1 dL_sum_173 ?_
                    refine lv_lstore_n (pc := 174) (lv' := [(3, .long (((((lN 31) * sv) + ((lq_i (mm_q_letters T r) (mm_sm (fun p => if T.oc r p = 108 then 1 else 0) (T.rp r))).toInt64)) + ((lN 3) * ((if mm_q_costOf T r = 0 then lN (mm_sm (fun p => if T.oc r p = 108 then T.ps r p else 0) (T.rp r)) else (-1001))))) + ((lN 5) * ((lq_i (mm_q_proofAt T r 0) ((mm_pl (mm_fr T r) (T.rp r) 8).getD 0 0)).toInt64)))), (0, .ref x0), (1, .int (nI T.nP)), (2, .int (nI T.nR)), (5, .int (nI r))]) F.1 F.2.1 dL_sum_174 rfl hl (by decide) rfl (fun ls hl => ?_)
                    refine lv_iinc (pc := 175) (v := nI (r + 1)) (lv' := [(5, .int (nI (r + 1))), (3, .long (((((lN 31) * sv) + ((lq_i (mm_q_letters T r) (mm_sm (fun p => if T.oc r p = 108 then 1 else 0) (T.rp r))).toInt64)) + ((lN 3) * ((if mm_q_costOf T r = 0 then lN (mm_sm (fun p => if T.oc r p = 108 then T.ps r p else 0) (T.rp r)) else (-1001))))) + ((lN 5) * ((lq_i (mm_q_proofAt T r 0) ((mm_pl (mm_fr T r) (T.rp r) 8).getD 0 0)).toInt64)))), (0, .ref x0), (1, .int (nI T.nP)), (2, .int (nI T.nR))]) F.1 F.2.1 dL_sum_175 hl (k := 4) rfl (by rw [← nI_add]; rfl) (by decide) rfl (fun ls hl => ?_)
                    refine lv_goto (pc := 178) (tgt := 128) F.1 F.2.1 dL_sum_178 (by decide) ?_
                    refine W.widen (k := 900 + 18 * (r + 1)) (n := 7000 + 120 * (r + 1)) (by omega) (by omega) ?_
                    exact ih128 (r + 1) σ11 ((((((lN 31) * sv) + ((lq_i (mm_q_letters T r) (mm_sm (fun p => if T.oc r p = 108 then 1 else 0) (T.rp r))).toInt64)) + ((lN 3) * ((if mm_q_costOf T r = 0 then lN (mm_sm (fun p => if T.oc r p = 108 then T.ps r p else 0) (T.rp r)) else (-1001))))) + ((lN 5) * ((lq_i (mm_q_proofAt T r 0) ((mm_pl (mm_fr T r) (T.rp r) 8).getD 0 0)).toInt64)))) ls _ _ (by omega) (by omega) (hV11) (hF11) (by rw [hsv]; rfl) hN (lv_sub hl [2, 3, 4, 1, 0] rfl)
              exact lp128 (T.nR + 1) 0 σv sv ls _ _ (by omega) (by omega) (hVv) (hFv) (by rw [hsv, show v = T.nP from by omega, lq_it0]) hN (lv_sub hl [1, 2, 3, 4, 0] rfl)
            ·
              refine lv_ldc2 (pc := 91) (v := lN 31) F.1 F.2.1 F.2.2.2.1 (F.2.2.2.2.1 _ mw_1115) dL_sum_91 ?_
              refine lv_lload_n (pc := 94) F.1 F.2.1 dL_sum_94 rfl (lv_at hl 3 rfl) ?_
              refine lv_lmul (pc := 95) F.1 F.2.1 dL_sum_95 ?_
              refine lv_aload_n (pc := 96) F.1 F.2.1 dL_sum_96 rfl (lv_at hl 0 rfl) ?_
              refine lv_iload (pc := 97) F.1 F.2.1 dL_sum_97 (lv_at hl 4 rfl) ?_
              refine lv_iconst (pc := 99) (v := nI 0) F.1 F.2.1 dL_sum_99 (by decide) ?_
              refine mm_runSX (pc := 100) (As := [.ref x0, .int (nI v), .int (nI 0)]) (rest := [.long ((lN 31) * sv)]) F hN (e_addr l b D hst T x0 σv hVv hW v (by omega)) mw_438 mw_439 mw_0 mw_440 ⟨pmL_of, (Nat.le_of_ble_eq_true rfl), (Nat.le_of_ble_eq_true rfl)⟩ hl.1 rfl (Nat.le_of_ble_eq_true rfl) ⟨by show (600 + 12 * v) + 6 ≤ 1400; omega, by show (5000 + 80 * v) + 40 ≤ 11000; omega⟩ dL_sum_100
                (fun _ _ _ _ _ _ h9 => False.elim h9) (fun v9 σ12 H locs hp9 hN => ?_)
              obtain ⟨rfl, hx12⟩ := hp9
              refine W.eq (g2 := F0 m 103 ls [.int (lq_i (mm_q_addressOf T v) (T.ho v)), .long ((lN 31) * sv)]) rfl ?_
              refine W.widen (k := 600 + 12 * v + 6) (n := 5000 + 80 * v + 40) (Nat.le_refl _) (Nat.le_refl _) ?_
              have hV12 := hx12.v
              have hF12 := mm_Fr.tr hFv hx12.fr
              refine lv_i2l (pc := 103) (v := (lq_i (mm_q_addressOf T v) (T.ho v)).toInt64) F.1 F.2.1 dL_sum_103 rfl ?_
              refine lv_ladd (pc := 104) F.1 F.2.1 dL_sum_104 ?_
              refine lv_ldc2 (pc := 105) (v := lN 3) F.1 F.2.1 F.2.2.2.1 (F.2.2.2.2.1 _ mw_1122) dL_sum_105 ?_
              refine lv_aload_n (pc := 108) F.1 F.2.1 dL_sum_108 rfl (lv_at hl 0 rfl) ?_
              refine lv_iload (pc := 109) F.1 F.2.1 dL_sum_109 (lv_at hl 4 rfl) ?_
              refine lv_iconst (pc := 111) (v := nI 1) F.1 F.2.1 dL_sum_111 (by decide) ?_
              refine mm_runSX (pc := 112) (As := [.ref x0, .int (nI v), .int (nI 1)]) (rest := [.long (lN 3), .long (((lN 31) * sv) + ((lq_i (mm_q_addressOf T v) (T.ho v)).toInt64))]) F hN (e_reason l b D hst T x0 σ12 hV12 hW v (by omega)) mw_438 mw_439 mw_0 mw_440 ⟨pmL_of, (Nat.le_of_ble_eq_true rfl), (Nat.le_of_ble_eq_true rfl)⟩ hl.1 rfl (Nat.le_of_ble_eq_true rfl) ⟨by show (600 + 12 * v + 6) + 6 ≤ 1400; omega, by show (5000 + 80 * v + 40) + 40 ≤ 11000; omega⟩ dL_sum_112
                (fun _ _ _ _ _ _ h9 => False.elim h9) (fun v9 σ13 H locs hp9 hN => ?_)
              obtain ⟨rfl, hx13⟩ := hp9
              refine W.eq (g2 := F0 m 115 ls [.int (lq_i (mm_q_reasonOf T v) (T.re v)), .long (lN 3), .long (((lN 31) * sv) + ((lq_i (mm_q_addressOf T v) (T.ho v)).toInt64))]) rfl ?_
              refine W.widen (k := 600 + 12 * v + 6 + 6) (n := 5000 + 80 * v + 40 + 40) (Nat.le_refl _) (Nat.le_refl _) ?_
              have hV13 := hx13.v
              have hF13 := mm_Fr.tr hF12 hx13.fr
              refine lv_i2l (pc := 115) (v := (lq_i (mm_q_reasonOf T v) (T.re v)).toInt64) F.1 F.2.1 dL_sum_115 rfl ?_
              refine lv_lmul (pc := 116) F.1 F.2.1 dL_sum_116 ?_
              refine lv_ladd (pc := 117) F.1 F.2.1 dL_sum_117 ?_
              refine lv_lstore_n (pc := 118) (lv' := [(3, .long ((((lN 31) * sv) + ((lq_i (mm_q_addressOf T v) (T.ho v)).toInt64)) + ((lN 3) * ((lq_i (mm_q_reasonOf T v) (T.re v)).toInt64)))), (0, .ref x0), (1, .int (nI T.nP)), (2, .int (nI T.nR)), (5, .int (nI v))]) F.1 F.2.1 dL_sum_118 rfl hl (by decide) rfl (fun ls hl => ?_)
              refine lv_iinc (pc := 119) (v := nI (v + 1)) (lv' := [(5, .int (nI (v + 1))), (3, .long ((((lN 31) * sv) + ((lq_i (mm_q_addressOf T v) (T.ho v)).toInt64)) + ((lN 3) * ((lq_i (mm_q_reasonOf T v) (T.re v)).toInt64)))), (0, .ref x0), (1, .int (nI T.nP)), (2, .int (nI T.nR))]) F.1 F.2.1 dL_sum_119 hl (k := 4) rfl (by rw [← nI_add]; rfl) (by decide) rfl (fun ls hl => ?_)
              refine lv_goto (pc := 122) (tgt := 85) F.1 F.2.1 dL_sum_122 (by decide) ?_
              refine W.widen (k := 600 + 12 * (v + 1)) (n := 5000 + 80 * (v + 1)) (by omega) (by omega) ?_
              exact ih85 (v + 1) σ13 (((((lN 31) * sv) + ((lq_i (mm_q_addressOf T v) (T.ho v)).toInt64)) + ((lN 3) * ((lq_i (mm_q_reasonOf T v) (T.re v)).toInt64)))) ls _ _ (by omega) (by omega) (hV13) (hF13) (by rw [hsv]; rfl) hN (lv_sub hl [2, 3, 4, 1, 0] rfl)
        exact lp85 (T.nP + 1) 0 σu sv ls _ _ (by omega) (by omega) (hVu) (hFu) (by rw [hsv, show u = 12 from by omega, lq_it0]) hN (lv_sub hl [1, 2, 3, 4, 0] rfl)
      ·
        refine lv_ldc2 (pc := 61) (v := lN 31) F.1 F.2.1 F.2.2.2.1 (F.2.2.2.2.1 _ mw_1115) dL_sum_61 ?_
        refine lv_lload_n (pc := 64) F.1 F.2.1 dL_sum_64 rfl (lv_at hl 3 rfl) ?_
        refine lv_lmul (pc := 65) F.1 F.2.1 dL_sum_65 ?_
        refine lv_aload_n (pc := 66) F.1 F.2.1 dL_sum_66 rfl (lv_at hl 0 rfl) ?_
        refine lv_iload (pc := 67) F.1 F.2.1 dL_sum_67 (lv_at hl 4 rfl) ?_
        refine lv_iconst (pc := 69) (v := nI 2) F.1 F.2.1 dL_sum_69 (by decide) ?_
        refine mm_runSX (pc := 70) (As := [.ref x0, .int (nI u), .int (nI 2)]) (rest := [.long ((lN 31) * sv)]) F hN (e_strikes l b D hst T x0 σu hVu hW u (by omega)) mw_438 mw_439 mw_0 mw_440 ⟨pmL_of, (Nat.le_of_ble_eq_true rfl), (Nat.le_of_ble_eq_true rfl)⟩ hl.1 rfl (Nat.le_of_ble_eq_true rfl) ⟨by show (500 + 6 * u) + 6 ≤ 1400; omega, by show (4000 + 40 * u) + 40 ≤ 11000; omega⟩ dL_sum_70
          (fun _ _ _ _ _ _ h9 => False.elim h9) (fun v9 σ14 H locs hp9 hN => ?_)
        obtain ⟨rfl, hx14⟩ := hp9
        refine W.eq (g2 := F0 m 73 ls [.int (lq_i (mm_q_strikes T u) (T.sk u)), .long ((lN 31) * sv)]) rfl ?_
        refine W.widen (k := 500 + 6 * u + 6) (n := 4000 + 40 * u + 40) (Nat.le_refl _) (Nat.le_refl _) ?_
        have hV14 := hx14.v
        have hF14 := mm_Fr.tr hFu hx14.fr
        refine lv_i2l (pc := 73) (v := (lq_i (mm_q_strikes T u) (T.sk u)).toInt64) F.1 F.2.1 dL_sum_73 rfl ?_
        refine lv_ladd (pc := 74) F.1 F.2.1 dL_sum_74 ?_
        refine lv_lstore_n (pc := 75) (lv' := [(3, .long (((lN 31) * sv) + ((lq_i (mm_q_strikes T u) (T.sk u)).toInt64))), (0, .ref x0), (1, .int (nI T.nP)), (2, .int (nI T.nR)), (5, .int (nI u))]) F.1 F.2.1 dL_sum_75 rfl hl (by decide) rfl (fun ls hl => ?_)
        refine lv_iinc (pc := 76) (v := nI (u + 1)) (lv' := [(5, .int (nI (u + 1))), (3, .long (((lN 31) * sv) + ((lq_i (mm_q_strikes T u) (T.sk u)).toInt64))), (0, .ref x0), (1, .int (nI T.nP)), (2, .int (nI T.nR))]) F.1 F.2.1 dL_sum_76 hl (k := 4) rfl (by rw [← nI_add]; rfl) (by decide) rfl (fun ls hl => ?_)
        refine lv_goto (pc := 79) (tgt := 54) F.1 F.2.1 dL_sum_79 (by decide) ?_
        refine W.widen (k := 500 + 6 * (u + 1)) (n := 4000 + 40 * (u + 1)) (by omega) (by omega) ?_
        exact ih54 (u + 1) σ14 ((((lN 31) * sv) + ((lq_i (mm_q_strikes T u) (T.sk u)).toInt64))) ls _ _ (by omega) (by omega) (hV14) (hF14) (by rw [hsv]; rfl) hN (lv_sub hl [2, 3, 4, 1, 0] rfl)
  exact lp54 (12 + 1) 0 σ6 (lq_s0 T) ls _ _ (by omega) (by omega) (hV6) (hF6) (rfl) hN (lv_sub hl [4, 3, 2, 1, 0] rfl)

