theorem mm_M_cg {σ : mm_S} {T T' : mm_T} {th : Nat} {rd : Nat → Nat → Nat} (h : mm_M σ T th rd) (hT : ∀ k, mm_dm k ≠ 0 → T' k = T k) (hf : mm_fM T th rd = mm_fM T' th rd) : mm_M σ T' th rd :=
  ⟨h.1.trans (by rw [hf]), fun k hk => by rw [hT k (by rw [hk]; decide)]; exact h.2.1 k hk, h.2.2.1, fun k i hk hi => by rw [hT k (by rw [hk]; decide)]; exact h.2.2.2.1 k i hk hi, h.2.2.2.2⟩
set_option maxHeartbeats 4000000 in
set_option maxRecDepth 100000 in
theorem c_in (l : Launch) (b : Nat) (D : mm_D) (hst : l.stackTraces = false) (v lo hi : Int32) (σ : mm_S) : mm_K l b D yX7_in (.code yX7_in cX7_in 3 (some .boolean)) ({ frames := 0, cells := 0, slots := 0, locals := 0 } : Room) [.int v, .int lo, .int hi] σ
    (fun v9 σ2 => v9 = some (.int (nI (if lo ≤ v ∧ v ≤ hi then 1 else 0))) ∧ σ2 = σ)
    (fun _ _ => False) := by
  refine mm_of (cc := cX7_in) (nL := 3) (ret := (some .boolean)) (by decide) rfl (Nat.le_of_ble_eq_true rfl) hst ?_
  intro p e s m args below meth c ls F ht hr hin hN hl
  have hl : lv_has ls 3 [(0, .int v), (1, .int lo), (2, .int hi)] := hl
  refine lv_iload_n (pc := 0) F.1 F.2.1 dX7_in_0 rfl (lv_at hl 0 rfl) ?_
  refine lv_iload_n (pc := 1) F.1 F.2.1 dX7_in_1 rfl (lv_at hl 1 rfl) ?_
  refine lv_icmp_lt (pc := 2) (tgt := 14) F.1 F.2.1 dX7_in_2 (by decide) (fun cz2 => ?_) (fun cz2 => ?_)
  ·
    refine lv_iconst (pc := 14) (v := nI 0) F.1 F.2.1 dX7_in_14 (by decide) ?_
    exact mm_zret (pc := 15) F (ty := .boolean) hr hN (by decide) (⟨by rw [if_neg (fun q => Int32.not_le.mpr cz2 q.1)], rfl⟩) (Nat.le_of_ble_eq_true rfl) (Nat.le_of_ble_eq_true rfl) dX7_in_15
  ·
    refine lv_iload_n (pc := 5) F.1 F.2.1 dX7_in_5 rfl (lv_at hl 0 rfl) ?_
    refine lv_iload_n (pc := 6) F.1 F.2.1 dX7_in_6 rfl (lv_at hl 2 rfl) ?_
    refine lv_icmp_gt (pc := 7) (tgt := 14) F.1 F.2.1 dX7_in_7 (by decide) (fun cz7 => ?_) (fun cz7 => ?_)
    ·
      refine lv_iconst (pc := 14) (v := nI 0) F.1 F.2.1 dX7_in_14 (by decide) ?_
      exact mm_zret (pc := 15) F (ty := .boolean) hr hN (by decide) (⟨by rw [if_neg (fun q => Int32.not_le.mpr cz7 q.2)], rfl⟩) (Nat.le_of_ble_eq_true rfl) (Nat.le_of_ble_eq_true rfl) dX7_in_15
    ·
      refine lv_iconst (pc := 10) (v := nI 1) F.1 F.2.1 dX7_in_10 (by decide) ?_
      refine lv_goto (pc := 11) (tgt := 15) F.1 F.2.1 dX7_in_11 (by decide) ?_
      exact mm_zret (pc := 15) F (ty := .boolean) hr hN (by decide) (⟨by rw [if_pos ⟨Int32.not_lt.mp cz2, Int32.not_lt.mp cz7⟩], rfl⟩) (Nat.le_of_ble_eq_true rfl) (Nat.le_of_ble_eq_true rfl) dX7_in_15

set_option maxHeartbeats 4000000 in
set_option maxRecDepth 100000 in
theorem r_thrown (l : Launch) (b : Nat) (D : mm_D) (hst : l.stackTraces = false) (T : mm_T) (th : Nat) (rd : Nat → Nat → Nat) (σ : mm_S) (hM : mm_M σ T th rd) (hW : mm_WF T) : mm_K l b D yX7_thrown (.code yX7_thrown cX7_thrown 1 (some .int)) ({ frames := 0, cells := 0, slots := 0, locals := 0 } : Room) [.ref ((rd 0 0))] σ
    (fun v σ2 => v = some (.int (nI th)) ∧ σ2 = σ)
    (fun _ _ => False) := by
  refine mm_of (cc := cX7_thrown) (nL := 1) (ret := (some .int)) (by decide) rfl (Nat.le_of_ble_eq_true rfl) hst ?_
  intro p e s m args below meth c ls F ht hr hin hN hl
  have hl : lv_has ls 1 [(0, .ref ((rd 0 0)))] := hl
  refine lv_aload_n (pc := 0) F.1 F.2.1 dX7_thrown_0 rfl (lv_at hl 0 rfl) ?_
  refine mm_get (pc := 1) F hN (mm_r0 hM) (ci := 7) rfl 25 (by decide) mw_1204 rfl dX7_thrown_1 ?_
  exact mm_iret (pc := 4) F hr hN (⟨rfl, rfl⟩) (Nat.le_of_ble_eq_true rfl) (Nat.le_of_ble_eq_true rfl) dX7_thrown_4

set_option maxHeartbeats 4000000 in
set_option maxRecDepth 100000 in
theorem c_isAddr (l : Launch) (b : Nat) (D : mm_D) (hst : l.stackTraces = false) (T : mm_T) (th : Nat) (rd : Nat → Nat → Nat) (σ : mm_S) (hM : mm_M σ T th rd) (hW : mm_WF T) (a : Nat) (za : a < 2 ^ 32) : mm_K l b D yX7_isAddress (.code yX7_isAddress cX7_isAddress 2 (some .boolean)) ({ frames := 1, cells := 0, slots := 0, locals := 24 } : Room) [.ref ((rd 0 0)), .int (nI a)] σ
    (fun v σ2 => v = some (.int (nI (if a < T.nA ∧ T.go a = 0 then 1 else 0))) ∧ σ2 = σ)
    (fun _ _ => False) := by
  refine mm_of (cc := cX7_isAddress) (nL := 2) (ret := (some .boolean)) (by decide) rfl (Nat.le_of_ble_eq_true rfl) hst ?_
  intro p e s m args below meth c ls F ht hr hin hN hl
  have hl : lv_has ls 2 [(0, .ref ((rd 0 0))), (1, .int (nI a))] := hl
  have wnA := hW.hnA
  have wnP := hW.hnP
  have wnT := hW.hnT
  have wnR := hW.hnR
  have wpa := hW.hpa
  have wbo := hW.hbo
  have wen0 := hW.hen 0
  have wen1 := hW.hen 1
  refine lv_iload_n (pc := 0) F.1 F.2.1 dX7_isAddress_0 rfl (lv_at hl 1 rfl) ?_
  refine lv_iconst (pc := 1) (v := nI 0) F.1 F.2.1 dX7_isAddress_1 (by decide) ?_
  refine lv_aload_n (pc := 2) F.1 F.2.1 dX7_isAddress_2 rfl (lv_at hl 0 rfl) ?_
  refine mm_get (pc := 3) F hN (mm_r0 hM) (ci := 7) rfl 3 (by decide) mw_1182 rfl dX7_isAddress_3 ?_
  refine lv_iconst (pc := 6) (v := nI 1) F.1 F.2.1 dX7_isAddress_6 (by decide) ?_
  refine mm_isub (pc := 7) F (z := (nI T.nA) - (nI 1)) (rfl) dX7_isAddress_7 ?_
  refine mm_runS (pc := 8) (As := [.int (nI a), .int (nI 0), .int ((nI T.nA) - (nI 1))]) (rest := []) F hN (c_in l b D hst (nI a) (nI 0) ((nI T.nA) - (nI 1)) σ) mw_1268 mw_1269 mw_6 mw_1270 ⟨pmX7_in, (Nat.le_of_ble_eq_true rfl), (Nat.le_of_ble_eq_true rfl)⟩ hl.1 rfl (Nat.le_of_ble_eq_true rfl) ⟨(Nat.le_of_ble_eq_true rfl), (Nat.le_of_ble_eq_true rfl)⟩ dX7_isAddress_8
    (fun _ _ _ _ _ _ h9 => False.elim h9)
    (fun v9 σ9 H locs hp9 hN => ?_)
  obtain ⟨rfl, h9⟩ := hp9
  rw [h9] at hN
  refine W.eq (g2 := F0 m 11 ls [.int (nI (if nI 0 ≤ nI a ∧ nI a ≤ (nI T.nA) - (nI 1) then 1 else 0))]) rfl ?_
  refine W.widen (k := 0) (n := 0) (Nat.le_of_ble_eq_true rfl) (Nat.le_of_ble_eq_true rfl) ?_
  by_cases hi8 : a < T.nA
  ·
    refine W.eq (g2 := F0 m 11 ls [.int (nI 1)]) (by rw [if_pos ((mm_inN (a := a) (n := T.nA) (by omega) (by omega)).mpr hi8)]) ?_
    have wgo := (hW.had a hi8).2
    refine mm_if_eq (pc := 11) F (tgt := 27) (by omega) dX7_isAddress_11 (by decide) (fun h9 => absurd h9 (by decide)) (fun cz11 => ?_)
    refine lv_aload_n (pc := 14) F.1 F.2.1 dX7_isAddress_14 rfl (lv_at hl 0 rfl) ?_
    refine mm_get (pc := 15) F hN (mm_r0 hM) (ci := 7) rfl 2 (by decide) mw_1181 rfl dX7_isAddress_15 ?_
    refine lv_iload_n (pc := 18) F.1 F.2.1 dX7_isAddress_18 rfl (lv_at hl 1 rfl) ?_
    refine mm_zald (pc := 19) F hN ((show σ (rd 3 0) = mm_ari 1 4 12 (fun i => nI (T.go i)) from mm_r3 (T := T) hM)) (j := a) (rfl) (by omega) (by decide) dX7_isAddress_19 ?_
    refine mm_if_ne (pc := 20) F (tgt := 27) (by omega) dX7_isAddress_20 (by decide) (fun cz20 => ?_) (fun cz20 => ?_)
    ·
      refine lv_iconst (pc := 27) (v := nI 0) F.1 F.2.1 dX7_isAddress_27 (by decide) ?_
      exact mm_zret (pc := 28) F (ty := .boolean) hr hN (by decide) (⟨by rw [if_neg (fun q => cz20 q.2)], rfl⟩) (Nat.le_of_ble_eq_true rfl) (Nat.le_of_ble_eq_true rfl) dX7_isAddress_28
    ·
      refine lv_iconst (pc := 23) (v := nI 1) F.1 F.2.1 dX7_isAddress_23 (by decide) ?_
      refine lv_goto (pc := 24) (tgt := 28) F.1 F.2.1 dX7_isAddress_24 (by decide) ?_
      exact mm_zret (pc := 28) F (ty := .boolean) hr hN (by decide) (⟨by rw [if_pos ⟨hi8, cz20⟩], rfl⟩) (Nat.le_of_ble_eq_true rfl) (Nat.le_of_ble_eq_true rfl) dX7_isAddress_28
  ·
    refine W.eq (g2 := F0 m 11 ls [.int (nI 0)]) (by rw [if_neg (fun q => hi8 ((mm_inN (a := a) (n := T.nA) (by omega) (by omega)).mp q))]) ?_
    refine mm_if_eq (pc := 11) F (tgt := 27) (by omega) dX7_isAddress_11 (by decide) (fun cz11 => ?_) (fun h9 => absurd h9 (by decide))
    refine lv_iconst (pc := 27) (v := nI 0) F.1 F.2.1 dX7_isAddress_27 (by decide) ?_
    exact mm_zret (pc := 28) F (ty := .boolean) hr hN (by decide) (⟨by rw [if_neg (fun q => hi8 q.1)], rfl⟩) (Nat.le_of_ble_eq_true rfl) (Nat.le_of_ble_eq_true rfl) dX7_isAddress_28

set_option maxHeartbeats 4000000 in
set_option maxRecDepth 100000 in
theorem c_isPerson (l : Launch) (b : Nat) (D : mm_D) (hst : l.stackTraces = false) (T : mm_T) (th : Nat) (rd : Nat → Nat → Nat) (σ : mm_S) (hM : mm_M σ T th rd) (hW : mm_WF T) (a : Nat) (za : a < 2 ^ 32) : mm_K l b D yX7_isPerson (.code yX7_isPerson cX7_isPerson 2 (some .boolean)) ({ frames := 1, cells := 0, slots := 0, locals := 24 } : Room) [.ref ((rd 0 0)), .int (nI a)] σ
    (fun v σ2 => v = some (.int (nI (if a < T.nP then 1 else 0))) ∧ σ2 = σ)
    (fun _ _ => False) := by
  refine mm_of (cc := cX7_isPerson) (nL := 2) (ret := (some .boolean)) (by decide) rfl (Nat.le_of_ble_eq_true rfl) hst ?_
  intro p e s m args below meth c ls F ht hr hin hN hl
  have hl : lv_has ls 2 [(0, .ref ((rd 0 0))), (1, .int (nI a))] := hl
  have wnA := hW.hnA
  have wnP := hW.hnP
  have wnT := hW.hnT
  have wnR := hW.hnR
  have wpa := hW.hpa
  have wbo := hW.hbo
  have wen0 := hW.hen 0
  have wen1 := hW.hen 1
  refine lv_iload_n (pc := 0) F.1 F.2.1 dX7_isPerson_0 rfl (lv_at hl 1 rfl) ?_
  refine lv_iconst (pc := 1) (v := nI 0) F.1 F.2.1 dX7_isPerson_1 (by decide) ?_
  refine lv_aload_n (pc := 2) F.1 F.2.1 dX7_isPerson_2 rfl (lv_at hl 0 rfl) ?_
  refine mm_get (pc := 3) F hN (mm_r0 hM) (ci := 7) rfl 7 (by decide) mw_1186 rfl dX7_isPerson_3 ?_
  refine lv_iconst (pc := 6) (v := nI 1) F.1 F.2.1 dX7_isPerson_6 (by decide) ?_
  refine mm_isub (pc := 7) F (z := (nI T.nP) - (nI 1)) (rfl) dX7_isPerson_7 ?_
  refine mm_runS (pc := 8) (As := [.int (nI a), .int (nI 0), .int ((nI T.nP) - (nI 1))]) (rest := []) F hN (c_in l b D hst (nI a) (nI 0) ((nI T.nP) - (nI 1)) σ) mw_1268 mw_1269 mw_6 mw_1270 ⟨pmX7_in, (Nat.le_of_ble_eq_true rfl), (Nat.le_of_ble_eq_true rfl)⟩ hl.1 rfl (Nat.le_of_ble_eq_true rfl) ⟨(Nat.le_of_ble_eq_true rfl), (Nat.le_of_ble_eq_true rfl)⟩ dX7_isPerson_8
    (fun _ _ _ _ _ _ h9 => False.elim h9)
    (fun v9 σ9 H locs hp9 hN => ?_)
  obtain ⟨rfl, h9⟩ := hp9
  rw [h9] at hN
  refine W.eq (g2 := F0 m 11 ls [.int (nI (if nI 0 ≤ nI a ∧ nI a ≤ (nI T.nP) - (nI 1) then 1 else 0))]) rfl ?_
  refine W.widen (k := 0) (n := 0) (Nat.le_of_ble_eq_true rfl) (Nat.le_of_ble_eq_true rfl) ?_
  by_cases hi8 : a < T.nP
  ·
    refine W.eq (g2 := F0 m 11 ls [.int (nI 1)]) (by rw [if_pos ((mm_inN (a := a) (n := T.nP) (by omega) (by omega)).mpr hi8)]) ?_
    exact mm_zret (pc := 11) F (ty := .boolean) hr hN (by decide) (⟨by rw [if_pos hi8], rfl⟩) (Nat.le_of_ble_eq_true rfl) (Nat.le_of_ble_eq_true rfl) dX7_isPerson_11
  ·
    refine W.eq (g2 := F0 m 11 ls [.int (nI 0)]) (by rw [if_neg (fun q => hi8 ((mm_inN (a := a) (n := T.nP) (by omega) (by omega)).mp q))]) ?_
    exact mm_zret (pc := 11) F (ty := .boolean) hr hN (by decide) (⟨by rw [if_neg hi8], rfl⟩) (Nat.le_of_ble_eq_true rfl) (Nat.le_of_ble_eq_true rfl) dX7_isPerson_11

set_option maxHeartbeats 4000000 in
set_option maxRecDepth 100000 in
theorem c_isTpl (l : Launch) (b : Nat) (D : mm_D) (hst : l.stackTraces = false) (T : mm_T) (th : Nat) (rd : Nat → Nat → Nat) (σ : mm_S) (hM : mm_M σ T th rd) (hW : mm_WF T) (a : Nat) (za : a < 2 ^ 32) : mm_K l b D yX7_isTemplate (.code yX7_isTemplate cX7_isTemplate 2 (some .boolean)) ({ frames := 1, cells := 0, slots := 0, locals := 24 } : Room) [.ref ((rd 0 0)), .int (nI a)] σ
    (fun v σ2 => v = some (.int (nI (if a < T.nT then 1 else 0))) ∧ σ2 = σ)
    (fun _ _ => False) := by
  refine mm_of (cc := cX7_isTemplate) (nL := 2) (ret := (some .boolean)) (by decide) rfl (Nat.le_of_ble_eq_true rfl) hst ?_
  intro p e s m args below meth c ls F ht hr hin hN hl
  have hl : lv_has ls 2 [(0, .ref ((rd 0 0))), (1, .int (nI a))] := hl
  have wnA := hW.hnA
  have wnP := hW.hnP
  have wnT := hW.hnT
  have wnR := hW.hnR
  have wpa := hW.hpa
  have wbo := hW.hbo
  have wen0 := hW.hen 0
  have wen1 := hW.hen 1
  refine lv_iload_n (pc := 0) F.1 F.2.1 dX7_isTemplate_0 rfl (lv_at hl 1 rfl) ?_
  refine lv_iconst (pc := 1) (v := nI 0) F.1 F.2.1 dX7_isTemplate_1 (by decide) ?_
  refine lv_aload_n (pc := 2) F.1 F.2.1 dX7_isTemplate_2 rfl (lv_at hl 0 rfl) ?_
  refine mm_get (pc := 3) F hN (mm_r0 hM) (ci := 7) rfl 13 (by decide) mw_1192 rfl dX7_isTemplate_3 ?_
  refine lv_iconst (pc := 6) (v := nI 1) F.1 F.2.1 dX7_isTemplate_6 (by decide) ?_
  refine mm_isub (pc := 7) F (z := (nI T.nT) - (nI 1)) (rfl) dX7_isTemplate_7 ?_
  refine mm_runS (pc := 8) (As := [.int (nI a), .int (nI 0), .int ((nI T.nT) - (nI 1))]) (rest := []) F hN (c_in l b D hst (nI a) (nI 0) ((nI T.nT) - (nI 1)) σ) mw_1268 mw_1269 mw_6 mw_1270 ⟨pmX7_in, (Nat.le_of_ble_eq_true rfl), (Nat.le_of_ble_eq_true rfl)⟩ hl.1 rfl (Nat.le_of_ble_eq_true rfl) ⟨(Nat.le_of_ble_eq_true rfl), (Nat.le_of_ble_eq_true rfl)⟩ dX7_isTemplate_8
    (fun _ _ _ _ _ _ h9 => False.elim h9)
    (fun v9 σ9 H locs hp9 hN => ?_)
  obtain ⟨rfl, h9⟩ := hp9
  rw [h9] at hN
  refine W.eq (g2 := F0 m 11 ls [.int (nI (if nI 0 ≤ nI a ∧ nI a ≤ (nI T.nT) - (nI 1) then 1 else 0))]) rfl ?_
  refine W.widen (k := 0) (n := 0) (Nat.le_of_ble_eq_true rfl) (Nat.le_of_ble_eq_true rfl) ?_
  by_cases hi8 : a < T.nT
  ·
    refine W.eq (g2 := F0 m 11 ls [.int (nI 1)]) (by rw [if_pos ((mm_inN (a := a) (n := T.nT) (by omega) (by omega)).mpr hi8)]) ?_
    exact mm_zret (pc := 11) F (ty := .boolean) hr hN (by decide) (⟨by rw [if_pos hi8], rfl⟩) (Nat.le_of_ble_eq_true rfl) (Nat.le_of_ble_eq_true rfl) dX7_isTemplate_11
  ·
    refine W.eq (g2 := F0 m 11 ls [.int (nI 0)]) (by rw [if_neg (fun q => hi8 ((mm_inN (a := a) (n := T.nT) (by omega) (by omega)).mp q))]) ?_
    exact mm_zret (pc := 11) F (ty := .boolean) hr hN (by decide) (⟨by rw [if_neg hi8], rfl⟩) (Nat.le_of_ble_eq_true rfl) (Nat.le_of_ble_eq_true rfl) dX7_isTemplate_11

set_option maxHeartbeats 4000000 in
set_option maxRecDepth 100000 in
theorem c_isRun (l : Launch) (b : Nat) (D : mm_D) (hst : l.stackTraces = false) (T : mm_T) (th : Nat) (rd : Nat → Nat → Nat) (σ : mm_S) (hM : mm_M σ T th rd) (hW : mm_WF T) (a : Nat) (za : a < 2 ^ 32) : mm_K l b D yX7_isRun (.code yX7_isRun cX7_isRun 2 (some .boolean)) ({ frames := 1, cells := 0, slots := 0, locals := 24 } : Room) [.ref ((rd 0 0)), .int (nI a)] σ
    (fun v σ2 => v = some (.int (nI (if a < T.nR then 1 else 0))) ∧ σ2 = σ)
    (fun _ _ => False) := by
  refine mm_of (cc := cX7_isRun) (nL := 2) (ret := (some .boolean)) (by decide) rfl (Nat.le_of_ble_eq_true rfl) hst ?_
  intro p e s m args below meth c ls F ht hr hin hN hl
  have hl : lv_has ls 2 [(0, .ref ((rd 0 0))), (1, .int (nI a))] := hl
  have wnA := hW.hnA
  have wnP := hW.hnP
  have wnT := hW.hnT
  have wnR := hW.hnR
  have wpa := hW.hpa
  have wbo := hW.hbo
  have wen0 := hW.hen 0
  have wen1 := hW.hen 1
  refine lv_iload_n (pc := 0) F.1 F.2.1 dX7_isRun_0 rfl (lv_at hl 1 rfl) ?_
  refine lv_iconst (pc := 1) (v := nI 0) F.1 F.2.1 dX7_isRun_1 (by decide) ?_
  refine lv_aload_n (pc := 2) F.1 F.2.1 dX7_isRun_2 rfl (lv_at hl 0 rfl) ?_
  refine mm_get (pc := 3) F hN (mm_r0 hM) (ci := 7) rfl 24 (by decide) mw_1203 rfl dX7_isRun_3 ?_
  refine lv_iconst (pc := 6) (v := nI 1) F.1 F.2.1 dX7_isRun_6 (by decide) ?_
  refine mm_isub (pc := 7) F (z := (nI T.nR) - (nI 1)) (rfl) dX7_isRun_7 ?_
  refine mm_runS (pc := 8) (As := [.int (nI a), .int (nI 0), .int ((nI T.nR) - (nI 1))]) (rest := []) F hN (c_in l b D hst (nI a) (nI 0) ((nI T.nR) - (nI 1)) σ) mw_1268 mw_1269 mw_6 mw_1270 ⟨pmX7_in, (Nat.le_of_ble_eq_true rfl), (Nat.le_of_ble_eq_true rfl)⟩ hl.1 rfl (Nat.le_of_ble_eq_true rfl) ⟨(Nat.le_of_ble_eq_true rfl), (Nat.le_of_ble_eq_true rfl)⟩ dX7_isRun_8
    (fun _ _ _ _ _ _ h9 => False.elim h9)
    (fun v9 σ9 H locs hp9 hN => ?_)
  obtain ⟨rfl, h9⟩ := hp9
  rw [h9] at hN
  refine W.eq (g2 := F0 m 11 ls [.int (nI (if nI 0 ≤ nI a ∧ nI a ≤ (nI T.nR) - (nI 1) then 1 else 0))]) rfl ?_
  refine W.widen (k := 0) (n := 0) (Nat.le_of_ble_eq_true rfl) (Nat.le_of_ble_eq_true rfl) ?_
  by_cases hi8 : a < T.nR
  ·
    refine W.eq (g2 := F0 m 11 ls [.int (nI 1)]) (by rw [if_pos ((mm_inN (a := a) (n := T.nR) (by omega) (by omega)).mpr hi8)]) ?_
    exact mm_zret (pc := 11) F (ty := .boolean) hr hN (by decide) (⟨by rw [if_pos hi8], rfl⟩) (Nat.le_of_ble_eq_true rfl) (Nat.le_of_ble_eq_true rfl) dX7_isRun_11
  ·
    refine W.eq (g2 := F0 m 11 ls [.int (nI 0)]) (by rw [if_neg (fun q => hi8 ((mm_inN (a := a) (n := T.nR) (by omega) (by omega)).mp q))]) ?_
    exact mm_zret (pc := 11) F (ty := .boolean) hr hN (by decide) (⟨by rw [if_neg hi8], rfl⟩) (Nat.le_of_ble_eq_true rfl) (Nat.le_of_ble_eq_true rfl) dX7_isRun_11

set_option maxHeartbeats 4000000 in
set_option maxRecDepth 100000 in
theorem r_addressOf (l : Launch) (b : Nat) (D : mm_D) (hst : l.stackTraces = false) (T : mm_T) (th : Nat) (rd : Nat → Nat → Nat) (σ : mm_S) (hM : mm_M σ T th rd) (hW : mm_WF T) (i : Nat) (zi : i < 2 ^ 32) : mm_K l b D yX7_addressOf (.code yX7_addressOf cX7_addressOf 2 (some .int)) ({ frames := 6, cells := 0, slots := 0, locals := 160 } : Room) [.ref ((rd 0 0)), .int (nI i)] σ
    (fun v σ2 => mm_Mt rd σ σ2 T (T) (mm_q_addressOf T i) v (some (.int (nI (T.ho i)))))
    (fun _ _ => False) := by
  refine mm_of (cc := cX7_addressOf) (nL := 2) (ret := (some .int)) (by decide) rfl (Nat.le_of_ble_eq_true rfl) hst ?_
  intro p e s m args below meth c ls F ht hr hin hN hl
  have hl : lv_has ls 2 [(0, .ref ((rd 0 0))), (1, .int (nI i))] := hl
  have wnA := hW.hnA
  have wnP := hW.hnP
  have wnT := hW.hnT
  have wnR := hW.hnR
  have wpa := hW.hpa
  have wbo := hW.hbo
  have wen0 := hW.hen 0
  have wen1 := hW.hen 1
  refine lv_aload_n (pc := 0) F.1 F.2.1 dX7_addressOf_0 rfl (lv_at hl 0 rfl) ?_
  refine lv_aload_n (pc := 1) F.1 F.2.1 dX7_addressOf_1 rfl (lv_at hl 0 rfl) ?_
  refine lv_iload_n (pc := 2) F.1 F.2.1 dX7_addressOf_2 rfl (lv_at hl 1 rfl) ?_
  refine mm_runV (pc := 3) (As := [.int (nI i)]) (rest := [.ref ((rd 0 0))]) F hN (c_isPerson l b D hst T th rd σ hM hW i (by omega)) mw_1287 mw_1289 mw_p25 mw_6 mw_1290 ⟨pmX7_isPerson, (Nat.le_of_ble_eq_true rfl), (Nat.le_of_ble_eq_true rfl)⟩ (mm_recv F.2.2.2.2.2.1 hN (mm_r0 hM) rfl) hl.1 rfl (Nat.le_of_ble_eq_true rfl) ⟨(Nat.le_of_ble_eq_true rfl), (Nat.le_of_ble_eq_true rfl)⟩ dX7_addressOf_3
    (fun _ _ _ _ _ _ h9 => False.elim h9)
    (fun v9 σ9 H locs hp9 hN => ?_)
  obtain ⟨rfl, h9⟩ := hp9
  rw [h9] at hN
  refine W.eq (g2 := F0 m 6 ls [.int (nI (if i < T.nP then 1 else 0)), .ref ((rd 0 0))]) rfl ?_
  refine W.widen (k := 0) (n := 0) (Nat.le_of_ble_eq_true rfl) (Nat.le_of_ble_eq_true rfl) ?_
  by_cases hpi : i < T.nP
  ·
    refine W.eq (g2 := F0 m 6 ls [.int (nI 1), .ref ((rd 0 0))]) (by rw [if_pos hpi]) ?_
    obtain ⟨whoi, wfli, wrei⟩ := hW.hpe i hpi
    refine mm_if_eq (pc := 6) F (tgt := 13) (by omega) dX7_addressOf_6 (by decide) (fun h9 => absurd h9 (by decide)) (fun cz6 => ?_)
    refine lv_iconst (pc := 9) (v := nI 0) F.1 F.2.1 dX7_addressOf_9 (by decide) ?_
    refine lv_goto (pc := 10) (tgt := 14) F.1 F.2.1 dX7_addressOf_10 (by decide) ?_
    refine mm_put (pc := 14) F hN (mm_r0 hM) (ci := 7) rfl 25 (by decide) mw_1204 rfl (ty := .int) (by decide +kernel) (rfl) (rfl) (Nat.le_of_ble_eq_true rfl) dX7_addressOf_14 (fun H locs hN => ?_)
    have hN : mm_N b D s (mm_u σ ((rd 0 0)) (mm_obj 1 7 [.ref ((rd 1 0)), .ref ((rd 2 0)), .ref ((rd 3 0)), .int (nI T.nA), .ref ((rd 4 0)), .ref ((rd 5 0)), .ref ((rd 6 0)), .int (nI T.nP), .ref ((rd 7 0)), .ref ((rd 8 0)), .ref ((rd 9 0)), .ref ((rd 10 0)), .ref ((rd 11 0)), .int (nI T.nT), .int (nI T.pa), .ref ((rd 12 0)), .int (nI T.bo), .ref ((rd 13 0)), .ref ((rd 14 0)), .ref ((rd 15 0)), .ref ((rd 16 0)), .ref ((rd 17 0)), .ref ((rd 18 0)), .ref ((rd 19 0)), .int (nI T.nR), .int (nI 0)])) _ _ := hN
    obtain ⟨σ2, eσ2⟩ : ∃ q, q = mm_u σ ((rd 0 0)) (mm_obj 1 7 [.ref ((rd 1 0)), .ref ((rd 2 0)), .ref ((rd 3 0)), .int (nI T.nA), .ref ((rd 4 0)), .ref ((rd 5 0)), .ref ((rd 6 0)), .int (nI T.nP), .ref ((rd 7 0)), .ref ((rd 8 0)), .ref ((rd 9 0)), .ref ((rd 10 0)), .ref ((rd 11 0)), .int (nI T.nT), .int (nI T.pa), .ref ((rd 12 0)), .int (nI T.bo), .ref ((rd 13 0)), .ref ((rd 14 0)), .ref ((rd 15 0)), .ref ((rd 16 0)), .ref ((rd 17 0)), .ref ((rd 18 0)), .ref ((rd 19 0)), .int (nI T.nR), .int (nI 0)]) := ⟨_, rfl⟩
    rw [← eσ2] at hN
    have hM2 : mm_M σ2 T 0 rd := by rw [eσ2]; exact mm_Mo hM (fun _ _ => rfl) rfl
    have hF2 : mm_Fr 1 σ σ2 := by rw [eσ2]; exact (mm_Fr.rf).tr (mm_Fr.u (mm_r0 hM))
    refine lv_aload_n (pc := 17) F.1 F.2.1 dX7_addressOf_17 rfl (lv_at hl 0 rfl) ?_
    refine mm_get (pc := 18) F hN ((show σ2 (rd 0 0) = mm_obj 1 7 [.ref ((rd 1 0)), .ref ((rd 2 0)), .ref ((rd 3 0)), .int (nI T.nA), .ref ((rd 4 0)), .ref ((rd 5 0)), .ref ((rd 6 0)), .int (nI T.nP), .ref ((rd 7 0)), .ref ((rd 8 0)), .ref ((rd 9 0)), .ref ((rd 10 0)), .ref ((rd 11 0)), .int (nI T.nT), .int (nI T.pa), .ref ((rd 12 0)), .int (nI T.bo), .ref ((rd 13 0)), .ref ((rd 14 0)), .ref ((rd 15 0)), .ref ((rd 16 0)), .ref ((rd 17 0)), .ref ((rd 18 0)), .ref ((rd 19 0)), .int (nI T.nR), .int (nI 0)] from mm_r0 (T := T) hM2)) (ci := 7) rfl 25 (by decide) mw_1204 rfl dX7_addressOf_18 ?_
    refine mm_if_le (pc := 21) F (tgt := 28) (by omega) dX7_addressOf_21 (by decide) (fun cz21 => ?_) (fun h9 => absurd h9 (by decide))
    refine lv_aload_n (pc := 28) F.1 F.2.1 dX7_addressOf_28 rfl (lv_at hl 0 rfl) ?_
    refine mm_get (pc := 29) F hN ((show σ2 (rd 0 0) = mm_obj 1 7 [.ref ((rd 1 0)), .ref ((rd 2 0)), .ref ((rd 3 0)), .int (nI T.nA), .ref ((rd 4 0)), .ref ((rd 5 0)), .ref ((rd 6 0)), .int (nI T.nP), .ref ((rd 7 0)), .ref ((rd 8 0)), .ref ((rd 9 0)), .ref ((rd 10 0)), .ref ((rd 11 0)), .int (nI T.nT), .int (nI T.pa), .ref ((rd 12 0)), .int (nI T.bo), .ref ((rd 13 0)), .ref ((rd 14 0)), .ref ((rd 15 0)), .ref ((rd 16 0)), .ref ((rd 17 0)), .ref ((rd 18 0)), .ref ((rd 19 0)), .int (nI T.nR), .int (nI 0)] from mm_r0 (T := T) hM2)) (ci := 7) rfl 4 (by decide) mw_1183 rfl dX7_addressOf_29 ?_
    refine lv_iload_n (pc := 32) F.1 F.2.1 dX7_addressOf_32 rfl (lv_at hl 1 rfl) ?_
    refine mm_iald (pc := 33) F hN ((show σ2 (rd 4 0) = mm_ari 1 0 24 (fun i => nI (T.ho i)) from mm_r4 (T := T) hM2)) (j := i) (rfl) (by omega) (by decide) dX7_addressOf_33 ?_
    exact mm_iret (pc := 34) F hr hN (Or.inl ⟨by show mm_q_addressOf T i = 0; unfold mm_q_addressOf; (repeat' split) <;> omega, rfl, hM2, hF2⟩) (Nat.le_of_ble_eq_true rfl) (Nat.le_of_ble_eq_true rfl) dX7_addressOf_34
  ·
    refine W.eq (g2 := F0 m 6 ls [.int (nI 0), .ref ((rd 0 0))]) (by rw [if_neg hpi]) ?_
    refine mm_if_eq (pc := 6) F (tgt := 13) (by omega) dX7_addressOf_6 (by decide) (fun cz6 => ?_) (fun h9 => absurd h9 (by decide))
    refine lv_iconst (pc := 13) (v := nI 1) F.1 F.2.1 dX7_addressOf_13 (by decide) ?_
    refine mm_put (pc := 14) F hN (mm_r0 hM) (ci := 7) rfl 25 (by decide) mw_1204 rfl (ty := .int) (by decide +kernel) (rfl) (rfl) (Nat.le_of_ble_eq_true rfl) dX7_addressOf_14 (fun H locs hN => ?_)
    have hN : mm_N b D s (mm_u σ ((rd 0 0)) (mm_obj 1 7 [.ref ((rd 1 0)), .ref ((rd 2 0)), .ref ((rd 3 0)), .int (nI T.nA), .ref ((rd 4 0)), .ref ((rd 5 0)), .ref ((rd 6 0)), .int (nI T.nP), .ref ((rd 7 0)), .ref ((rd 8 0)), .ref ((rd 9 0)), .ref ((rd 10 0)), .ref ((rd 11 0)), .int (nI T.nT), .int (nI T.pa), .ref ((rd 12 0)), .int (nI T.bo), .ref ((rd 13 0)), .ref ((rd 14 0)), .ref ((rd 15 0)), .ref ((rd 16 0)), .ref ((rd 17 0)), .ref ((rd 18 0)), .ref ((rd 19 0)), .int (nI T.nR), .int (nI 1)])) _ _ := hN
    obtain ⟨σ3, eσ3⟩ : ∃ q, q = mm_u σ ((rd 0 0)) (mm_obj 1 7 [.ref ((rd 1 0)), .ref ((rd 2 0)), .ref ((rd 3 0)), .int (nI T.nA), .ref ((rd 4 0)), .ref ((rd 5 0)), .ref ((rd 6 0)), .int (nI T.nP), .ref ((rd 7 0)), .ref ((rd 8 0)), .ref ((rd 9 0)), .ref ((rd 10 0)), .ref ((rd 11 0)), .int (nI T.nT), .int (nI T.pa), .ref ((rd 12 0)), .int (nI T.bo), .ref ((rd 13 0)), .ref ((rd 14 0)), .ref ((rd 15 0)), .ref ((rd 16 0)), .ref ((rd 17 0)), .ref ((rd 18 0)), .ref ((rd 19 0)), .int (nI T.nR), .int (nI 1)]) := ⟨_, rfl⟩
    rw [← eσ3] at hN
    have hM3 : mm_M σ3 T 1 rd := by rw [eσ3]; exact mm_Mo hM (fun _ _ => rfl) rfl
    have hF3 : mm_Fr 1 σ σ3 := by rw [eσ3]; exact (mm_Fr.rf).tr (mm_Fr.u (mm_r0 hM))
    refine lv_aload_n (pc := 17) F.1 F.2.1 dX7_addressOf_17 rfl (lv_at hl 0 rfl) ?_
    refine mm_get (pc := 18) F hN ((show σ3 (rd 0 0) = mm_obj 1 7 [.ref ((rd 1 0)), .ref ((rd 2 0)), .ref ((rd 3 0)), .int (nI T.nA), .ref ((rd 4 0)), .ref ((rd 5 0)), .ref ((rd 6 0)), .int (nI T.nP), .ref ((rd 7 0)), .ref ((rd 8 0)), .ref ((rd 9 0)), .ref ((rd 10 0)), .ref ((rd 11 0)), .int (nI T.nT), .int (nI T.pa), .ref ((rd 12 0)), .int (nI T.bo), .ref ((rd 13 0)), .ref ((rd 14 0)), .ref ((rd 15 0)), .ref ((rd 16 0)), .ref ((rd 17 0)), .ref ((rd 18 0)), .ref ((rd 19 0)), .int (nI T.nR), .int (nI 1)] from mm_r0 (T := T) hM3)) (ci := 7) rfl 25 (by decide) mw_1204 rfl dX7_addressOf_18 ?_
    refine mm_if_le (pc := 21) F (tgt := 28) (by omega) dX7_addressOf_21 (by decide) (fun h9 => absurd h9 (by decide)) (fun cz21 => ?_)
    refine lv_iconst (pc := 24) (v := nI 0) F.1 F.2.1 dX7_addressOf_24 (by decide) ?_
    refine lv_goto (pc := 25) (tgt := 34) F.1 F.2.1 dX7_addressOf_25 (by decide) ?_
    exact mm_iret (pc := 34) F hr hN (Or.inr ⟨by rw [show mm_q_addressOf T i = 1 from by show mm_q_addressOf T i = 1; unfold mm_q_addressOf; (repeat' split) <;> omega]; decide, ⟨_, rfl⟩, by rw [show mm_q_addressOf T i = 1 from by show mm_q_addressOf T i = 1; unfold mm_q_addressOf; (repeat' split) <;> omega]; exact hM3, hF3⟩) (Nat.le_of_ble_eq_true rfl) (Nat.le_of_ble_eq_true rfl) dX7_addressOf_34

set_option maxHeartbeats 4000000 in
set_option maxRecDepth 100000 in
theorem r_reasonOf (l : Launch) (b : Nat) (D : mm_D) (hst : l.stackTraces = false) (T : mm_T) (th : Nat) (rd : Nat → Nat → Nat) (σ : mm_S) (hM : mm_M σ T th rd) (hW : mm_WF T) (i : Nat) (zi : i < 2 ^ 32) : mm_K l b D yX7_reasonOf (.code yX7_reasonOf cX7_reasonOf 2 (some .char)) ({ frames := 6, cells := 0, slots := 0, locals := 160 } : Room) [.ref ((rd 0 0)), .int (nI i)] σ
    (fun v σ2 => mm_Mt rd σ σ2 T (T) (mm_q_reasonOf T i) v (some (.int (nI (T.re i)))))
    (fun _ _ => False) := by
  refine mm_of (cc := cX7_reasonOf) (nL := 2) (ret := (some .char)) (by decide) rfl (Nat.le_of_ble_eq_true rfl) hst ?_
  intro p e s m args below meth c ls F ht hr hin hN hl
  have hl : lv_has ls 2 [(0, .ref ((rd 0 0))), (1, .int (nI i))] := hl
  have wnA := hW.hnA
  have wnP := hW.hnP
  have wnT := hW.hnT
  have wnR := hW.hnR
  have wpa := hW.hpa
  have wbo := hW.hbo
  have wen0 := hW.hen 0
  have wen1 := hW.hen 1
  refine lv_aload_n (pc := 0) F.1 F.2.1 dX7_reasonOf_0 rfl (lv_at hl 0 rfl) ?_
  refine lv_aload_n (pc := 1) F.1 F.2.1 dX7_reasonOf_1 rfl (lv_at hl 0 rfl) ?_
  refine lv_iload_n (pc := 2) F.1 F.2.1 dX7_reasonOf_2 rfl (lv_at hl 1 rfl) ?_
  refine mm_runV (pc := 3) (As := [.int (nI i)]) (rest := [.ref ((rd 0 0))]) F hN (c_isPerson l b D hst T th rd σ hM hW i (by omega)) mw_1287 mw_1289 mw_p25 mw_6 mw_1290 ⟨pmX7_isPerson, (Nat.le_of_ble_eq_true rfl), (Nat.le_of_ble_eq_true rfl)⟩ (mm_recv F.2.2.2.2.2.1 hN (mm_r0 hM) rfl) hl.1 rfl (Nat.le_of_ble_eq_true rfl) ⟨(Nat.le_of_ble_eq_true rfl), (Nat.le_of_ble_eq_true rfl)⟩ dX7_reasonOf_3
    (fun _ _ _ _ _ _ h9 => False.elim h9)
    (fun v9 σ9 H locs hp9 hN => ?_)
  obtain ⟨rfl, h9⟩ := hp9
  rw [h9] at hN
  refine W.eq (g2 := F0 m 6 ls [.int (nI (if i < T.nP then 1 else 0)), .ref ((rd 0 0))]) rfl ?_
  refine W.widen (k := 0) (n := 0) (Nat.le_of_ble_eq_true rfl) (Nat.le_of_ble_eq_true rfl) ?_
  by_cases hpi : i < T.nP
  ·
    refine W.eq (g2 := F0 m 6 ls [.int (nI 1), .ref ((rd 0 0))]) (by rw [if_pos hpi]) ?_
    obtain ⟨whoi, wfli, wrei⟩ := hW.hpe i hpi
    refine mm_if_eq (pc := 6) F (tgt := 13) (by omega) dX7_reasonOf_6 (by decide) (fun h9 => absurd h9 (by decide)) (fun cz6 => ?_)
    refine lv_iconst (pc := 9) (v := nI 0) F.1 F.2.1 dX7_reasonOf_9 (by decide) ?_
    refine lv_goto (pc := 10) (tgt := 14) F.1 F.2.1 dX7_reasonOf_10 (by decide) ?_
    refine mm_put (pc := 14) F hN (mm_r0 hM) (ci := 7) rfl 25 (by decide) mw_1204 rfl (ty := .int) (by decide +kernel) (rfl) (rfl) (Nat.le_of_ble_eq_true rfl) dX7_reasonOf_14 (fun H locs hN => ?_)
    have hN : mm_N b D s (mm_u σ ((rd 0 0)) (mm_obj 1 7 [.ref ((rd 1 0)), .ref ((rd 2 0)), .ref ((rd 3 0)), .int (nI T.nA), .ref ((rd 4 0)), .ref ((rd 5 0)), .ref ((rd 6 0)), .int (nI T.nP), .ref ((rd 7 0)), .ref ((rd 8 0)), .ref ((rd 9 0)), .ref ((rd 10 0)), .ref ((rd 11 0)), .int (nI T.nT), .int (nI T.pa), .ref ((rd 12 0)), .int (nI T.bo), .ref ((rd 13 0)), .ref ((rd 14 0)), .ref ((rd 15 0)), .ref ((rd 16 0)), .ref ((rd 17 0)), .ref ((rd 18 0)), .ref ((rd 19 0)), .int (nI T.nR), .int (nI 0)])) _ _ := hN
    obtain ⟨σ2, eσ2⟩ : ∃ q, q = mm_u σ ((rd 0 0)) (mm_obj 1 7 [.ref ((rd 1 0)), .ref ((rd 2 0)), .ref ((rd 3 0)), .int (nI T.nA), .ref ((rd 4 0)), .ref ((rd 5 0)), .ref ((rd 6 0)), .int (nI T.nP), .ref ((rd 7 0)), .ref ((rd 8 0)), .ref ((rd 9 0)), .ref ((rd 10 0)), .ref ((rd 11 0)), .int (nI T.nT), .int (nI T.pa), .ref ((rd 12 0)), .int (nI T.bo), .ref ((rd 13 0)), .ref ((rd 14 0)), .ref ((rd 15 0)), .ref ((rd 16 0)), .ref ((rd 17 0)), .ref ((rd 18 0)), .ref ((rd 19 0)), .int (nI T.nR), .int (nI 0)]) := ⟨_, rfl⟩
    rw [← eσ2] at hN
    have hM2 : mm_M σ2 T 0 rd := by rw [eσ2]; exact mm_Mo hM (fun _ _ => rfl) rfl
    have hF2 : mm_Fr 1 σ σ2 := by rw [eσ2]; exact (mm_Fr.rf).tr (mm_Fr.u (mm_r0 hM))
    refine lv_aload_n (pc := 17) F.1 F.2.1 dX7_reasonOf_17 rfl (lv_at hl 0 rfl) ?_
    refine mm_get (pc := 18) F hN ((show σ2 (rd 0 0) = mm_obj 1 7 [.ref ((rd 1 0)), .ref ((rd 2 0)), .ref ((rd 3 0)), .int (nI T.nA), .ref ((rd 4 0)), .ref ((rd 5 0)), .ref ((rd 6 0)), .int (nI T.nP), .ref ((rd 7 0)), .ref ((rd 8 0)), .ref ((rd 9 0)), .ref ((rd 10 0)), .ref ((rd 11 0)), .int (nI T.nT), .int (nI T.pa), .ref ((rd 12 0)), .int (nI T.bo), .ref ((rd 13 0)), .ref ((rd 14 0)), .ref ((rd 15 0)), .ref ((rd 16 0)), .ref ((rd 17 0)), .ref ((rd 18 0)), .ref ((rd 19 0)), .int (nI T.nR), .int (nI 0)] from mm_r0 (T := T) hM2)) (ci := 7) rfl 25 (by decide) mw_1204 rfl dX7_reasonOf_18 ?_
    refine mm_if_le (pc := 21) F (tgt := 29) (by omega) dX7_reasonOf_21 (by decide) (fun cz21 => ?_) (fun h9 => absurd h9 (by decide))
    refine lv_aload_n (pc := 29) F.1 F.2.1 dX7_reasonOf_29 rfl (lv_at hl 0 rfl) ?_
    refine mm_get (pc := 30) F hN ((show σ2 (rd 0 0) = mm_obj 1 7 [.ref ((rd 1 0)), .ref ((rd 2 0)), .ref ((rd 3 0)), .int (nI T.nA), .ref ((rd 4 0)), .ref ((rd 5 0)), .ref ((rd 6 0)), .int (nI T.nP), .ref ((rd 7 0)), .ref ((rd 8 0)), .ref ((rd 9 0)), .ref ((rd 10 0)), .ref ((rd 11 0)), .int (nI T.nT), .int (nI T.pa), .ref ((rd 12 0)), .int (nI T.bo), .ref ((rd 13 0)), .ref ((rd 14 0)), .ref ((rd 15 0)), .ref ((rd 16 0)), .ref ((rd 17 0)), .ref ((rd 18 0)), .ref ((rd 19 0)), .int (nI T.nR), .int (nI 0)] from mm_r0 (T := T) hM2)) (ci := 7) rfl 6 (by decide) mw_1185 rfl dX7_reasonOf_30 ?_
    refine lv_iload_n (pc := 33) F.1 F.2.1 dX7_reasonOf_33 rfl (lv_at hl 1 rfl) ?_
    refine mm_cald (pc := 34) F hN ((show σ2 (rd 6 0) = mm_ari 1 3 24 (fun i => nI (T.re i)) from mm_r6 (T := T) hM2)) (j := i) (rfl) (by omega) (by decide) dX7_reasonOf_34 ?_
    exact mm_zret (pc := 35) F (ty := .char) hr hN (mm_narC wrei) (Or.inl ⟨by show mm_q_reasonOf T i = 0; unfold mm_q_reasonOf; (repeat' split) <;> omega, rfl, hM2, hF2⟩) (Nat.le_of_ble_eq_true rfl) (Nat.le_of_ble_eq_true rfl) dX7_reasonOf_35
  ·
    refine W.eq (g2 := F0 m 6 ls [.int (nI 0), .ref ((rd 0 0))]) (by rw [if_neg hpi]) ?_
    refine mm_if_eq (pc := 6) F (tgt := 13) (by omega) dX7_reasonOf_6 (by decide) (fun cz6 => ?_) (fun h9 => absurd h9 (by decide))
    refine lv_iconst (pc := 13) (v := nI 1) F.1 F.2.1 dX7_reasonOf_13 (by decide) ?_
    refine mm_put (pc := 14) F hN (mm_r0 hM) (ci := 7) rfl 25 (by decide) mw_1204 rfl (ty := .int) (by decide +kernel) (rfl) (rfl) (Nat.le_of_ble_eq_true rfl) dX7_reasonOf_14 (fun H locs hN => ?_)
    have hN : mm_N b D s (mm_u σ ((rd 0 0)) (mm_obj 1 7 [.ref ((rd 1 0)), .ref ((rd 2 0)), .ref ((rd 3 0)), .int (nI T.nA), .ref ((rd 4 0)), .ref ((rd 5 0)), .ref ((rd 6 0)), .int (nI T.nP), .ref ((rd 7 0)), .ref ((rd 8 0)), .ref ((rd 9 0)), .ref ((rd 10 0)), .ref ((rd 11 0)), .int (nI T.nT), .int (nI T.pa), .ref ((rd 12 0)), .int (nI T.bo), .ref ((rd 13 0)), .ref ((rd 14 0)), .ref ((rd 15 0)), .ref ((rd 16 0)), .ref ((rd 17 0)), .ref ((rd 18 0)), .ref ((rd 19 0)), .int (nI T.nR), .int (nI 1)])) _ _ := hN
    obtain ⟨σ3, eσ3⟩ : ∃ q, q = mm_u σ ((rd 0 0)) (mm_obj 1 7 [.ref ((rd 1 0)), .ref ((rd 2 0)), .ref ((rd 3 0)), .int (nI T.nA), .ref ((rd 4 0)), .ref ((rd 5 0)), .ref ((rd 6 0)), .int (nI T.nP), .ref ((rd 7 0)), .ref ((rd 8 0)), .ref ((rd 9 0)), .ref ((rd 10 0)), .ref ((rd 11 0)), .int (nI T.nT), .int (nI T.pa), .ref ((rd 12 0)), .int (nI T.bo), .ref ((rd 13 0)), .ref ((rd 14 0)), .ref ((rd 15 0)), .ref ((rd 16 0)), .ref ((rd 17 0)), .ref ((rd 18 0)), .ref ((rd 19 0)), .int (nI T.nR), .int (nI 1)]) := ⟨_, rfl⟩
    rw [← eσ3] at hN
    have hM3 : mm_M σ3 T 1 rd := by rw [eσ3]; exact mm_Mo hM (fun _ _ => rfl) rfl
    have hF3 : mm_Fr 1 σ σ3 := by rw [eσ3]; exact (mm_Fr.rf).tr (mm_Fr.u (mm_r0 hM))
    refine lv_aload_n (pc := 17) F.1 F.2.1 dX7_reasonOf_17 rfl (lv_at hl 0 rfl) ?_
    refine mm_get (pc := 18) F hN ((show σ3 (rd 0 0) = mm_obj 1 7 [.ref ((rd 1 0)), .ref ((rd 2 0)), .ref ((rd 3 0)), .int (nI T.nA), .ref ((rd 4 0)), .ref ((rd 5 0)), .ref ((rd 6 0)), .int (nI T.nP), .ref ((rd 7 0)), .ref ((rd 8 0)), .ref ((rd 9 0)), .ref ((rd 10 0)), .ref ((rd 11 0)), .int (nI T.nT), .int (nI T.pa), .ref ((rd 12 0)), .int (nI T.bo), .ref ((rd 13 0)), .ref ((rd 14 0)), .ref ((rd 15 0)), .ref ((rd 16 0)), .ref ((rd 17 0)), .ref ((rd 18 0)), .ref ((rd 19 0)), .int (nI T.nR), .int (nI 1)] from mm_r0 (T := T) hM3)) (ci := 7) rfl 25 (by decide) mw_1204 rfl dX7_reasonOf_18 ?_
    refine mm_if_le (pc := 21) F (tgt := 29) (by omega) dX7_reasonOf_21 (by decide) (fun h9 => absurd h9 (by decide)) (fun cz21 => ?_)
    refine lv_bipush (pc := 24) (v := nI 45) F.1 F.2.1 dX7_reasonOf_24 (by decide) ?_
    refine lv_goto (pc := 26) (tgt := 35) F.1 F.2.1 dX7_reasonOf_26 (by decide) ?_
    exact mm_zret (pc := 35) F (ty := .char) hr hN (by decide) (Or.inr ⟨by rw [show mm_q_reasonOf T i = 1 from by show mm_q_reasonOf T i = 1; unfold mm_q_reasonOf; (repeat' split) <;> omega]; decide, ⟨_, rfl⟩, by rw [show mm_q_reasonOf T i = 1 from by show mm_q_reasonOf T i = 1; unfold mm_q_reasonOf; (repeat' split) <;> omega]; exact hM3, hF3⟩) (Nat.le_of_ble_eq_true rfl) (Nat.le_of_ble_eq_true rfl) dX7_reasonOf_35

set_option maxHeartbeats 4000000 in
set_option maxRecDepth 100000 in
theorem r_strikes (l : Launch) (b : Nat) (D : mm_D) (hst : l.stackTraces = false) (T : mm_T) (th : Nat) (rd : Nat → Nat → Nat) (σ : mm_S) (hM : mm_M σ T th rd) (hW : mm_WF T) (a : Nat) (za : a < 2 ^ 32) : mm_K l b D yX7_strikes (.code yX7_strikes cX7_strikes 2 (some .int)) ({ frames := 6, cells := 0, slots := 0, locals := 160 } : Room) [.ref ((rd 0 0)), .int (nI a)] σ
    (fun v σ2 => mm_Mt rd σ σ2 T (T) (mm_q_strikes T a) v (some (.int (nI (T.sk a)))))
    (fun _ _ => False) := by
  refine mm_of (cc := cX7_strikes) (nL := 2) (ret := (some .int)) (by decide) rfl (Nat.le_of_ble_eq_true rfl) hst ?_
  intro p e s m args below meth c ls F ht hr hin hN hl
  have hl : lv_has ls 2 [(0, .ref ((rd 0 0))), (1, .int (nI a))] := hl
  have wnA := hW.hnA
  have wnP := hW.hnP
  have wnT := hW.hnT
  have wnR := hW.hnR
  have wpa := hW.hpa
  have wbo := hW.hbo
  have wen0 := hW.hen 0
  have wen1 := hW.hen 1
  refine lv_aload_n (pc := 0) F.1 F.2.1 dX7_strikes_0 rfl (lv_at hl 0 rfl) ?_
  refine lv_aload_n (pc := 1) F.1 F.2.1 dX7_strikes_1 rfl (lv_at hl 0 rfl) ?_
  refine lv_iload_n (pc := 2) F.1 F.2.1 dX7_strikes_2 rfl (lv_at hl 1 rfl) ?_
  refine mm_runV (pc := 3) (As := [.int (nI a)]) (rest := [.ref ((rd 0 0))]) F hN (c_isAddr l b D hst T th rd σ hM hW a (by omega)) mw_1275 mw_1277 mw_p24 mw_6 mw_1278 ⟨pmX7_isAddress, (Nat.le_of_ble_eq_true rfl), (Nat.le_of_ble_eq_true rfl)⟩ (mm_recv F.2.2.2.2.2.1 hN (mm_r0 hM) rfl) hl.1 rfl (Nat.le_of_ble_eq_true rfl) ⟨(Nat.le_of_ble_eq_true rfl), (Nat.le_of_ble_eq_true rfl)⟩ dX7_strikes_3
    (fun _ _ _ _ _ _ h9 => False.elim h9)
    (fun v9 σ9 H locs hp9 hN => ?_)
  obtain ⟨rfl, h9⟩ := hp9
  rw [h9] at hN
  refine W.eq (g2 := F0 m 6 ls [.int (nI (if a < T.nA ∧ T.go a = 0 then 1 else 0)), .ref ((rd 0 0))]) rfl ?_
  refine W.widen (k := 0) (n := 0) (Nat.le_of_ble_eq_true rfl) (Nat.le_of_ble_eq_true rfl) ?_
  by_cases haa : a < T.nA ∧ T.go a = 0
  ·
    refine W.eq (g2 := F0 m 6 ls [.int (nI 1), .ref ((rd 0 0))]) (by rw [if_pos haa]) ?_
    refine mm_if_eq (pc := 6) F (tgt := 13) (by omega) dX7_strikes_6 (by decide) (fun h9 => absurd h9 (by decide)) (fun cz6 => ?_)
    refine lv_iconst (pc := 9) (v := nI 0) F.1 F.2.1 dX7_strikes_9 (by decide) ?_
    refine lv_goto (pc := 10) (tgt := 14) F.1 F.2.1 dX7_strikes_10 (by decide) ?_
    refine mm_put (pc := 14) F hN (mm_r0 hM) (ci := 7) rfl 25 (by decide) mw_1204 rfl (ty := .int) (by decide +kernel) (rfl) (rfl) (Nat.le_of_ble_eq_true rfl) dX7_strikes_14 (fun H locs hN => ?_)
    have hN : mm_N b D s (mm_u σ ((rd 0 0)) (mm_obj 1 7 [.ref ((rd 1 0)), .ref ((rd 2 0)), .ref ((rd 3 0)), .int (nI T.nA), .ref ((rd 4 0)), .ref ((rd 5 0)), .ref ((rd 6 0)), .int (nI T.nP), .ref ((rd 7 0)), .ref ((rd 8 0)), .ref ((rd 9 0)), .ref ((rd 10 0)), .ref ((rd 11 0)), .int (nI T.nT), .int (nI T.pa), .ref ((rd 12 0)), .int (nI T.bo), .ref ((rd 13 0)), .ref ((rd 14 0)), .ref ((rd 15 0)), .ref ((rd 16 0)), .ref ((rd 17 0)), .ref ((rd 18 0)), .ref ((rd 19 0)), .int (nI T.nR), .int (nI 0)])) _ _ := hN
    obtain ⟨σ2, eσ2⟩ : ∃ q, q = mm_u σ ((rd 0 0)) (mm_obj 1 7 [.ref ((rd 1 0)), .ref ((rd 2 0)), .ref ((rd 3 0)), .int (nI T.nA), .ref ((rd 4 0)), .ref ((rd 5 0)), .ref ((rd 6 0)), .int (nI T.nP), .ref ((rd 7 0)), .ref ((rd 8 0)), .ref ((rd 9 0)), .ref ((rd 10 0)), .ref ((rd 11 0)), .int (nI T.nT), .int (nI T.pa), .ref ((rd 12 0)), .int (nI T.bo), .ref ((rd 13 0)), .ref ((rd 14 0)), .ref ((rd 15 0)), .ref ((rd 16 0)), .ref ((rd 17 0)), .ref ((rd 18 0)), .ref ((rd 19 0)), .int (nI T.nR), .int (nI 0)]) := ⟨_, rfl⟩
    rw [← eσ2] at hN
    have hM2 : mm_M σ2 T 0 rd := by rw [eσ2]; exact mm_Mo hM (fun _ _ => rfl) rfl
    have hF2 : mm_Fr 1 σ σ2 := by rw [eσ2]; exact (mm_Fr.rf).tr (mm_Fr.u (mm_r0 hM))
    refine lv_aload_n (pc := 17) F.1 F.2.1 dX7_strikes_17 rfl (lv_at hl 0 rfl) ?_
    refine mm_get (pc := 18) F hN ((show σ2 (rd 0 0) = mm_obj 1 7 [.ref ((rd 1 0)), .ref ((rd 2 0)), .ref ((rd 3 0)), .int (nI T.nA), .ref ((rd 4 0)), .ref ((rd 5 0)), .ref ((rd 6 0)), .int (nI T.nP), .ref ((rd 7 0)), .ref ((rd 8 0)), .ref ((rd 9 0)), .ref ((rd 10 0)), .ref ((rd 11 0)), .int (nI T.nT), .int (nI T.pa), .ref ((rd 12 0)), .int (nI T.bo), .ref ((rd 13 0)), .ref ((rd 14 0)), .ref ((rd 15 0)), .ref ((rd 16 0)), .ref ((rd 17 0)), .ref ((rd 18 0)), .ref ((rd 19 0)), .int (nI T.nR), .int (nI 0)] from mm_r0 (T := T) hM2)) (ci := 7) rfl 25 (by decide) mw_1204 rfl dX7_strikes_18 ?_
    refine mm_if_le (pc := 21) F (tgt := 28) (by omega) dX7_strikes_21 (by decide) (fun cz21 => ?_) (fun h9 => absurd h9 (by decide))
    refine lv_aload_n (pc := 28) F.1 F.2.1 dX7_strikes_28 rfl (lv_at hl 0 rfl) ?_
    refine mm_get (pc := 29) F hN ((show σ2 (rd 0 0) = mm_obj 1 7 [.ref ((rd 1 0)), .ref ((rd 2 0)), .ref ((rd 3 0)), .int (nI T.nA), .ref ((rd 4 0)), .ref ((rd 5 0)), .ref ((rd 6 0)), .int (nI T.nP), .ref ((rd 7 0)), .ref ((rd 8 0)), .ref ((rd 9 0)), .ref ((rd 10 0)), .ref ((rd 11 0)), .int (nI T.nT), .int (nI T.pa), .ref ((rd 12 0)), .int (nI T.bo), .ref ((rd 13 0)), .ref ((rd 14 0)), .ref ((rd 15 0)), .ref ((rd 16 0)), .ref ((rd 17 0)), .ref ((rd 18 0)), .ref ((rd 19 0)), .int (nI T.nR), .int (nI 0)] from mm_r0 (T := T) hM2)) (ci := 7) rfl 1 (by decide) mw_1180 rfl dX7_strikes_29 ?_
    refine lv_iload_n (pc := 32) F.1 F.2.1 dX7_strikes_32 rfl (lv_at hl 1 rfl) ?_
    refine mm_iald (pc := 33) F hN ((show σ2 (rd 2 0) = mm_ari 1 0 12 (fun i => nI (T.sk i)) from mm_r2 (T := T) hM2)) (j := a) (rfl) (by omega) (by decide) dX7_strikes_33 ?_
    exact mm_iret (pc := 34) F hr hN (Or.inl ⟨by show mm_q_strikes T a = 0; unfold mm_q_strikes; (repeat' split) <;> omega, rfl, hM2, hF2⟩) (Nat.le_of_ble_eq_true rfl) (Nat.le_of_ble_eq_true rfl) dX7_strikes_34
  ·
    refine W.eq (g2 := F0 m 6 ls [.int (nI 0), .ref ((rd 0 0))]) (by rw [if_neg haa]) ?_
    refine mm_if_eq (pc := 6) F (tgt := 13) (by omega) dX7_strikes_6 (by decide) (fun cz6 => ?_) (fun h9 => absurd h9 (by decide))
    refine lv_iconst (pc := 13) (v := nI 1) F.1 F.2.1 dX7_strikes_13 (by decide) ?_
    refine mm_put (pc := 14) F hN (mm_r0 hM) (ci := 7) rfl 25 (by decide) mw_1204 rfl (ty := .int) (by decide +kernel) (rfl) (rfl) (Nat.le_of_ble_eq_true rfl) dX7_strikes_14 (fun H locs hN => ?_)
    have hN : mm_N b D s (mm_u σ ((rd 0 0)) (mm_obj 1 7 [.ref ((rd 1 0)), .ref ((rd 2 0)), .ref ((rd 3 0)), .int (nI T.nA), .ref ((rd 4 0)), .ref ((rd 5 0)), .ref ((rd 6 0)), .int (nI T.nP), .ref ((rd 7 0)), .ref ((rd 8 0)), .ref ((rd 9 0)), .ref ((rd 10 0)), .ref ((rd 11 0)), .int (nI T.nT), .int (nI T.pa), .ref ((rd 12 0)), .int (nI T.bo), .ref ((rd 13 0)), .ref ((rd 14 0)), .ref ((rd 15 0)), .ref ((rd 16 0)), .ref ((rd 17 0)), .ref ((rd 18 0)), .ref ((rd 19 0)), .int (nI T.nR), .int (nI 1)])) _ _ := hN
    obtain ⟨σ3, eσ3⟩ : ∃ q, q = mm_u σ ((rd 0 0)) (mm_obj 1 7 [.ref ((rd 1 0)), .ref ((rd 2 0)), .ref ((rd 3 0)), .int (nI T.nA), .ref ((rd 4 0)), .ref ((rd 5 0)), .ref ((rd 6 0)), .int (nI T.nP), .ref ((rd 7 0)), .ref ((rd 8 0)), .ref ((rd 9 0)), .ref ((rd 10 0)), .ref ((rd 11 0)), .int (nI T.nT), .int (nI T.pa), .ref ((rd 12 0)), .int (nI T.bo), .ref ((rd 13 0)), .ref ((rd 14 0)), .ref ((rd 15 0)), .ref ((rd 16 0)), .ref ((rd 17 0)), .ref ((rd 18 0)), .ref ((rd 19 0)), .int (nI T.nR), .int (nI 1)]) := ⟨_, rfl⟩
    rw [← eσ3] at hN
    have hM3 : mm_M σ3 T 1 rd := by rw [eσ3]; exact mm_Mo hM (fun _ _ => rfl) rfl
    have hF3 : mm_Fr 1 σ σ3 := by rw [eσ3]; exact (mm_Fr.rf).tr (mm_Fr.u (mm_r0 hM))
    refine lv_aload_n (pc := 17) F.1 F.2.1 dX7_strikes_17 rfl (lv_at hl 0 rfl) ?_
    refine mm_get (pc := 18) F hN ((show σ3 (rd 0 0) = mm_obj 1 7 [.ref ((rd 1 0)), .ref ((rd 2 0)), .ref ((rd 3 0)), .int (nI T.nA), .ref ((rd 4 0)), .ref ((rd 5 0)), .ref ((rd 6 0)), .int (nI T.nP), .ref ((rd 7 0)), .ref ((rd 8 0)), .ref ((rd 9 0)), .ref ((rd 10 0)), .ref ((rd 11 0)), .int (nI T.nT), .int (nI T.pa), .ref ((rd 12 0)), .int (nI T.bo), .ref ((rd 13 0)), .ref ((rd 14 0)), .ref ((rd 15 0)), .ref ((rd 16 0)), .ref ((rd 17 0)), .ref ((rd 18 0)), .ref ((rd 19 0)), .int (nI T.nR), .int (nI 1)] from mm_r0 (T := T) hM3)) (ci := 7) rfl 25 (by decide) mw_1204 rfl dX7_strikes_18 ?_
    refine mm_if_le (pc := 21) F (tgt := 28) (by omega) dX7_strikes_21 (by decide) (fun h9 => absurd h9 (by decide)) (fun cz21 => ?_)
    refine lv_iconst (pc := 24) (v := nI 0) F.1 F.2.1 dX7_strikes_24 (by decide) ?_
    refine lv_goto (pc := 25) (tgt := 34) F.1 F.2.1 dX7_strikes_25 (by decide) ?_
    exact mm_iret (pc := 34) F hr hN (Or.inr ⟨by rw [show mm_q_strikes T a = 1 from by show mm_q_strikes T a = 1; unfold mm_q_strikes; (repeat' split) <;> omega]; decide, ⟨_, rfl⟩, by rw [show mm_q_strikes T a = 1 from by show mm_q_strikes T a = 1; unfold mm_q_strikes; (repeat' split) <;> omega]; exact hM3, hF3⟩) (Nat.le_of_ble_eq_true rfl) (Nat.le_of_ble_eq_true rfl) dX7_strikes_34

set_option maxHeartbeats 4000000 in
set_option maxRecDepth 100000 in
theorem r_paper (l : Launch) (b : Nat) (D : mm_D) (hst : l.stackTraces = false) (T : mm_T) (th : Nat) (rd : Nat → Nat → Nat) (σ : mm_S) (hM : mm_M σ T th rd) (hW : mm_WF T) : mm_K l b D yX7_paper (.code yX7_paper cX7_paper 1 (some .int)) ({ frames := 6, cells := 0, slots := 0, locals := 160 } : Room) [.ref ((rd 0 0))] σ
    (fun v σ2 => mm_Mt rd σ σ2 T (T) (mm_q_paper T) v (some (.int (nI (T.pa)))))
    (fun _ _ => False) := by
  refine mm_of (cc := cX7_paper) (nL := 1) (ret := (some .int)) (by decide) rfl (Nat.le_of_ble_eq_true rfl) hst ?_
  intro p e s m args below meth c ls F ht hr hin hN hl
  have hl : lv_has ls 1 [(0, .ref ((rd 0 0)))] := hl
  have wnA := hW.hnA
  have wnP := hW.hnP
  have wnT := hW.hnT
  have wnR := hW.hnR
  have wpa := hW.hpa
  have wbo := hW.hbo
  have wen0 := hW.hen 0
  have wen1 := hW.hen 1
  refine lv_aload_n (pc := 0) F.1 F.2.1 dX7_paper_0 rfl (lv_at hl 0 rfl) ?_
  refine lv_iconst (pc := 1) (v := nI 0) F.1 F.2.1 dX7_paper_1 (by decide) ?_
  refine mm_put (pc := 2) F hN (mm_r0 hM) (ci := 7) rfl 25 (by decide) mw_1204 rfl (ty := .int) (by decide +kernel) (rfl) (rfl) (Nat.le_of_ble_eq_true rfl) dX7_paper_2 (fun H locs hN => ?_)
  have hN : mm_N b D s (mm_u σ ((rd 0 0)) (mm_obj 1 7 [.ref ((rd 1 0)), .ref ((rd 2 0)), .ref ((rd 3 0)), .int (nI T.nA), .ref ((rd 4 0)), .ref ((rd 5 0)), .ref ((rd 6 0)), .int (nI T.nP), .ref ((rd 7 0)), .ref ((rd 8 0)), .ref ((rd 9 0)), .ref ((rd 10 0)), .ref ((rd 11 0)), .int (nI T.nT), .int (nI T.pa), .ref ((rd 12 0)), .int (nI T.bo), .ref ((rd 13 0)), .ref ((rd 14 0)), .ref ((rd 15 0)), .ref ((rd 16 0)), .ref ((rd 17 0)), .ref ((rd 18 0)), .ref ((rd 19 0)), .int (nI T.nR), .int (nI 0)])) _ _ := hN
  obtain ⟨σ2, eσ2⟩ : ∃ q, q = mm_u σ ((rd 0 0)) (mm_obj 1 7 [.ref ((rd 1 0)), .ref ((rd 2 0)), .ref ((rd 3 0)), .int (nI T.nA), .ref ((rd 4 0)), .ref ((rd 5 0)), .ref ((rd 6 0)), .int (nI T.nP), .ref ((rd 7 0)), .ref ((rd 8 0)), .ref ((rd 9 0)), .ref ((rd 10 0)), .ref ((rd 11 0)), .int (nI T.nT), .int (nI T.pa), .ref ((rd 12 0)), .int (nI T.bo), .ref ((rd 13 0)), .ref ((rd 14 0)), .ref ((rd 15 0)), .ref ((rd 16 0)), .ref ((rd 17 0)), .ref ((rd 18 0)), .ref ((rd 19 0)), .int (nI T.nR), .int (nI 0)]) := ⟨_, rfl⟩
  rw [← eσ2] at hN
  have hM2 : mm_M σ2 T 0 rd := by rw [eσ2]; exact mm_Mo hM (fun _ _ => rfl) rfl
  have hF2 : mm_Fr 1 σ σ2 := by rw [eσ2]; exact (mm_Fr.rf).tr (mm_Fr.u (mm_r0 hM))
  refine lv_aload_n (pc := 5) F.1 F.2.1 dX7_paper_5 rfl (lv_at hl 0 rfl) ?_
  refine mm_get (pc := 6) F hN ((show σ2 (rd 0 0) = mm_obj 1 7 [.ref ((rd 1 0)), .ref ((rd 2 0)), .ref ((rd 3 0)), .int (nI T.nA), .ref ((rd 4 0)), .ref ((rd 5 0)), .ref ((rd 6 0)), .int (nI T.nP), .ref ((rd 7 0)), .ref ((rd 8 0)), .ref ((rd 9 0)), .ref ((rd 10 0)), .ref ((rd 11 0)), .int (nI T.nT), .int (nI T.pa), .ref ((rd 12 0)), .int (nI T.bo), .ref ((rd 13 0)), .ref ((rd 14 0)), .ref ((rd 15 0)), .ref ((rd 16 0)), .ref ((rd 17 0)), .ref ((rd 18 0)), .ref ((rd 19 0)), .int (nI T.nR), .int (nI 0)] from mm_r0 (T := T) hM2)) (ci := 7) rfl 14 (by decide) mw_1193 rfl dX7_paper_6 ?_
  exact mm_iret (pc := 9) F hr hN (Or.inl ⟨by show mm_q_paper T = 0; unfold mm_q_paper; (repeat' split) <;> omega, rfl, hM2, hF2⟩) (Nat.le_of_ble_eq_true rfl) (Nat.le_of_ble_eq_true rfl) dX7_paper_9

set_option maxHeartbeats 4000000 in
set_option maxRecDepth 100000 in
theorem r_envelopes (l : Launch) (b : Nat) (D : mm_D) (hst : l.stackTraces = false) (T : mm_T) (th : Nat) (rd : Nat → Nat → Nat) (σ : mm_S) (hM : mm_M σ T th rd) (hW : mm_WF T) (q : Nat) (zq : q < 2) : mm_K l b D yX7_envelopes (.code yX7_envelopes cX7_envelopes 2 (some .int)) ({ frames := 6, cells := 0, slots := 0, locals := 160 } : Room) [.ref ((rd 0 0)), .int (nI q)] σ
    (fun v σ2 => mm_Mt rd σ σ2 T (T) (mm_q_envelopes T q) v (some (.int (nI (T.en q)))))
    (fun _ _ => False) := by
  refine mm_of (cc := cX7_envelopes) (nL := 2) (ret := (some .int)) (by decide) rfl (Nat.le_of_ble_eq_true rfl) hst ?_
  intro p e s m args below meth c ls F ht hr hin hN hl
  have hl : lv_has ls 2 [(0, .ref ((rd 0 0))), (1, .int (nI q))] := hl
  have wnA := hW.hnA
  have wnP := hW.hnP
  have wnT := hW.hnT
  have wnR := hW.hnR
  have wpa := hW.hpa
  have wbo := hW.hbo
  have wen0 := hW.hen 0
  have wen1 := hW.hen 1
  refine lv_aload_n (pc := 0) F.1 F.2.1 dX7_envelopes_0 rfl (lv_at hl 0 rfl) ?_
  refine lv_iconst (pc := 1) (v := nI 0) F.1 F.2.1 dX7_envelopes_1 (by decide) ?_
  refine mm_put (pc := 2) F hN (mm_r0 hM) (ci := 7) rfl 25 (by decide) mw_1204 rfl (ty := .int) (by decide +kernel) (rfl) (rfl) (Nat.le_of_ble_eq_true rfl) dX7_envelopes_2 (fun H locs hN => ?_)
  have hN : mm_N b D s (mm_u σ ((rd 0 0)) (mm_obj 1 7 [.ref ((rd 1 0)), .ref ((rd 2 0)), .ref ((rd 3 0)), .int (nI T.nA), .ref ((rd 4 0)), .ref ((rd 5 0)), .ref ((rd 6 0)), .int (nI T.nP), .ref ((rd 7 0)), .ref ((rd 8 0)), .ref ((rd 9 0)), .ref ((rd 10 0)), .ref ((rd 11 0)), .int (nI T.nT), .int (nI T.pa), .ref ((rd 12 0)), .int (nI T.bo), .ref ((rd 13 0)), .ref ((rd 14 0)), .ref ((rd 15 0)), .ref ((rd 16 0)), .ref ((rd 17 0)), .ref ((rd 18 0)), .ref ((rd 19 0)), .int (nI T.nR), .int (nI 0)])) _ _ := hN
  obtain ⟨σ2, eσ2⟩ : ∃ q, q = mm_u σ ((rd 0 0)) (mm_obj 1 7 [.ref ((rd 1 0)), .ref ((rd 2 0)), .ref ((rd 3 0)), .int (nI T.nA), .ref ((rd 4 0)), .ref ((rd 5 0)), .ref ((rd 6 0)), .int (nI T.nP), .ref ((rd 7 0)), .ref ((rd 8 0)), .ref ((rd 9 0)), .ref ((rd 10 0)), .ref ((rd 11 0)), .int (nI T.nT), .int (nI T.pa), .ref ((rd 12 0)), .int (nI T.bo), .ref ((rd 13 0)), .ref ((rd 14 0)), .ref ((rd 15 0)), .ref ((rd 16 0)), .ref ((rd 17 0)), .ref ((rd 18 0)), .ref ((rd 19 0)), .int (nI T.nR), .int (nI 0)]) := ⟨_, rfl⟩
  rw [← eσ2] at hN
  have hM2 : mm_M σ2 T 0 rd := by rw [eσ2]; exact mm_Mo hM (fun _ _ => rfl) rfl
  have hF2 : mm_Fr 1 σ σ2 := by rw [eσ2]; exact (mm_Fr.rf).tr (mm_Fr.u (mm_r0 hM))
  refine lv_aload_n (pc := 5) F.1 F.2.1 dX7_envelopes_5 rfl (lv_at hl 0 rfl) ?_
  refine mm_get (pc := 6) F hN ((show σ2 (rd 0 0) = mm_obj 1 7 [.ref ((rd 1 0)), .ref ((rd 2 0)), .ref ((rd 3 0)), .int (nI T.nA), .ref ((rd 4 0)), .ref ((rd 5 0)), .ref ((rd 6 0)), .int (nI T.nP), .ref ((rd 7 0)), .ref ((rd 8 0)), .ref ((rd 9 0)), .ref ((rd 10 0)), .ref ((rd 11 0)), .int (nI T.nT), .int (nI T.pa), .ref ((rd 12 0)), .int (nI T.bo), .ref ((rd 13 0)), .ref ((rd 14 0)), .ref ((rd 15 0)), .ref ((rd 16 0)), .ref ((rd 17 0)), .ref ((rd 18 0)), .ref ((rd 19 0)), .int (nI T.nR), .int (nI 0)] from mm_r0 (T := T) hM2)) (ci := 7) rfl 15 (by decide) mw_1194 rfl dX7_envelopes_6 ?_
  refine lv_iload_n (pc := 9) F.1 F.2.1 dX7_envelopes_9 rfl (lv_at hl 1 rfl) ?_
  refine mm_if_eq (pc := 10) F (tgt := 17) (by omega) dX7_envelopes_10 (by decide) (fun cz10 => ?_) (fun cz10 => ?_)
  ·
    refine lv_iconst (pc := 17) (v := nI 0) F.1 F.2.1 dX7_envelopes_17 (by decide) ?_
    refine mm_iald (pc := 18) F hN ((show σ2 (rd 12 0) = mm_ari 1 0 2 (fun i => nI (T.en i)) from mm_r12 (T := T) hM2)) (j := 0) (rfl) (by omega) (by decide) dX7_envelopes_18 ?_
    exact mm_iret (pc := 19) F hr hN (Or.inl ⟨by show mm_q_envelopes T q = 0; unfold mm_q_envelopes; (repeat' split) <;> omega, by rw [show q = 0 by omega], hM2, hF2⟩) (Nat.le_of_ble_eq_true rfl) (Nat.le_of_ble_eq_true rfl) dX7_envelopes_19
  ·
    refine lv_iconst (pc := 13) (v := nI 1) F.1 F.2.1 dX7_envelopes_13 (by decide) ?_
    refine lv_goto (pc := 14) (tgt := 18) F.1 F.2.1 dX7_envelopes_14 (by decide) ?_
    refine mm_iald (pc := 18) F hN ((show σ2 (rd 12 0) = mm_ari 1 0 2 (fun i => nI (T.en i)) from mm_r12 (T := T) hM2)) (j := 1) (rfl) (by omega) (by decide) dX7_envelopes_18 ?_
    exact mm_iret (pc := 19) F hr hN (Or.inl ⟨by show mm_q_envelopes T q = 0; unfold mm_q_envelopes; (repeat' split) <;> omega, by rw [show q = 1 by omega], hM2, hF2⟩) (Nat.le_of_ble_eq_true rfl) (Nat.le_of_ble_eq_true rfl) dX7_envelopes_19

set_option maxHeartbeats 4000000 in
set_option maxRecDepth 100000 in
theorem r_isSound (l : Launch) (b : Nat) (D : mm_D) (hst : l.stackTraces = false) (T : mm_T) (th : Nat) (rd : Nat → Nat → Nat) (σ : mm_S) (hM : mm_M σ T th rd) (hW : mm_WF T) : mm_K l b D yX7_isSound (.code yX7_isSound cX7_isSound 1 (some .boolean)) ({ frames := 6, cells := 0, slots := 0, locals := 160 } : Room) [.ref ((rd 0 0))] σ
    (fun v σ2 => mm_Mt rd σ σ2 T (T) (mm_q_isSound T) v (some (.int (nI (1)))))
    (fun _ _ => False) := by
  refine mm_of (cc := cX7_isSound) (nL := 1) (ret := (some .boolean)) (by decide) rfl (Nat.le_of_ble_eq_true rfl) hst ?_
  intro p e s m args below meth c ls F ht hr hin hN hl
  have hl : lv_has ls 1 [(0, .ref ((rd 0 0)))] := hl
  have wnA := hW.hnA
  have wnP := hW.hnP
  have wnT := hW.hnT
  have wnR := hW.hnR
  have wpa := hW.hpa
  have wbo := hW.hbo
  have wen0 := hW.hen 0
  have wen1 := hW.hen 1
  refine lv_aload_n (pc := 0) F.1 F.2.1 dX7_isSound_0 rfl (lv_at hl 0 rfl) ?_
  refine lv_iconst (pc := 1) (v := nI 0) F.1 F.2.1 dX7_isSound_1 (by decide) ?_
  refine mm_put (pc := 2) F hN (mm_r0 hM) (ci := 7) rfl 25 (by decide) mw_1204 rfl (ty := .int) (by decide +kernel) (rfl) (rfl) (Nat.le_of_ble_eq_true rfl) dX7_isSound_2 (fun H locs hN => ?_)
  have hN : mm_N b D s (mm_u σ ((rd 0 0)) (mm_obj 1 7 [.ref ((rd 1 0)), .ref ((rd 2 0)), .ref ((rd 3 0)), .int (nI T.nA), .ref ((rd 4 0)), .ref ((rd 5 0)), .ref ((rd 6 0)), .int (nI T.nP), .ref ((rd 7 0)), .ref ((rd 8 0)), .ref ((rd 9 0)), .ref ((rd 10 0)), .ref ((rd 11 0)), .int (nI T.nT), .int (nI T.pa), .ref ((rd 12 0)), .int (nI T.bo), .ref ((rd 13 0)), .ref ((rd 14 0)), .ref ((rd 15 0)), .ref ((rd 16 0)), .ref ((rd 17 0)), .ref ((rd 18 0)), .ref ((rd 19 0)), .int (nI T.nR), .int (nI 0)])) _ _ := hN
  obtain ⟨σ2, eσ2⟩ : ∃ q, q = mm_u σ ((rd 0 0)) (mm_obj 1 7 [.ref ((rd 1 0)), .ref ((rd 2 0)), .ref ((rd 3 0)), .int (nI T.nA), .ref ((rd 4 0)), .ref ((rd 5 0)), .ref ((rd 6 0)), .int (nI T.nP), .ref ((rd 7 0)), .ref ((rd 8 0)), .ref ((rd 9 0)), .ref ((rd 10 0)), .ref ((rd 11 0)), .int (nI T.nT), .int (nI T.pa), .ref ((rd 12 0)), .int (nI T.bo), .ref ((rd 13 0)), .ref ((rd 14 0)), .ref ((rd 15 0)), .ref ((rd 16 0)), .ref ((rd 17 0)), .ref ((rd 18 0)), .ref ((rd 19 0)), .int (nI T.nR), .int (nI 0)]) := ⟨_, rfl⟩
  rw [← eσ2] at hN
  have hM2 : mm_M σ2 T 0 rd := by rw [eσ2]; exact mm_Mo hM (fun _ _ => rfl) rfl
  have hF2 : mm_Fr 1 σ σ2 := by rw [eσ2]; exact (mm_Fr.rf).tr (mm_Fr.u (mm_r0 hM))
  refine lv_iconst (pc := 5) (v := nI 1) F.1 F.2.1 dX7_isSound_5 (by decide) ?_
  exact mm_zret (pc := 6) F (ty := .boolean) hr hN (by decide) (Or.inl ⟨by show mm_q_isSound T = 0; unfold mm_q_isSound; (repeat' split) <;> omega, rfl, hM2, hF2⟩) (Nat.le_of_ble_eq_true rfl) (Nat.le_of_ble_eq_true rfl) dX7_isSound_6

set_option maxHeartbeats 4000000 in
set_option maxRecDepth 100000 in
theorem r_addAddress (l : Launch) (b : Nat) (D : mm_D) (hst : l.stackTraces = false) (T : mm_T) (th : Nat) (rd : Nat → Nat → Nat) (σ : mm_S) (hM : mm_M σ T th rd) (hW : mm_WF T) (n : Nat) (zn : n < 2 ^ 32) : mm_K l b D yX7_addAddress (.code yX7_addAddress cX7_addAddress 2 (some .int)) ({ frames := 6, cells := 0, slots := 0, locals := 160 } : Room) [.ref ((rd 0 0)), .int (nI n)] σ
    (fun v σ2 => mm_Mt rd σ σ2 T (mm_t_addAddress T n) (mm_q_addAddress T n) v (some (.int (nI (T.nA)))))
    (fun _ _ => False) := by
  refine mm_of (cc := cX7_addAddress) (nL := 2) (ret := (some .int)) (by decide) rfl (Nat.le_of_ble_eq_true rfl) hst ?_
  intro p e s m args below meth c ls F ht hr hin hN hl
  have hl : lv_has ls 2 [(0, .ref ((rd 0 0))), (1, .int (nI n))] := hl
  have wnA := hW.hnA
  have wnP := hW.hnP
  have wnT := hW.hnT
  have wnR := hW.hnR
  have wpa := hW.hpa
  have wbo := hW.hbo
  have wen0 := hW.hen 0
  have wen1 := hW.hen 1
  refine lv_aload_n (pc := 0) F.1 F.2.1 dX7_addAddress_0 rfl (lv_at hl 0 rfl) ?_
  refine lv_iload_n (pc := 1) F.1 F.2.1 dX7_addAddress_1 rfl (lv_at hl 1 rfl) ?_
  refine lv_iconst (pc := 2) (v := nI 0) F.1 F.2.1 dX7_addAddress_2 (by decide) ?_
  refine lv_bipush (pc := 3) (v := nI 99) F.1 F.2.1 dX7_addAddress_3 (by decide) ?_
  refine mm_runS (pc := 5) (As := [.int (nI n), .int (nI 0), .int (nI 99)]) (rest := [.ref ((rd 0 0))]) F hN (c_in l b D hst (nI n) (nI 0) (nI 99) σ) mw_1268 mw_1269 mw_6 mw_1270 ⟨pmX7_in, (Nat.le_of_ble_eq_true rfl), (Nat.le_of_ble_eq_true rfl)⟩ hl.1 rfl (Nat.le_of_ble_eq_true rfl) ⟨(Nat.le_of_ble_eq_true rfl), (Nat.le_of_ble_eq_true rfl)⟩ dX7_addAddress_5
    (fun _ _ _ _ _ _ h9 => False.elim h9)
    (fun v9 σ9 H locs hp9 hN => ?_)
  obtain ⟨rfl, h9⟩ := hp9
  rw [h9] at hN
  refine W.eq (g2 := F0 m 8 ls [.int (nI (if nI 0 ≤ nI n ∧ nI n ≤ nI 99 then 1 else 0)), .ref ((rd 0 0))]) rfl ?_
  refine W.widen (k := 0) (n := 0) (Nat.le_of_ble_eq_true rfl) (Nat.le_of_ble_eq_true rfl) ?_
  by_cases hi5 : 0 ≤ n ∧ n ≤ 99
  ·
    refine W.eq (g2 := F0 m 8 ls [.int (nI 1), .ref ((rd 0 0))]) (by rw [if_pos ((mm_inC (a := n) (lo := 0) (hi := 99) (by omega) (by decide) (by decide)).mpr hi5)]) ?_
    refine mm_if_ne (pc := 8) F (tgt := 15) (by omega) dX7_addAddress_8 (by decide) (fun cz8 => ?_) (fun h9 => absurd h9 (by decide))
    refine lv_aload_n (pc := 15) F.1 F.2.1 dX7_addAddress_15 rfl (lv_at hl 0 rfl) ?_
    refine mm_get (pc := 16) F hN (mm_r0 hM) (ci := 7) rfl 3 (by decide) mw_1182 rfl dX7_addAddress_16 ?_
    refine lv_bipush (pc := 19) (v := nI 12) F.1 F.2.1 dX7_addAddress_19 (by decide) ?_
    refine mm_icmp_ne (pc := 21) F (x := T.nA) (y := 12) (tgt := 28) (by omega) (by omega) dX7_addAddress_21 (by decide) (fun cz21 => ?_) (fun cz21 => ?_)
    ·
      refine lv_iconst (pc := 28) (v := nI 0) F.1 F.2.1 dX7_addAddress_28 (by decide) ?_
      refine mm_put (pc := 29) F hN (mm_r0 hM) (ci := 7) rfl 25 (by decide) mw_1204 rfl (ty := .int) (by decide +kernel) (rfl) (rfl) (Nat.le_of_ble_eq_true rfl) dX7_addAddress_29 (fun H locs hN => ?_)
      have hN : mm_N b D s (mm_u σ ((rd 0 0)) (mm_obj 1 7 [.ref ((rd 1 0)), .ref ((rd 2 0)), .ref ((rd 3 0)), .int (nI T.nA), .ref ((rd 4 0)), .ref ((rd 5 0)), .ref ((rd 6 0)), .int (nI T.nP), .ref ((rd 7 0)), .ref ((rd 8 0)), .ref ((rd 9 0)), .ref ((rd 10 0)), .ref ((rd 11 0)), .int (nI T.nT), .int (nI T.pa), .ref ((rd 12 0)), .int (nI T.bo), .ref ((rd 13 0)), .ref ((rd 14 0)), .ref ((rd 15 0)), .ref ((rd 16 0)), .ref ((rd 17 0)), .ref ((rd 18 0)), .ref ((rd 19 0)), .int (nI T.nR), .int (nI 0)])) _ _ := hN
      obtain ⟨σ2, eσ2⟩ : ∃ q, q = mm_u σ ((rd 0 0)) (mm_obj 1 7 [.ref ((rd 1 0)), .ref ((rd 2 0)), .ref ((rd 3 0)), .int (nI T.nA), .ref ((rd 4 0)), .ref ((rd 5 0)), .ref ((rd 6 0)), .int (nI T.nP), .ref ((rd 7 0)), .ref ((rd 8 0)), .ref ((rd 9 0)), .ref ((rd 10 0)), .ref ((rd 11 0)), .int (nI T.nT), .int (nI T.pa), .ref ((rd 12 0)), .int (nI T.bo), .ref ((rd 13 0)), .ref ((rd 14 0)), .ref ((rd 15 0)), .ref ((rd 16 0)), .ref ((rd 17 0)), .ref ((rd 18 0)), .ref ((rd 19 0)), .int (nI T.nR), .int (nI 0)]) := ⟨_, rfl⟩
      rw [← eσ2] at hN
      have hM2 : mm_M σ2 T 0 rd := by rw [eσ2]; exact mm_Mo hM (fun _ _ => rfl) rfl
      have hF2 : mm_Fr 1 σ σ2 := by rw [eσ2]; exact (mm_Fr.rf).tr (mm_Fr.u (mm_r0 hM))
      refine lv_aload_n (pc := 32) F.1 F.2.1 dX7_addAddress_32 rfl (lv_at hl 0 rfl) ?_
      refine mm_get (pc := 33) F hN ((show σ2 (rd 0 0) = mm_obj 1 7 [.ref ((rd 1 0)), .ref ((rd 2 0)), .ref ((rd 3 0)), .int (nI T.nA), .ref ((rd 4 0)), .ref ((rd 5 0)), .ref ((rd 6 0)), .int (nI T.nP), .ref ((rd 7 0)), .ref ((rd 8 0)), .ref ((rd 9 0)), .ref ((rd 10 0)), .ref ((rd 11 0)), .int (nI T.nT), .int (nI T.pa), .ref ((rd 12 0)), .int (nI T.bo), .ref ((rd 13 0)), .ref ((rd 14 0)), .ref ((rd 15 0)), .ref ((rd 16 0)), .ref ((rd 17 0)), .ref ((rd 18 0)), .ref ((rd 19 0)), .int (nI T.nR), .int (nI 0)] from mm_r0 (T := T) hM2)) (ci := 7) rfl 25 (by decide) mw_1204 rfl dX7_addAddress_33 ?_
      refine mm_if_le (pc := 36) F (tgt := 41) (by omega) dX7_addAddress_36 (by decide) (fun cz36 => ?_) (fun h9 => absurd h9 (by decide))
      refine lv_aload_n (pc := 41) F.1 F.2.1 dX7_addAddress_41 rfl (lv_at hl 0 rfl) ?_
      refine mm_get (pc := 42) F hN ((show σ2 (rd 0 0) = mm_obj 1 7 [.ref ((rd 1 0)), .ref ((rd 2 0)), .ref ((rd 3 0)), .int (nI T.nA), .ref ((rd 4 0)), .ref ((rd 5 0)), .ref ((rd 6 0)), .int (nI T.nP), .ref ((rd 7 0)), .ref ((rd 8 0)), .ref ((rd 9 0)), .ref ((rd 10 0)), .ref ((rd 11 0)), .int (nI T.nT), .int (nI T.pa), .ref ((rd 12 0)), .int (nI T.bo), .ref ((rd 13 0)), .ref ((rd 14 0)), .ref ((rd 15 0)), .ref ((rd 16 0)), .ref ((rd 17 0)), .ref ((rd 18 0)), .ref ((rd 19 0)), .int (nI T.nR), .int (nI 0)] from mm_r0 (T := T) hM2)) (ci := 7) rfl 0 (by decide) mw_1179 rfl dX7_addAddress_42 ?_
      refine lv_aload_n (pc := 45) F.1 F.2.1 dX7_addAddress_45 rfl (lv_at hl 0 rfl) ?_
      refine mm_get (pc := 46) F hN ((show σ2 (rd 0 0) = mm_obj 1 7 [.ref ((rd 1 0)), .ref ((rd 2 0)), .ref ((rd 3 0)), .int (nI T.nA), .ref ((rd 4 0)), .ref ((rd 5 0)), .ref ((rd 6 0)), .int (nI T.nP), .ref ((rd 7 0)), .ref ((rd 8 0)), .ref ((rd 9 0)), .ref ((rd 10 0)), .ref ((rd 11 0)), .int (nI T.nT), .int (nI T.pa), .ref ((rd 12 0)), .int (nI T.bo), .ref ((rd 13 0)), .ref ((rd 14 0)), .ref ((rd 15 0)), .ref ((rd 16 0)), .ref ((rd 17 0)), .ref ((rd 18 0)), .ref ((rd 19 0)), .int (nI T.nR), .int (nI 0)] from mm_r0 (T := T) hM2)) (ci := 7) rfl 3 (by decide) mw_1182 rfl dX7_addAddress_46 ?_
      refine lv_iload_n (pc := 49) F.1 F.2.1 dX7_addAddress_49 rfl (lv_at hl 1 rfl) ?_
      refine mm_iast (pc := 50) F hN ((show σ2 (rd 1 0) = mm_ari 1 0 12 (fun i => nI (T.co i)) from mm_r1 (T := T) hM2)) (j := T.nA) (rfl) (by omega) (by decide) dX7_addAddress_50 (fun H locs hN => ?_)
      have hN : mm_N b D s (mm_u σ2 (rd 1 0) (mm_ari 1 0 12 (va_up (fun i => nI (T.co i)) T.nA (nI n)))) _ _ := hN
      obtain ⟨σ3, eσ3⟩ : ∃ q, q = mm_u σ2 (rd 1 0) (mm_ari 1 0 12 (va_up (fun i => nI (T.co i)) T.nA (nI n))) := ⟨_, rfl⟩
      rw [← eσ3] at hN
      have hM3 : mm_M σ3 (T.w 1 (mm_u2 (T 1) T.nA 0 n)) 0 rd := by rw [eσ3]; exact mm_Mw1 hM2 (k := 1) rfl mm_va1
      have hF3 : mm_Fr 1 σ σ3 := by rw [eσ3]; exact (hF2).tr (mm_Fr.u (mm_r1 hM2))
      refine lv_aload_n (pc := 51) F.1 F.2.1 dX7_addAddress_51 rfl (lv_at hl 0 rfl) ?_
      refine lv_dup (pc := 52) F.1 F.2.1 dX7_addAddress_52 rfl ?_
      refine mm_get (pc := 53) F hN ((show σ3 (rd 0 0) = mm_obj 1 7 [.ref ((rd 1 0)), .ref ((rd 2 0)), .ref ((rd 3 0)), .int (nI T.nA), .ref ((rd 4 0)), .ref ((rd 5 0)), .ref ((rd 6 0)), .int (nI T.nP), .ref ((rd 7 0)), .ref ((rd 8 0)), .ref ((rd 9 0)), .ref ((rd 10 0)), .ref ((rd 11 0)), .int (nI T.nT), .int (nI T.pa), .ref ((rd 12 0)), .int (nI T.bo), .ref ((rd 13 0)), .ref ((rd 14 0)), .ref ((rd 15 0)), .ref ((rd 16 0)), .ref ((rd 17 0)), .ref ((rd 18 0)), .ref ((rd 19 0)), .int (nI T.nR), .int (nI 0)] from mm_r0 (T := (T.w 1 (mm_u2 (T 1) T.nA 0 n))) hM3)) (ci := 7) rfl 3 (by decide) mw_1182 rfl dX7_addAddress_53 ?_
      refine lv_iconst (pc := 56) (v := nI 1) F.1 F.2.1 dX7_addAddress_56 (by decide) ?_
      refine mm_iadd (pc := 57) F (z := nI (T.nA + 1)) (nI_add _ _) dX7_addAddress_57 ?_
      refine mm_put (pc := 58) F hN ((show σ3 (rd 0 0) = mm_obj 1 7 [.ref ((rd 1 0)), .ref ((rd 2 0)), .ref ((rd 3 0)), .int (nI T.nA), .ref ((rd 4 0)), .ref ((rd 5 0)), .ref ((rd 6 0)), .int (nI T.nP), .ref ((rd 7 0)), .ref ((rd 8 0)), .ref ((rd 9 0)), .ref ((rd 10 0)), .ref ((rd 11 0)), .int (nI T.nT), .int (nI T.pa), .ref ((rd 12 0)), .int (nI T.bo), .ref ((rd 13 0)), .ref ((rd 14 0)), .ref ((rd 15 0)), .ref ((rd 16 0)), .ref ((rd 17 0)), .ref ((rd 18 0)), .ref ((rd 19 0)), .int (nI T.nR), .int (nI 0)] from mm_r0 (T := (T.w 1 (mm_u2 (T 1) T.nA 0 n))) hM3)) (ci := 7) rfl 3 (by decide) mw_1182 rfl (ty := .int) (by decide +kernel) (rfl) (rfl) (Nat.le_of_ble_eq_true rfl) dX7_addAddress_58 (fun H locs hN => ?_)
      have hN : mm_N b D s (mm_u σ3 ((rd 0 0)) (mm_obj 1 7 [.ref ((rd 1 0)), .ref ((rd 2 0)), .ref ((rd 3 0)), .int (nI (T.nA + 1)), .ref ((rd 4 0)), .ref ((rd 5 0)), .ref ((rd 6 0)), .int (nI T.nP), .ref ((rd 7 0)), .ref ((rd 8 0)), .ref ((rd 9 0)), .ref ((rd 10 0)), .ref ((rd 11 0)), .int (nI T.nT), .int (nI T.pa), .ref ((rd 12 0)), .int (nI T.bo), .ref ((rd 13 0)), .ref ((rd 14 0)), .ref ((rd 15 0)), .ref ((rd 16 0)), .ref ((rd 17 0)), .ref ((rd 18 0)), .ref ((rd 19 0)), .int (nI T.nR), .int (nI 0)])) _ _ := hN
      obtain ⟨σ4, eσ4⟩ : ∃ q, q = mm_u σ3 ((rd 0 0)) (mm_obj 1 7 [.ref ((rd 1 0)), .ref ((rd 2 0)), .ref ((rd 3 0)), .int (nI (T.nA + 1)), .ref ((rd 4 0)), .ref ((rd 5 0)), .ref ((rd 6 0)), .int (nI T.nP), .ref ((rd 7 0)), .ref ((rd 8 0)), .ref ((rd 9 0)), .ref ((rd 10 0)), .ref ((rd 11 0)), .int (nI T.nT), .int (nI T.pa), .ref ((rd 12 0)), .int (nI T.bo), .ref ((rd 13 0)), .ref ((rd 14 0)), .ref ((rd 15 0)), .ref ((rd 16 0)), .ref ((rd 17 0)), .ref ((rd 18 0)), .ref ((rd 19 0)), .int (nI T.nR), .int (nI 0)]) := ⟨_, rfl⟩
      rw [← eσ4] at hN
      have hM4 : mm_M σ4 ((T.w 1 (mm_u2 (T 1) T.nA 0 n)).w 0 (mm_u2 ((T.w 1 (mm_u2 (T 1) T.nA 0 n)) 0) 0 0 (T.nA + 1))) 0 rd := by rw [eσ4]; exact mm_Mo hM3 (fun k hk => mm_T.wo hk) rfl
      have hF4 : mm_Fr 1 σ σ4 := by rw [eσ4]; exact (hF3).tr (mm_Fr.u (mm_r0 hM3))
      refine lv_aload_n (pc := 61) F.1 F.2.1 dX7_addAddress_61 rfl (lv_at hl 0 rfl) ?_
      refine mm_get (pc := 62) F hN ((show σ4 (rd 0 0) = mm_obj 1 7 [.ref ((rd 1 0)), .ref ((rd 2 0)), .ref ((rd 3 0)), .int (nI (T.nA + 1)), .ref ((rd 4 0)), .ref ((rd 5 0)), .ref ((rd 6 0)), .int (nI T.nP), .ref ((rd 7 0)), .ref ((rd 8 0)), .ref ((rd 9 0)), .ref ((rd 10 0)), .ref ((rd 11 0)), .int (nI T.nT), .int (nI T.pa), .ref ((rd 12 0)), .int (nI T.bo), .ref ((rd 13 0)), .ref ((rd 14 0)), .ref ((rd 15 0)), .ref ((rd 16 0)), .ref ((rd 17 0)), .ref ((rd 18 0)), .ref ((rd 19 0)), .int (nI T.nR), .int (nI 0)] from mm_r0 (T := ((T.w 1 (mm_u2 (T 1) T.nA 0 n)).w 0 (mm_u2 ((T.w 1 (mm_u2 (T 1) T.nA 0 n)) 0) 0 0 (T.nA + 1)))) hM4)) (ci := 7) rfl 3 (by decide) mw_1182 rfl dX7_addAddress_62 ?_
      refine lv_iconst (pc := 65) (v := nI 1) F.1 F.2.1 dX7_addAddress_65 (by decide) ?_
      refine mm_isub (pc := 66) F (z := nI ((T.nA + 1) - 1)) (pk_sub (by omega)) dX7_addAddress_66 ?_
      exact mm_iret (pc := 67) F hr hN (Or.inl ⟨by show mm_q_addAddress T n = 0; unfold mm_q_addAddress; (repeat' split) <;> omega, by rw [Nat.add_sub_cancel], mm_M_cg hM4 (fun k hk => by
        by_cases e0 : k = 0
        · subst e0; rfl
        by_cases e1 : k = 1
        · subst e1; rfl
        simp only [mm_t_addAddress, mm_T.w, if_neg e0, if_neg e1]) rfl, hF4⟩) (Nat.le_of_ble_eq_true rfl) (Nat.le_of_ble_eq_true rfl) dX7_addAddress_67
    ·
      refine lv_iconst (pc := 24) (v := nI 2) F.1 F.2.1 dX7_addAddress_24 (by decide) ?_
      refine lv_goto (pc := 25) (tgt := 29) F.1 F.2.1 dX7_addAddress_25 (by decide) ?_
      refine mm_put (pc := 29) F hN (mm_r0 hM) (ci := 7) rfl 25 (by decide) mw_1204 rfl (ty := .int) (by decide +kernel) (rfl) (rfl) (Nat.le_of_ble_eq_true rfl) dX7_addAddress_29 (fun H locs hN => ?_)
      have hN : mm_N b D s (mm_u σ ((rd 0 0)) (mm_obj 1 7 [.ref ((rd 1 0)), .ref ((rd 2 0)), .ref ((rd 3 0)), .int (nI T.nA), .ref ((rd 4 0)), .ref ((rd 5 0)), .ref ((rd 6 0)), .int (nI T.nP), .ref ((rd 7 0)), .ref ((rd 8 0)), .ref ((rd 9 0)), .ref ((rd 10 0)), .ref ((rd 11 0)), .int (nI T.nT), .int (nI T.pa), .ref ((rd 12 0)), .int (nI T.bo), .ref ((rd 13 0)), .ref ((rd 14 0)), .ref ((rd 15 0)), .ref ((rd 16 0)), .ref ((rd 17 0)), .ref ((rd 18 0)), .ref ((rd 19 0)), .int (nI T.nR), .int (nI 2)])) _ _ := hN
      obtain ⟨σ5, eσ5⟩ : ∃ q, q = mm_u σ ((rd 0 0)) (mm_obj 1 7 [.ref ((rd 1 0)), .ref ((rd 2 0)), .ref ((rd 3 0)), .int (nI T.nA), .ref ((rd 4 0)), .ref ((rd 5 0)), .ref ((rd 6 0)), .int (nI T.nP), .ref ((rd 7 0)), .ref ((rd 8 0)), .ref ((rd 9 0)), .ref ((rd 10 0)), .ref ((rd 11 0)), .int (nI T.nT), .int (nI T.pa), .ref ((rd 12 0)), .int (nI T.bo), .ref ((rd 13 0)), .ref ((rd 14 0)), .ref ((rd 15 0)), .ref ((rd 16 0)), .ref ((rd 17 0)), .ref ((rd 18 0)), .ref ((rd 19 0)), .int (nI T.nR), .int (nI 2)]) := ⟨_, rfl⟩
      rw [← eσ5] at hN
      have hM5 : mm_M σ5 T 2 rd := by rw [eσ5]; exact mm_Mo hM (fun _ _ => rfl) rfl
      have hF5 : mm_Fr 1 σ σ5 := by rw [eσ5]; exact (mm_Fr.rf).tr (mm_Fr.u (mm_r0 hM))
      refine lv_aload_n (pc := 32) F.1 F.2.1 dX7_addAddress_32 rfl (lv_at hl 0 rfl) ?_
      refine mm_get (pc := 33) F hN ((show σ5 (rd 0 0) = mm_obj 1 7 [.ref ((rd 1 0)), .ref ((rd 2 0)), .ref ((rd 3 0)), .int (nI T.nA), .ref ((rd 4 0)), .ref ((rd 5 0)), .ref ((rd 6 0)), .int (nI T.nP), .ref ((rd 7 0)), .ref ((rd 8 0)), .ref ((rd 9 0)), .ref ((rd 10 0)), .ref ((rd 11 0)), .int (nI T.nT), .int (nI T.pa), .ref ((rd 12 0)), .int (nI T.bo), .ref ((rd 13 0)), .ref ((rd 14 0)), .ref ((rd 15 0)), .ref ((rd 16 0)), .ref ((rd 17 0)), .ref ((rd 18 0)), .ref ((rd 19 0)), .int (nI T.nR), .int (nI 2)] from mm_r0 (T := T) hM5)) (ci := 7) rfl 25 (by decide) mw_1204 rfl dX7_addAddress_33 ?_
      refine mm_if_le (pc := 36) F (tgt := 41) (by omega) dX7_addAddress_36 (by decide) (fun h9 => absurd h9 (by decide)) (fun cz36 => ?_)
      refine lv_iconst (pc := 39) (v := nI 0) F.1 F.2.1 dX7_addAddress_39 (by decide) ?_
      exact mm_iret (pc := 40) F hr hN (Or.inr ⟨by rw [show mm_q_addAddress T n = 2 from by show mm_q_addAddress T n = 2; unfold mm_q_addAddress; (repeat' split) <;> omega]; decide, ⟨_, rfl⟩, by rw [show mm_q_addAddress T n = 2 from by show mm_q_addAddress T n = 2; unfold mm_q_addAddress; (repeat' split) <;> omega]; exact hM5, hF5⟩) (Nat.le_of_ble_eq_true rfl) (Nat.le_of_ble_eq_true rfl) dX7_addAddress_40
  ·
    refine W.eq (g2 := F0 m 8 ls [.int (nI 0), .ref ((rd 0 0))]) (by rw [if_neg (fun q => hi5 ((mm_inC (a := n) (lo := 0) (hi := 99) (by omega) (by decide) (by decide)).mp q))]) ?_
    refine mm_if_ne (pc := 8) F (tgt := 15) (by omega) dX7_addAddress_8 (by decide) (fun h9 => absurd h9 (by decide)) (fun cz8 => ?_)
    refine lv_iconst (pc := 11) (v := nI 1) F.1 F.2.1 dX7_addAddress_11 (by decide) ?_
    refine lv_goto (pc := 12) (tgt := 29) F.1 F.2.1 dX7_addAddress_12 (by decide) ?_
    refine mm_put (pc := 29) F hN (mm_r0 hM) (ci := 7) rfl 25 (by decide) mw_1204 rfl (ty := .int) (by decide +kernel) (rfl) (rfl) (Nat.le_of_ble_eq_true rfl) dX7_addAddress_29 (fun H locs hN => ?_)
    have hN : mm_N b D s (mm_u σ ((rd 0 0)) (mm_obj 1 7 [.ref ((rd 1 0)), .ref ((rd 2 0)), .ref ((rd 3 0)), .int (nI T.nA), .ref ((rd 4 0)), .ref ((rd 5 0)), .ref ((rd 6 0)), .int (nI T.nP), .ref ((rd 7 0)), .ref ((rd 8 0)), .ref ((rd 9 0)), .ref ((rd 10 0)), .ref ((rd 11 0)), .int (nI T.nT), .int (nI T.pa), .ref ((rd 12 0)), .int (nI T.bo), .ref ((rd 13 0)), .ref ((rd 14 0)), .ref ((rd 15 0)), .ref ((rd 16 0)), .ref ((rd 17 0)), .ref ((rd 18 0)), .ref ((rd 19 0)), .int (nI T.nR), .int (nI 1)])) _ _ := hN
    obtain ⟨σ6, eσ6⟩ : ∃ q, q = mm_u σ ((rd 0 0)) (mm_obj 1 7 [.ref ((rd 1 0)), .ref ((rd 2 0)), .ref ((rd 3 0)), .int (nI T.nA), .ref ((rd 4 0)), .ref ((rd 5 0)), .ref ((rd 6 0)), .int (nI T.nP), .ref ((rd 7 0)), .ref ((rd 8 0)), .ref ((rd 9 0)), .ref ((rd 10 0)), .ref ((rd 11 0)), .int (nI T.nT), .int (nI T.pa), .ref ((rd 12 0)), .int (nI T.bo), .ref ((rd 13 0)), .ref ((rd 14 0)), .ref ((rd 15 0)), .ref ((rd 16 0)), .ref ((rd 17 0)), .ref ((rd 18 0)), .ref ((rd 19 0)), .int (nI T.nR), .int (nI 1)]) := ⟨_, rfl⟩
    rw [← eσ6] at hN
    have hM6 : mm_M σ6 T 1 rd := by rw [eσ6]; exact mm_Mo hM (fun _ _ => rfl) rfl
    have hF6 : mm_Fr 1 σ σ6 := by rw [eσ6]; exact (mm_Fr.rf).tr (mm_Fr.u (mm_r0 hM))
    refine lv_aload_n (pc := 32) F.1 F.2.1 dX7_addAddress_32 rfl (lv_at hl 0 rfl) ?_
    refine mm_get (pc := 33) F hN ((show σ6 (rd 0 0) = mm_obj 1 7 [.ref ((rd 1 0)), .ref ((rd 2 0)), .ref ((rd 3 0)), .int (nI T.nA), .ref ((rd 4 0)), .ref ((rd 5 0)), .ref ((rd 6 0)), .int (nI T.nP), .ref ((rd 7 0)), .ref ((rd 8 0)), .ref ((rd 9 0)), .ref ((rd 10 0)), .ref ((rd 11 0)), .int (nI T.nT), .int (nI T.pa), .ref ((rd 12 0)), .int (nI T.bo), .ref ((rd 13 0)), .ref ((rd 14 0)), .ref ((rd 15 0)), .ref ((rd 16 0)), .ref ((rd 17 0)), .ref ((rd 18 0)), .ref ((rd 19 0)), .int (nI T.nR), .int (nI 1)] from mm_r0 (T := T) hM6)) (ci := 7) rfl 25 (by decide) mw_1204 rfl dX7_addAddress_33 ?_
    refine mm_if_le (pc := 36) F (tgt := 41) (by omega) dX7_addAddress_36 (by decide) (fun h9 => absurd h9 (by decide)) (fun cz36 => ?_)
    refine lv_iconst (pc := 39) (v := nI 0) F.1 F.2.1 dX7_addAddress_39 (by decide) ?_
    exact mm_iret (pc := 40) F hr hN (Or.inr ⟨by rw [show mm_q_addAddress T n = 1 from by show mm_q_addAddress T n = 1; unfold mm_q_addAddress; (repeat' split) <;> omega]; decide, ⟨_, rfl⟩, by rw [show mm_q_addAddress T n = 1 from by show mm_q_addAddress T n = 1; unfold mm_q_addAddress; (repeat' split) <;> omega]; exact hM6, hF6⟩) (Nat.le_of_ble_eq_true rfl) (Nat.le_of_ble_eq_true rfl) dX7_addAddress_40

