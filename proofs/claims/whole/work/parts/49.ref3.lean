theorem mm_u2_self {f : Nat → Nat → Nat} {i j : Nat} : mm_u2 f i j (f i j) = f := by
  funext a q
  show (if a = i ∧ q = j then f i j else f a q) = f a q
  by_cases e : a = i ∧ q = j
  · rw [if_pos e, e.1, e.2]
  · rw [if_neg e]
/-- a template's parts are as they must be -/
def mm_tb (T : mm_T) (t : Nat) : Prop := T.pc t ≤ 8 ∧ ∀ k, k < T.pc t → 1 ≤ T.li t k ∧ T.li t k ≤ 40 ∧ T.ne t k < 8 ∧ T.fo t k < 8
theorem mm_tbW {T : mm_T} (hW : mm_WF T) {t : Nat} (ht : t < T.nT) : mm_tb T t := ⟨(hW.htp t ht).1, (hW.htp t ht).2.2⟩
theorem mm_bit : ∀ b, b < 256 → ∀ k, k < 8 → (nI b >>> (nI k &&& 31)) &&& nI 1 = nI (b / 2 ^ k % 2) := by decide +kernel
theorem mm_ptF_lt (ne fo : Nat → Nat) (x : Nat) : ∀ k, mm_ptF ne fo x k < 2 ^ k
  | 0 => Nat.one_pos
  | k + 1 => by
    have h1 : mm_ptF ne fo x k < 2 ^ (k + 1) := Nat.lt_trans (mm_ptF_lt ne fo x k) (Nat.pow_lt_pow_right (by decide) (Nat.lt_succ_self k))
    show (if _ then mm_ptF ne fo x k ||| 2 ^ k else mm_ptF ne fo x k) < 2 ^ (k + 1)
    split
    · exact Nat.or_lt_two_pow h1 (Nat.pow_lt_pow_right (by decide) (Nat.lt_succ_self k))
    · exact h1
theorem mm_ptF_bit (ne fo : Nat → Nat) (x : Nat) : ∀ n k, k < n → (mm_ptF ne fo x n).testBit k = mm_cd (ne k) (fo k) x
  | 0, k, h => absurd h (Nat.not_lt_zero _)
  | n + 1, k, h => by
    have hn : (mm_ptF ne fo x n).testBit n = false := Nat.testBit_lt_two_pow (mm_ptF_lt ne fo x n)
    by_cases hc : mm_cd (ne n) (fo n) x = true
    · rw [show mm_ptF ne fo x (n + 1) = mm_ptF ne fo x n ||| 2 ^ n from if_pos hc, Nat.testBit_or, Nat.testBit_two_pow]
      by_cases e : k = n
      · rw [e, hn, hc, decide_eq_true rfl]; rfl
      · rw [decide_eq_false (fun z => e z.symm), Bool.or_false]
        exact mm_ptF_bit ne fo x n k (by omega)
    · rw [show mm_ptF ne fo x (n + 1) = mm_ptF ne fo x n from if_neg hc]
      by_cases e : k = n
      · rw [e, hn]
        cases h9 : mm_cd (ne n) (fo n) x with
        | true => exact absurd h9 hc
        | false => rfl
      · exact mm_ptF_bit ne fo x n k (by omega)
theorem mm_ptF_b (ne fo : Nat → Nat) (x n k : Nat) (h : k < n) : mm_ptF ne fo x n / 2 ^ k % 2 = if mm_cd (ne k) (fo k) x = true then 1 else 0 := by
  have h1 := mm_ptF_bit ne fo x n k h
  rw [Nat.testBit_eq_decide_div_mod_eq] at h1
  have h2 := Nat.mod_two_eq_zero_or_one (mm_ptF ne fo x n / 2 ^ k)
  split
  · rename_i h3
    rw [h3] at h1
    exact of_decide_eq_true h1
  · rename_i h3
    rcases h2 with h2 | h2
    · exact h2
    · rw [h2, decide_eq_true rfl] at h1
      exact absurd h1.symm h3
/-- the lines that are free on the last page -/
def mm_fr9 (T : mm_T) (t f k : Nat) : Nat := if (mm_ly T t f k).1 = 0 then 0 else 40 - (mm_ly T t f k).2
set_option maxHeartbeats 4000000 in
set_option maxRecDepth 100000 in
theorem r_raises (l : Launch) (b : Nat) (D : mm_D) (hst : l.stackTraces = false) (T : mm_T) (th : Nat) (rd : Nat → Nat → Nat) (σ : mm_S) (hM : mm_M σ T th rd) (wh : Nat) : mm_K l b D yX7_raises (.code yX7_raises cX7_raises 2 (some .int)) ({ frames := 0, cells := 0, slots := 0, locals := 0 } : Room) [.ref ((rd 0 0)), .int (nI wh)] σ
    (fun v σ2 => v = some (.int (nI 0)) ∧ mm_M σ2 T wh rd ∧ mm_Fr 1 σ σ2)
    (fun _ _ => False) := by
  refine mm_of (cc := cX7_raises) (nL := 2) (ret := (some .int)) (by decide) rfl (Nat.le_of_ble_eq_true rfl) hst ?_
  intro p e s m args below meth c ls F ht hr hin hN hl
  have hl : lv_has ls 2 [(0, .ref ((rd 0 0))), (1, .int (nI wh))] := hl
  refine lv_aload_n (pc := 0) F.1 F.2.1 dX7_raises_0 rfl (lv_at hl 0 rfl) ?_
  refine lv_iload_n (pc := 1) F.1 F.2.1 dX7_raises_1 rfl (lv_at hl 1 rfl) ?_
  refine mm_put (pc := 2) F hN (mm_r0 hM) (ci := 7) rfl 25 (by decide) mw_1204 rfl (ty := .int) (by decide +kernel) (rfl) (rfl) (Nat.le_of_ble_eq_true rfl) dX7_raises_2 (fun H locs hN => ?_)
  have hN : mm_N b D s (mm_u σ ((rd 0 0)) (mm_obj 1 7 [.ref ((rd 1 0)), .ref ((rd 2 0)), .ref ((rd 3 0)), .int (nI T.nA), .ref ((rd 4 0)), .ref ((rd 5 0)), .ref ((rd 6 0)), .int (nI T.nP), .ref ((rd 7 0)), .ref ((rd 8 0)), .ref ((rd 9 0)), .ref ((rd 10 0)), .ref ((rd 11 0)), .int (nI T.nT), .int (nI T.pa), .ref ((rd 12 0)), .int (nI T.bo), .ref ((rd 13 0)), .ref ((rd 14 0)), .ref ((rd 15 0)), .ref ((rd 16 0)), .ref ((rd 17 0)), .ref ((rd 18 0)), .ref ((rd 19 0)), .int (nI T.nR), .int (nI wh)])) _ _ := hN
  obtain ⟨σ2, eσ2⟩ : ∃ q, q = mm_u σ ((rd 0 0)) (mm_obj 1 7 [.ref ((rd 1 0)), .ref ((rd 2 0)), .ref ((rd 3 0)), .int (nI T.nA), .ref ((rd 4 0)), .ref ((rd 5 0)), .ref ((rd 6 0)), .int (nI T.nP), .ref ((rd 7 0)), .ref ((rd 8 0)), .ref ((rd 9 0)), .ref ((rd 10 0)), .ref ((rd 11 0)), .int (nI T.nT), .int (nI T.pa), .ref ((rd 12 0)), .int (nI T.bo), .ref ((rd 13 0)), .ref ((rd 14 0)), .ref ((rd 15 0)), .ref ((rd 16 0)), .ref ((rd 17 0)), .ref ((rd 18 0)), .ref ((rd 19 0)), .int (nI T.nR), .int (nI wh)]) := ⟨_, rfl⟩
  rw [← eσ2] at hN
  have hM2 : mm_M σ2 T wh rd := by rw [eσ2]; exact mm_Mo hM (fun _ _ => rfl) rfl
  have hF2 : mm_Fr 1 σ σ2 := by rw [eσ2]; exact (mm_Fr.rf).tr (mm_Fr.u (mm_r0 hM))
  refine lv_iconst (pc := 5) (v := nI 0) F.1 F.2.1 dX7_raises_5 (by decide) ?_
  exact mm_iret (pc := 6) F hr hN (⟨rfl, hM2, hF2⟩) (Nat.le_of_ble_eq_true rfl) (Nat.le_of_ble_eq_true rfl) dX7_raises_6

set_option maxHeartbeats 4000000 in
set_option maxRecDepth 100000 in
theorem c_was (l : Launch) (b : Nat) (D : mm_D) (hst : l.stackTraces = false) (T : mm_T) (th : Nat) (rd : Nat → Nat → Nat) (σ : mm_S) (hM : mm_M σ T th rd) (hW : mm_WF T) (k i : Nat) (zk : k < 2 ^ 32) (zi : i < 2 ^ 32) : mm_K l b D yX7_wasThere (.code yX7_wasThere cX7_wasThere 3 (some .boolean)) ({ frames := 2, cells := 0, slots := 0, locals := 50 } : Room) [.ref ((rd 0 0)), .int (nI k), .int (nI i)] σ
    (fun v σ2 => v = some (.int (nI (if k < T.nR ∧ i < T.rp k then 1 else 0))) ∧ σ2 = σ)
    (fun _ _ => False) := by
  refine mm_of (cc := cX7_wasThere) (nL := 3) (ret := (some .boolean)) (by decide) rfl (Nat.le_of_ble_eq_true rfl) hst ?_
  intro p e s m args below meth c ls F ht hr hin hN hl
  have hl : lv_has ls 3 [(0, .ref ((rd 0 0))), (1, .int (nI k)), (2, .int (nI i))] := hl
  have wnA := hW.hnA
  have wnP := hW.hnP
  have wnT := hW.hnT
  have wnR := hW.hnR
  have wpa := hW.hpa
  have wbo := hW.hbo
  have wen0 := hW.hen 0
  have wen1 := hW.hen 1
  refine lv_aload_n (pc := 0) F.1 F.2.1 dX7_wasThere_0 rfl (lv_at hl 0 rfl) ?_
  refine lv_iload_n (pc := 1) F.1 F.2.1 dX7_wasThere_1 rfl (lv_at hl 1 rfl) ?_
  refine mm_runV (pc := 2) (As := [.int (nI k)]) (rest := []) F hN (c_isRun l b D hst T th rd σ hM hW k (by omega)) mw_1391 mw_1393 mw_p33 mw_6 mw_1394 ⟨pmX7_isRun, (Nat.le_of_ble_eq_true rfl), (Nat.le_of_ble_eq_true rfl)⟩ (mm_recv F.2.2.2.2.2.1 hN (mm_r0 hM) rfl) hl.1 rfl (Nat.le_of_ble_eq_true rfl) ⟨(Nat.le_of_ble_eq_true rfl), (Nat.le_of_ble_eq_true rfl)⟩ dX7_wasThere_2
    (fun _ _ _ _ _ _ h9 => False.elim h9)
    (fun v9 σ9 H locs hp9 hN => ?_)
  obtain ⟨rfl, h9⟩ := hp9
  rw [h9] at hN
  refine W.eq (g2 := F0 m 5 ls [.int (nI (if k < T.nR then 1 else 0))]) rfl ?_
  refine W.widen (k := 0) (n := 0) (Nat.le_of_ble_eq_true rfl) (Nat.le_of_ble_eq_true rfl) ?_
  by_cases hrk : k < T.nR
  ·
    refine W.eq (g2 := F0 m 5 ls [.int (nI 1)]) (by rw [if_pos hrk]) ?_
    obtain ⟨wr1k, wr2k, wr3k, wr4k⟩ := hW.hru k hrk
    refine mm_if_eq (pc := 5) F (tgt := 28) (by omega) dX7_wasThere_5 (by decide) (fun h9 => absurd h9 (by decide)) (fun cz5 => ?_)
    refine lv_iload_n (pc := 8) F.1 F.2.1 dX7_wasThere_8 rfl (lv_at hl 2 rfl) ?_
    refine lv_iconst (pc := 9) (v := nI 0) F.1 F.2.1 dX7_wasThere_9 (by decide) ?_
    refine lv_aload_n (pc := 10) F.1 F.2.1 dX7_wasThere_10 rfl (lv_at hl 0 rfl) ?_
    refine mm_get (pc := 11) F hN (mm_r0 hM) (ci := 7) rfl 17 (by decide) mw_1196 rfl dX7_wasThere_11 ?_
    refine lv_iload_n (pc := 14) F.1 F.2.1 dX7_wasThere_14 rfl (lv_at hl 1 rfl) ?_
    refine mm_iald (pc := 15) F hN ((show σ (rd 13 0) = mm_ari 1 0 10 (fun i => nI (T.rp i)) from mm_r13 (T := T) hM)) (j := k) (rfl) (by omega) (by decide) dX7_wasThere_15 ?_
    refine lv_iconst (pc := 16) (v := nI 1) F.1 F.2.1 dX7_wasThere_16 (by decide) ?_
    refine mm_isub (pc := 17) F (z := (nI (T.rp k)) - (nI 1)) (rfl) dX7_wasThere_17 ?_
    refine mm_runS (pc := 18) (As := [.int (nI i), .int (nI 0), .int ((nI (T.rp k)) - (nI 1))]) (rest := []) F hN (c_in l b D hst (nI i) (nI 0) ((nI (T.rp k)) - (nI 1)) σ) mw_1268 mw_1269 mw_6 mw_1270 ⟨pmX7_in, (Nat.le_of_ble_eq_true rfl), (Nat.le_of_ble_eq_true rfl)⟩ hl.1 rfl (Nat.le_of_ble_eq_true rfl) ⟨(Nat.le_of_ble_eq_true rfl), (Nat.le_of_ble_eq_true rfl)⟩ dX7_wasThere_18
      (fun _ _ _ _ _ _ h9 => False.elim h9)
      (fun v9 σ9 H locs hp9 hN => ?_)
    obtain ⟨rfl, h9⟩ := hp9
    rw [h9] at hN
    refine W.eq (g2 := F0 m 21 ls [.int (nI (if nI 0 ≤ nI i ∧ nI i ≤ (nI (T.rp k)) - (nI 1) then 1 else 0))]) rfl ?_
    refine W.widen (k := 0) (n := 0) (Nat.le_of_ble_eq_true rfl) (Nat.le_of_ble_eq_true rfl) ?_
    by_cases hi18 : i < T.rp k
    ·
      refine W.eq (g2 := F0 m 21 ls [.int (nI 1)]) (by rw [if_pos ((mm_inN (a := i) (n := T.rp k) (by omega) (by omega)).mpr hi18)]) ?_
      refine mm_if_eq (pc := 21) F (tgt := 28) (by omega) dX7_wasThere_21 (by decide) (fun h9 => absurd h9 (by decide)) (fun cz21 => ?_)
      refine lv_iconst (pc := 24) (v := nI 1) F.1 F.2.1 dX7_wasThere_24 (by decide) ?_
      refine lv_goto (pc := 25) (tgt := 29) F.1 F.2.1 dX7_wasThere_25 (by decide) ?_
      exact mm_zret (pc := 29) F (ty := .boolean) hr hN (by decide) (⟨by rw [if_pos ⟨hrk, hi18⟩], rfl⟩) (Nat.le_of_ble_eq_true rfl) (Nat.le_of_ble_eq_true rfl) dX7_wasThere_29
    ·
      refine W.eq (g2 := F0 m 21 ls [.int (nI 0)]) (by rw [if_neg (fun q => hi18 ((mm_inN (a := i) (n := T.rp k) (by omega) (by omega)).mp q))]) ?_
      refine mm_if_eq (pc := 21) F (tgt := 28) (by omega) dX7_wasThere_21 (by decide) (fun cz21 => ?_) (fun h9 => absurd h9 (by decide))
      refine lv_iconst (pc := 28) (v := nI 0) F.1 F.2.1 dX7_wasThere_28 (by decide) ?_
      exact mm_zret (pc := 29) F (ty := .boolean) hr hN (by decide) (⟨by rw [if_neg (fun q => hi18 q.2)], rfl⟩) (Nat.le_of_ble_eq_true rfl) (Nat.le_of_ble_eq_true rfl) dX7_wasThere_29
  ·
    refine W.eq (g2 := F0 m 5 ls [.int (nI 0)]) (by rw [if_neg hrk]) ?_
    refine mm_if_eq (pc := 5) F (tgt := 28) (by omega) dX7_wasThere_5 (by decide) (fun cz5 => ?_) (fun h9 => absurd h9 (by decide))
    refine lv_iconst (pc := 28) (v := nI 0) F.1 F.2.1 dX7_wasThere_28 (by decide) ?_
    exact mm_zret (pc := 29) F (ty := .boolean) hr hN (by decide) (⟨by rw [if_neg (fun q => hrk q.1)], rfl⟩) (Nat.le_of_ble_eq_true rfl) (Nat.le_of_ble_eq_true rfl) dX7_wasThere_29

set_option maxHeartbeats 4000000 in
set_option maxRecDepth 100000 in
theorem c_isLett (l : Launch) (b : Nat) (D : mm_D) (hst : l.stackTraces = false) (T : mm_T) (th : Nat) (rd : Nat → Nat → Nat) (σ : mm_S) (hM : mm_M σ T th rd) (hW : mm_WF T) (k i : Nat) (hk : k < T.nR) (hi : i < T.rp k) : mm_K l b D yX7_isLetter (.code yX7_isLetter cX7_isLetter 3 (some .boolean)) ({ frames := 0, cells := 0, slots := 0, locals := 0 } : Room) [.ref ((rd 0 0)), .int (nI k), .int (nI i)] σ
    (fun v σ2 => v = some (.int (nI (if T.oc k i = 108 then 1 else 0))) ∧ σ2 = σ)
    (fun _ _ => False) := by
  refine mm_of (cc := cX7_isLetter) (nL := 3) (ret := (some .boolean)) (by decide) rfl (Nat.le_of_ble_eq_true rfl) hst ?_
  intro p e s m args below meth c ls F ht hr hin hN hl
  have hl : lv_has ls 3 [(0, .ref ((rd 0 0))), (1, .int (nI k)), (2, .int (nI i))] := hl
  have wnA := hW.hnA
  have wnP := hW.hnP
  have wnT := hW.hnT
  have wnR := hW.hnR
  have wpa := hW.hpa
  have wbo := hW.hbo
  have wen0 := hW.hen 0
  have wen1 := hW.hen 1
  obtain ⟨wr1, wr2, wr3, wr4⟩ := hW.hru k hk
  have woc := (wr4 i hi).1
  refine lv_aload_n (pc := 0) F.1 F.2.1 dX7_isLetter_0 rfl (lv_at hl 0 rfl) ?_
  refine mm_get (pc := 1) F hN (mm_r0 hM) (ci := 7) rfl 18 (by decide) mw_1197 rfl dX7_isLetter_1 ?_
  refine lv_iload_n (pc := 4) F.1 F.2.1 dX7_isLetter_4 rfl (lv_at hl 1 rfl) ?_
  refine mm_aald (pc := 5) F hN ((show σ (rd 14 0) = mm_arq 1 6 10 (fun i => if i < 10 then some (rd 14 (i + 1)) else none) from mm_rq14 (T := T) hM)) rfl rfl (j := k) (rfl) (by omega) (by decide) (if_pos (by omega)) dX7_isLetter_5 ?_
  refine lv_iload_n (pc := 6) F.1 F.2.1 dX7_isLetter_6 rfl (lv_at hl 2 rfl) ?_
  refine mm_cald (pc := 7) F hN ((show σ (rd 14 (k + 1)) = mm_ari 1 3 24 (fun j => nI (T.oc k j)) from mm_rr14 (T := T) hM (i := k) (by omega))) (j := i) (rfl) (by omega) (by decide) dX7_isLetter_7 ?_
  refine lv_bipush (pc := 8) (v := nI 108) F.1 F.2.1 dX7_isLetter_8 (by decide) ?_
  refine mm_icmp_ne (pc := 10) F (x := T.oc k i) (y := 108) (tgt := 17) (by omega) (by omega) dX7_isLetter_10 (by decide) (fun cz10 => ?_) (fun cz10 => ?_)
  ·
    refine lv_iconst (pc := 17) (v := nI 0) F.1 F.2.1 dX7_isLetter_17 (by decide) ?_
    exact mm_zret (pc := 18) F (ty := .boolean) hr hN (by decide) (⟨by rw [if_neg cz10], rfl⟩) (Nat.le_of_ble_eq_true rfl) (Nat.le_of_ble_eq_true rfl) dX7_isLetter_18
  ·
    refine lv_iconst (pc := 13) (v := nI 1) F.1 F.2.1 dX7_isLetter_13 (by decide) ?_
    refine lv_goto (pc := 14) (tgt := 18) F.1 F.2.1 dX7_isLetter_14 (by decide) ?_
    exact mm_zret (pc := 18) F (ty := .boolean) hr hN (by decide) (⟨by rw [if_pos cz10], rfl⟩) (Nat.le_of_ble_eq_true rfl) (Nat.le_of_ble_eq_true rfl) dX7_isLetter_18

set_option maxHeartbeats 4000000 in
set_option maxRecDepth 100000 in
theorem c_parts (l : Launch) (b : Nat) (D : mm_D) (hst : l.stackTraces = false) (T : mm_T) (th : Nat) (rd : Nat → Nat → Nat) (σ : mm_S) (hM : mm_M σ T th rd) (t f : Nat) (ht4 : t < 4) (htb : mm_tb T t) (hf : f < 8) : mm_K l b D yX7_partsFor (.code yX7_partsFor cX7_partsFor 6 (some .int)) ({ frames := 0, cells := 0, slots := 0, locals := 0 } : Room) [.ref ((rd 0 0)), .int (nI t), .int (nI f)] σ
    (fun v σ2 => v = some (.int (nI (mm_pts T t f))) ∧ σ2 = σ)
    (fun _ _ => False) := by
  refine mm_of (cc := cX7_partsFor) (nL := 6) (ret := (some .int)) (by decide) rfl (Nat.le_of_ble_eq_true rfl) hst ?_
  intro p e s m args below meth c ls F ht hr hin hN hl
  have hl : lv_has ls 6 [(0, .ref ((rd 0 0))), (1, .int (nI t)), (2, .int (nI f))] := hl
  obtain ⟨htb1, htb2⟩ := htb
  refine lv_iconst (pc := 0) (v := nI 0) F.1 F.2.1 dX7_partsFor_0 (by decide) ?_
  refine lv_istore_n (pc := 1) (lv' := [(3, .int (nI 0)), (0, .ref ((rd 0 0))), (1, .int (nI t)), (2, .int (nI f))]) F.1 F.2.1 dX7_partsFor_1 rfl hl (by decide) rfl (fun ls hl => ?_)
  refine lv_iconst (pc := 2) (v := nI 0) F.1 F.2.1 dX7_partsFor_2 (by decide) ?_
  refine lv_istore (pc := 3) (lv' := [(4, .int (nI 0)), (3, .int (nI 0)), (0, .ref ((rd 0 0))), (1, .int (nI t)), (2, .int (nI f))]) F.1 F.2.1 dX7_partsFor_3 hl (by decide) rfl (fun ls hl => ?_)
  have lp5 : ∀ (k5 k : Nat) (ls : Array Slot) (H : Heap) (locs : List Loc), T.pc t < k + k5 → k ≤ T.pc t → mm_N b D s σ H locs → lv_has ls 6 [(0, .ref ((rd 0 0))), (1, .int (nI t)), (2, .int (nI f)), (3, .int (nI (mm_ptF (T.ne t) (T.fo t) f k))), (4, .int (nI k))] →
      W p l e ({ frames := 0, cells := 0, slots := 0, locals := 0 } : Room) s m args below meth c H locs (0) (0) (mm_Q b D (fun v σ2 => v = some (.int (nI (mm_pts T t f))) ∧ σ2 = σ) (fun _ _ => False) below args s ({ frames := 0, cells := 0, slots := 0, locals := 0 } : Room)) (F0 m 5 ls []) := by
    intro k5
    induction k5 with
    | zero => intro k  ls H locs hk5 hi5  hN hl; omega
    | succ k5 ih5 =>
      intro k  ls H locs hk5 hi5  hN hl
      refine lv_iload (pc := 5) F.1 F.2.1 dX7_partsFor_5 (lv_at hl 4 rfl) ?_
      refine lv_aload_n (pc := 7) F.1 F.2.1 dX7_partsFor_7 rfl (lv_at hl 0 rfl) ?_
      refine mm_get (pc := 8) F hN (mm_r0 hM) (ci := 7) rfl 11 (by decide) mw_1190 rfl dX7_partsFor_8 ?_
      refine lv_iload_n (pc := 11) F.1 F.2.1 dX7_partsFor_11 rfl (lv_at hl 1 rfl) ?_
      refine mm_iald (pc := 12) F hN ((show σ (rd 10 0) = mm_ari 1 0 4 (fun i => nI (T.pc i)) from mm_r10 (T := T) hM)) (j := t) (rfl) (by omega) (by decide) dX7_partsFor_12 ?_
      refine mm_icmp_ge (pc := 13) F (x := k) (y := T.pc t) (tgt := 82) (by omega) (by omega) dX7_partsFor_13 (by decide) (fun cz13 => ?_) (fun cz13 => ?_)
      ·
        refine lv_iload_n (pc := 82) F.1 F.2.1 dX7_partsFor_82 rfl (lv_at hl 3 rfl) ?_
        exact mm_iret (pc := 83) F hr hN (⟨by rw [show k = T.pc t by omega]; rfl, rfl⟩) (Nat.le_of_ble_eq_true rfl) (Nat.le_of_ble_eq_true rfl) dX7_partsFor_83
      ·
        obtain ⟨wl1, wl2, wn, wf⟩ := htb2 k (by omega)
        have hA1 : f &&& T.ne t k ≤ f := Nat.and_le_left
        have hA2 : f &&& T.fo t k ≤ f := Nat.and_le_left
        refine lv_iload_n (pc := 16) F.1 F.2.1 dX7_partsFor_16 rfl (lv_at hl 2 rfl) ?_
        refine lv_aload_n (pc := 17) F.1 F.2.1 dX7_partsFor_17 rfl (lv_at hl 0 rfl) ?_
        refine mm_get (pc := 18) F hN (mm_r0 hM) (ci := 7) rfl 9 (by decide) mw_1188 rfl dX7_partsFor_18 ?_
        refine lv_iload_n (pc := 21) F.1 F.2.1 dX7_partsFor_21 rfl (lv_at hl 1 rfl) ?_
        refine mm_aald (pc := 22) F hN ((show σ (rd 8 0) = mm_arq 1 5 4 (fun i => if i < 4 then some (rd 8 (i + 1)) else none) from mm_rq8 (T := T) hM)) rfl rfl (j := t) (rfl) (by omega) (by decide) (if_pos (by omega)) dX7_partsFor_22 ?_
        refine lv_iload (pc := 23) F.1 F.2.1 dX7_partsFor_23 (lv_at hl 4 rfl) ?_
        refine mm_iald (pc := 25) F hN ((show σ (rd 8 (t + 1)) = mm_ari 1 0 8 (fun j => nI (T.ne t j)) from mm_rr8 (T := T) hM (i := t) (by omega))) (j := k) (rfl) (by omega) (by decide) dX7_partsFor_25 ?_
        refine mm_iand (pc := 26) F (z := nI (f &&& (T.ne t k))) (mm_andN _ _) dX7_partsFor_26 ?_
        refine lv_aload_n (pc := 27) F.1 F.2.1 dX7_partsFor_27 rfl (lv_at hl 0 rfl) ?_
        refine mm_get (pc := 28) F hN (mm_r0 hM) (ci := 7) rfl 9 (by decide) mw_1188 rfl dX7_partsFor_28 ?_
        refine lv_iload_n (pc := 31) F.1 F.2.1 dX7_partsFor_31 rfl (lv_at hl 1 rfl) ?_
        refine mm_aald (pc := 32) F hN ((show σ (rd 8 0) = mm_arq 1 5 4 (fun i => if i < 4 then some (rd 8 (i + 1)) else none) from mm_rq8 (T := T) hM)) rfl rfl (j := t) (rfl) (by omega) (by decide) (if_pos (by omega)) dX7_partsFor_32 ?_
        refine lv_iload (pc := 33) F.1 F.2.1 dX7_partsFor_33 (lv_at hl 4 rfl) ?_
        refine mm_iald (pc := 35) F hN ((show σ (rd 8 (t + 1)) = mm_ari 1 0 8 (fun j => nI (T.ne t j)) from mm_rr8 (T := T) hM (i := t) (by omega))) (j := k) (rfl) (by omega) (by decide) dX7_partsFor_35 ?_
        refine mm_icmp_ne (pc := 36) F (x := f &&& (T.ne t k)) (y := T.ne t k) (tgt := 57) (by omega) (by omega) dX7_partsFor_36 (by decide) (fun cz36 => ?_) (fun cz36 => ?_)
        ·
          refine lv_iconst (pc := 57) (v := nI 0) F.1 F.2.1 dX7_partsFor_57 (by decide) ?_
          refine lv_istore (pc := 58) (lv' := [(5, .int (nI 0)), (0, .ref ((rd 0 0))), (1, .int (nI t)), (2, .int (nI f)), (3, .int (nI (mm_ptF (T.ne t) (T.fo t) f k))), (4, .int (nI k))]) F.1 F.2.1 dX7_partsFor_58 hl (by decide) rfl (fun ls hl => ?_)
          refine lv_iload_n (pc := 60) F.1 F.2.1 dX7_partsFor_60 rfl (lv_at hl 4 rfl) ?_
          refine lv_iload (pc := 61) F.1 F.2.1 dX7_partsFor_61 (lv_at hl 0 rfl) ?_
          refine mm_if_eq (pc := 63) F (tgt := 73) (by omega) dX7_partsFor_63 (by decide) (fun cz63 => ?_) (fun h9 => absurd h9 (by decide))
          refine lv_iconst (pc := 73) (v := nI 0) F.1 F.2.1 dX7_partsFor_73 (by decide) ?_
          refine mm_ior (pc := 74) F (z := nI ((mm_ptF (T.ne t) (T.fo t) f k) ||| 0)) (mm_orN _ _) dX7_partsFor_74 ?_
          refine W.eq (g2 := F0 m 75 ls [.int (nI (mm_ptF (T.ne t) (T.fo t) f (k + 1)))]) (congrArg (fun q => F0 m 75 ls [Value.int (nI q)]) ((Nat.or_zero _).trans (if_neg (show ¬ mm_cd (T.ne t k) (T.fo t k) f = true from fun q => cz36 (of_decide_eq_true q).1)).symm)) ?_
          refine lv_istore_n (pc := 75) (lv' := [(3, .int (nI (mm_ptF (T.ne t) (T.fo t) f (k + 1)))), (5, .int (nI 0)), (0, .ref ((rd 0 0))), (1, .int (nI t)), (2, .int (nI f)), (4, .int (nI k))]) F.1 F.2.1 dX7_partsFor_75 rfl hl (by decide) rfl (fun ls hl => ?_)
          refine lv_iinc (pc := 76) (v := nI (k + 1)) (lv' := [(4, .int (nI (k + 1))), (3, .int (nI (mm_ptF (T.ne t) (T.fo t) f (k + 1)))), (5, .int (nI 0)), (0, .ref ((rd 0 0))), (1, .int (nI t)), (2, .int (nI f))]) F.1 F.2.1 dX7_partsFor_76 hl (k := 5) rfl (by rw [← nI_add]; rfl) (by decide) rfl (fun ls hl => ?_)
          refine lv_goto (pc := 79) (tgt := 5) F.1 F.2.1 dX7_partsFor_79 (by decide) ?_
          exact ih5 (k + 1) ls _ _ (by omega) (by omega) hN (lv_sub hl [3, 4, 5, 1, 0] rfl)
        ·
          refine lv_iload_n (pc := 39) F.1 F.2.1 dX7_partsFor_39 rfl (lv_at hl 2 rfl) ?_
          refine lv_aload_n (pc := 40) F.1 F.2.1 dX7_partsFor_40 rfl (lv_at hl 0 rfl) ?_
          refine mm_get (pc := 41) F hN (mm_r0 hM) (ci := 7) rfl 10 (by decide) mw_1189 rfl dX7_partsFor_41 ?_
          refine lv_iload_n (pc := 44) F.1 F.2.1 dX7_partsFor_44 rfl (lv_at hl 1 rfl) ?_
          refine mm_aald (pc := 45) F hN ((show σ (rd 9 0) = mm_arq 1 5 4 (fun i => if i < 4 then some (rd 9 (i + 1)) else none) from mm_rq9 (T := T) hM)) rfl rfl (j := t) (rfl) (by omega) (by decide) (if_pos (by omega)) dX7_partsFor_45 ?_
          refine lv_iload (pc := 46) F.1 F.2.1 dX7_partsFor_46 (lv_at hl 4 rfl) ?_
          refine mm_iald (pc := 48) F hN ((show σ (rd 9 (t + 1)) = mm_ari 1 0 8 (fun j => nI (T.fo t j)) from mm_rr9 (T := T) hM (i := t) (by omega))) (j := k) (rfl) (by omega) (by decide) dX7_partsFor_48 ?_
          refine mm_iand (pc := 49) F (z := nI (f &&& (T.fo t k))) (mm_andN _ _) dX7_partsFor_49 ?_
          refine mm_if_ne (pc := 50) F (tgt := 57) (by omega) dX7_partsFor_50 (by decide) (fun cz50 => ?_) (fun cz50 => ?_)
          ·
            refine lv_iconst (pc := 57) (v := nI 0) F.1 F.2.1 dX7_partsFor_57 (by decide) ?_
            refine lv_istore (pc := 58) (lv' := [(5, .int (nI 0)), (0, .ref ((rd 0 0))), (1, .int (nI t)), (2, .int (nI f)), (3, .int (nI (mm_ptF (T.ne t) (T.fo t) f k))), (4, .int (nI k))]) F.1 F.2.1 dX7_partsFor_58 hl (by decide) rfl (fun ls hl => ?_)
            refine lv_iload_n (pc := 60) F.1 F.2.1 dX7_partsFor_60 rfl (lv_at hl 4 rfl) ?_
            refine lv_iload (pc := 61) F.1 F.2.1 dX7_partsFor_61 (lv_at hl 0 rfl) ?_
            refine mm_if_eq (pc := 63) F (tgt := 73) (by omega) dX7_partsFor_63 (by decide) (fun cz63 => ?_) (fun h9 => absurd h9 (by decide))
            refine lv_iconst (pc := 73) (v := nI 0) F.1 F.2.1 dX7_partsFor_73 (by decide) ?_
            refine mm_ior (pc := 74) F (z := nI ((mm_ptF (T.ne t) (T.fo t) f k) ||| 0)) (mm_orN _ _) dX7_partsFor_74 ?_
            refine W.eq (g2 := F0 m 75 ls [.int (nI (mm_ptF (T.ne t) (T.fo t) f (k + 1)))]) (congrArg (fun q => F0 m 75 ls [Value.int (nI q)]) ((Nat.or_zero _).trans (if_neg (show ¬ mm_cd (T.ne t k) (T.fo t k) f = true from fun q => cz50 (of_decide_eq_true q).2)).symm)) ?_
            refine lv_istore_n (pc := 75) (lv' := [(3, .int (nI (mm_ptF (T.ne t) (T.fo t) f (k + 1)))), (5, .int (nI 0)), (0, .ref ((rd 0 0))), (1, .int (nI t)), (2, .int (nI f)), (4, .int (nI k))]) F.1 F.2.1 dX7_partsFor_75 rfl hl (by decide) rfl (fun ls hl => ?_)
            refine lv_iinc (pc := 76) (v := nI (k + 1)) (lv' := [(4, .int (nI (k + 1))), (3, .int (nI (mm_ptF (T.ne t) (T.fo t) f (k + 1)))), (5, .int (nI 0)), (0, .ref ((rd 0 0))), (1, .int (nI t)), (2, .int (nI f))]) F.1 F.2.1 dX7_partsFor_76 hl (k := 5) rfl (by rw [← nI_add]; rfl) (by decide) rfl (fun ls hl => ?_)
            refine lv_goto (pc := 79) (tgt := 5) F.1 F.2.1 dX7_partsFor_79 (by decide) ?_
            exact ih5 (k + 1) ls _ _ (by omega) (by omega) hN (lv_sub hl [3, 4, 5, 1, 0] rfl)
          ·
            refine lv_iconst (pc := 53) (v := nI 1) F.1 F.2.1 dX7_partsFor_53 (by decide) ?_
            refine lv_goto (pc := 54) (tgt := 58) F.1 F.2.1 dX7_partsFor_54 (by decide) ?_
            refine lv_istore (pc := 58) (lv' := [(5, .int (nI 1)), (0, .ref ((rd 0 0))), (1, .int (nI t)), (2, .int (nI f)), (3, .int (nI (mm_ptF (T.ne t) (T.fo t) f k))), (4, .int (nI k))]) F.1 F.2.1 dX7_partsFor_58 hl (by decide) rfl (fun ls hl => ?_)
            refine lv_iload_n (pc := 60) F.1 F.2.1 dX7_partsFor_60 rfl (lv_at hl 4 rfl) ?_
            refine lv_iload (pc := 61) F.1 F.2.1 dX7_partsFor_61 (lv_at hl 0 rfl) ?_
            refine mm_if_eq (pc := 63) F (tgt := 73) (by omega) dX7_partsFor_63 (by decide) (fun h9 => absurd h9 (by decide)) (fun cz63 => ?_)
            refine lv_iconst (pc := 66) (v := nI 1) F.1 F.2.1 dX7_partsFor_66 (by decide) ?_
            refine lv_iload (pc := 67) F.1 F.2.1 dX7_partsFor_67 (lv_at hl 5 rfl) ?_
            refine mm_ishl (pc := 69) F (z := nI (2 ^ k)) (mm_shl1 (by omega)) dX7_partsFor_69 ?_
            refine lv_goto (pc := 70) (tgt := 74) F.1 F.2.1 dX7_partsFor_70 (by decide) ?_
            refine mm_ior (pc := 74) F (z := nI ((mm_ptF (T.ne t) (T.fo t) f k) ||| (2 ^ k))) (mm_orN _ _) dX7_partsFor_74 ?_
            refine W.eq (g2 := F0 m 75 ls [.int (nI (mm_ptF (T.ne t) (T.fo t) f (k + 1)))]) (congrArg (fun q => F0 m 75 ls [Value.int (nI q)]) ((if_pos (show mm_cd (T.ne t k) (T.fo t k) f = true from decide_eq_true ⟨cz36, cz50⟩)).symm)) ?_
            refine lv_istore_n (pc := 75) (lv' := [(3, .int (nI (mm_ptF (T.ne t) (T.fo t) f (k + 1)))), (5, .int (nI 1)), (0, .ref ((rd 0 0))), (1, .int (nI t)), (2, .int (nI f)), (4, .int (nI k))]) F.1 F.2.1 dX7_partsFor_75 rfl hl (by decide) rfl (fun ls hl => ?_)
            refine lv_iinc (pc := 76) (v := nI (k + 1)) (lv' := [(4, .int (nI (k + 1))), (3, .int (nI (mm_ptF (T.ne t) (T.fo t) f (k + 1)))), (5, .int (nI 1)), (0, .ref ((rd 0 0))), (1, .int (nI t)), (2, .int (nI f))]) F.1 F.2.1 dX7_partsFor_76 hl (k := 5) rfl (by rw [← nI_add]; rfl) (by decide) rfl (fun ls hl => ?_)
            refine lv_goto (pc := 79) (tgt := 5) F.1 F.2.1 dX7_partsFor_79 (by decide) ?_
            exact ih5 (k + 1) ls _ _ (by omega) (by omega) hN (lv_sub hl [3, 4, 5, 1, 0] rfl)
  exact lp5 ((T.pc t) + 1) 0 ls _ _ (by omega) (by omega) hN (lv_sub hl [2, 3, 4, 1, 0] rfl)

set_option maxHeartbeats 4000000 in
set_option maxRecDepth 100000 in
theorem c_pages (l : Launch) (b : Nat) (D : mm_D) (hst : l.stackTraces = false) (T : mm_T) (th : Nat) (rd : Nat → Nat → Nat) (σ : mm_S) (hM : mm_M σ T th rd) (t f : Nat) (ht4 : t < 4) (htb : mm_tb T t) (hf : f < 8) : mm_K l b D yX7_pagesOf (.code yX7_pagesOf cX7_pagesOf 8 (some .int)) ({ frames := 1, cells := 0, slots := 0, locals := 40 } : Room) [.ref ((rd 0 0)), .int (nI t), .int (nI f)] σ
    (fun v σ2 => v = some (.int (nI (mm_pgs T t f))) ∧ σ2 = σ)
    (fun _ _ => False) := by
  refine mm_of (cc := cX7_pagesOf) (nL := 8) (ret := (some .int)) (by decide) rfl (Nat.le_of_ble_eq_true rfl) hst ?_
  intro p e s m args below meth c ls F ht hr hin hN hl
  have hl : lv_has ls 8 [(0, .ref ((rd 0 0))), (1, .int (nI t)), (2, .int (nI f))] := hl
  have htb0 := htb
  obtain ⟨htb1, htb2⟩ := htb
  refine lv_aload_n (pc := 0) F.1 F.2.1 dX7_pagesOf_0 rfl (lv_at hl 0 rfl) ?_
  refine lv_iload_n (pc := 1) F.1 F.2.1 dX7_pagesOf_1 rfl (lv_at hl 1 rfl) ?_
  refine lv_iload_n (pc := 2) F.1 F.2.1 dX7_pagesOf_2 rfl (lv_at hl 2 rfl) ?_
  refine mm_runV (pc := 3) (As := [.int (nI t), .int (nI f)]) (rest := []) F hN (c_parts l b D hst T th rd σ hM t f ht4 htb0 hf) mw_1335 mw_1337 mw_p28 mw_6 mw_1338 ⟨pmX7_partsFor, (Nat.le_of_ble_eq_true rfl), (Nat.le_of_ble_eq_true rfl)⟩ (mm_recv F.2.2.2.2.2.1 hN (mm_r0 hM) rfl) hl.1 rfl (Nat.le_of_ble_eq_true rfl) ⟨(Nat.le_of_ble_eq_true rfl), (Nat.le_of_ble_eq_true rfl)⟩ dX7_pagesOf_3
    (fun _ _ _ _ _ _ h9 => False.elim h9)
    (fun v9 σ9 H locs hp9 hN => ?_)
  obtain ⟨rfl, h9⟩ := hp9
  rw [h9] at hN
  refine W.eq (g2 := F0 m 6 ls [.int (nI (mm_pts T t f))]) rfl ?_
  refine W.widen (k := 0) (n := 0) (Nat.le_of_ble_eq_true rfl) (Nat.le_of_ble_eq_true rfl) ?_
  refine lv_istore_n (pc := 6) (lv' := [(3, .int (nI (mm_pts T t f))), (0, .ref ((rd 0 0))), (1, .int (nI t)), (2, .int (nI f))]) F.1 F.2.1 dX7_pagesOf_6 rfl hl (by decide) rfl (fun ls hl => ?_)
  refine lv_iconst (pc := 7) (v := nI 0) F.1 F.2.1 dX7_pagesOf_7 (by decide) ?_
  refine lv_istore (pc := 8) (lv' := [(4, .int (nI 0)), (3, .int (nI (mm_pts T t f))), (0, .ref ((rd 0 0))), (1, .int (nI t)), (2, .int (nI f))]) F.1 F.2.1 dX7_pagesOf_8 hl (by decide) rfl (fun ls hl => ?_)
  refine lv_iconst (pc := 10) (v := nI 0) F.1 F.2.1 dX7_pagesOf_10 (by decide) ?_
  refine lv_istore (pc := 11) (lv' := [(5, .int (nI 0)), (4, .int (nI 0)), (3, .int (nI (mm_pts T t f))), (0, .ref ((rd 0 0))), (1, .int (nI t)), (2, .int (nI f))]) F.1 F.2.1 dX7_pagesOf_11 hl (by decide) rfl (fun ls hl => ?_)
  refine lv_iconst (pc := 13) (v := nI 0) F.1 F.2.1 dX7_pagesOf_13 (by decide) ?_
  refine lv_istore (pc := 14) (lv' := [(6, .int (nI 0)), (5, .int (nI 0)), (4, .int (nI 0)), (3, .int (nI (mm_pts T t f))), (0, .ref ((rd 0 0))), (1, .int (nI t)), (2, .int (nI f))]) F.1 F.2.1 dX7_pagesOf_14 hl (by decide) rfl (fun ls hl => ?_)
  have lp16 : ∀ (k16 k : Nat) (ls : Array Slot) (H : Heap) (locs : List Loc), T.pc t < k + k16 → k ≤ T.pc t → mm_N b D s σ H locs → lv_has ls 8 [(0, .ref ((rd 0 0))), (1, .int (nI t)), (2, .int (nI f)), (3, .int (nI (mm_pts T t f))), (4, .int (nI ((mm_ly T t f k).1))), (5, .int (nI (mm_fr9 T t f k))), (6, .int (nI k))] →
      W p l e ({ frames := 1, cells := 0, slots := 0, locals := 40 } : Room) s m args below meth c H locs (0) (0) (mm_Q b D (fun v σ2 => v = some (.int (nI (mm_pgs T t f))) ∧ σ2 = σ) (fun _ _ => False) below args s ({ frames := 1, cells := 0, slots := 0, locals := 40 } : Room)) (F0 m 16 ls []) := by
    intro k16
    induction k16 with
    | zero => intro k  ls H locs hk16 hi16  hN hl; omega
    | succ k16 ih16 =>
      intro k  ls H locs hk16 hi16  hN hl
      refine lv_iload (pc := 16) F.1 F.2.1 dX7_pagesOf_16 (lv_at hl 6 rfl) ?_
      refine lv_aload_n (pc := 18) F.1 F.2.1 dX7_pagesOf_18 rfl (lv_at hl 0 rfl) ?_
      refine mm_get (pc := 19) F hN (mm_r0 hM) (ci := 7) rfl 11 (by decide) mw_1190 rfl dX7_pagesOf_19 ?_
      refine lv_iload_n (pc := 22) F.1 F.2.1 dX7_pagesOf_22 rfl (lv_at hl 1 rfl) ?_
      refine mm_iald (pc := 23) F hN ((show σ (rd 10 0) = mm_ari 1 0 4 (fun i => nI (T.pc i)) from mm_r10 (T := T) hM)) (j := t) (rfl) (by omega) (by decide) dX7_pagesOf_23 ?_
      refine mm_icmp_ge (pc := 24) F (x := k) (y := T.pc t) (tgt := 103) (by omega) (by omega) dX7_pagesOf_24 (by decide) (fun cz24 => ?_) (fun cz24 => ?_)
      ·
        refine lv_iload (pc := 103) F.1 F.2.1 dX7_pagesOf_103 (lv_at hl 4 rfl) ?_
        exact mm_iret (pc := 105) F hr hN (⟨by rw [show k = T.pc t by omega]; rfl, rfl⟩) (Nat.le_of_ble_eq_true rfl) (Nat.le_of_ble_eq_true rfl) dX7_pagesOf_105
      ·
        obtain ⟨wl1, wl2, wn, wf⟩ := htb2 k (by omega)
        have hly : (mm_ly T t f k).1 ≤ k ∧ (mm_ly T t f k).2 ≤ 40 := mm_lyF_le (li := T.li t) (ne := T.ne t) (fo := T.fo t) (x := f) k (fun j hj => (htb2 j (by omega)).2.1)
        have hfr : mm_fr9 T t f k ≤ 40 := by unfold mm_fr9; split <;> omega
        refine lv_iload_n (pc := 27) F.1 F.2.1 dX7_pagesOf_27 rfl (lv_at hl 3 rfl) ?_
        refine lv_iload (pc := 28) F.1 F.2.1 dX7_pagesOf_28 (lv_at hl 6 rfl) ?_
        refine mm_ishr (pc := 30) F (z := nI (mm_pts T t f) >>> (nI k &&& 31)) rfl dX7_pagesOf_30 ?_
        refine lv_iconst (pc := 31) (v := nI 1) F.1 F.2.1 dX7_pagesOf_31 (by decide) ?_
        refine mm_iand (pc := 32) F (z := (nI (mm_pts T t f) >>> (nI k &&& 31)) &&& (nI 1)) (rfl) dX7_pagesOf_32 ?_
        have hb9 : (nI (mm_pts T t f) >>> (nI k &&& 31)) &&& nI 1 = nI (if mm_cd (T.ne t k) (T.fo t k) f = true then 1 else 0) := (mm_bit _ (Nat.lt_of_lt_of_le (mm_ptF_lt (T.ne t) (T.fo t) f (T.pc t)) (Nat.pow_le_pow_right (by decide) htb1)) k (by omega)).trans (congrArg nI (mm_ptF_b (T.ne t) (T.fo t) f (T.pc t) k (by omega)))
        by_cases hcd : mm_cd (T.ne t k) (T.fo t k) f = true
        ·
          refine W.eq (g2 := F0 m 33 ls [.int (nI 1)]) (congrArg (fun q => F0 m 33 ls [Value.int q]) (hb9.trans (congrArg nI (if_pos hcd)))) ?_
          refine lv_iconst (pc := 33) (v := nI 1) F.1 F.2.1 dX7_pagesOf_33 (by decide) ?_
          refine mm_icmp_ne (pc := 34) F (x := 1) (y := 1) (tgt := 97) (by omega) (by omega) dX7_pagesOf_34 (by decide) (fun h9 => absurd h9 (by decide)) (fun cz34 => ?_)
          refine lv_aload_n (pc := 37) F.1 F.2.1 dX7_pagesOf_37 rfl (lv_at hl 0 rfl) ?_
          refine mm_get (pc := 38) F hN (mm_r0 hM) (ci := 7) rfl 8 (by decide) mw_1187 rfl dX7_pagesOf_38 ?_
          refine lv_iload_n (pc := 41) F.1 F.2.1 dX7_pagesOf_41 rfl (lv_at hl 1 rfl) ?_
          refine mm_aald (pc := 42) F hN ((show σ (rd 7 0) = mm_arq 1 5 4 (fun i => if i < 4 then some (rd 7 (i + 1)) else none) from mm_rq7 (T := T) hM)) rfl rfl (j := t) (rfl) (by omega) (by decide) (if_pos (by omega)) dX7_pagesOf_42 ?_
          refine lv_iload (pc := 43) F.1 F.2.1 dX7_pagesOf_43 (lv_at hl 6 rfl) ?_
          refine mm_iald (pc := 45) F hN ((show σ (rd 7 (t + 1)) = mm_ari 1 0 8 (fun j => nI (T.li t j)) from mm_rr7 (T := T) hM (i := t) (by omega))) (j := k) (rfl) (by omega) (by decide) dX7_pagesOf_45 ?_
          refine lv_iload (pc := 46) F.1 F.2.1 dX7_pagesOf_46 (lv_at hl 5 rfl) ?_
          refine mm_icmp_gt (pc := 48) F (x := T.li t k) (y := mm_fr9 T t f k) (tgt := 55) (by omega) (by omega) dX7_pagesOf_48 (by decide) (fun cz48 => ?_) (fun cz48 => ?_)
          ·
            have hst9 : mm_ly T t f (k + 1) = ((mm_ly T t f k).1 + 1, T.li t k) := by
              refine (if_pos hcd).trans (show (if (mm_ly T t f k).1 = 0 ∨ 40 < (mm_ly T t f k).2 + T.li t k then ((mm_ly T t f k).1 + 1, T.li t k) else ((mm_ly T t f k).1, (mm_ly T t f k).2 + T.li t k)) = _ from if_pos ?_)
              by_cases hp : (mm_ly T t f k).1 = 0
              · exact Or.inl hp
              · unfold mm_fr9 at cz48
                rw [if_neg hp] at cz48
                exact Or.inr (by omega)
            refine lv_iconst (pc := 55) (v := nI 0) F.1 F.2.1 dX7_pagesOf_55 (by decide) ?_
            refine lv_istore (pc := 56) (lv' := [(7, .int (nI 0)), (0, .ref ((rd 0 0))), (1, .int (nI t)), (2, .int (nI f)), (3, .int (nI (mm_pts T t f))), (4, .int (nI ((mm_ly T t f k).1))), (5, .int (nI (mm_fr9 T t f k))), (6, .int (nI k))]) F.1 F.2.1 dX7_pagesOf_56 hl (by decide) rfl (fun ls hl => ?_)
            refine lv_iload (pc := 58) F.1 F.2.1 dX7_pagesOf_58 (lv_at hl 5 rfl) ?_
            refine lv_iload (pc := 60) F.1 F.2.1 dX7_pagesOf_60 (lv_at hl 0 rfl) ?_
            refine mm_if_eq (pc := 62) F (tgt := 69) (by omega) dX7_pagesOf_62 (by decide) (fun cz62 => ?_) (fun h9 => absurd h9 (by decide))
            refine lv_iconst (pc := 69) (v := nI 1) F.1 F.2.1 dX7_pagesOf_69 (by decide) ?_
            refine mm_iadd (pc := 70) F (z := nI (((mm_ly T t f k).1) + 1)) (nI_add _ _) dX7_pagesOf_70 ?_
            refine lv_istore (pc := 71) (lv' := [(4, .int (nI (((mm_ly T t f k).1) + 1))), (7, .int (nI 0)), (0, .ref ((rd 0 0))), (1, .int (nI t)), (2, .int (nI f)), (3, .int (nI (mm_pts T t f))), (5, .int (nI (mm_fr9 T t f k))), (6, .int (nI k))]) F.1 F.2.1 dX7_pagesOf_71 hl (by decide) rfl (fun ls hl => ?_)
            refine lv_iload (pc := 73) F.1 F.2.1 dX7_pagesOf_73 (lv_at hl 1 rfl) ?_
            refine mm_if_eq (pc := 75) F (tgt := 83) (by omega) dX7_pagesOf_75 (by decide) (fun cz75 => ?_) (fun h9 => absurd h9 (by decide))
            refine lv_bipush (pc := 83) (v := nI 40) F.1 F.2.1 dX7_pagesOf_83 (by decide) ?_
            refine lv_aload_n (pc := 85) F.1 F.2.1 dX7_pagesOf_85 rfl (lv_at hl 2 rfl) ?_
            refine mm_get (pc := 86) F hN (mm_r0 hM) (ci := 7) rfl 8 (by decide) mw_1187 rfl dX7_pagesOf_86 ?_
            refine lv_iload_n (pc := 89) F.1 F.2.1 dX7_pagesOf_89 rfl (lv_at hl 3 rfl) ?_
            refine mm_aald (pc := 90) F hN ((show σ (rd 7 0) = mm_arq 1 5 4 (fun i => if i < 4 then some (rd 7 (i + 1)) else none) from mm_rq7 (T := T) hM)) rfl rfl (j := t) (rfl) (by omega) (by decide) (if_pos (by omega)) dX7_pagesOf_90 ?_
            refine lv_iload (pc := 91) F.1 F.2.1 dX7_pagesOf_91 (lv_at hl 7 rfl) ?_
            refine mm_iald (pc := 93) F hN ((show σ (rd 7 (t + 1)) = mm_ari 1 0 8 (fun j => nI (T.li t j)) from mm_rr7 (T := T) hM (i := t) (by omega))) (j := k) (rfl) (by omega) (by decide) dX7_pagesOf_93 ?_
            refine mm_isub (pc := 94) F (z := nI (40 - (T.li t k))) (pk_sub (by omega)) dX7_pagesOf_94 ?_
            refine lv_istore (pc := 95) (lv' := [(5, .int (nI (40 - (T.li t k)))), (4, .int (nI (((mm_ly T t f k).1) + 1))), (7, .int (nI 0)), (0, .ref ((rd 0 0))), (1, .int (nI t)), (2, .int (nI f)), (3, .int (nI (mm_pts T t f))), (6, .int (nI k))]) F.1 F.2.1 dX7_pagesOf_95 hl (by decide) rfl (fun ls hl => ?_)
            refine lv_iinc (pc := 97) (v := nI (k + 1)) (lv' := [(6, .int (nI (k + 1))), (5, .int (nI (40 - (T.li t k)))), (4, .int (nI (((mm_ly T t f k).1) + 1))), (7, .int (nI 0)), (0, .ref ((rd 0 0))), (1, .int (nI t)), (2, .int (nI f)), (3, .int (nI (mm_pts T t f)))]) F.1 F.2.1 dX7_pagesOf_97 hl (k := 7) rfl (by rw [← nI_add]; rfl) (by decide) rfl (fun ls hl => ?_)
            refine lv_goto (pc := 100) (tgt := 16) F.1 F.2.1 dX7_pagesOf_100 (by decide) ?_
            have e4 : (mm_ly T t f k).1 + 1 = (mm_ly T t f (k + 1)).1 := by rw [hst9]
            have e5 : 40 - T.li t k = mm_fr9 T t f (k + 1) := by
              unfold mm_fr9
              rw [hst9, if_neg (show ¬ ((mm_ly T t f k).1 + 1, T.li t k).1 = 0 from Nat.succ_ne_zero _)]
            rw [e4, e5] at hl
            exact ih16 (k + 1) ls _ _ (by omega) (by omega) hN (lv_sub hl [4, 5, 6, 7, 2, 1, 0] rfl)
          ·
            have hst9 : mm_ly T t f (k + 1) = ((mm_ly T t f k).1, (mm_ly T t f k).2 + T.li t k) := by
              have hp : ¬ (mm_ly T t f k).1 = 0 := fun e => by unfold mm_fr9 at cz48; rw [if_pos e] at cz48; omega
              unfold mm_fr9 at cz48
              rw [if_neg hp] at cz48
              exact (if_pos hcd).trans (show (if (mm_ly T t f k).1 = 0 ∨ 40 < (mm_ly T t f k).2 + T.li t k then ((mm_ly T t f k).1 + 1, T.li t k) else ((mm_ly T t f k).1, (mm_ly T t f k).2 + T.li t k)) = _ from if_neg (fun q => by rcases q with q | q <;> omega))
            refine lv_iconst (pc := 51) (v := nI 1) F.1 F.2.1 dX7_pagesOf_51 (by decide) ?_
            refine lv_goto (pc := 52) (tgt := 56) F.1 F.2.1 dX7_pagesOf_52 (by decide) ?_
            refine lv_istore (pc := 56) (lv' := [(7, .int (nI 1)), (0, .ref ((rd 0 0))), (1, .int (nI t)), (2, .int (nI f)), (3, .int (nI (mm_pts T t f))), (4, .int (nI ((mm_ly T t f k).1))), (5, .int (nI (mm_fr9 T t f k))), (6, .int (nI k))]) F.1 F.2.1 dX7_pagesOf_56 hl (by decide) rfl (fun ls hl => ?_)
            refine lv_iload (pc := 58) F.1 F.2.1 dX7_pagesOf_58 (lv_at hl 5 rfl) ?_
            refine lv_iload (pc := 60) F.1 F.2.1 dX7_pagesOf_60 (lv_at hl 0 rfl) ?_
            refine mm_if_eq (pc := 62) F (tgt := 69) (by omega) dX7_pagesOf_62 (by decide) (fun h9 => absurd h9 (by decide)) (fun cz62 => ?_)
            refine lv_iconst (pc := 65) (v := nI 0) F.1 F.2.1 dX7_pagesOf_65 (by decide) ?_
            refine lv_goto (pc := 66) (tgt := 70) F.1 F.2.1 dX7_pagesOf_66 (by decide) ?_
            refine mm_iadd (pc := 70) F (z := nI (((mm_ly T t f k).1) + 0)) (nI_add _ _) dX7_pagesOf_70 ?_
            refine lv_istore (pc := 71) (lv' := [(4, .int (nI (((mm_ly T t f k).1) + 0))), (7, .int (nI 1)), (0, .ref ((rd 0 0))), (1, .int (nI t)), (2, .int (nI f)), (3, .int (nI (mm_pts T t f))), (5, .int (nI (mm_fr9 T t f k))), (6, .int (nI k))]) F.1 F.2.1 dX7_pagesOf_71 hl (by decide) rfl (fun ls hl => ?_)
            refine lv_iload (pc := 73) F.1 F.2.1 dX7_pagesOf_73 (lv_at hl 1 rfl) ?_
            refine mm_if_eq (pc := 75) F (tgt := 83) (by omega) dX7_pagesOf_75 (by decide) (fun h9 => absurd h9 (by decide)) (fun cz75 => ?_)
            refine lv_iload (pc := 78) F.1 F.2.1 dX7_pagesOf_78 (lv_at hl 6 rfl) ?_
            refine lv_goto (pc := 80) (tgt := 85) F.1 F.2.1 dX7_pagesOf_80 (by decide) ?_
            refine lv_aload_n (pc := 85) F.1 F.2.1 dX7_pagesOf_85 rfl (lv_at hl 2 rfl) ?_
            refine mm_get (pc := 86) F hN (mm_r0 hM) (ci := 7) rfl 8 (by decide) mw_1187 rfl dX7_pagesOf_86 ?_
            refine lv_iload_n (pc := 89) F.1 F.2.1 dX7_pagesOf_89 rfl (lv_at hl 3 rfl) ?_
            refine mm_aald (pc := 90) F hN ((show σ (rd 7 0) = mm_arq 1 5 4 (fun i => if i < 4 then some (rd 7 (i + 1)) else none) from mm_rq7 (T := T) hM)) rfl rfl (j := t) (rfl) (by omega) (by decide) (if_pos (by omega)) dX7_pagesOf_90 ?_
            refine lv_iload (pc := 91) F.1 F.2.1 dX7_pagesOf_91 (lv_at hl 7 rfl) ?_
            refine mm_iald (pc := 93) F hN ((show σ (rd 7 (t + 1)) = mm_ari 1 0 8 (fun j => nI (T.li t j)) from mm_rr7 (T := T) hM (i := t) (by omega))) (j := k) (rfl) (by omega) (by decide) dX7_pagesOf_93 ?_
            refine mm_isub (pc := 94) F (z := nI ((mm_fr9 T t f k) - (T.li t k))) (pk_sub (by omega)) dX7_pagesOf_94 ?_
            refine lv_istore (pc := 95) (lv' := [(5, .int (nI ((mm_fr9 T t f k) - (T.li t k)))), (4, .int (nI (((mm_ly T t f k).1) + 0))), (7, .int (nI 1)), (0, .ref ((rd 0 0))), (1, .int (nI t)), (2, .int (nI f)), (3, .int (nI (mm_pts T t f))), (6, .int (nI k))]) F.1 F.2.1 dX7_pagesOf_95 hl (by decide) rfl (fun ls hl => ?_)
            refine lv_iinc (pc := 97) (v := nI (k + 1)) (lv' := [(6, .int (nI (k + 1))), (5, .int (nI ((mm_fr9 T t f k) - (T.li t k)))), (4, .int (nI (((mm_ly T t f k).1) + 0))), (7, .int (nI 1)), (0, .ref ((rd 0 0))), (1, .int (nI t)), (2, .int (nI f)), (3, .int (nI (mm_pts T t f)))]) F.1 F.2.1 dX7_pagesOf_97 hl (k := 7) rfl (by rw [← nI_add]; rfl) (by decide) rfl (fun ls hl => ?_)
            refine lv_goto (pc := 100) (tgt := 16) F.1 F.2.1 dX7_pagesOf_100 (by decide) ?_
            have hp : ¬ (mm_ly T t f k).1 = 0 := fun e => by unfold mm_fr9 at cz48; rw [if_pos e] at cz48; omega
            have e4 : (mm_ly T t f k).1 + 0 = (mm_ly T t f (k + 1)).1 := by rw [hst9] <;> rfl
            have e5 : mm_fr9 T t f k - T.li t k = mm_fr9 T t f (k + 1) := by
              unfold mm_fr9
              rw [hst9, if_neg hp, if_neg (show ¬ ((mm_ly T t f k).1, (mm_ly T t f k).2 + T.li t k).1 = 0 from hp)]
              show 40 - _ - _ = 40 - (_ + _)
              omega
            rw [e4, e5] at hl
            exact ih16 (k + 1) ls _ _ (by omega) (by omega) hN (lv_sub hl [4, 5, 6, 7, 2, 1, 0] rfl)
        ·
          refine W.eq (g2 := F0 m 33 ls [.int (nI 0)]) (congrArg (fun q => F0 m 33 ls [Value.int q]) (hb9.trans (congrArg nI (if_neg hcd)))) ?_
          refine lv_iconst (pc := 33) (v := nI 1) F.1 F.2.1 dX7_pagesOf_33 (by decide) ?_
          refine mm_icmp_ne (pc := 34) F (x := 0) (y := 1) (tgt := 97) (by omega) (by omega) dX7_pagesOf_34 (by decide) (fun cz34 => ?_) (fun h9 => absurd h9 (by decide))
          refine lv_iinc (pc := 97) (v := nI (k + 1)) (lv' := [(6, .int (nI (k + 1))), (0, .ref ((rd 0 0))), (1, .int (nI t)), (2, .int (nI f)), (3, .int (nI (mm_pts T t f))), (4, .int (nI ((mm_ly T t f k).1))), (5, .int (nI (mm_fr9 T t f k)))]) F.1 F.2.1 dX7_pagesOf_97 hl (k := 6) rfl (by rw [← nI_add]; rfl) (by decide) rfl (fun ls hl => ?_)
          refine lv_goto (pc := 100) (tgt := 16) F.1 F.2.1 dX7_pagesOf_100 (by decide) ?_
          have hst9 : mm_ly T t f (k + 1) = mm_ly T t f k := if_neg hcd
          have e4 : (mm_ly T t f k).1 = (mm_ly T t f (k + 1)).1 := by rw [hst9]
          have e5 : mm_fr9 T t f k = mm_fr9 T t f (k + 1) := by unfold mm_fr9; rw [hst9]
          rw [e4, e5] at hl
          exact ih16 (k + 1) ls _ _ (by omega) (by omega) hN (lv_sub hl [1, 2, 3, 4, 5, 6, 0] rfl)
  exact lp16 ((T.pc t) + 1) 0 ls _ _ (by omega) (by omega) hN (lv_sub hl [4, 5, 6, 3, 2, 1, 0] rfl)

set_option maxHeartbeats 4000000 in
set_option maxRecDepth 100000 in
theorem r_pagesFor (l : Launch) (b : Nat) (D : mm_D) (hst : l.stackTraces = false) (T : mm_T) (th : Nat) (rd : Nat → Nat → Nat) (σ : mm_S) (hM : mm_M σ T th rd) (hW : mm_WF T) (t : Nat) (zt : t < 2 ^ 32) (f : Nat) (zf : f < 2 ^ 32) : mm_K l b D yX7_pagesFor (.code yX7_pagesFor cX7_pagesFor 3 (some .int)) ({ frames := 6, cells := 0, slots := 0, locals := 160 } : Room) [.ref ((rd 0 0)), .int (nI t), .int (nI f)] σ
    (fun v σ2 => mm_Mt rd σ σ2 T (T) (mm_q_pagesFor T t f) v (some (.int (nI (mm_pgs T t f)))))
    (fun _ _ => False) := by
  refine mm_of (cc := cX7_pagesFor) (nL := 3) (ret := (some .int)) (by decide) rfl (Nat.le_of_ble_eq_true rfl) hst ?_
  intro p e s m args below meth c ls F ht hr hin hN hl
  have hl : lv_has ls 3 [(0, .ref ((rd 0 0))), (1, .int (nI t)), (2, .int (nI f))] := hl
  have wnA := hW.hnA
  have wnP := hW.hnP
  have wnT := hW.hnT
  have wnR := hW.hnR
  have wpa := hW.hpa
  have wbo := hW.hbo
  have wen0 := hW.hen 0
  have wen1 := hW.hen 1
  refine lv_aload_n (pc := 0) F.1 F.2.1 dX7_pagesFor_0 rfl (lv_at hl 0 rfl) ?_
  refine lv_aload_n (pc := 1) F.1 F.2.1 dX7_pagesFor_1 rfl (lv_at hl 0 rfl) ?_
  refine lv_iload_n (pc := 2) F.1 F.2.1 dX7_pagesFor_2 rfl (lv_at hl 1 rfl) ?_
  refine mm_runV (pc := 3) (As := [.int (nI t)]) (rest := [.ref ((rd 0 0))]) F hN (c_isTpl l b D hst T th rd σ hM hW t (by omega)) mw_1323 mw_1325 mw_p26 mw_6 mw_1326 ⟨pmX7_isTemplate, (Nat.le_of_ble_eq_true rfl), (Nat.le_of_ble_eq_true rfl)⟩ (mm_recv F.2.2.2.2.2.1 hN (mm_r0 hM) rfl) hl.1 rfl (Nat.le_of_ble_eq_true rfl) ⟨(Nat.le_of_ble_eq_true rfl), (Nat.le_of_ble_eq_true rfl)⟩ dX7_pagesFor_3
    (fun _ _ _ _ _ _ h9 => False.elim h9)
    (fun v9 σ9 H locs hp9 hN => ?_)
  obtain ⟨rfl, h9⟩ := hp9
  rw [h9] at hN
  refine W.eq (g2 := F0 m 6 ls [.int (nI (if t < T.nT then 1 else 0)), .ref ((rd 0 0))]) rfl ?_
  refine W.widen (k := 0) (n := 0) (Nat.le_of_ble_eq_true rfl) (Nat.le_of_ble_eq_true rfl) ?_
  by_cases htt : t < T.nT
  ·
    refine W.eq (g2 := F0 m 6 ls [.int (nI 1), .ref ((rd 0 0))]) (by rw [if_pos htt]) ?_
    obtain ⟨wt1t, wt2t, wt3t⟩ := hW.htp t htt
    refine mm_if_ne (pc := 6) F (tgt := 13) (by omega) dX7_pagesFor_6 (by decide) (fun cz6 => ?_) (fun h9 => absurd h9 (by decide))
    refine lv_iload_n (pc := 13) F.1 F.2.1 dX7_pagesFor_13 rfl (lv_at hl 2 rfl) ?_
    refine lv_iconst (pc := 14) (v := nI 0) F.1 F.2.1 dX7_pagesFor_14 (by decide) ?_
    refine lv_bipush (pc := 15) (v := nI 7) F.1 F.2.1 dX7_pagesFor_15 (by decide) ?_
    refine mm_runS (pc := 17) (As := [.int (nI f), .int (nI 0), .int (nI 7)]) (rest := [.ref ((rd 0 0))]) F hN (c_in l b D hst (nI f) (nI 0) (nI 7) σ) mw_1268 mw_1269 mw_6 mw_1270 ⟨pmX7_in, (Nat.le_of_ble_eq_true rfl), (Nat.le_of_ble_eq_true rfl)⟩ hl.1 rfl (Nat.le_of_ble_eq_true rfl) ⟨(Nat.le_of_ble_eq_true rfl), (Nat.le_of_ble_eq_true rfl)⟩ dX7_pagesFor_17
      (fun _ _ _ _ _ _ h9 => False.elim h9)
      (fun v9 σ9 H locs hp9 hN => ?_)
    obtain ⟨rfl, h9⟩ := hp9
    rw [h9] at hN
    refine W.eq (g2 := F0 m 20 ls [.int (nI (if nI 0 ≤ nI f ∧ nI f ≤ nI 7 then 1 else 0)), .ref ((rd 0 0))]) rfl ?_
    refine W.widen (k := 0) (n := 0) (Nat.le_of_ble_eq_true rfl) (Nat.le_of_ble_eq_true rfl) ?_
    by_cases hi17 : 0 ≤ f ∧ f ≤ 7
    ·
      refine W.eq (g2 := F0 m 20 ls [.int (nI 1), .ref ((rd 0 0))]) (by rw [if_pos ((mm_inC (a := f) (lo := 0) (hi := 7) (by omega) (by decide) (by decide)).mpr hi17)]) ?_
      refine mm_if_ne (pc := 20) F (tgt := 27) (by omega) dX7_pagesFor_20 (by decide) (fun cz20 => ?_) (fun h9 => absurd h9 (by decide))
      refine lv_iconst (pc := 27) (v := nI 0) F.1 F.2.1 dX7_pagesFor_27 (by decide) ?_
      refine mm_put (pc := 28) F hN (mm_r0 hM) (ci := 7) rfl 25 (by decide) mw_1204 rfl (ty := .int) (by decide +kernel) (rfl) (rfl) (Nat.le_of_ble_eq_true rfl) dX7_pagesFor_28 (fun H locs hN => ?_)
      have hN : mm_N b D s (mm_u σ ((rd 0 0)) (mm_obj 1 7 [.ref ((rd 1 0)), .ref ((rd 2 0)), .ref ((rd 3 0)), .int (nI T.nA), .ref ((rd 4 0)), .ref ((rd 5 0)), .ref ((rd 6 0)), .int (nI T.nP), .ref ((rd 7 0)), .ref ((rd 8 0)), .ref ((rd 9 0)), .ref ((rd 10 0)), .ref ((rd 11 0)), .int (nI T.nT), .int (nI T.pa), .ref ((rd 12 0)), .int (nI T.bo), .ref ((rd 13 0)), .ref ((rd 14 0)), .ref ((rd 15 0)), .ref ((rd 16 0)), .ref ((rd 17 0)), .ref ((rd 18 0)), .ref ((rd 19 0)), .int (nI T.nR), .int (nI 0)])) _ _ := hN
      obtain ⟨σ2, eσ2⟩ : ∃ q, q = mm_u σ ((rd 0 0)) (mm_obj 1 7 [.ref ((rd 1 0)), .ref ((rd 2 0)), .ref ((rd 3 0)), .int (nI T.nA), .ref ((rd 4 0)), .ref ((rd 5 0)), .ref ((rd 6 0)), .int (nI T.nP), .ref ((rd 7 0)), .ref ((rd 8 0)), .ref ((rd 9 0)), .ref ((rd 10 0)), .ref ((rd 11 0)), .int (nI T.nT), .int (nI T.pa), .ref ((rd 12 0)), .int (nI T.bo), .ref ((rd 13 0)), .ref ((rd 14 0)), .ref ((rd 15 0)), .ref ((rd 16 0)), .ref ((rd 17 0)), .ref ((rd 18 0)), .ref ((rd 19 0)), .int (nI T.nR), .int (nI 0)]) := ⟨_, rfl⟩
      rw [← eσ2] at hN
      have hM2 : mm_M σ2 T 0 rd := by rw [eσ2]; exact mm_Mo hM (fun _ _ => rfl) rfl
      have hF2 : mm_Fr 1 σ σ2 := by rw [eσ2]; exact (mm_Fr.rf).tr (mm_Fr.u (mm_r0 hM))
      refine lv_aload_n (pc := 31) F.1 F.2.1 dX7_pagesFor_31 rfl (lv_at hl 0 rfl) ?_
      refine mm_get (pc := 32) F hN ((show σ2 (rd 0 0) = mm_obj 1 7 [.ref ((rd 1 0)), .ref ((rd 2 0)), .ref ((rd 3 0)), .int (nI T.nA), .ref ((rd 4 0)), .ref ((rd 5 0)), .ref ((rd 6 0)), .int (nI T.nP), .ref ((rd 7 0)), .ref ((rd 8 0)), .ref ((rd 9 0)), .ref ((rd 10 0)), .ref ((rd 11 0)), .int (nI T.nT), .int (nI T.pa), .ref ((rd 12 0)), .int (nI T.bo), .ref ((rd 13 0)), .ref ((rd 14 0)), .ref ((rd 15 0)), .ref ((rd 16 0)), .ref ((rd 17 0)), .ref ((rd 18 0)), .ref ((rd 19 0)), .int (nI T.nR), .int (nI 0)] from mm_r0 (T := T) hM2)) (ci := 7) rfl 25 (by decide) mw_1204 rfl dX7_pagesFor_32 ?_
      refine mm_if_le (pc := 35) F (tgt := 42) (by omega) dX7_pagesFor_35 (by decide) (fun cz35 => ?_) (fun h9 => absurd h9 (by decide))
      refine lv_aload_n (pc := 42) F.1 F.2.1 dX7_pagesFor_42 rfl (lv_at hl 0 rfl) ?_
      refine lv_iload_n (pc := 43) F.1 F.2.1 dX7_pagesFor_43 rfl (lv_at hl 1 rfl) ?_
      refine lv_iload_n (pc := 44) F.1 F.2.1 dX7_pagesFor_44 rfl (lv_at hl 2 rfl) ?_
      refine mm_runV (pc := 45) (As := [.int (nI t), .int (nI f)]) (rest := []) F hN (c_pages l b D hst T 0 rd σ2 hM2 t f (by omega) (mm_tbW hW htt) (by omega)) mw_1331 mw_1333 mw_p27 mw_6 mw_1334 ⟨pmX7_pagesOf, (Nat.le_of_ble_eq_true rfl), (Nat.le_of_ble_eq_true rfl)⟩ (mm_recv F.2.2.2.2.2.1 hN ((show σ2 (rd 0 0) = mm_obj 1 7 [.ref ((rd 1 0)), .ref ((rd 2 0)), .ref ((rd 3 0)), .int (nI T.nA), .ref ((rd 4 0)), .ref ((rd 5 0)), .ref ((rd 6 0)), .int (nI T.nP), .ref ((rd 7 0)), .ref ((rd 8 0)), .ref ((rd 9 0)), .ref ((rd 10 0)), .ref ((rd 11 0)), .int (nI T.nT), .int (nI T.pa), .ref ((rd 12 0)), .int (nI T.bo), .ref ((rd 13 0)), .ref ((rd 14 0)), .ref ((rd 15 0)), .ref ((rd 16 0)), .ref ((rd 17 0)), .ref ((rd 18 0)), .ref ((rd 19 0)), .int (nI T.nR), .int (nI 0)] from mm_r0 (T := T) hM2)) rfl) hl.1 rfl (Nat.le_of_ble_eq_true rfl) ⟨(Nat.le_of_ble_eq_true rfl), (Nat.le_of_ble_eq_true rfl)⟩ dX7_pagesFor_45
        (fun _ _ _ _ _ _ h9 => False.elim h9)
        (fun v9 σ9 H locs hp9 hN => ?_)
      obtain ⟨rfl, h9⟩ := hp9
      rw [h9] at hN
      refine W.eq (g2 := F0 m 48 ls [.int (nI (mm_pgs T t f))]) rfl ?_
      refine W.widen (k := 0) (n := 0) (Nat.le_of_ble_eq_true rfl) (Nat.le_of_ble_eq_true rfl) ?_
      exact mm_iret (pc := 48) F hr hN (Or.inl ⟨by show mm_q_pagesFor T t f = 0; unfold mm_q_pagesFor; (repeat' split) <;> omega, rfl, hM2, hF2⟩) (Nat.le_of_ble_eq_true rfl) (Nat.le_of_ble_eq_true rfl) dX7_pagesFor_48
    ·
      refine W.eq (g2 := F0 m 20 ls [.int (nI 0), .ref ((rd 0 0))]) (by rw [if_neg (fun q => hi17 ((mm_inC (a := f) (lo := 0) (hi := 7) (by omega) (by decide) (by decide)).mp q))]) ?_
      refine mm_if_ne (pc := 20) F (tgt := 27) (by omega) dX7_pagesFor_20 (by decide) (fun h9 => absurd h9 (by decide)) (fun cz20 => ?_)
      refine lv_iconst (pc := 23) (v := nI 2) F.1 F.2.1 dX7_pagesFor_23 (by decide) ?_
      refine lv_goto (pc := 24) (tgt := 28) F.1 F.2.1 dX7_pagesFor_24 (by decide) ?_
      refine mm_put (pc := 28) F hN (mm_r0 hM) (ci := 7) rfl 25 (by decide) mw_1204 rfl (ty := .int) (by decide +kernel) (rfl) (rfl) (Nat.le_of_ble_eq_true rfl) dX7_pagesFor_28 (fun H locs hN => ?_)
      have hN : mm_N b D s (mm_u σ ((rd 0 0)) (mm_obj 1 7 [.ref ((rd 1 0)), .ref ((rd 2 0)), .ref ((rd 3 0)), .int (nI T.nA), .ref ((rd 4 0)), .ref ((rd 5 0)), .ref ((rd 6 0)), .int (nI T.nP), .ref ((rd 7 0)), .ref ((rd 8 0)), .ref ((rd 9 0)), .ref ((rd 10 0)), .ref ((rd 11 0)), .int (nI T.nT), .int (nI T.pa), .ref ((rd 12 0)), .int (nI T.bo), .ref ((rd 13 0)), .ref ((rd 14 0)), .ref ((rd 15 0)), .ref ((rd 16 0)), .ref ((rd 17 0)), .ref ((rd 18 0)), .ref ((rd 19 0)), .int (nI T.nR), .int (nI 2)])) _ _ := hN
      obtain ⟨σ3, eσ3⟩ : ∃ q, q = mm_u σ ((rd 0 0)) (mm_obj 1 7 [.ref ((rd 1 0)), .ref ((rd 2 0)), .ref ((rd 3 0)), .int (nI T.nA), .ref ((rd 4 0)), .ref ((rd 5 0)), .ref ((rd 6 0)), .int (nI T.nP), .ref ((rd 7 0)), .ref ((rd 8 0)), .ref ((rd 9 0)), .ref ((rd 10 0)), .ref ((rd 11 0)), .int (nI T.nT), .int (nI T.pa), .ref ((rd 12 0)), .int (nI T.bo), .ref ((rd 13 0)), .ref ((rd 14 0)), .ref ((rd 15 0)), .ref ((rd 16 0)), .ref ((rd 17 0)), .ref ((rd 18 0)), .ref ((rd 19 0)), .int (nI T.nR), .int (nI 2)]) := ⟨_, rfl⟩
      rw [← eσ3] at hN
      have hM3 : mm_M σ3 T 2 rd := by rw [eσ3]; exact mm_Mo hM (fun _ _ => rfl) rfl
      have hF3 : mm_Fr 1 σ σ3 := by rw [eσ3]; exact (mm_Fr.rf).tr (mm_Fr.u (mm_r0 hM))
      refine lv_aload_n (pc := 31) F.1 F.2.1 dX7_pagesFor_31 rfl (lv_at hl 0 rfl) ?_
      refine mm_get (pc := 32) F hN ((show σ3 (rd 0 0) = mm_obj 1 7 [.ref ((rd 1 0)), .ref ((rd 2 0)), .ref ((rd 3 0)), .int (nI T.nA), .ref ((rd 4 0)), .ref ((rd 5 0)), .ref ((rd 6 0)), .int (nI T.nP), .ref ((rd 7 0)), .ref ((rd 8 0)), .ref ((rd 9 0)), .ref ((rd 10 0)), .ref ((rd 11 0)), .int (nI T.nT), .int (nI T.pa), .ref ((rd 12 0)), .int (nI T.bo), .ref ((rd 13 0)), .ref ((rd 14 0)), .ref ((rd 15 0)), .ref ((rd 16 0)), .ref ((rd 17 0)), .ref ((rd 18 0)), .ref ((rd 19 0)), .int (nI T.nR), .int (nI 2)] from mm_r0 (T := T) hM3)) (ci := 7) rfl 25 (by decide) mw_1204 rfl dX7_pagesFor_32 ?_
      refine mm_if_le (pc := 35) F (tgt := 42) (by omega) dX7_pagesFor_35 (by decide) (fun h9 => absurd h9 (by decide)) (fun cz35 => ?_)
      refine lv_iconst (pc := 38) (v := nI 0) F.1 F.2.1 dX7_pagesFor_38 (by decide) ?_
      refine lv_goto (pc := 39) (tgt := 48) F.1 F.2.1 dX7_pagesFor_39 (by decide) ?_
      exact mm_iret (pc := 48) F hr hN (Or.inr ⟨by rw [show mm_q_pagesFor T t f = 2 from by show mm_q_pagesFor T t f = 2; unfold mm_q_pagesFor; (repeat' split) <;> omega]; decide, ⟨_, rfl⟩, by rw [show mm_q_pagesFor T t f = 2 from by show mm_q_pagesFor T t f = 2; unfold mm_q_pagesFor; (repeat' split) <;> omega]; exact hM3, hF3⟩) (Nat.le_of_ble_eq_true rfl) (Nat.le_of_ble_eq_true rfl) dX7_pagesFor_48
  ·
    refine W.eq (g2 := F0 m 6 ls [.int (nI 0), .ref ((rd 0 0))]) (by rw [if_neg htt]) ?_
    refine mm_if_ne (pc := 6) F (tgt := 13) (by omega) dX7_pagesFor_6 (by decide) (fun h9 => absurd h9 (by decide)) (fun cz6 => ?_)
    refine lv_iconst (pc := 9) (v := nI 1) F.1 F.2.1 dX7_pagesFor_9 (by decide) ?_
    refine lv_goto (pc := 10) (tgt := 28) F.1 F.2.1 dX7_pagesFor_10 (by decide) ?_
    refine mm_put (pc := 28) F hN (mm_r0 hM) (ci := 7) rfl 25 (by decide) mw_1204 rfl (ty := .int) (by decide +kernel) (rfl) (rfl) (Nat.le_of_ble_eq_true rfl) dX7_pagesFor_28 (fun H locs hN => ?_)
    have hN : mm_N b D s (mm_u σ ((rd 0 0)) (mm_obj 1 7 [.ref ((rd 1 0)), .ref ((rd 2 0)), .ref ((rd 3 0)), .int (nI T.nA), .ref ((rd 4 0)), .ref ((rd 5 0)), .ref ((rd 6 0)), .int (nI T.nP), .ref ((rd 7 0)), .ref ((rd 8 0)), .ref ((rd 9 0)), .ref ((rd 10 0)), .ref ((rd 11 0)), .int (nI T.nT), .int (nI T.pa), .ref ((rd 12 0)), .int (nI T.bo), .ref ((rd 13 0)), .ref ((rd 14 0)), .ref ((rd 15 0)), .ref ((rd 16 0)), .ref ((rd 17 0)), .ref ((rd 18 0)), .ref ((rd 19 0)), .int (nI T.nR), .int (nI 1)])) _ _ := hN
    obtain ⟨σ4, eσ4⟩ : ∃ q, q = mm_u σ ((rd 0 0)) (mm_obj 1 7 [.ref ((rd 1 0)), .ref ((rd 2 0)), .ref ((rd 3 0)), .int (nI T.nA), .ref ((rd 4 0)), .ref ((rd 5 0)), .ref ((rd 6 0)), .int (nI T.nP), .ref ((rd 7 0)), .ref ((rd 8 0)), .ref ((rd 9 0)), .ref ((rd 10 0)), .ref ((rd 11 0)), .int (nI T.nT), .int (nI T.pa), .ref ((rd 12 0)), .int (nI T.bo), .ref ((rd 13 0)), .ref ((rd 14 0)), .ref ((rd 15 0)), .ref ((rd 16 0)), .ref ((rd 17 0)), .ref ((rd 18 0)), .ref ((rd 19 0)), .int (nI T.nR), .int (nI 1)]) := ⟨_, rfl⟩
    rw [← eσ4] at hN
    have hM4 : mm_M σ4 T 1 rd := by rw [eσ4]; exact mm_Mo hM (fun _ _ => rfl) rfl
    have hF4 : mm_Fr 1 σ σ4 := by rw [eσ4]; exact (mm_Fr.rf).tr (mm_Fr.u (mm_r0 hM))
    refine lv_aload_n (pc := 31) F.1 F.2.1 dX7_pagesFor_31 rfl (lv_at hl 0 rfl) ?_
    refine mm_get (pc := 32) F hN ((show σ4 (rd 0 0) = mm_obj 1 7 [.ref ((rd 1 0)), .ref ((rd 2 0)), .ref ((rd 3 0)), .int (nI T.nA), .ref ((rd 4 0)), .ref ((rd 5 0)), .ref ((rd 6 0)), .int (nI T.nP), .ref ((rd 7 0)), .ref ((rd 8 0)), .ref ((rd 9 0)), .ref ((rd 10 0)), .ref ((rd 11 0)), .int (nI T.nT), .int (nI T.pa), .ref ((rd 12 0)), .int (nI T.bo), .ref ((rd 13 0)), .ref ((rd 14 0)), .ref ((rd 15 0)), .ref ((rd 16 0)), .ref ((rd 17 0)), .ref ((rd 18 0)), .ref ((rd 19 0)), .int (nI T.nR), .int (nI 1)] from mm_r0 (T := T) hM4)) (ci := 7) rfl 25 (by decide) mw_1204 rfl dX7_pagesFor_32 ?_
    refine mm_if_le (pc := 35) F (tgt := 42) (by omega) dX7_pagesFor_35 (by decide) (fun h9 => absurd h9 (by decide)) (fun cz35 => ?_)
    refine lv_iconst (pc := 38) (v := nI 0) F.1 F.2.1 dX7_pagesFor_38 (by decide) ?_
    refine lv_goto (pc := 39) (tgt := 48) F.1 F.2.1 dX7_pagesFor_39 (by decide) ?_
    exact mm_iret (pc := 48) F hr hN (Or.inr ⟨by rw [show mm_q_pagesFor T t f = 1 from by show mm_q_pagesFor T t f = 1; unfold mm_q_pagesFor; (repeat' split) <;> omega]; decide, ⟨_, rfl⟩, by rw [show mm_q_pagesFor T t f = 1 from by show mm_q_pagesFor T t f = 1; unfold mm_q_pagesFor; (repeat' split) <;> omega]; exact hM4, hF4⟩) (Nat.le_of_ble_eq_true rfl) (Nat.le_of_ble_eq_true rfl) dX7_pagesFor_48

set_option maxHeartbeats 4000000 in
set_option maxRecDepth 100000 in
theorem c_ends (l : Launch) (b : Nat) (D : mm_D) (hst : l.stackTraces = false) (T : mm_T) (th : Nat) (rd : Nat → Nat → Nat) (σ : mm_S) (hM : mm_M σ T th rd) (a : Nat) (ha : a < 12) (hR : T.nR ≤ 10) (hrun : 0 < T.nR → T.rp (T.nR - 1) ≤ 24 ∧ ∀ p, p < T.rp (T.nR - 1) → T.oc (T.nR - 1) p < 65536 ∧ T.bk (T.nR - 1) p < 2 ∧ T.ho p < 12) : mm_K l b D yX7_ends (.code yX7_ends cX7_ends 5 (some .boolean)) ({ frames := 0, cells := 0, slots := 0, locals := 0 } : Room) [.ref ((rd 0 0)), .int (nI a)] σ
    (fun v σ2 => v = some (.int (nI (if mm_ends T a = true then 1 else 0))) ∧ σ2 = σ)
    (fun _ _ => False) := by
  refine mm_of (cc := cX7_ends) (nL := 5) (ret := (some .boolean)) (by decide) rfl (Nat.le_of_ble_eq_true rfl) hst ?_
  intro p e s m args below meth c ls F ht hr hin hN hl
  have hl : lv_has ls 5 [(0, .ref ((rd 0 0))), (1, .int (nI a))] := hl
  refine lv_iconst (pc := 0) (v := nI 0) F.1 F.2.1 dX7_ends_0 (by decide) ?_
  refine lv_istore_n (pc := 1) (lv' := [(2, .int (nI 0)), (0, .ref ((rd 0 0))), (1, .int (nI a))]) F.1 F.2.1 dX7_ends_1 rfl hl (by decide) rfl (fun ls hl => ?_)
  refine lv_aload_n (pc := 2) F.1 F.2.1 dX7_ends_2 rfl (lv_at hl 1 rfl) ?_
  refine mm_get (pc := 3) F hN (mm_r0 hM) (ci := 7) rfl 24 (by decide) mw_1203 rfl dX7_ends_3 ?_
  refine lv_iconst (pc := 6) (v := nI 1) F.1 F.2.1 dX7_ends_6 (by decide) ?_
  by_cases hnr : T.nR = 0
  ·
    refine mm_isub (pc := 7) F (z := (-1)) (by rw [hnr]; decide) dX7_ends_7 ?_
    refine lv_istore_n (pc := 8) (lv' := [(3, .int ((-1))), (2, .int (nI 0)), (0, .ref ((rd 0 0))), (1, .int (nI a))]) F.1 F.2.1 dX7_ends_8 rfl hl (by decide) rfl (fun ls hl => ?_)
    refine lv_iconst (pc := 9) (v := nI 0) F.1 F.2.1 dX7_ends_9 (by decide) ?_
    refine lv_istore (pc := 10) (lv' := [(4, .int (nI 0)), (3, .int ((-1))), (2, .int (nI 0)), (0, .ref ((rd 0 0))), (1, .int (nI a))]) F.1 F.2.1 dX7_ends_10 hl (by decide) rfl (fun ls hl => ?_)
    refine lv_iload_n (pc := 12) F.1 F.2.1 dX7_ends_12 rfl (lv_at hl 1 rfl) ?_
    refine lv_if_lt (pc := 13) (tgt := 80) F.1 F.2.1 dX7_ends_13 (by decide) (fun cz13 => ?_) (fun cz13 => ?_)
    ·
      refine lv_iload_n (pc := 80) F.1 F.2.1 dX7_ends_80 rfl (lv_at hl 2 rfl) ?_
      exact mm_zret (pc := 81) F (ty := .boolean) hr hN (by decide) (⟨by rw [if_neg]; rw [mm_ends, decide_eq_false (by omega), Bool.false_and]; decide, rfl⟩) (Nat.le_of_ble_eq_true rfl) (Nat.le_of_ble_eq_true rfl) dX7_ends_81
    ·
      exact absurd (show (-1 : Int32) < 0 by decide) cz13
  ·
    refine mm_isub (pc := 7) F (z := nI (T.nR - 1)) (pk_sub (by omega)) dX7_ends_7 ?_
    refine lv_istore_n (pc := 8) (lv' := [(3, .int (nI (T.nR - 1))), (2, .int (nI 0)), (0, .ref ((rd 0 0))), (1, .int (nI a))]) F.1 F.2.1 dX7_ends_8 rfl hl (by decide) rfl (fun ls hl => ?_)
    refine lv_iconst (pc := 9) (v := nI 0) F.1 F.2.1 dX7_ends_9 (by decide) ?_
    refine lv_istore (pc := 10) (lv' := [(4, .int (nI 0)), (3, .int (nI (T.nR - 1))), (2, .int (nI 0)), (0, .ref ((rd 0 0))), (1, .int (nI a))]) F.1 F.2.1 dX7_ends_10 hl (by decide) rfl (fun ls hl => ?_)
    obtain ⟨hrp, hbd⟩ := hrun (by omega)
    have lp12 : ∀ (k12 u : Nat) (is : Nat) (ls : Array Slot) (H : Heap) (locs : List Loc), T.rp (T.nR - 1) < u + k12 → u ≤ T.rp (T.nR - 1) → (is = if mm_ex (fun p => decide (T.oc (T.nR - 1) p = 108 ∧ T.bk (T.nR - 1) p = 0 ∧ T.ho p = a)) u = true then 1 else 0) → mm_N b D s σ H locs → lv_has ls 5 [(0, .ref ((rd 0 0))), (1, .int (nI a)), (2, .int (nI is)), (3, .int (nI (T.nR - 1))), (4, .int (nI u))] →
        W p l e ({ frames := 0, cells := 0, slots := 0, locals := 0 } : Room) s m args below meth c H locs (0) (0) (mm_Q b D (fun v σ2 => v = some (.int (nI (if mm_ends T a = true then 1 else 0))) ∧ σ2 = σ) (fun _ _ => False) below args s ({ frames := 0, cells := 0, slots := 0, locals := 0 } : Room)) (F0 m 12 ls []) := by
      intro k12
      induction k12 with
      | zero => intro u is ls H locs hk12 hi12 his hN hl; omega
      | succ k12 ih12 =>
        intro u is ls H locs hk12 hi12 his hN hl
        have his2 : is < 2 := by rw [his]; split <;> decide
        refine lv_iload_n (pc := 12) F.1 F.2.1 dX7_ends_12 rfl (lv_at hl 3 rfl) ?_
        refine mm_if_lt (pc := 13) F (tgt := 80) (by omega) dX7_ends_13 (by decide) ?_
        refine lv_iload (pc := 16) F.1 F.2.1 dX7_ends_16 (lv_at hl 4 rfl) ?_
        refine lv_aload_n (pc := 18) F.1 F.2.1 dX7_ends_18 rfl (lv_at hl 0 rfl) ?_
        refine mm_get (pc := 19) F hN (mm_r0 hM) (ci := 7) rfl 17 (by decide) mw_1196 rfl dX7_ends_19 ?_
        refine lv_iload_n (pc := 22) F.1 F.2.1 dX7_ends_22 rfl (lv_at hl 3 rfl) ?_
        refine mm_iald (pc := 23) F hN ((show σ (rd 13 0) = mm_ari 1 0 10 (fun i => nI (T.rp i)) from mm_r13 (T := T) hM)) (j := T.nR - 1) (rfl) (by omega) (by decide) dX7_ends_23 ?_
        refine mm_icmp_ge (pc := 24) F (x := u) (y := T.rp (T.nR - 1)) (tgt := 80) (by omega) (by omega) dX7_ends_24 (by decide) (fun cz24 => ?_) (fun cz24 => ?_)
        ·
          refine lv_iload_n (pc := 80) F.1 F.2.1 dX7_ends_80 rfl (lv_at hl 2 rfl) ?_
          exact mm_zret (pc := 81) F (ty := .boolean) hr hN (mm_narZ (by omega)) (⟨by rw [mm_ends, decide_eq_true (by omega), Bool.true_and, ← show u = T.rp (T.nR - 1) by omega, ← his], rfl⟩) (Nat.le_of_ble_eq_true rfl) (Nat.le_of_ble_eq_true rfl) dX7_ends_81
        ·
          obtain ⟨b1, b2, b3⟩ := hbd u (by omega)
          refine lv_iload_n (pc := 27) F.1 F.2.1 dX7_ends_27 rfl (lv_at hl 2 rfl) ?_
          refine mm_if_ne (pc := 28) F (tgt := 68) (by omega) dX7_ends_28 (by decide) (fun cz28 => ?_) (fun cz28 => ?_)
          ·
            refine lv_iconst (pc := 68) (v := nI 1) F.1 F.2.1 dX7_ends_68 (by decide) ?_
            refine lv_goto (pc := 69) (tgt := 73) F.1 F.2.1 dX7_ends_69 (by decide) ?_
            refine lv_istore_n (pc := 73) (lv' := [(2, .int (nI 1)), (0, .ref ((rd 0 0))), (1, .int (nI a)), (3, .int (nI (T.nR - 1))), (4, .int (nI u))]) F.1 F.2.1 dX7_ends_73 rfl hl (by decide) rfl (fun ls hl => ?_)
            refine lv_iinc (pc := 74) (v := nI (u + 1)) (lv' := [(4, .int (nI (u + 1))), (2, .int (nI 1)), (0, .ref ((rd 0 0))), (1, .int (nI a)), (3, .int (nI (T.nR - 1)))]) F.1 F.2.1 dX7_ends_74 hl (k := 4) rfl (by rw [← nI_add]; rfl) (by decide) rfl (fun ls hl => ?_)
            refine lv_goto (pc := 77) (tgt := 12) F.1 F.2.1 dX7_ends_77 (by decide) ?_
            exact ih12 (u + 1) 1 ls _ _ (by omega) (by omega) (by
                  rw [if_pos]
                  rw [(show mm_ex (fun p => decide (T.oc (T.nR - 1) p = 108 ∧ T.bk (T.nR - 1) p = 0 ∧ T.ho p = a)) (u + 1) = (mm_ex (fun p => decide (T.oc (T.nR - 1) p = 108 ∧ T.bk (T.nR - 1) p = 0 ∧ T.ho p = a)) u || decide (T.oc (T.nR - 1) u = 108 ∧ T.bk (T.nR - 1) u = 0 ∧ T.ho u = a)) from rfl), show mm_ex (fun p => decide (T.oc (T.nR - 1) p = 108 ∧ T.bk (T.nR - 1) p = 0 ∧ T.ho p = a)) u = true from by
                    by_cases h9 : mm_ex (fun p => decide (T.oc (T.nR - 1) p = 108 ∧ T.bk (T.nR - 1) p = 0 ∧ T.ho p = a)) u = true
                    · exact h9
                    · rw [if_neg h9] at his; exact absurd his cz28, Bool.true_or]) hN (lv_sub hl [2, 3, 1, 4, 0] rfl)
          ·
            refine lv_aload_n (pc := 31) F.1 F.2.1 dX7_ends_31 rfl (lv_at hl 0 rfl) ?_
            refine mm_get (pc := 32) F hN (mm_r0 hM) (ci := 7) rfl 18 (by decide) mw_1197 rfl dX7_ends_32 ?_
            refine lv_iload_n (pc := 35) F.1 F.2.1 dX7_ends_35 rfl (lv_at hl 3 rfl) ?_
            refine mm_aald (pc := 36) F hN ((show σ (rd 14 0) = mm_arq 1 6 10 (fun i => if i < 10 then some (rd 14 (i + 1)) else none) from mm_rq14 (T := T) hM)) rfl rfl (j := T.nR - 1) (rfl) (by omega) (by decide) (if_pos (by omega)) dX7_ends_36 ?_
            refine lv_iload (pc := 37) F.1 F.2.1 dX7_ends_37 (lv_at hl 4 rfl) ?_
            refine mm_cald (pc := 39) F hN ((show σ (rd 14 (T.nR - 1 + 1)) = mm_ari 1 3 24 (fun j => nI (T.oc (T.nR - 1) j)) from mm_rr14 (T := T) hM (i := T.nR - 1) (by omega))) (j := u) (rfl) (by omega) (by decide) dX7_ends_39 ?_
            refine lv_bipush (pc := 40) (v := nI 108) F.1 F.2.1 dX7_ends_40 (by decide) ?_
            refine mm_icmp_ne (pc := 42) F (x := T.oc (T.nR - 1) u) (y := 108) (tgt := 72) (by omega) (by omega) dX7_ends_42 (by decide) (fun cz42 => ?_) (fun cz42 => ?_)
            ·
              refine lv_iconst (pc := 72) (v := nI 0) F.1 F.2.1 dX7_ends_72 (by decide) ?_
              refine lv_istore_n (pc := 73) (lv' := [(2, .int (nI 0)), (0, .ref ((rd 0 0))), (1, .int (nI a)), (3, .int (nI (T.nR - 1))), (4, .int (nI u))]) F.1 F.2.1 dX7_ends_73 rfl hl (by decide) rfl (fun ls hl => ?_)
              refine lv_iinc (pc := 74) (v := nI (u + 1)) (lv' := [(4, .int (nI (u + 1))), (2, .int (nI 0)), (0, .ref ((rd 0 0))), (1, .int (nI a)), (3, .int (nI (T.nR - 1)))]) F.1 F.2.1 dX7_ends_74 hl (k := 4) rfl (by rw [← nI_add]; rfl) (by decide) rfl (fun ls hl => ?_)
              refine lv_goto (pc := 77) (tgt := 12) F.1 F.2.1 dX7_ends_77 (by decide) ?_
              exact ih12 (u + 1) 0 ls _ _ (by omega) (by omega) (by
                    rw [if_neg]
                    rw [(show mm_ex (fun p => decide (T.oc (T.nR - 1) p = 108 ∧ T.bk (T.nR - 1) p = 0 ∧ T.ho p = a)) (u + 1) = (mm_ex (fun p => decide (T.oc (T.nR - 1) p = 108 ∧ T.bk (T.nR - 1) p = 0 ∧ T.ho p = a)) u || decide (T.oc (T.nR - 1) u = 108 ∧ T.bk (T.nR - 1) u = 0 ∧ T.ho u = a)) from rfl), decide_eq_false (fun q => cz42 q.1), Bool.or_false]
                    intro h9
                    rw [if_pos h9, cz28] at his
                    cases his) hN (lv_sub hl [2, 3, 1, 4, 0] rfl)
            ·
              refine lv_aload_n (pc := 45) F.1 F.2.1 dX7_ends_45 rfl (lv_at hl 0 rfl) ?_
              refine mm_get (pc := 46) F hN (mm_r0 hM) (ci := 7) rfl 23 (by decide) mw_1202 rfl dX7_ends_46 ?_
              refine lv_iload_n (pc := 49) F.1 F.2.1 dX7_ends_49 rfl (lv_at hl 3 rfl) ?_
              refine mm_aald (pc := 50) F hN ((show σ (rd 19 0) = mm_arq 1 7 10 (fun i => if i < 10 then some (rd 19 (i + 1)) else none) from mm_rq19 (T := T) hM)) rfl rfl (j := T.nR - 1) (rfl) (by omega) (by decide) (if_pos (by omega)) dX7_ends_50 ?_
              refine lv_iload (pc := 51) F.1 F.2.1 dX7_ends_51 (lv_at hl 4 rfl) ?_
              refine mm_zald (pc := 53) F hN ((show σ (rd 19 (T.nR - 1 + 1)) = mm_ari 1 4 24 (fun j => nI (T.bk (T.nR - 1) j)) from mm_rr19 (T := T) hM (i := T.nR - 1) (by omega))) (j := u) (rfl) (by omega) (by decide) dX7_ends_53 ?_
              refine mm_if_ne (pc := 54) F (tgt := 72) (by omega) dX7_ends_54 (by decide) (fun cz54 => ?_) (fun cz54 => ?_)
              ·
                refine lv_iconst (pc := 72) (v := nI 0) F.1 F.2.1 dX7_ends_72 (by decide) ?_
                refine lv_istore_n (pc := 73) (lv' := [(2, .int (nI 0)), (0, .ref ((rd 0 0))), (1, .int (nI a)), (3, .int (nI (T.nR - 1))), (4, .int (nI u))]) F.1 F.2.1 dX7_ends_73 rfl hl (by decide) rfl (fun ls hl => ?_)
                refine lv_iinc (pc := 74) (v := nI (u + 1)) (lv' := [(4, .int (nI (u + 1))), (2, .int (nI 0)), (0, .ref ((rd 0 0))), (1, .int (nI a)), (3, .int (nI (T.nR - 1)))]) F.1 F.2.1 dX7_ends_74 hl (k := 4) rfl (by rw [← nI_add]; rfl) (by decide) rfl (fun ls hl => ?_)
                refine lv_goto (pc := 77) (tgt := 12) F.1 F.2.1 dX7_ends_77 (by decide) ?_
                exact ih12 (u + 1) 0 ls _ _ (by omega) (by omega) (by
                      rw [if_neg]
                      rw [(show mm_ex (fun p => decide (T.oc (T.nR - 1) p = 108 ∧ T.bk (T.nR - 1) p = 0 ∧ T.ho p = a)) (u + 1) = (mm_ex (fun p => decide (T.oc (T.nR - 1) p = 108 ∧ T.bk (T.nR - 1) p = 0 ∧ T.ho p = a)) u || decide (T.oc (T.nR - 1) u = 108 ∧ T.bk (T.nR - 1) u = 0 ∧ T.ho u = a)) from rfl), decide_eq_false (fun q => cz54 q.2.1), Bool.or_false]
                      intro h9
                      rw [if_pos h9, cz28] at his
                      cases his) hN (lv_sub hl [2, 3, 1, 4, 0] rfl)
              ·
                refine lv_aload_n (pc := 57) F.1 F.2.1 dX7_ends_57 rfl (lv_at hl 0 rfl) ?_
                refine mm_get (pc := 58) F hN (mm_r0 hM) (ci := 7) rfl 4 (by decide) mw_1183 rfl dX7_ends_58 ?_
                refine lv_iload (pc := 61) F.1 F.2.1 dX7_ends_61 (lv_at hl 4 rfl) ?_
                refine mm_iald (pc := 63) F hN ((show σ (rd 4 0) = mm_ari 1 0 24 (fun i => nI (T.ho i)) from mm_r4 (T := T) hM)) (j := u) (rfl) (by omega) (by decide) dX7_ends_63 ?_
                refine lv_iload_n (pc := 64) F.1 F.2.1 dX7_ends_64 rfl (lv_at hl 1 rfl) ?_
                refine mm_icmp_ne (pc := 65) F (x := T.ho u) (y := a) (tgt := 72) (by omega) (by omega) dX7_ends_65 (by decide) (fun cz65 => ?_) (fun cz65 => ?_)
                ·
                  refine lv_iconst (pc := 72) (v := nI 0) F.1 F.2.1 dX7_ends_72 (by decide) ?_
                  refine lv_istore_n (pc := 73) (lv' := [(2, .int (nI 0)), (0, .ref ((rd 0 0))), (1, .int (nI a)), (3, .int (nI (T.nR - 1))), (4, .int (nI u))]) F.1 F.2.1 dX7_ends_73 rfl hl (by decide) rfl (fun ls hl => ?_)
                  refine lv_iinc (pc := 74) (v := nI (u + 1)) (lv' := [(4, .int (nI (u + 1))), (2, .int (nI 0)), (0, .ref ((rd 0 0))), (1, .int (nI a)), (3, .int (nI (T.nR - 1)))]) F.1 F.2.1 dX7_ends_74 hl (k := 4) rfl (by rw [← nI_add]; rfl) (by decide) rfl (fun ls hl => ?_)
                  refine lv_goto (pc := 77) (tgt := 12) F.1 F.2.1 dX7_ends_77 (by decide) ?_
                  exact ih12 (u + 1) 0 ls _ _ (by omega) (by omega) (by
                        rw [if_neg]
                        rw [(show mm_ex (fun p => decide (T.oc (T.nR - 1) p = 108 ∧ T.bk (T.nR - 1) p = 0 ∧ T.ho p = a)) (u + 1) = (mm_ex (fun p => decide (T.oc (T.nR - 1) p = 108 ∧ T.bk (T.nR - 1) p = 0 ∧ T.ho p = a)) u || decide (T.oc (T.nR - 1) u = 108 ∧ T.bk (T.nR - 1) u = 0 ∧ T.ho u = a)) from rfl), decide_eq_false (fun q => cz65 q.2.2), Bool.or_false]
                        intro h9
                        rw [if_pos h9, cz28] at his
                        cases his) hN (lv_sub hl [2, 3, 1, 4, 0] rfl)
                ·
                  refine lv_iconst (pc := 68) (v := nI 1) F.1 F.2.1 dX7_ends_68 (by decide) ?_
                  refine lv_goto (pc := 69) (tgt := 73) F.1 F.2.1 dX7_ends_69 (by decide) ?_
                  refine lv_istore_n (pc := 73) (lv' := [(2, .int (nI 1)), (0, .ref ((rd 0 0))), (1, .int (nI a)), (3, .int (nI (T.nR - 1))), (4, .int (nI u))]) F.1 F.2.1 dX7_ends_73 rfl hl (by decide) rfl (fun ls hl => ?_)
                  refine lv_iinc (pc := 74) (v := nI (u + 1)) (lv' := [(4, .int (nI (u + 1))), (2, .int (nI 1)), (0, .ref ((rd 0 0))), (1, .int (nI a)), (3, .int (nI (T.nR - 1)))]) F.1 F.2.1 dX7_ends_74 hl (k := 4) rfl (by rw [← nI_add]; rfl) (by decide) rfl (fun ls hl => ?_)
                  refine lv_goto (pc := 77) (tgt := 12) F.1 F.2.1 dX7_ends_77 (by decide) ?_
                  exact ih12 (u + 1) 1 ls _ _ (by omega) (by omega) (by
                        rw [if_pos]
                        rw [(show mm_ex (fun p => decide (T.oc (T.nR - 1) p = 108 ∧ T.bk (T.nR - 1) p = 0 ∧ T.ho p = a)) (u + 1) = (mm_ex (fun p => decide (T.oc (T.nR - 1) p = 108 ∧ T.bk (T.nR - 1) p = 0 ∧ T.ho p = a)) u || decide (T.oc (T.nR - 1) u = 108 ∧ T.bk (T.nR - 1) u = 0 ∧ T.ho u = a)) from rfl), decide_eq_true ⟨cz42, cz54, cz65⟩, Bool.or_true]) hN (lv_sub hl [2, 3, 1, 4, 0] rfl)
    exact lp12 ((T.rp (T.nR - 1)) + 1) 0 0 ls _ _ (by omega) (by omega) (rfl) hN (lv_sub hl [3, 4, 2, 1, 0] rfl)

