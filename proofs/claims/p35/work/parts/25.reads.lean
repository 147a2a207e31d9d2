section
variable {T : mm_T} {ad : Nat → Nat → Nat → Nat} {r te : Nat} {g : Nat → Nat}
theorem mm_route : mm_sm (fun i => if mm_fa T ad r 3 ((mm_po (T.oc r) (T.rc r) (T.rp r)).getD i 0) / 10 = te then 1 else 0) ((mm_po (T.oc r) (T.rc r) (T.rp r)).map g).length = mm_sm (fun p => if T.oc r p = 108 ∧ T.rc r p / 10 = te then 1 else 0) (T.rp r) := by
  rw [List.length_map]
  exact mm_po_cnt (T.oc r) (T.rc r) (fun p => T.rc r p / 10 = te) (T.rp r)
theorem mm_allc (hW : mm_WF T) (hr : r < T.nR) : mm_sm (fun i => mm_cf (mm_sm (fun j => if mm_fa T ad r 3 ((mm_po (T.oc r) (T.rc r) (T.rp r)).getD j 0) / 10 = mm_fa T ad r 3 ((mm_po (T.oc r) (T.rc r) (T.rp r)).getD i 0) / 10 then 1 else 0) ((mm_po (T.oc r) (T.rc r) (T.rp r)).map g).length) (T.rb r) (mm_fa T ad r 4 ((mm_po (T.oc r) (T.rc r) (T.rp r)).getD i 0))) ((mm_po (T.oc r) (T.rc r) (T.rp r)).map g).length = mm_sm (fun p => if T.oc r p = 108 then T.ps r p else 0) (T.rp r) := by
  rw [mm_sm_congr (fun i _ => congrArg (fun n => mm_cf n (T.rb r) (mm_fa T ad r 4 ((mm_po (T.oc r) (T.rc r) (T.rp r)).getD i 0))) mm_route), List.length_map]
  rw [show mm_sm (fun p => if T.oc r p = 108 then T.ps r p else 0) (T.rp r) = mm_sm (fun p => if T.oc r p = 108 then mm_cf (mm_sm (fun q => if T.oc r q = 108 ∧ T.rc r q / 10 = T.rc r p / 10 then 1 else 0) (T.rp r)) (T.rb r) (T.pg r p) else 0) (T.rp r) from mm_sm_congr (fun p hp => by
    by_cases h : T.oc r p = 108
    · rw [if_pos h, if_pos h]
      obtain ⟨-, -, -, w⟩ := hW.hru r hr
      exact (w p hp).2.2.2.2.2.2 h
    · rw [if_neg h, if_neg h])]
  exact mm_po_sum (T.oc r) (T.rc r) (fun p => mm_cf (mm_sm (fun q => if T.oc r q = 108 ∧ T.rc r q / 10 = T.rc r p / 10 then 1 else 0) (T.rp r)) (T.rb r) (T.pg r p)) (T.rp r)
end
set_option maxHeartbeats 4000000 in
set_option maxRecDepth 100000 in
theorem c_entryAt (l : Launch) (b : Nat) (D : mm_D) (hst : l.stackTraces = false) (T : mm_T) (z : mm_Z) (ad : Nat → Nat → Nat → Nat) (σ : mm_S) (hX : mm_X σ T z ad) (hW : mm_WF T) (k i : Nat) (zk : k < 2 ^ 32) (zi : i < 2 ^ 32) : mm_K l b D yX6_entryAt (.code yX6_entryAt cX6_entryAt 4 (some (.object "Mailmerge$Entry"))) ({ frames := 7, cells := 2, slots := 12, locals := 130 } : Room) [.ref ((ad 0 0 0)), .int (nI k), .int (nI i)] σ
    (fun v σ2 => (k < T.nR ∧ i < T.rp k) ∧ v = some (.ref (ad 7 k i)) ∧ σ2 = σ)
    (fun E σ2 => E = "java/lang/IndexOutOfBoundsException" ∧ ¬ (k < T.nR ∧ i < T.rp k) ∧ σ2 = σ) := by
  refine mm_of (cc := cX6_entryAt) (nL := 4) (ret := (some (.object "Mailmerge$Entry"))) (by decide) rfl (Nat.le_of_ble_eq_true rfl) hst ?_
  intro p e s m args below meth c ls F ht hr hin hN hl
  have hl : lv_has ls 4 [(0, .ref ((ad 0 0 0))), (1, .int (nI k)), (2, .int (nI i))] := hl
  have wnA := hW.hnA
  have wnP := hW.hnP
  have wnT := hW.hnT
  have wnR := hW.hnR
  have wpa := hW.hpa
  have wbo := hW.hbo
  have wen0 := hW.hen 0
  have wen1 := hW.hen 1
  refine lv_aload_n (pc := 0) F.1 F.2.1 dX6_entryAt_0 rfl (lv_at hl 0 rfl) ?_
  refine lv_iload_n (pc := 1) F.1 F.2.1 dX6_entryAt_1 rfl (lv_at hl 1 rfl) ?_
  refine mm_runV (pc := 2) (As := [.int (nI k)]) (rest := []) F hN (c_runAt l b D hst T z ad σ hX hW k zk) mw_971 mw_973 mw_p20 mw_1 mw_974 ⟨pmX6_runAt, (Nat.le_of_ble_eq_true rfl), (Nat.le_of_ble_eq_true rfl)⟩ (mm_recv F.2.2.2.2.2.1 hN (mm_X0 hX) rfl) hl.1 rfl (Nat.le_of_ble_eq_true rfl) ⟨(Nat.le_of_ble_eq_true rfl), (Nat.le_of_ble_eq_true rfl)⟩ dX6_entryAt_2
    (fun E9 σ9 H9 l9 q9 ce9 hp9 hN9 hq9 hv9 hcl9 => mm_out F ht hN9 (by obtain ⟨g1, g2, g3⟩ := hp9; exact ⟨g1, fun q => g2 q.1, g3⟩) hq9 hv9 hcl9 (Nat.le_of_ble_eq_true rfl) (Nat.le_of_ble_eq_true rfl))
    (fun v9 σ9 H locs hp9 hN => ?_)
  obtain ⟨hrn, rfl, h9⟩ := hp9
  refine W.eq (g2 := F0 m 5 ls [.ref ((ad 5 k 0))]) rfl ?_
  refine W.widen (k := 1) (n := 6) (Nat.le_of_ble_eq_true rfl) (Nat.le_of_ble_eq_true rfl) ?_
  rw [h9] at hN
  have wru := (hW.hru k hrn).1
  refine mm_get (pc := 5) F hN (mm_XR hX (i := k) (by omega)) (ci := 3) rfl 1 (by decide) mw_599 rfl dX6_entryAt_5 ?_
  refine lv_astore_n (pc := 8) (lv' := [(3, .ref ((ad 6 k 0))), (0, .ref ((ad 0 0 0))), (1, .int (nI k)), (2, .int (nI i))]) F.1 F.2.1 dX6_entryAt_8 rfl hl (by decide) rfl (fun ls hl => ?_)
  refine lv_iload_n (pc := 9) F.1 F.2.1 dX6_entryAt_9 rfl (lv_at hl 3 rfl) ?_
  refine mm_if_ltB (pc := 10) F (tgt := 21) (by omega) dX6_entryAt_10 (by decide) (fun cz10 => ?_) (fun cz10 => ?_)
  ·
    exact mm_throwW F ht hN (by decide) (mm_tIOB mw_354) mw_344 mw_9 (List.mem_of_getElem? (i := 18) rfl) hl.1 dX6_entryAt_21 dX6_entryAt_24 dX6_entryAt_25 dX6_entryAt_28 dX6_entryAt_31 ⟨(Nat.le_of_ble_eq_true rfl), (Nat.le_of_ble_eq_true rfl), (Nat.le_of_ble_eq_true rfl), (Nat.le_of_ble_eq_true rfl)⟩ (⟨rfl, by omega, rfl⟩) (Nat.le_of_ble_eq_true rfl) (Nat.le_of_ble_eq_true rfl)
  ·
    refine lv_iload_n (pc := 13) F.1 F.2.1 dX6_entryAt_13 rfl (lv_at hl 3 rfl) ?_
    refine lv_aload_n (pc := 14) F.1 F.2.1 dX6_entryAt_14 rfl (lv_at hl 0 rfl) ?_
    refine mm_runV (pc := 15) (As := []) (rest := [.int (nI i)]) F hN (c_sz l b D hst 0 _ (T.rp k) _ _ (mm_XE hX (i := k) (by omega)) mm_rgl) mw_196 mw_197 mw_198 mw_4 mw_199 ⟨pmJx4a65c_size_8abf5, (Nat.le_of_ble_eq_true rfl), (Nat.le_of_ble_eq_true rfl)⟩ (mm_recvL F.2.2.2.2.2.1 hN (mm_XE hX (i := k) (by omega))) hl.1 rfl (Nat.le_of_ble_eq_true rfl) ⟨(Nat.le_of_ble_eq_true rfl), (Nat.le_of_ble_eq_true rfl)⟩ dX6_entryAt_15
      (fun _ _ _ _ _ _ h9 => False.elim h9)
      (fun v9 σ9 H locs hp9 hN => ?_)
    obtain ⟨rfl, h9⟩ := hp9
    rw [h9] at hN
    refine W.eq (g2 := F0 m 18 ls [.int (nI (T.rp k)), .int (nI i)]) rfl ?_
    refine W.widen (k := 1) (n := 6) (Nat.le_of_ble_eq_true rfl) (Nat.le_of_ble_eq_true rfl) ?_
    refine mm_icmp_ltB (pc := 18) F (x := i) (y := T.rp k) (tgt := 32) (by omega) (by omega) dX6_entryAt_18 (by decide) (fun cz18 => ?_) (fun cz18 => ?_)
    ·
      refine lv_aload_n (pc := 32) F.1 F.2.1 dX6_entryAt_32 rfl (lv_at hl 0 rfl) ?_
      refine lv_iload_n (pc := 33) F.1 F.2.1 dX6_entryAt_33 rfl (lv_at hl 3 rfl) ?_
      refine mm_runV (pc := 34) (As := [.int (nI i)]) (rest := []) F hN (c_ALget l b D hst 0 _ (i) (ad 7 k i) _ _ (mm_XE hX (i := k) (by omega)) (mm_rg (by omega))) mw_357 mw_358 mw_359 mw_4 mw_360 ⟨pmJx4a65c_get_915e3, (Nat.le_of_ble_eq_true rfl), (Nat.le_of_ble_eq_true rfl)⟩ (mm_recvL F.2.2.2.2.2.1 hN (mm_XE hX (i := k) (by omega))) hl.1 rfl (Nat.le_of_ble_eq_true rfl) ⟨(Nat.le_of_ble_eq_true rfl), (Nat.le_of_ble_eq_true rfl)⟩ dX6_entryAt_34
        (fun _ _ _ _ _ _ h9 => False.elim h9)
        (fun v9 σ9 H locs hp9 hN => ?_)
      obtain ⟨rfl, h9⟩ := hp9
      rw [h9] at hN
      refine W.eq (g2 := F0 m 37 ls [.ref ((ad 7 k i))]) rfl ?_
      refine W.widen (k := 1) (n := 6) (Nat.le_of_ble_eq_true rfl) (Nat.le_of_ble_eq_true rfl) ?_
      refine mm_cast (pc := 37) F hN (mm_XN hX (i := k) (j := i) (by omega) (by omega)) (ci := 1) rfl mw_572 dX6_entryAt_37 ?_
      exact mm_aret (pc := 40) F hr (Or.inl ⟨_, rfl⟩) hN (⟨⟨hrn, by omega⟩, rfl, rfl⟩) (Nat.le_of_ble_eq_true rfl) (Nat.le_of_ble_eq_true rfl) dX6_entryAt_40
    ·
      exact mm_throwW F ht hN (by decide) (mm_tIOB mw_354) mw_344 mw_9 (List.mem_of_getElem? (i := 18) rfl) hl.1 dX6_entryAt_21 dX6_entryAt_24 dX6_entryAt_25 dX6_entryAt_28 dX6_entryAt_31 ⟨(Nat.le_of_ble_eq_true rfl), (Nat.le_of_ble_eq_true rfl), (Nat.le_of_ble_eq_true rfl), (Nat.le_of_ble_eq_true rfl)⟩ (⟨rfl, by omega, rfl⟩) (Nat.le_of_ble_eq_true rfl) (Nat.le_of_ble_eq_true rfl)

set_option maxHeartbeats 4000000 in
set_option maxRecDepth 100000 in
theorem c_checkFlags (l : Launch) (b : Nat) (D : mm_D) (hst : l.stackTraces = false) (f : Nat) (hf : f < 2 ^ 32) (σ : mm_S) : mm_K l b D yX6_checkFlags (.code yX6_checkFlags cX6_checkFlags 1 none) ({ frames := 6, cells := 1, slots := 6, locals := 100 } : Room) [.int (nI f)] σ
    (fun v σ2 => v = none ∧ f < 8 ∧ σ2 = σ)
    (fun E σ2 => E = "java/lang/IllegalArgumentException" ∧ ¬ f < 8 ∧ σ2 = σ) := by
  refine mm_of (cc := cX6_checkFlags) (nL := 1) (ret := none) (by decide) rfl (Nat.le_of_ble_eq_true rfl) hst ?_
  intro p e s m args below meth c ls F ht hr hin hN hl
  have hl : lv_has ls 1 [(0, .int (nI f))] := hl
  refine lv_iload_n (pc := 0) F.1 F.2.1 dX6_checkFlags_0 rfl (lv_at hl 0 rfl) ?_
  refine mm_if_ltB (pc := 1) F (tgt := 10) (by omega) dX6_checkFlags_1 (by decide) (fun cz1 => ?_) (fun cz1 => ?_)
  ·
    exact mm_throwW F ht hN (by decide) (mm_tIAE mw_170) mw_125 mw_15 (List.mem_of_getElem? (i := 5) rfl) hl.1 dX6_checkFlags_10 dX6_checkFlags_13 dX6_checkFlags_14 dX6_checkFlags_17 dX6_checkFlags_20 ⟨(Nat.le_of_ble_eq_true rfl), (Nat.le_of_ble_eq_true rfl), (Nat.le_of_ble_eq_true rfl), (Nat.le_of_ble_eq_true rfl)⟩ (⟨rfl, by omega, rfl⟩) (Nat.le_of_ble_eq_true rfl) (Nat.le_of_ble_eq_true rfl)
  ·
    refine lv_iload_n (pc := 4) F.1 F.2.1 dX6_checkFlags_4 rfl (lv_at hl 0 rfl) ?_
    refine lv_bipush (pc := 5) (v := nI 7) F.1 F.2.1 dX6_checkFlags_5 (by decide) ?_
    refine mm_icmp_leB (pc := 7) F (x := f) (y := 7) (tgt := 21) (by omega) (by omega) dX6_checkFlags_7 (by decide) (fun cz7 => ?_) (fun cz7 => ?_)
    ·
      exact mm_vret (pc := 21) F hr hN (⟨rfl, by omega, rfl⟩) (Nat.le_of_ble_eq_true rfl) (Nat.le_of_ble_eq_true rfl) dX6_checkFlags_21
    ·
      exact mm_throwW F ht hN (by decide) (mm_tIAE mw_170) mw_125 mw_15 (List.mem_of_getElem? (i := 5) rfl) hl.1 dX6_checkFlags_10 dX6_checkFlags_13 dX6_checkFlags_14 dX6_checkFlags_17 dX6_checkFlags_20 ⟨(Nat.le_of_ble_eq_true rfl), (Nat.le_of_ble_eq_true rfl), (Nat.le_of_ble_eq_true rfl), (Nat.le_of_ble_eq_true rfl)⟩ (⟨rfl, by omega, rfl⟩) (Nat.le_of_ble_eq_true rfl) (Nat.le_of_ble_eq_true rfl)

set_option maxHeartbeats 4000000 in
set_option maxRecDepth 100000 in
theorem c_checkBuy (l : Launch) (b : Nat) (D : mm_D) (hst : l.stackTraces = false) (h n : Nat) (hh : h ≤ 5000) (hn2 : n < 2 ^ 32) (σ : mm_S) : mm_K l b D yX6_checkBuying (.code yX6_checkBuying cX6_checkBuying 2 none) ({ frames := 6, cells := 1, slots := 6, locals := 100 } : Room) [.int (nI h), .int (nI n)] σ
    (fun v σ2 => v = none ∧ (1 ≤ n ∧ n ≤ 500 ∧ h + n ≤ 5000) ∧ σ2 = σ)
    (fun E σ2 => ((E = "java/lang/IllegalArgumentException" ∧ ¬ (1 ≤ n ∧ n ≤ 500)) ∨ (E = "java/lang/IllegalStateException" ∧ (1 ≤ n ∧ n ≤ 500) ∧ ¬ h + n ≤ 5000)) ∧ σ2 = σ) := by
  refine mm_of (cc := cX6_checkBuying) (nL := 2) (ret := none) (by decide) rfl (Nat.le_of_ble_eq_true rfl) hst ?_
  intro p e s m args below meth c ls F ht hr hin hN hl
  have hl : lv_has ls 2 [(0, .int (nI h)), (1, .int (nI n))] := hl
  refine lv_iload_n (pc := 0) F.1 F.2.1 dX6_checkBuying_0 rfl (lv_at hl 1 rfl) ?_
  refine lv_iconst (pc := 1) (v := nI 1) F.1 F.2.1 dX6_checkBuying_1 (by decide) ?_
  refine mm_icmp_ltB (pc := 2) F (x := n) (y := 1) (tgt := 12) (by omega) (by omega) dX6_checkBuying_2 (by decide) (fun cz2 => ?_) (fun cz2 => ?_)
  ·
    exact mm_throwW F ht hN (by decide) (mm_tIAE mw_170) mw_125 mw_15 (List.mem_of_getElem? (i := 14) rfl) hl.1 dX6_checkBuying_12 dX6_checkBuying_15 dX6_checkBuying_16 dX6_checkBuying_19 dX6_checkBuying_22 ⟨(Nat.le_of_ble_eq_true rfl), (Nat.le_of_ble_eq_true rfl), (Nat.le_of_ble_eq_true rfl), (Nat.le_of_ble_eq_true rfl)⟩ (⟨Or.inl ⟨rfl, by omega⟩, rfl⟩) (Nat.le_of_ble_eq_true rfl) (Nat.le_of_ble_eq_true rfl)
  ·
    refine lv_iload_n (pc := 5) F.1 F.2.1 dX6_checkBuying_5 rfl (lv_at hl 1 rfl) ?_
    refine lv_sipush (pc := 6) (v := nI 500) F.1 F.2.1 dX6_checkBuying_6 (by decide) ?_
    refine mm_icmp_leB (pc := 9) F (x := n) (y := 500) (tgt := 23) (by omega) (by omega) dX6_checkBuying_9 (by decide) (fun cz9 => ?_) (fun cz9 => ?_)
    ·
      refine lv_iload_n (pc := 23) F.1 F.2.1 dX6_checkBuying_23 rfl (lv_at hl 0 rfl) ?_
      refine lv_iload_n (pc := 24) F.1 F.2.1 dX6_checkBuying_24 rfl (lv_at hl 1 rfl) ?_
      refine mm_iadd (pc := 25) F (z := nI (h + n)) (nI_add _ _) dX6_checkBuying_25 ?_
      refine lv_sipush (pc := 26) (v := nI 5000) F.1 F.2.1 dX6_checkBuying_26 (by decide) ?_
      refine mm_icmp_le (pc := 29) F (x := h + n) (y := 5000) (tgt := 43) (by omega) (by omega) dX6_checkBuying_29 (by decide) (fun cz29 => ?_) (fun cz29 => ?_)
      ·
        exact mm_vret (pc := 43) F hr hN (⟨rfl, by omega, rfl⟩) (Nat.le_of_ble_eq_true rfl) (Nat.le_of_ble_eq_true rfl) dX6_checkBuying_43
      ·
        exact mm_throwW F ht hN (by decide) (mm_tISE mw_210) mw_200 mw_20 (List.mem_of_getElem? (i := 15) rfl) hl.1 dX6_checkBuying_32 dX6_checkBuying_35 dX6_checkBuying_36 dX6_checkBuying_39 dX6_checkBuying_42 ⟨(Nat.le_of_ble_eq_true rfl), (Nat.le_of_ble_eq_true rfl), (Nat.le_of_ble_eq_true rfl), (Nat.le_of_ble_eq_true rfl)⟩ (⟨Or.inr ⟨rfl, by omega, by omega⟩, rfl⟩) (Nat.le_of_ble_eq_true rfl) (Nat.le_of_ble_eq_true rfl)
    ·
      exact mm_throwW F ht hN (by decide) (mm_tIAE mw_170) mw_125 mw_15 (List.mem_of_getElem? (i := 14) rfl) hl.1 dX6_checkBuying_12 dX6_checkBuying_15 dX6_checkBuying_16 dX6_checkBuying_19 dX6_checkBuying_22 ⟨(Nat.le_of_ble_eq_true rfl), (Nat.le_of_ble_eq_true rfl), (Nat.le_of_ble_eq_true rfl), (Nat.le_of_ble_eq_true rfl)⟩ (⟨Or.inl ⟨rfl, by omega⟩, rfl⟩) (Nat.le_of_ble_eq_true rfl) (Nat.le_of_ble_eq_true rfl)

set_option maxHeartbeats 4000000 in
set_option maxRecDepth 100000 in
theorem c_numberAt (l : Launch) (b : Nat) (D : mm_D) (hst : l.stackTraces = false) (T : mm_T) (z : mm_Z) (ad : Nat → Nat → Nat → Nat) (σ : mm_S) (hX : mm_X σ T z ad) (hW : mm_WF T) (k j lst : Nat) (M : List Nat) (zj : j < 2 ^ 32) (zk : k < T.nR) (hL : σ lst = mm_lst 0 (M.map (fun p => ad 7 k p))) (hM : ∀ p ∈ M, p < T.rp k) (hn : M.length ≤ 24) : mm_K l b D yX6_numberAt (.code yX6_numberAt cX6_numberAt 2 (some .int)) ({ frames := 6, cells := 1, slots := 6, locals := 100 } : Room) [.ref lst, .int (nI j)] σ
    (fun v σ2 => j < M.length ∧ v = some (.int (nI (M.getD j 0))) ∧ σ2 = σ)
    (fun E σ2 => E = "java/util/NoSuchElementException" ∧ ¬ j < M.length ∧ σ2 = σ) := by
  refine mm_of (cc := cX6_numberAt) (nL := 2) (ret := (some .int)) (by decide) rfl (Nat.le_of_ble_eq_true rfl) hst ?_
  intro p e s m args below meth c ls F ht hr hin hN hl
  have hl : lv_has ls 2 [(0, .ref lst), (1, .int (nI j))] := hl
  refine lv_iload_n (pc := 0) F.1 F.2.1 dX6_numberAt_0 rfl (lv_at hl 1 rfl) ?_
  refine mm_if_ltB (pc := 1) F (tgt := 12) (by omega) dX6_numberAt_1 (by decide) (fun cz1 => ?_) (fun cz1 => ?_)
  ·
    exact mm_throwNw F ht hN mw_1013 mw_1003 mw_14 (List.mem_of_getElem? (i := 22) rfl) hl.1 dX6_numberAt_12 dX6_numberAt_15 dX6_numberAt_16 dX6_numberAt_19 dX6_numberAt_22 ⟨(Nat.le_of_ble_eq_true rfl), (Nat.le_of_ble_eq_true rfl), (Nat.le_of_ble_eq_true rfl), (Nat.le_of_ble_eq_true rfl)⟩ (⟨rfl, by omega, rfl⟩) (Nat.le_of_ble_eq_true rfl) (Nat.le_of_ble_eq_true rfl)
  ·
    refine lv_iload_n (pc := 4) F.1 F.2.1 dX6_numberAt_4 rfl (lv_at hl 1 rfl) ?_
    refine lv_aload_n (pc := 5) F.1 F.2.1 dX6_numberAt_5 rfl (lv_at hl 0 rfl) ?_
    refine mm_runV (pc := 6) (As := []) (rest := [.int (nI j)]) F hN (c_sz l b D hst 0 _ M.length _ _ hL (List.length_map ..)) mw_196 mw_197 mw_198 mw_4 mw_199 ⟨pmJx4a65c_size_8abf5, (Nat.le_of_ble_eq_true rfl), (Nat.le_of_ble_eq_true rfl)⟩ (mm_recvL F.2.2.2.2.2.1 hN hL) hl.1 rfl (Nat.le_of_ble_eq_true rfl) ⟨(Nat.le_of_ble_eq_true rfl), (Nat.le_of_ble_eq_true rfl)⟩ dX6_numberAt_6
      (fun _ _ _ _ _ _ h9 => False.elim h9)
      (fun v9 σ9 H locs hp9 hN => ?_)
    obtain ⟨rfl, h9⟩ := hp9
    rw [h9] at hN
    refine W.eq (g2 := F0 m 9 ls [.int (nI M.length), .int (nI j)]) rfl ?_
    refine W.widen (k := 0) (n := 0) (Nat.le_of_ble_eq_true rfl) (Nat.le_of_ble_eq_true rfl) ?_
    refine mm_icmp_ltB (pc := 9) F (x := j) (y := M.length) (tgt := 23) (by omega) (by omega) dX6_numberAt_9 (by decide) (fun cz9 => ?_) (fun cz9 => ?_)
    ·
      refine lv_aload_n (pc := 23) F.1 F.2.1 dX6_numberAt_23 rfl (lv_at hl 0 rfl) ?_
      refine lv_iload_n (pc := 24) F.1 F.2.1 dX6_numberAt_24 rfl (lv_at hl 1 rfl) ?_
      refine mm_runV (pc := 25) (As := [.int (nI j)]) (rest := []) F hN (c_ALget l b D hst 0 _ j (ad 7 k (M.getD j 0)) _ _ hL (mm_mg (by omega))) mw_357 mw_358 mw_359 mw_4 mw_360 ⟨pmJx4a65c_get_915e3, (Nat.le_of_ble_eq_true rfl), (Nat.le_of_ble_eq_true rfl)⟩ (mm_recvL F.2.2.2.2.2.1 hN hL) hl.1 rfl (Nat.le_of_ble_eq_true rfl) ⟨(Nat.le_of_ble_eq_true rfl), (Nat.le_of_ble_eq_true rfl)⟩ dX6_numberAt_25
        (fun _ _ _ _ _ _ h9 => False.elim h9)
        (fun v9 σ9 H locs hp9 hN => ?_)
      obtain ⟨rfl, h9⟩ := hp9
      rw [h9] at hN
      refine W.eq (g2 := F0 m 28 ls [.ref ((ad 7 k (M.getD j 0)))]) rfl ?_
      refine W.widen (k := 0) (n := 0) (Nat.le_of_ble_eq_true rfl) (Nat.le_of_ble_eq_true rfl) ?_
      refine mm_cast (pc := 28) F hN (mm_XN hX zk (hM _ (mm_gmem (by omega)))) (ci := 1) rfl mw_572 dX6_numberAt_28 ?_
      refine mm_get (pc := 31) F hN (mm_XN hX zk (hM _ (mm_gmem (by omega)))) (ci := 1) rfl 0 (by decide) mw_624 rfl dX6_numberAt_31 ?_
      exact mm_iret (pc := 34) F hr hN (⟨by omega, rfl, rfl⟩) (Nat.le_of_ble_eq_true rfl) (Nat.le_of_ble_eq_true rfl) dX6_numberAt_34
    ·
      exact mm_throwNw F ht hN mw_1013 mw_1003 mw_14 (List.mem_of_getElem? (i := 22) rfl) hl.1 dX6_numberAt_12 dX6_numberAt_15 dX6_numberAt_16 dX6_numberAt_19 dX6_numberAt_22 ⟨(Nat.le_of_ble_eq_true rfl), (Nat.le_of_ble_eq_true rfl), (Nat.le_of_ble_eq_true rfl), (Nat.le_of_ble_eq_true rfl)⟩ (⟨rfl, by omega, rfl⟩) (Nat.le_of_ble_eq_true rfl) (Nat.le_of_ble_eq_true rfl)

def mm_q_addressOf (T : mm_T) (i : Nat) : Nat := if i < T.nP then 0 else 1
set_option maxHeartbeats 4000000 in
set_option maxRecDepth 100000 in
theorem a_addressOf (l : Launch) (b : Nat) (D : mm_D) (hst : l.stackTraces = false) (T : mm_T) (z : mm_Z) (ad : Nat → Nat → Nat → Nat) (σ : mm_S) (hX : mm_X σ T z ad) (hW : mm_WF T) (i : Nat) (zi : i < 2 ^ 32) : mm_K l b D yX6_addressOf (.code yX6_addressOf cX6_addressOf 2 (some .int)) ({ frames := 8, cells := 6, slots := 40, locals := 220 } : Room) [.ref ((ad 0 0 0)), .int (nI i)] σ
    (fun v σ2 => mm_q_addressOf T i = 0 ∧ v = some (.int (nI (T.ho i))) ∧ mm_Xt σ σ2 (T) (ad 0 0 0))
    (fun E σ2 => ((mm_q_addressOf T i = 1 ∧ E = "java/lang/IndexOutOfBoundsException")) ∧ mm_Xt σ σ2 T (ad 0 0 0)) := by
  refine mm_of (cc := cX6_addressOf) (nL := 2) (ret := (some .int)) (by decide) rfl (Nat.le_of_ble_eq_true rfl) hst ?_
  intro p e s m args below meth c ls F ht hr hin hN hl
  have hl : lv_has ls 2 [(0, .ref ((ad 0 0 0))), (1, .int (nI i))] := hl
  have wnA := hW.hnA
  have wnP := hW.hnP
  have wnT := hW.hnT
  have wnR := hW.hnR
  have wpa := hW.hpa
  have wbo := hW.hbo
  have wen0 := hW.hen 0
  have wen1 := hW.hen 1
  refine lv_aload_n (pc := 0) F.1 F.2.1 dX6_addressOf_0 rfl (lv_at hl 0 rfl) ?_
  refine lv_iload_n (pc := 1) F.1 F.2.1 dX6_addressOf_1 rfl (lv_at hl 1 rfl) ?_
  refine mm_runV (pc := 2) (As := [.int (nI i)]) (rest := []) F hN (c_personAt l b D hst T z ad σ hX hW i (by omega)) mw_378 mw_380 mw_p5 mw_1 mw_381 ⟨pmX6_personAt, (Nat.le_of_ble_eq_true rfl), (Nat.le_of_ble_eq_true rfl)⟩ (mm_recv F.2.2.2.2.2.1 hN (mm_X0 hX) rfl) hl.1 rfl (Nat.le_of_ble_eq_true rfl) ⟨(Nat.le_of_ble_eq_true rfl), (Nat.le_of_ble_eq_true rfl)⟩ dX6_addressOf_2
    (fun E9 σ9 H9 l9 q9 ce9 hp9 hN9 hq9 hv9 hcl9 => mm_out F ht hN9 (by obtain ⟨g1, g2, g3⟩ := hp9; exact ⟨⟨by unfold mm_q_addressOf; (repeat' split) <;> omega, g1⟩, mm_Xt.rf hX g3⟩) hq9 hv9 hcl9 (Nat.le_of_ble_eq_true rfl) (Nat.le_of_ble_eq_true rfl))
    (fun v9 σ9 H locs hp9 hN => ?_)
  obtain ⟨hpn, rfl, h9⟩ := hp9
  refine W.eq (g2 := F0 m 5 ls [.ref ((ad 2 i 0))]) rfl ?_
  refine W.widen (k := 1) (n := 6) (Nat.le_of_ble_eq_true rfl) (Nat.le_of_ble_eq_true rfl) ?_
  rw [h9] at hN
  obtain ⟨who, wfl, wre⟩ := hW.hpe i hpn
  refine mm_get (pc := 5) F hN (mm_XP hX (i := i) (by omega)) (ci := 2) rfl 0 (by decide) mw_403 rfl dX6_addressOf_5 ?_
  refine mm_get (pc := 8) F hN (mm_XA hX (i := (T.ho i)) (by omega)) (ci := 0) rfl 0 (by decide) mw_223 rfl dX6_addressOf_8 ?_
  exact mm_iret (pc := 11) F hr hN (⟨by unfold mm_q_addressOf; (repeat' split) <;> omega, rfl, mm_Xt.rf hX rfl⟩) (Nat.le_of_ble_eq_true rfl) (Nat.le_of_ble_eq_true rfl) dX6_addressOf_11

def mm_q_reasonOf (T : mm_T) (i : Nat) : Nat := if i < T.nP then 0 else 1
set_option maxHeartbeats 4000000 in
set_option maxRecDepth 100000 in
theorem a_reasonOf (l : Launch) (b : Nat) (D : mm_D) (hst : l.stackTraces = false) (T : mm_T) (z : mm_Z) (ad : Nat → Nat → Nat → Nat) (σ : mm_S) (hX : mm_X σ T z ad) (hW : mm_WF T) (i : Nat) (zi : i < 2 ^ 32) : mm_K l b D yX6_reasonOf (.code yX6_reasonOf cX6_reasonOf 2 (some .char)) ({ frames := 8, cells := 6, slots := 40, locals := 220 } : Room) [.ref ((ad 0 0 0)), .int (nI i)] σ
    (fun v σ2 => mm_q_reasonOf T i = 0 ∧ v = some (.int (nI (T.re i))) ∧ mm_Xt σ σ2 (T) (ad 0 0 0))
    (fun E σ2 => ((mm_q_reasonOf T i = 1 ∧ E = "java/lang/IndexOutOfBoundsException")) ∧ mm_Xt σ σ2 T (ad 0 0 0)) := by
  refine mm_of (cc := cX6_reasonOf) (nL := 2) (ret := (some .char)) (by decide) rfl (Nat.le_of_ble_eq_true rfl) hst ?_
  intro p e s m args below meth c ls F ht hr hin hN hl
  have hl : lv_has ls 2 [(0, .ref ((ad 0 0 0))), (1, .int (nI i))] := hl
  have wnA := hW.hnA
  have wnP := hW.hnP
  have wnT := hW.hnT
  have wnR := hW.hnR
  have wpa := hW.hpa
  have wbo := hW.hbo
  have wen0 := hW.hen 0
  have wen1 := hW.hen 1
  refine lv_aload_n (pc := 0) F.1 F.2.1 dX6_reasonOf_0 rfl (lv_at hl 0 rfl) ?_
  refine lv_iload_n (pc := 1) F.1 F.2.1 dX6_reasonOf_1 rfl (lv_at hl 1 rfl) ?_
  refine mm_runV (pc := 2) (As := [.int (nI i)]) (rest := []) F hN (c_personAt l b D hst T z ad σ hX hW i (by omega)) mw_378 mw_380 mw_p5 mw_1 mw_381 ⟨pmX6_personAt, (Nat.le_of_ble_eq_true rfl), (Nat.le_of_ble_eq_true rfl)⟩ (mm_recv F.2.2.2.2.2.1 hN (mm_X0 hX) rfl) hl.1 rfl (Nat.le_of_ble_eq_true rfl) ⟨(Nat.le_of_ble_eq_true rfl), (Nat.le_of_ble_eq_true rfl)⟩ dX6_reasonOf_2
    (fun E9 σ9 H9 l9 q9 ce9 hp9 hN9 hq9 hv9 hcl9 => mm_out F ht hN9 (by obtain ⟨g1, g2, g3⟩ := hp9; exact ⟨⟨by unfold mm_q_reasonOf; (repeat' split) <;> omega, g1⟩, mm_Xt.rf hX g3⟩) hq9 hv9 hcl9 (Nat.le_of_ble_eq_true rfl) (Nat.le_of_ble_eq_true rfl))
    (fun v9 σ9 H locs hp9 hN => ?_)
  obtain ⟨hpn, rfl, h9⟩ := hp9
  refine W.eq (g2 := F0 m 5 ls [.ref ((ad 2 i 0))]) rfl ?_
  refine W.widen (k := 1) (n := 6) (Nat.le_of_ble_eq_true rfl) (Nat.le_of_ble_eq_true rfl) ?_
  rw [h9] at hN
  obtain ⟨who, wfl, wre⟩ := hW.hpe i hpn
  refine mm_get (pc := 5) F hN (mm_XP hX (i := i) (by omega)) (ci := 2) rfl 2 (by decide) mw_409 rfl dX6_reasonOf_5 ?_
  exact mm_zret (pc := 8) F (ty := .char) hr hN (mm_narC (hW.hpe i hpn).2.2) (⟨by unfold mm_q_reasonOf; (repeat' split) <;> omega, rfl, mm_Xt.rf hX rfl⟩) (Nat.le_of_ble_eq_true rfl) (Nat.le_of_ble_eq_true rfl) dX6_reasonOf_8

def mm_q_strikes (T : mm_T) (a : Nat) : Nat := if a < T.nA ∧ T.go a = 0 then 0 else 1
set_option maxHeartbeats 4000000 in
set_option maxRecDepth 100000 in
theorem a_strikes (l : Launch) (b : Nat) (D : mm_D) (hst : l.stackTraces = false) (T : mm_T) (z : mm_Z) (ad : Nat → Nat → Nat → Nat) (σ : mm_S) (hX : mm_X σ T z ad) (hW : mm_WF T) (a : Nat) (za : a < 2 ^ 32) : mm_K l b D yX6_strikes (.code yX6_strikes cX6_strikes 2 (some .int)) ({ frames := 8, cells := 6, slots := 40, locals := 220 } : Room) [.ref ((ad 0 0 0)), .int (nI a)] σ
    (fun v σ2 => mm_q_strikes T a = 0 ∧ v = some (.int (nI (T.sk a))) ∧ mm_Xt σ σ2 (T) (ad 0 0 0))
    (fun E σ2 => ((mm_q_strikes T a = 1 ∧ E = "java/lang/IndexOutOfBoundsException")) ∧ mm_Xt σ σ2 T (ad 0 0 0)) := by
  refine mm_of (cc := cX6_strikes) (nL := 2) (ret := (some .int)) (by decide) rfl (Nat.le_of_ble_eq_true rfl) hst ?_
  intro p e s m args below meth c ls F ht hr hin hN hl
  have hl : lv_has ls 2 [(0, .ref ((ad 0 0 0))), (1, .int (nI a))] := hl
  have wnA := hW.hnA
  have wnP := hW.hnP
  have wnT := hW.hnT
  have wnR := hW.hnR
  have wpa := hW.hpa
  have wbo := hW.hbo
  have wen0 := hW.hen 0
  have wen1 := hW.hen 1
  refine lv_aload_n (pc := 0) F.1 F.2.1 dX6_strikes_0 rfl (lv_at hl 0 rfl) ?_
  refine lv_iload_n (pc := 1) F.1 F.2.1 dX6_strikes_1 rfl (lv_at hl 1 rfl) ?_
  refine mm_runV (pc := 2) (As := [.int (nI a)]) (rest := []) F hN (c_addressAt l b D hst T z ad σ hX hW a (by omega)) mw_340 mw_342 mw_p4 mw_1 mw_343 ⟨pmX6_addressAt, (Nat.le_of_ble_eq_true rfl), (Nat.le_of_ble_eq_true rfl)⟩ (mm_recv F.2.2.2.2.2.1 hN (mm_X0 hX) rfl) hl.1 rfl (Nat.le_of_ble_eq_true rfl) ⟨(Nat.le_of_ble_eq_true rfl), (Nat.le_of_ble_eq_true rfl)⟩ dX6_strikes_2
    (fun E9 σ9 H9 l9 q9 ce9 hp9 hN9 hq9 hv9 hcl9 => mm_out F ht hN9 (by obtain ⟨g1, g2, g3⟩ := hp9; exact ⟨⟨by unfold mm_q_strikes; (repeat' split) <;> omega, g1⟩, mm_Xt.rf hX g3⟩) hq9 hv9 hcl9 (Nat.le_of_ble_eq_true rfl) (Nat.le_of_ble_eq_true rfl))
    (fun v9 σ9 H locs hp9 hN => ?_)
  obtain ⟨han, hgo, rfl, h9⟩ := hp9
  refine W.eq (g2 := F0 m 5 ls [.ref ((ad 1 a 0))]) rfl ?_
  refine W.widen (k := 1) (n := 6) (Nat.le_of_ble_eq_true rfl) (Nat.le_of_ble_eq_true rfl) ?_
  rw [h9] at hN
  refine mm_get (pc := 5) F hN (mm_XA hX (i := a) (by omega)) (ci := 0) rfl 2 (by decide) mw_227 rfl dX6_strikes_5 ?_
  exact mm_iret (pc := 8) F hr hN (⟨by unfold mm_q_strikes; (repeat' split) <;> omega, rfl, mm_Xt.rf hX rfl⟩) (Nat.le_of_ble_eq_true rfl) (Nat.le_of_ble_eq_true rfl) dX6_strikes_8

def mm_q_paper (T : mm_T) : Nat := 0 * T.pa
set_option maxHeartbeats 4000000 in
set_option maxRecDepth 100000 in
theorem a_paper (l : Launch) (b : Nat) (D : mm_D) (hst : l.stackTraces = false) (T : mm_T) (z : mm_Z) (ad : Nat → Nat → Nat → Nat) (σ : mm_S) (hX : mm_X σ T z ad) (hW : mm_WF T) : mm_K l b D yX6_paper (.code yX6_paper cX6_paper 1 (some .int)) ({ frames := 8, cells := 6, slots := 40, locals := 220 } : Room) [.ref ((ad 0 0 0))] σ
    (fun v σ2 => mm_q_paper T = 0 ∧ v = some (.int (nI (T.pa))) ∧ mm_Xt σ σ2 (T) (ad 0 0 0))
    (fun _ _ => False) := by
  refine mm_of (cc := cX6_paper) (nL := 1) (ret := (some .int)) (by decide) rfl (Nat.le_of_ble_eq_true rfl) hst ?_
  intro p e s m args below meth c ls F ht hr hin hN hl
  have hl : lv_has ls 1 [(0, .ref ((ad 0 0 0)))] := hl
  have wnA := hW.hnA
  have wnP := hW.hnP
  have wnT := hW.hnT
  have wnR := hW.hnR
  have wpa := hW.hpa
  have wbo := hW.hbo
  have wen0 := hW.hen 0
  have wen1 := hW.hen 1
  refine lv_aload_n (pc := 0) F.1 F.2.1 dX6_paper_0 rfl (lv_at hl 0 rfl) ?_
  refine mm_get (pc := 1) F hN (mm_X0 hX) (ci := 6) rfl 4 (by decide) mw_89 rfl dX6_paper_1 ?_
  refine mm_get (pc := 4) F hN (mm_X5 hX) (ci := 4) rfl 0 (by decide) mw_75 rfl dX6_paper_4 ?_
  exact mm_iret (pc := 7) F hr hN (⟨by unfold mm_q_paper; (repeat' split) <;> omega, rfl, mm_Xt.rf hX rfl⟩) (Nat.le_of_ble_eq_true rfl) (Nat.le_of_ble_eq_true rfl) dX6_paper_7

def mm_q_envelopes (T : mm_T) (q : Nat) : Nat := 0 * (T.pa + q)
set_option maxHeartbeats 4000000 in
set_option maxRecDepth 100000 in
theorem a_envelopes (l : Launch) (b : Nat) (D : mm_D) (hst : l.stackTraces = false) (T : mm_T) (z : mm_Z) (ad : Nat → Nat → Nat → Nat) (σ : mm_S) (hX : mm_X σ T z ad) (hW : mm_WF T) (q : Nat) (zq : q < 2) : mm_K l b D yX6_envelopes (.code yX6_envelopes cX6_envelopes 2 (some .int)) ({ frames := 8, cells := 6, slots := 40, locals := 220 } : Room) [.ref ((ad 0 0 0)), .int (nI q)] σ
    (fun v σ2 => mm_q_envelopes T q = 0 ∧ v = some (.int (nI (T.en q))) ∧ mm_Xt σ σ2 (T) (ad 0 0 0))
    (fun _ _ => False) := by
  refine mm_of (cc := cX6_envelopes) (nL := 2) (ret := (some .int)) (by decide) rfl (Nat.le_of_ble_eq_true rfl) hst ?_
  intro p e s m args below meth c ls F ht hr hin hN hl
  have hl : lv_has ls 2 [(0, .ref ((ad 0 0 0))), (1, .int (nI q))] := hl
  have wnA := hW.hnA
  have wnP := hW.hnP
  have wnT := hW.hnT
  have wnR := hW.hnR
  have wpa := hW.hpa
  have wbo := hW.hbo
  have wen0 := hW.hen 0
  have wen1 := hW.hen 1
  refine lv_aload_n (pc := 0) F.1 F.2.1 dX6_envelopes_0 rfl (lv_at hl 0 rfl) ?_
  refine mm_get (pc := 1) F hN (mm_X0 hX) (ci := 6) rfl 4 (by decide) mw_89 rfl dX6_envelopes_1 ?_
  refine lv_iload_n (pc := 4) F.1 F.2.1 dX6_envelopes_4 rfl (lv_at hl 1 rfl) ?_
  refine mm_runV (pc := 5) (As := [.int (nI q)]) (rest := []) F hN (c_envOf l b D hst q zq 0 (ad 0 5 0) (T.pa) (T.en 0) (T.en 1) σ (mm_X5 hX)) mw_539 mw_540 mw_541 mw_5 mw_542 ⟨pmX4_envelopesOf, (Nat.le_of_ble_eq_true rfl), (Nat.le_of_ble_eq_true rfl)⟩ (mm_recv F.2.2.2.2.2.1 hN (mm_X5 hX) rfl) hl.1 rfl (Nat.le_of_ble_eq_true rfl) ⟨(Nat.le_of_ble_eq_true rfl), (Nat.le_of_ble_eq_true rfl)⟩ dX6_envelopes_5
    (fun _ _ _ _ _ _ h9 => False.elim h9)
    (fun v9 σ9 H locs hp9 hN => ?_)
  obtain ⟨rfl, h9⟩ := hp9
  rw [h9] at hN
  refine W.eq (g2 := F0 m 8 ls [.int (nI (if q = 0 then T.en 0 else T.en 1))]) rfl ?_
  refine W.widen (k := 0) (n := 0) (Nat.le_of_ble_eq_true rfl) (Nat.le_of_ble_eq_true rfl) ?_
  exact mm_iret (pc := 8) F hr hN (⟨by unfold mm_q_envelopes; (repeat' split) <;> omega, by rcases (show q = 0 ∨ q = 1 by omega) with rfl | rfl <;> rfl, mm_Xt.rf hX rfl⟩) (Nat.le_of_ble_eq_true rfl) (Nat.le_of_ble_eq_true rfl) dX6_envelopes_8

def mm_q_pagesFor (T : mm_T) (t : Nat) (f : Nat) : Nat := if t < T.nT then (if f < 8 then 0 else 2) else 1
set_option maxHeartbeats 4000000 in
set_option maxRecDepth 100000 in
theorem a_pagesFor (l : Launch) (b : Nat) (D : mm_D) (hst : l.stackTraces = false) (T : mm_T) (z : mm_Z) (ad : Nat → Nat → Nat → Nat) (σ : mm_S) (hX : mm_X σ T z ad) (hW : mm_WF T) (t : Nat) (zt : t < 2 ^ 32) (f : Nat) (zf : f < 2 ^ 32) : mm_K l b D yX6_pagesFor (.code yX6_pagesFor cX6_pagesFor 4 (some .int)) ({ frames := 8, cells := 6, slots := 40, locals := 220 } : Room) [.ref ((ad 0 0 0)), .int (nI t), .int (nI f)] σ
    (fun v σ2 => mm_q_pagesFor T t f = 0 ∧ v = some (.int (nI (mm_pgs T t f))) ∧ mm_Xt σ σ2 (T) (ad 0 0 0))
    (fun E σ2 => ((mm_q_pagesFor T t f = 1 ∧ E = "java/lang/IndexOutOfBoundsException") ∨ (mm_q_pagesFor T t f = 2 ∧ E = "java/lang/IllegalArgumentException")) ∧ mm_Xt σ σ2 T (ad 0 0 0)) := by
  refine mm_of (cc := cX6_pagesFor) (nL := 4) (ret := (some .int)) (by decide) rfl (Nat.le_of_ble_eq_true rfl) hst ?_
  intro p e s m args below meth c ls F ht hr hin hN hl
  have hl : lv_has ls 4 [(0, .ref ((ad 0 0 0))), (1, .int (nI t)), (2, .int (nI f))] := hl
  have wnA := hW.hnA
  have wnP := hW.hnP
  have wnT := hW.hnT
  have wnR := hW.hnR
  have wpa := hW.hpa
  have wbo := hW.hbo
  have wen0 := hW.hen 0
  have wen1 := hW.hen 1
  refine lv_aload_n (pc := 0) F.1 F.2.1 dX6_pagesFor_0 rfl (lv_at hl 0 rfl) ?_
  refine lv_iload_n (pc := 1) F.1 F.2.1 dX6_pagesFor_1 rfl (lv_at hl 1 rfl) ?_
  refine mm_runV (pc := 2) (As := [.int (nI t)]) (rest := []) F hN (c_templateAt l b D hst T z ad σ hX hW t (by omega)) mw_492 mw_494 mw_p6 mw_1 mw_495 ⟨pmX6_templateAt, (Nat.le_of_ble_eq_true rfl), (Nat.le_of_ble_eq_true rfl)⟩ (mm_recv F.2.2.2.2.2.1 hN (mm_X0 hX) rfl) hl.1 rfl (Nat.le_of_ble_eq_true rfl) ⟨(Nat.le_of_ble_eq_true rfl), (Nat.le_of_ble_eq_true rfl)⟩ dX6_pagesFor_2
    (fun E9 σ9 H9 l9 q9 ce9 hp9 hN9 hq9 hv9 hcl9 => mm_out F ht hN9 (by obtain ⟨g1, g2, g3⟩ := hp9; exact ⟨Or.inl (⟨by unfold mm_q_pagesFor; (repeat' split) <;> omega, g1⟩), mm_Xt.rf hX g3⟩) hq9 hv9 hcl9 (Nat.le_of_ble_eq_true rfl) (Nat.le_of_ble_eq_true rfl))
    (fun v9 σ9 H locs hp9 hN => ?_)
  obtain ⟨htn, rfl, h9⟩ := hp9
  refine W.eq (g2 := F0 m 5 ls [.ref ((ad 3 t 0))]) rfl ?_
  refine W.widen (k := 1) (n := 6) (Nat.le_of_ble_eq_true rfl) (Nat.le_of_ble_eq_true rfl) ?_
  rw [h9] at hN
  refine lv_astore_n (pc := 5) (lv' := [(3, .ref ((ad 3 t 0))), (0, .ref ((ad 0 0 0))), (1, .int (nI t)), (2, .int (nI f))]) F.1 F.2.1 dX6_pagesFor_5 rfl hl (by decide) rfl (fun ls hl => ?_)
  refine lv_iload_n (pc := 6) F.1 F.2.1 dX6_pagesFor_6 rfl (lv_at hl 3 rfl) ?_
  refine mm_runS (pc := 7) (As := [.int (nI f)]) (rest := []) F hN (c_checkFlags l b D hst f (by omega) _) mw_383 mw_384 mw_1 mw_385 ⟨pmX6_checkFlags, (Nat.le_of_ble_eq_true rfl), (Nat.le_of_ble_eq_true rfl)⟩ hl.1 rfl (Nat.le_of_ble_eq_true rfl) ⟨(Nat.le_of_ble_eq_true rfl), (Nat.le_of_ble_eq_true rfl)⟩ dX6_pagesFor_7
    (fun E9 σ9 H9 l9 q9 ce9 hp9 hN9 hq9 hv9 hcl9 => mm_out F ht hN9 (by obtain ⟨g1, g2, g3⟩ := hp9; exact ⟨Or.inr (⟨by unfold mm_q_pagesFor; (repeat' split) <;> omega, g1⟩), mm_Xt.rf hX g3⟩) hq9 hv9 hcl9 (Nat.le_of_ble_eq_true rfl) (Nat.le_of_ble_eq_true rfl))
    (fun v9 σ9 H locs hp9 hN => ?_)
  obtain ⟨rfl, hfn, h9⟩ := hp9
  refine W.eq (g2 := F0 m 10 ls []) rfl ?_
  refine W.widen (k := 2) (n := 12) (Nat.le_of_ble_eq_true rfl) (Nat.le_of_ble_eq_true rfl) ?_
  rw [h9] at hN
  refine lv_aload_n (pc := 10) F.1 F.2.1 dX6_pagesFor_10 rfl (lv_at hl 0 rfl) ?_
  refine lv_iload_n (pc := 11) F.1 F.2.1 dX6_pagesFor_11 rfl (lv_at hl 3 rfl) ?_
  refine mm_runV (pc := 12) (As := [.int (nI f)]) (rest := []) F hN (c_pagesW l b D hst 0 (ad 3 t 0) (ad 4 t 0) (ad 4 t 1) (ad 4 t 2) (T.pc t) (T.us t) f (fun x => if x < 8 then mm_pgs T t x else 0) hfn σ (mm_XT hX htn) (mm_XTp hX htn)) mw_514 mw_515 mw_516 mw_28 mw_517 ⟨pmX5_pagesWith, (Nat.le_of_ble_eq_true rfl), (Nat.le_of_ble_eq_true rfl)⟩ (mm_recv F.2.2.2.2.2.1 hN (mm_XT hX htn) rfl) hl.1 rfl (Nat.le_of_ble_eq_true rfl) ⟨(Nat.le_of_ble_eq_true rfl), (Nat.le_of_ble_eq_true rfl)⟩ dX6_pagesFor_12
    (fun _ _ _ _ _ _ h9 => False.elim h9)
    (fun v9 σ9 H locs hp9 hN => ?_)
  obtain ⟨rfl, h9⟩ := hp9
  rw [h9] at hN
  refine W.eq (g2 := F0 m 15 ls [.int (nI ((fun x => if x < 8 then mm_pgs T t x else 0) f))]) rfl ?_
  refine W.widen (k := 2) (n := 12) (Nat.le_of_ble_eq_true rfl) (Nat.le_of_ble_eq_true rfl) ?_
  exact mm_iret (pc := 15) F hr hN (⟨by unfold mm_q_pagesFor; (repeat' split) <;> omega, congrArg (fun q => some (Value.int (nI q))) (if_pos hfn), mm_Xt.rf hX rfl⟩) (Nat.le_of_ble_eq_true rfl) (Nat.le_of_ble_eq_true rfl) dX6_pagesFor_15

def mm_q_outcome (T : mm_T) (k : Nat) (i : Nat) : Nat := if k < T.nR ∧ i < T.rp k then 0 else 1
set_option maxHeartbeats 4000000 in
set_option maxRecDepth 100000 in
theorem a_outcome (l : Launch) (b : Nat) (D : mm_D) (hst : l.stackTraces = false) (T : mm_T) (z : mm_Z) (ad : Nat → Nat → Nat → Nat) (σ : mm_S) (hX : mm_X σ T z ad) (hW : mm_WF T) (k : Nat) (zk : k < 2 ^ 32) (i : Nat) (zi : i < 2 ^ 32) : mm_K l b D yX6_outcome (.code yX6_outcome cX6_outcome 3 (some .char)) ({ frames := 8, cells := 6, slots := 40, locals := 220 } : Room) [.ref ((ad 0 0 0)), .int (nI k), .int (nI i)] σ
    (fun v σ2 => mm_q_outcome T k i = 0 ∧ v = some (.int (nI (T.oc k i))) ∧ mm_Xt σ σ2 (T) (ad 0 0 0))
    (fun E σ2 => ((mm_q_outcome T k i = 1 ∧ E = "java/lang/IndexOutOfBoundsException")) ∧ mm_Xt σ σ2 T (ad 0 0 0)) := by
  refine mm_of (cc := cX6_outcome) (nL := 3) (ret := (some .char)) (by decide) rfl (Nat.le_of_ble_eq_true rfl) hst ?_
  intro p e s m args below meth c ls F ht hr hin hN hl
  have hl : lv_has ls 3 [(0, .ref ((ad 0 0 0))), (1, .int (nI k)), (2, .int (nI i))] := hl
  have wnA := hW.hnA
  have wnP := hW.hnP
  have wnT := hW.hnT
  have wnR := hW.hnR
  have wpa := hW.hpa
  have wbo := hW.hbo
  have wen0 := hW.hen 0
  have wen1 := hW.hen 1
  refine lv_aload_n (pc := 0) F.1 F.2.1 dX6_outcome_0 rfl (lv_at hl 0 rfl) ?_
  refine lv_iload_n (pc := 1) F.1 F.2.1 dX6_outcome_1 rfl (lv_at hl 1 rfl) ?_
  refine lv_iload_n (pc := 2) F.1 F.2.1 dX6_outcome_2 rfl (lv_at hl 2 rfl) ?_
  refine mm_runV (pc := 3) (As := [.int (nI k), .int (nI i)]) (rest := []) F hN (c_entryAt l b D hst T z ad σ hX hW k i (by omega) (by omega)) mw_967 mw_969 mw_p19 mw_1 mw_970 ⟨pmX6_entryAt, (Nat.le_of_ble_eq_true rfl), (Nat.le_of_ble_eq_true rfl)⟩ (mm_recv F.2.2.2.2.2.1 hN (mm_X0 hX) rfl) hl.1 rfl (Nat.le_of_ble_eq_true rfl) ⟨(Nat.le_of_ble_eq_true rfl), (Nat.le_of_ble_eq_true rfl)⟩ dX6_outcome_3
    (fun E9 σ9 H9 l9 q9 ce9 hp9 hN9 hq9 hv9 hcl9 => mm_out F ht hN9 (by obtain ⟨g1, g2, g3⟩ := hp9; exact ⟨⟨by unfold mm_q_outcome; (repeat' split) <;> omega, g1⟩, mm_Xt.rf hX g3⟩) hq9 hv9 hcl9 (Nat.le_of_ble_eq_true rfl) (Nat.le_of_ble_eq_true rfl))
    (fun v9 σ9 H locs hp9 hN => ?_)
  obtain ⟨⟨hrn, hpn⟩, rfl, h9⟩ := hp9
  refine W.eq (g2 := F0 m 6 ls [.ref ((ad 7 k i))]) rfl ?_
  refine W.widen (k := 2) (n := 12) (Nat.le_of_ble_eq_true rfl) (Nat.le_of_ble_eq_true rfl) ?_
  rw [h9] at hN
  refine mm_get (pc := 6) F hN (mm_XN hX (i := k) (j := i) (by omega) (by omega)) (ci := 1) rfl 2 (by decide) mw_629 rfl dX6_outcome_6 ?_
  exact mm_zret (pc := 9) F (ty := .char) hr hN (mm_narC ((hW.hru k hrn).2.2.2 i hpn).1) (⟨by unfold mm_q_outcome; (repeat' split) <;> omega, rfl, mm_Xt.rf hX rfl⟩) (Nat.le_of_ble_eq_true rfl) (Nat.le_of_ble_eq_true rfl) dX6_outcome_9

def mm_q_letters (T : mm_T) (k : Nat) : Nat := if k < T.nR then 0 else 1
set_option maxHeartbeats 4000000 in
set_option maxRecDepth 100000 in
theorem a_letters (l : Launch) (b : Nat) (D : mm_D) (hst : l.stackTraces = false) (T : mm_T) (z : mm_Z) (ad : Nat → Nat → Nat → Nat) (σ : mm_S) (hX : mm_X σ T z ad) (hW : mm_WF T) (k : Nat) (zk : k < 2 ^ 32) : mm_K l b D yX6_letters (.code yX6_letters cX6_letters 2 (some .int)) ({ frames := 8, cells := 6, slots := 40, locals := 220 } : Room) [.ref ((ad 0 0 0)), .int (nI k)] σ
    (fun v σ2 => mm_q_letters T k = 0 ∧ v = some (.int (nI (mm_sm (fun p => if T.oc k p = 108 then 1 else 0) (T.rp k)))) ∧ mm_Xt σ σ2 (T) (ad 0 0 0))
    (fun E σ2 => ((mm_q_letters T k = 1 ∧ E = "java/lang/IndexOutOfBoundsException")) ∧ mm_Xt σ σ2 T (ad 0 0 0)) := by
  refine mm_of (cc := cX6_letters) (nL := 2) (ret := (some .int)) (by decide) rfl (Nat.le_of_ble_eq_true rfl) hst ?_
  intro p e s m args below meth c ls F ht hr hin hN hl
  have hl : lv_has ls 2 [(0, .ref ((ad 0 0 0))), (1, .int (nI k))] := hl
  have wnA := hW.hnA
  have wnP := hW.hnP
  have wnT := hW.hnT
  have wnR := hW.hnR
  have wpa := hW.hpa
  have wbo := hW.hbo
  have wen0 := hW.hen 0
  have wen1 := hW.hen 1
  refine lv_aload_n (pc := 0) F.1 F.2.1 dX6_letters_0 rfl (lv_at hl 0 rfl) ?_
  refine lv_iload_n (pc := 1) F.1 F.2.1 dX6_letters_1 rfl (lv_at hl 1 rfl) ?_
  refine mm_runV (pc := 2) (As := [.int (nI k)]) (rest := []) F hN (c_runAt l b D hst T z ad σ hX hW k (by omega)) mw_971 mw_973 mw_p20 mw_1 mw_974 ⟨pmX6_runAt, (Nat.le_of_ble_eq_true rfl), (Nat.le_of_ble_eq_true rfl)⟩ (mm_recv F.2.2.2.2.2.1 hN (mm_X0 hX) rfl) hl.1 rfl (Nat.le_of_ble_eq_true rfl) ⟨(Nat.le_of_ble_eq_true rfl), (Nat.le_of_ble_eq_true rfl)⟩ dX6_letters_2
    (fun E9 σ9 H9 l9 q9 ce9 hp9 hN9 hq9 hv9 hcl9 => mm_out F ht hN9 (by obtain ⟨g1, g2, g3⟩ := hp9; exact ⟨⟨by unfold mm_q_letters; (repeat' split) <;> omega, g1⟩, mm_Xt.rf hX g3⟩) hq9 hv9 hcl9 (Nat.le_of_ble_eq_true rfl) (Nat.le_of_ble_eq_true rfl))
    (fun v9 σ9 H locs hp9 hN => ?_)
  obtain ⟨hrn, rfl, h9⟩ := hp9
  refine W.eq (g2 := F0 m 5 ls [.ref ((ad 5 k 0))]) rfl ?_
  refine W.widen (k := 1) (n := 6) (Nat.le_of_ble_eq_true rfl) (Nat.le_of_ble_eq_true rfl) ?_
  rw [h9] at hN
  refine mm_get (pc := 5) F hN (mm_XR hX (i := k) (by omega)) (ci := 3) rfl 2 (by decide) mw_601 rfl dX6_letters_5 ?_
  refine mm_runV (pc := 8) (As := []) (rest := []) F hN (c_sz l b D hst 0 _ ((mm_po (T.oc k) (T.rc k) (T.rp k)).length) _ _ (mm_XQ hX (i := k) (by omega)) (List.length_map ..)) mw_196 mw_197 mw_198 mw_4 mw_199 ⟨pmJx4a65c_size_8abf5, (Nat.le_of_ble_eq_true rfl), (Nat.le_of_ble_eq_true rfl)⟩ (mm_recvL F.2.2.2.2.2.1 hN (mm_XQ hX (i := k) (by omega))) hl.1 rfl (Nat.le_of_ble_eq_true rfl) ⟨(Nat.le_of_ble_eq_true rfl), (Nat.le_of_ble_eq_true rfl)⟩ dX6_letters_8
    (fun _ _ _ _ _ _ h9 => False.elim h9)
    (fun v9 σ9 H locs hp9 hN => ?_)
  obtain ⟨rfl, h9⟩ := hp9
  rw [h9] at hN
  refine W.eq (g2 := F0 m 11 ls [.int (nI ((mm_po (T.oc k) (T.rc k) (T.rp k)).length))]) rfl ?_
  refine W.widen (k := 1) (n := 6) (Nat.le_of_ble_eq_true rfl) (Nat.le_of_ble_eq_true rfl) ?_
  exact mm_iret (pc := 11) F hr hN (⟨by unfold mm_q_letters; (repeat' split) <;> omega, by rw [mm_po_num], mm_Xt.rf hX rfl⟩) (Nat.le_of_ble_eq_true rfl) (Nat.le_of_ble_eq_true rfl) dX6_letters_11

def mm_q_postedAt (T : mm_T) (k : Nat) (j : Nat) : Nat := if k < T.nR then (if j < (mm_po (T.oc k) (T.rc k) (T.rp k)).length then 0 else 2) else 1
set_option maxHeartbeats 4000000 in
set_option maxRecDepth 100000 in
theorem a_postedAt (l : Launch) (b : Nat) (D : mm_D) (hst : l.stackTraces = false) (T : mm_T) (z : mm_Z) (ad : Nat → Nat → Nat → Nat) (σ : mm_S) (hX : mm_X σ T z ad) (hW : mm_WF T) (k : Nat) (zk : k < 2 ^ 32) (j : Nat) (zj : j < 2 ^ 32) : mm_K l b D yX6_postedAt (.code yX6_postedAt cX6_postedAt 3 (some .int)) ({ frames := 8, cells := 6, slots := 40, locals := 220 } : Room) [.ref ((ad 0 0 0)), .int (nI k), .int (nI j)] σ
    (fun v σ2 => mm_q_postedAt T k j = 0 ∧ v = some (.int (nI ((mm_po (T.oc k) (T.rc k) (T.rp k)).getD j 0))) ∧ mm_Xt σ σ2 (T) (ad 0 0 0))
    (fun E σ2 => ((mm_q_postedAt T k j = 1 ∧ E = "java/lang/IndexOutOfBoundsException") ∨ (mm_q_postedAt T k j = 2 ∧ E = "java/util/NoSuchElementException")) ∧ mm_Xt σ σ2 T (ad 0 0 0)) := by
  refine mm_of (cc := cX6_postedAt) (nL := 3) (ret := (some .int)) (by decide) rfl (Nat.le_of_ble_eq_true rfl) hst ?_
  intro p e s m args below meth c ls F ht hr hin hN hl
  have hl : lv_has ls 3 [(0, .ref ((ad 0 0 0))), (1, .int (nI k)), (2, .int (nI j))] := hl
  have wnA := hW.hnA
  have wnP := hW.hnP
  have wnT := hW.hnT
  have wnR := hW.hnR
  have wpa := hW.hpa
  have wbo := hW.hbo
  have wen0 := hW.hen 0
  have wen1 := hW.hen 1
  refine lv_aload_n (pc := 0) F.1 F.2.1 dX6_postedAt_0 rfl (lv_at hl 0 rfl) ?_
  refine lv_iload_n (pc := 1) F.1 F.2.1 dX6_postedAt_1 rfl (lv_at hl 1 rfl) ?_
  refine mm_runV (pc := 2) (As := [.int (nI k)]) (rest := []) F hN (c_runAt l b D hst T z ad σ hX hW k (by omega)) mw_971 mw_973 mw_p20 mw_1 mw_974 ⟨pmX6_runAt, (Nat.le_of_ble_eq_true rfl), (Nat.le_of_ble_eq_true rfl)⟩ (mm_recv F.2.2.2.2.2.1 hN (mm_X0 hX) rfl) hl.1 rfl (Nat.le_of_ble_eq_true rfl) ⟨(Nat.le_of_ble_eq_true rfl), (Nat.le_of_ble_eq_true rfl)⟩ dX6_postedAt_2
    (fun E9 σ9 H9 l9 q9 ce9 hp9 hN9 hq9 hv9 hcl9 => mm_out F ht hN9 (by obtain ⟨g1, g2, g3⟩ := hp9; exact ⟨Or.inl (⟨by unfold mm_q_postedAt; (repeat' split) <;> omega, g1⟩), mm_Xt.rf hX g3⟩) hq9 hv9 hcl9 (Nat.le_of_ble_eq_true rfl) (Nat.le_of_ble_eq_true rfl))
    (fun v9 σ9 H locs hp9 hN => ?_)
  obtain ⟨hrn, rfl, h9⟩ := hp9
  refine W.eq (g2 := F0 m 5 ls [.ref ((ad 5 k 0))]) rfl ?_
  refine W.widen (k := 1) (n := 6) (Nat.le_of_ble_eq_true rfl) (Nat.le_of_ble_eq_true rfl) ?_
  rw [h9] at hN
  refine mm_get (pc := 5) F hN (mm_XR hX (i := k) (by omega)) (ci := 3) rfl 2 (by decide) mw_601 rfl dX6_postedAt_5 ?_
  refine lv_iload_n (pc := 8) F.1 F.2.1 dX6_postedAt_8 rfl (lv_at hl 2 rfl) ?_
  refine mm_runS (pc := 9) (As := [.ref ((ad 6 k 1)), .int (nI j)]) (rest := []) F hN (c_numberAt l b D hst T z ad σ hX hW k j (ad 6 k 1) (mm_po (T.oc k) (T.rc k) (T.rp k)) zj hrn (mm_XQ hX hrn) (fun p hp => (mm_po_lt _ _ _ p hp).1) (by have := mm_po_len (T.oc k) (T.rc k) (T.rp k); have := (hW.hru k hrn).1; omega)) mw_1000 mw_1001 mw_1 mw_1002 ⟨pmX6_numberAt, (Nat.le_of_ble_eq_true rfl), (Nat.le_of_ble_eq_true rfl)⟩ hl.1 rfl (Nat.le_of_ble_eq_true rfl) ⟨(Nat.le_of_ble_eq_true rfl), (Nat.le_of_ble_eq_true rfl)⟩ dX6_postedAt_9
    (fun E9 σ9 H9 l9 q9 ce9 hp9 hN9 hq9 hv9 hcl9 => mm_out F ht hN9 (by obtain ⟨g1, g2, g3⟩ := hp9; exact ⟨Or.inr (⟨by unfold mm_q_postedAt; (repeat' split) <;> omega, g1⟩), mm_Xt.rf hX g3⟩) hq9 hv9 hcl9 (Nat.le_of_ble_eq_true rfl) (Nat.le_of_ble_eq_true rfl))
    (fun v9 σ9 H locs hp9 hN => ?_)
  obtain ⟨hin9, rfl, h9⟩ := hp9
  refine W.eq (g2 := F0 m 12 ls [.int (nI ((mm_po (T.oc k) (T.rc k) (T.rp k)).getD j 0))]) rfl ?_
  refine W.widen (k := 2) (n := 12) (Nat.le_of_ble_eq_true rfl) (Nat.le_of_ble_eq_true rfl) ?_
  rw [h9] at hN
  exact mm_iret (pc := 12) F hr hN (⟨by unfold mm_q_postedAt; (repeat' split) <;> omega, rfl, mm_Xt.rf hX rfl⟩) (Nat.le_of_ble_eq_true rfl) (Nat.le_of_ble_eq_true rfl) dX6_postedAt_12

def mm_q_proofAt (T : mm_T) (k : Nat) (j : Nat) : Nat := if k < T.nR then (if j < (mm_pl (mm_fr T k) (T.rp k) 8).length then 0 else 2) else 1
set_option maxHeartbeats 4000000 in
set_option maxRecDepth 100000 in
theorem a_proofAt (l : Launch) (b : Nat) (D : mm_D) (hst : l.stackTraces = false) (T : mm_T) (z : mm_Z) (ad : Nat → Nat → Nat → Nat) (σ : mm_S) (hX : mm_X σ T z ad) (hW : mm_WF T) (k : Nat) (zk : k < 2 ^ 32) (j : Nat) (zj : j < 2 ^ 32) : mm_K l b D yX6_proofAt (.code yX6_proofAt cX6_proofAt 3 (some .int)) ({ frames := 8, cells := 6, slots := 40, locals := 220 } : Room) [.ref ((ad 0 0 0)), .int (nI k), .int (nI j)] σ
    (fun v σ2 => mm_q_proofAt T k j = 0 ∧ v = some (.int (nI ((mm_pl (mm_fr T k) (T.rp k) 8).getD j 0))) ∧ mm_Xt σ σ2 (T) (ad 0 0 0))
    (fun E σ2 => ((mm_q_proofAt T k j = 1 ∧ E = "java/lang/IndexOutOfBoundsException") ∨ (mm_q_proofAt T k j = 2 ∧ E = "java/util/NoSuchElementException")) ∧ mm_Xt σ σ2 T (ad 0 0 0)) := by
  refine mm_of (cc := cX6_proofAt) (nL := 3) (ret := (some .int)) (by decide) rfl (Nat.le_of_ble_eq_true rfl) hst ?_
  intro p e s m args below meth c ls F ht hr hin hN hl
  have hl : lv_has ls 3 [(0, .ref ((ad 0 0 0))), (1, .int (nI k)), (2, .int (nI j))] := hl
  have wnA := hW.hnA
  have wnP := hW.hnP
  have wnT := hW.hnT
  have wnR := hW.hnR
  have wpa := hW.hpa
  have wbo := hW.hbo
  have wen0 := hW.hen 0
  have wen1 := hW.hen 1
  refine lv_aload_n (pc := 0) F.1 F.2.1 dX6_proofAt_0 rfl (lv_at hl 0 rfl) ?_
  refine lv_iload_n (pc := 1) F.1 F.2.1 dX6_proofAt_1 rfl (lv_at hl 1 rfl) ?_
  refine mm_runV (pc := 2) (As := [.int (nI k)]) (rest := []) F hN (c_runAt l b D hst T z ad σ hX hW k (by omega)) mw_971 mw_973 mw_p20 mw_1 mw_974 ⟨pmX6_runAt, (Nat.le_of_ble_eq_true rfl), (Nat.le_of_ble_eq_true rfl)⟩ (mm_recv F.2.2.2.2.2.1 hN (mm_X0 hX) rfl) hl.1 rfl (Nat.le_of_ble_eq_true rfl) ⟨(Nat.le_of_ble_eq_true rfl), (Nat.le_of_ble_eq_true rfl)⟩ dX6_proofAt_2
    (fun E9 σ9 H9 l9 q9 ce9 hp9 hN9 hq9 hv9 hcl9 => mm_out F ht hN9 (by obtain ⟨g1, g2, g3⟩ := hp9; exact ⟨Or.inl (⟨by unfold mm_q_proofAt; (repeat' split) <;> omega, g1⟩), mm_Xt.rf hX g3⟩) hq9 hv9 hcl9 (Nat.le_of_ble_eq_true rfl) (Nat.le_of_ble_eq_true rfl))
    (fun v9 σ9 H locs hp9 hN => ?_)
  obtain ⟨hrn, rfl, h9⟩ := hp9
  refine W.eq (g2 := F0 m 5 ls [.ref ((ad 5 k 0))]) rfl ?_
  refine W.widen (k := 1) (n := 6) (Nat.le_of_ble_eq_true rfl) (Nat.le_of_ble_eq_true rfl) ?_
  rw [h9] at hN
  refine mm_get (pc := 5) F hN (mm_XR hX (i := k) (by omega)) (ci := 3) rfl 3 (by decide) mw_603 rfl dX6_proofAt_5 ?_
  refine lv_iload_n (pc := 8) F.1 F.2.1 dX6_proofAt_8 rfl (lv_at hl 2 rfl) ?_
  refine mm_runS (pc := 9) (As := [.ref ((ad 6 k 2)), .int (nI j)]) (rest := []) F hN (c_numberAt l b D hst T z ad σ hX hW k j (ad 6 k 2) (mm_pl (mm_fr T k) (T.rp k) 8) zj hrn (mm_XU hX hrn) (mm_pl_lt 8) (by have := mm_pl_len (mm_fr T k) (T.rp k) 8; omega)) mw_1000 mw_1001 mw_1 mw_1002 ⟨pmX6_numberAt, (Nat.le_of_ble_eq_true rfl), (Nat.le_of_ble_eq_true rfl)⟩ hl.1 rfl (Nat.le_of_ble_eq_true rfl) ⟨(Nat.le_of_ble_eq_true rfl), (Nat.le_of_ble_eq_true rfl)⟩ dX6_proofAt_9
    (fun E9 σ9 H9 l9 q9 ce9 hp9 hN9 hq9 hv9 hcl9 => mm_out F ht hN9 (by obtain ⟨g1, g2, g3⟩ := hp9; exact ⟨Or.inr (⟨by unfold mm_q_proofAt; (repeat' split) <;> omega, g1⟩), mm_Xt.rf hX g3⟩) hq9 hv9 hcl9 (Nat.le_of_ble_eq_true rfl) (Nat.le_of_ble_eq_true rfl))
    (fun v9 σ9 H locs hp9 hN => ?_)
  obtain ⟨hin9, rfl, h9⟩ := hp9
  refine W.eq (g2 := F0 m 12 ls [.int (nI ((mm_pl (mm_fr T k) (T.rp k) 8).getD j 0))]) rfl ?_
  refine W.widen (k := 2) (n := 12) (Nat.le_of_ble_eq_true rfl) (Nat.le_of_ble_eq_true rfl) ?_
  rw [h9] at hN
  exact mm_iret (pc := 12) F hr hN (⟨by unfold mm_q_proofAt; (repeat' split) <;> omega, rfl, mm_Xt.rf hX rfl⟩) (Nat.le_of_ble_eq_true rfl) (Nat.le_of_ble_eq_true rfl) dX6_proofAt_12

def mm_q_onRoute (T : mm_T) (k : Nat) (te : Nat) : Nat := if k < T.nR then (if te < 10 then 0 else 2) else 1
set_option maxHeartbeats 4000000 in
set_option maxRecDepth 100000 in
theorem a_onRoute (l : Launch) (b : Nat) (D : mm_D) (hst : l.stackTraces = false) (T : mm_T) (z : mm_Z) (ad : Nat → Nat → Nat → Nat) (σ : mm_S) (hX : mm_X σ T z ad) (hW : mm_WF T) (k : Nat) (zk : k < 2 ^ 32) (te : Nat) (zte : te < 2 ^ 32) : mm_K l b D yX6_onRoute (.code yX6_onRoute cX6_onRoute 4 (some .int)) ({ frames := 8, cells := 6, slots := 40, locals := 220 } : Room) [.ref ((ad 0 0 0)), .int (nI k), .int (nI te)] σ
    (fun v σ2 => mm_q_onRoute T k te = 0 ∧ v = some (.int (nI (mm_sm (fun p => if T.oc k p = 108 ∧ T.rc k p / 10 = te then 1 else 0) (T.rp k)))) ∧ mm_Xt σ σ2 (T) (ad 0 0 0))
    (fun E σ2 => ((mm_q_onRoute T k te = 1 ∧ E = "java/lang/IndexOutOfBoundsException") ∨ (mm_q_onRoute T k te = 2 ∧ E = "java/lang/IllegalArgumentException")) ∧ mm_Xt σ σ2 T (ad 0 0 0)) := by
  refine mm_of (cc := cX6_onRoute) (nL := 4) (ret := (some .int)) (by decide) rfl (Nat.le_of_ble_eq_true rfl) hst ?_
  intro p e s m args below meth c ls F ht hr hin hN hl
  have hl : lv_has ls 4 [(0, .ref ((ad 0 0 0))), (1, .int (nI k)), (2, .int (nI te))] := hl
  have wnA := hW.hnA
  have wnP := hW.hnP
  have wnT := hW.hnT
  have wnR := hW.hnR
  have wpa := hW.hpa
  have wbo := hW.hbo
  have wen0 := hW.hen 0
  have wen1 := hW.hen 1
  refine lv_aload_n (pc := 0) F.1 F.2.1 dX6_onRoute_0 rfl (lv_at hl 0 rfl) ?_
  refine lv_iload_n (pc := 1) F.1 F.2.1 dX6_onRoute_1 rfl (lv_at hl 1 rfl) ?_
  refine mm_runV (pc := 2) (As := [.int (nI k)]) (rest := []) F hN (c_runAt l b D hst T z ad σ hX hW k (by omega)) mw_971 mw_973 mw_p20 mw_1 mw_974 ⟨pmX6_runAt, (Nat.le_of_ble_eq_true rfl), (Nat.le_of_ble_eq_true rfl)⟩ (mm_recv F.2.2.2.2.2.1 hN (mm_X0 hX) rfl) hl.1 rfl (Nat.le_of_ble_eq_true rfl) ⟨(Nat.le_of_ble_eq_true rfl), (Nat.le_of_ble_eq_true rfl)⟩ dX6_onRoute_2
    (fun E9 σ9 H9 l9 q9 ce9 hp9 hN9 hq9 hv9 hcl9 => mm_out F ht hN9 (by obtain ⟨g1, g2, g3⟩ := hp9; exact ⟨Or.inl (⟨by unfold mm_q_onRoute; (repeat' split) <;> omega, g1⟩), mm_Xt.rf hX g3⟩) hq9 hv9 hcl9 (Nat.le_of_ble_eq_true rfl) (Nat.le_of_ble_eq_true rfl))
    (fun v9 σ9 H locs hp9 hN => ?_)
  obtain ⟨hrn, rfl, h9⟩ := hp9
  refine W.eq (g2 := F0 m 5 ls [.ref ((ad 5 k 0))]) rfl ?_
  refine W.widen (k := 1) (n := 6) (Nat.le_of_ble_eq_true rfl) (Nat.le_of_ble_eq_true rfl) ?_
  rw [h9] at hN
  refine lv_astore_n (pc := 5) (lv' := [(3, .ref ((ad 5 k 0))), (0, .ref ((ad 0 0 0))), (1, .int (nI k)), (2, .int (nI te))]) F.1 F.2.1 dX6_onRoute_5 rfl hl (by decide) rfl (fun ls hl => ?_)
  refine lv_iload_n (pc := 6) F.1 F.2.1 dX6_onRoute_6 rfl (lv_at hl 3 rfl) ?_
  refine mm_if_ltB (pc := 7) F (tgt := 16) (by omega) dX6_onRoute_7 (by decide) (fun cz7 => ?_) (fun cz7 => ?_)
  ·
    exact mm_throw F ht hN (by decide) (mm_tIAE mw_170) mw_125 mw_15 (List.mem_of_getElem? (i := 23) rfl) hl.1 dX6_onRoute_16 dX6_onRoute_19 dX6_onRoute_20 dX6_onRoute_22 dX6_onRoute_25 ⟨(Nat.le_of_ble_eq_true rfl), (Nat.le_of_ble_eq_true rfl), (Nat.le_of_ble_eq_true rfl), (Nat.le_of_ble_eq_true rfl)⟩ (⟨Or.inr (⟨by unfold mm_q_onRoute; (repeat' split) <;> omega, rfl⟩), mm_Xt.rf hX rfl⟩) (Nat.le_of_ble_eq_true rfl) (Nat.le_of_ble_eq_true rfl)
  ·
    refine lv_iload_n (pc := 10) F.1 F.2.1 dX6_onRoute_10 rfl (lv_at hl 3 rfl) ?_
    refine lv_bipush (pc := 11) (v := nI 9) F.1 F.2.1 dX6_onRoute_11 (by decide) ?_
    refine mm_icmp_leB (pc := 13) F (x := te) (y := 9) (tgt := 26) (by omega) (by omega) dX6_onRoute_13 (by decide) (fun cz13 => ?_) (fun cz13 => ?_)
    ·
      refine lv_aload_n (pc := 26) F.1 F.2.1 dX6_onRoute_26 rfl (lv_at hl 0 rfl) ?_
      refine lv_iload_n (pc := 27) F.1 F.2.1 dX6_onRoute_27 rfl (lv_at hl 3 rfl) ?_
      refine mm_runV (pc := 28) (As := [.int (nI te)]) (rest := []) F hN (c_onRouteR l b D hst 0 (ad 5 k 0) (T.rb k) (ad 6 k 0) (ad 6 k 1) (ad 6 k 2) ((mm_po (T.oc k) (T.rc k) (T.rp k)).map (fun p => ad 7 k p)) (fun c9 i => mm_fa T ad k c9 ((mm_po (T.oc k) (T.rc k) (T.rp k)).getD i 0)) σ (mm_XR hX hrn) (mm_XQ hX hrn) (mm_X_po hX hW hrn) te (by omega)) mw_1024 mw_1025 mw_1026 mw_29 mw_1027 ⟨pmX3_countOnRoute, (Nat.le_of_ble_eq_true rfl), (Nat.le_of_ble_eq_true rfl)⟩ (mm_recv F.2.2.2.2.2.1 hN (mm_XR hX hrn) rfl) hl.1 rfl (Nat.le_of_ble_eq_true rfl) ⟨(Nat.le_of_ble_eq_true rfl), (Nat.le_of_ble_eq_true rfl)⟩ dX6_onRoute_28
        (fun _ _ _ _ _ _ h9 => False.elim h9)
        (fun v9 σ9 H locs hp9 hN => ?_)
      obtain ⟨rfl, h9⟩ := hp9
      rw [h9] at hN
      refine W.eq (g2 := F0 m 31 ls [.int (nI (mm_sm (fun i => if mm_fa T ad k 3 ((mm_po (T.oc k) (T.rc k) (T.rp k)).getD i 0) / 10 = te then 1 else 0) ((mm_po (T.oc k) (T.rc k) (T.rp k)).map (fun p => ad 7 k p)).length))]) rfl ?_
      refine W.widen (k := 1) (n := 6) (Nat.le_of_ble_eq_true rfl) (Nat.le_of_ble_eq_true rfl) ?_
      exact mm_iret (pc := 31) F hr hN (⟨by unfold mm_q_onRoute; (repeat' split) <;> omega, congrArg (fun q => some (Value.int (nI q))) mm_route, mm_Xt.rf hX rfl⟩) (Nat.le_of_ble_eq_true rfl) (Nat.le_of_ble_eq_true rfl) dX6_onRoute_31
    ·
      exact mm_throw F ht hN (by decide) (mm_tIAE mw_170) mw_125 mw_15 (List.mem_of_getElem? (i := 23) rfl) hl.1 dX6_onRoute_16 dX6_onRoute_19 dX6_onRoute_20 dX6_onRoute_22 dX6_onRoute_25 ⟨(Nat.le_of_ble_eq_true rfl), (Nat.le_of_ble_eq_true rfl), (Nat.le_of_ble_eq_true rfl), (Nat.le_of_ble_eq_true rfl)⟩ (⟨Or.inr (⟨by unfold mm_q_onRoute; (repeat' split) <;> omega, rfl⟩), mm_Xt.rf hX rfl⟩) (Nat.le_of_ble_eq_true rfl) (Nat.le_of_ble_eq_true rfl)

def mm_q_postage (T : mm_T) (k : Nat) (i : Nat) : Nat := if k < T.nR ∧ i < T.rp k then (if T.oc k i = 108 then 0 else 2) else 1
set_option maxHeartbeats 4000000 in
set_option maxRecDepth 100000 in
theorem a_postage (l : Launch) (b : Nat) (D : mm_D) (hst : l.stackTraces = false) (T : mm_T) (z : mm_Z) (ad : Nat → Nat → Nat → Nat) (σ : mm_S) (hX : mm_X σ T z ad) (hW : mm_WF T) (k : Nat) (zk : k < 2 ^ 32) (i : Nat) (zi : i < 2 ^ 32) : mm_K l b D yX6_postage (.code yX6_postage cX6_postage 4 (some .int)) ({ frames := 8, cells := 6, slots := 40, locals := 220 } : Room) [.ref ((ad 0 0 0)), .int (nI k), .int (nI i)] σ
    (fun v σ2 => mm_q_postage T k i = 0 ∧ v = some (.int (nI (T.ps k i))) ∧ mm_Xt σ σ2 (T) (ad 0 0 0))
    (fun E σ2 => ((mm_q_postage T k i = 1 ∧ E = "java/lang/IndexOutOfBoundsException") ∨ (mm_q_postage T k i = 2 ∧ E = "java/util/NoSuchElementException")) ∧ mm_Xt σ σ2 T (ad 0 0 0)) := by
  refine mm_of (cc := cX6_postage) (nL := 4) (ret := (some .int)) (by decide) rfl (Nat.le_of_ble_eq_true rfl) hst ?_
  intro p e s m args below meth c ls F ht hr hin hN hl
  have hl : lv_has ls 4 [(0, .ref ((ad 0 0 0))), (1, .int (nI k)), (2, .int (nI i))] := hl
  have wnA := hW.hnA
  have wnP := hW.hnP
  have wnT := hW.hnT
  have wnR := hW.hnR
  have wpa := hW.hpa
  have wbo := hW.hbo
  have wen0 := hW.hen 0
  have wen1 := hW.hen 1
  refine lv_aload_n (pc := 0) F.1 F.2.1 dX6_postage_0 rfl (lv_at hl 0 rfl) ?_
  refine lv_iload_n (pc := 1) F.1 F.2.1 dX6_postage_1 rfl (lv_at hl 1 rfl) ?_
  refine lv_iload_n (pc := 2) F.1 F.2.1 dX6_postage_2 rfl (lv_at hl 2 rfl) ?_
  refine mm_runV (pc := 3) (As := [.int (nI k), .int (nI i)]) (rest := []) F hN (c_entryAt l b D hst T z ad σ hX hW k i (by omega) (by omega)) mw_967 mw_969 mw_p19 mw_1 mw_970 ⟨pmX6_entryAt, (Nat.le_of_ble_eq_true rfl), (Nat.le_of_ble_eq_true rfl)⟩ (mm_recv F.2.2.2.2.2.1 hN (mm_X0 hX) rfl) hl.1 rfl (Nat.le_of_ble_eq_true rfl) ⟨(Nat.le_of_ble_eq_true rfl), (Nat.le_of_ble_eq_true rfl)⟩ dX6_postage_3
    (fun E9 σ9 H9 l9 q9 ce9 hp9 hN9 hq9 hv9 hcl9 => mm_out F ht hN9 (by obtain ⟨g1, g2, g3⟩ := hp9; exact ⟨Or.inl (⟨by unfold mm_q_postage; (repeat' split) <;> omega, g1⟩), mm_Xt.rf hX g3⟩) hq9 hv9 hcl9 (Nat.le_of_ble_eq_true rfl) (Nat.le_of_ble_eq_true rfl))
    (fun v9 σ9 H locs hp9 hN => ?_)
  obtain ⟨⟨hrn, hpn⟩, rfl, h9⟩ := hp9
  refine W.eq (g2 := F0 m 6 ls [.ref ((ad 7 k i))]) rfl ?_
  refine W.widen (k := 2) (n := 12) (Nat.le_of_ble_eq_true rfl) (Nat.le_of_ble_eq_true rfl) ?_
  rw [h9] at hN
  obtain ⟨wr1, wr2, wr3, wr4⟩ := hW.hru k hrn
  have wp := wr4 i hpn
  have wpg := wp.2.2.1
  refine lv_astore_n (pc := 6) (lv' := [(3, .ref ((ad 7 k i))), (0, .ref ((ad 0 0 0))), (1, .int (nI k)), (2, .int (nI i))]) F.1 F.2.1 dX6_postage_6 rfl hl (by decide) rfl (fun ls hl => ?_)
  refine lv_aload_n (pc := 7) F.1 F.2.1 dX6_postage_7 rfl (lv_at hl 0 rfl) ?_
  refine mm_runV (pc := 8) (As := []) (rest := []) F hN (c_isLet l b D hst 0 (ad 7 k i) (T.oc k i) (T.rc k i) (T.pg k i) (T.rt k i) (T.bk k i) _ _ σ (mm_XN hX hrn hpn) (wp.1)) mw_978 mw_660 mw_661 mw_30 mw_662 ⟨pmX1_isLetter, (Nat.le_of_ble_eq_true rfl), (Nat.le_of_ble_eq_true rfl)⟩ (mm_recv F.2.2.2.2.2.1 hN (mm_XN hX hrn hpn) rfl) hl.1 rfl (Nat.le_of_ble_eq_true rfl) ⟨(Nat.le_of_ble_eq_true rfl), (Nat.le_of_ble_eq_true rfl)⟩ dX6_postage_8
    (fun _ _ _ _ _ _ h9 => False.elim h9)
    (fun v9 σ9 H locs hp9 hN => ?_)
  obtain ⟨rfl, h9⟩ := hp9
  rw [h9] at hN
  refine W.eq (g2 := F0 m 11 ls [.int (nI (if T.oc k i = 108 then 1 else 0))]) rfl ?_
  refine W.widen (k := 2) (n := 12) (Nat.le_of_ble_eq_true rfl) (Nat.le_of_ble_eq_true rfl) ?_
  by_cases hb11 : T.oc k i = 108
  ·
    refine W.eq (g2 := F0 m 11 ls [.int (nI 1)]) (by rw [if_pos hb11]) ?_
    refine mm_if_ne (pc := 11) F (tgt := 24) (by omega) dX6_postage_11 (by decide) (fun cz11 => ?_) (fun h9 => absurd h9 (by decide))
    refine lv_aload_n (pc := 24) F.1 F.2.1 dX6_postage_24 rfl (lv_at hl 1 rfl) ?_
    refine lv_iload_n (pc := 25) F.1 F.2.1 dX6_postage_25 rfl (lv_at hl 2 rfl) ?_
    refine mm_runV (pc := 26) (As := [.int (nI k)]) (rest := []) F hN (c_runAt l b D hst T z ad σ hX hW k (by omega)) mw_971 mw_973 mw_p20 mw_1 mw_974 ⟨pmX6_runAt, (Nat.le_of_ble_eq_true rfl), (Nat.le_of_ble_eq_true rfl)⟩ (mm_recv F.2.2.2.2.2.1 hN (mm_X0 hX) rfl) hl.1 rfl (Nat.le_of_ble_eq_true rfl) ⟨(Nat.le_of_ble_eq_true rfl), (Nat.le_of_ble_eq_true rfl)⟩ dX6_postage_26
      (fun E9 σ9 H9 l9 q9 ce9 hp9 hN9 hq9 hv9 hcl9 => mm_out F ht hN9 (by obtain ⟨g1, g2, g3⟩ := hp9; exact ⟨Or.inl (⟨by unfold mm_q_postage; (repeat' split) <;> omega, g1⟩), mm_Xt.rf hX g3⟩) hq9 hv9 hcl9 (Nat.le_of_ble_eq_true rfl) (Nat.le_of_ble_eq_true rfl))
      (fun v9 σ9 H locs hp9 hN => ?_)
    obtain ⟨hrn, rfl, h9⟩ := hp9
    refine W.eq (g2 := F0 m 29 ls [.ref ((ad 5 k 0))]) rfl ?_
    refine W.widen (k := 3) (n := 18) (Nat.le_of_ble_eq_true rfl) (Nat.le_of_ble_eq_true rfl) ?_
    rw [h9] at hN
    refine lv_aload_n (pc := 29) F.1 F.2.1 dX6_postage_29 rfl (lv_at hl 0 rfl) ?_
    refine mm_runV (pc := 30) (As := [.ref ((ad 7 k i))]) (rest := []) F hN (c_centsFor l b D hst 0 (ad 5 k 0) (T.rb k) (ad 6 k 0) (ad 6 k 1) (ad 6 k 2) ((mm_po (T.oc k) (T.rc k) (T.rp k)).map (fun p => ad 7 k p)) (fun c9 i => mm_fa T ad k c9 ((mm_po (T.oc k) (T.rc k) (T.rp k)).getD i 0)) σ (mm_XR hX hrn) (mm_XQ hX hrn) (mm_X_po hX hW hrn) (ad 7 k i) (T.oc k i) (T.rc k i) (T.pg k i) (T.rt k i) (T.bk k i) _ _ (mm_XN hX hrn hpn) wp.2.1 (by omega) (by omega)) mw_1037 mw_1038 mw_1039 mw_29 mw_1040 ⟨pmX3_centsFor, (Nat.le_of_ble_eq_true rfl), (Nat.le_of_ble_eq_true rfl)⟩ (mm_recv F.2.2.2.2.2.1 hN (mm_XR hX hrn) rfl) hl.1 rfl (Nat.le_of_ble_eq_true rfl) ⟨(Nat.le_of_ble_eq_true rfl), (Nat.le_of_ble_eq_true rfl)⟩ dX6_postage_30
      (fun _ _ _ _ _ _ h9 => False.elim h9)
      (fun v9 σ9 H locs hp9 hN => ?_)
    obtain ⟨rfl, h9⟩ := hp9
    rw [h9] at hN
    refine W.eq (g2 := F0 m 33 ls [.int (nI (mm_cf (mm_sm (fun c8 => if mm_fa T ad k 3 ((mm_po (T.oc k) (T.rc k) (T.rp k)).getD c8 0) / 10 = T.rc k i / 10 then 1 else 0) ((mm_po (T.oc k) (T.rc k) (T.rp k)).map (fun p => ad 7 k p)).length) (T.rb k) (T.pg k i)))]) rfl ?_
    refine W.widen (k := 3) (n := 18) (Nat.le_of_ble_eq_true rfl) (Nat.le_of_ble_eq_true rfl) ?_
    exact mm_iret (pc := 33) F hr hN (⟨by unfold mm_q_postage; (repeat' split) <;> omega, congrArg (fun q => some (Value.int (nI q))) ((congrArg (fun q => mm_cf q (T.rb k) (T.pg k i)) mm_route).trans (wp.2.2.2.2.2.2 hb11).symm), mm_Xt.rf hX rfl⟩) (Nat.le_of_ble_eq_true rfl) (Nat.le_of_ble_eq_true rfl) dX6_postage_33
  ·
    refine W.eq (g2 := F0 m 11 ls [.int (nI 0)]) (by rw [if_neg hb11]) ?_
    refine mm_if_ne (pc := 11) F (tgt := 24) (by omega) dX6_postage_11 (by decide) (fun h9 => absurd h9 (by decide)) (fun cz11 => ?_)
    exact mm_throwN F ht hN mw_1013 mw_1003 mw_14 (List.mem_of_getElem? (i := 24) rfl) hl.1 dX6_postage_14 dX6_postage_17 dX6_postage_18 dX6_postage_20 dX6_postage_23 ⟨(Nat.le_of_ble_eq_true rfl), (Nat.le_of_ble_eq_true rfl), (Nat.le_of_ble_eq_true rfl), (Nat.le_of_ble_eq_true rfl)⟩ (⟨Or.inr (⟨by unfold mm_q_postage; (repeat' split) <;> omega, rfl⟩), mm_Xt.rf hX rfl⟩) (Nat.le_of_ble_eq_true rfl) (Nat.le_of_ble_eq_true rfl)

def mm_q_costOf (T : mm_T) (k : Nat) : Nat := if k < T.nR then 0 else 1
set_option maxHeartbeats 4000000 in
set_option maxRecDepth 100000 in
theorem a_costOf (l : Launch) (b : Nat) (D : mm_D) (hst : l.stackTraces = false) (T : mm_T) (z : mm_Z) (ad : Nat → Nat → Nat → Nat) (σ : mm_S) (hX : mm_X σ T z ad) (hW : mm_WF T) (k : Nat) (zk : k < 2 ^ 32) : mm_K l b D yX6_costOf (.code yX6_costOf cX6_costOf 2 (some .long)) ({ frames := 8, cells := 6, slots := 40, locals := 220 } : Room) [.ref ((ad 0 0 0)), .int (nI k)] σ
    (fun v σ2 => mm_q_costOf T k = 0 ∧ v = some (.long (lN (mm_sm (fun p => if T.oc k p = 108 then T.ps k p else 0) (T.rp k)))) ∧ mm_Xt σ σ2 (T) (ad 0 0 0))
    (fun E σ2 => ((mm_q_costOf T k = 1 ∧ E = "java/lang/IndexOutOfBoundsException")) ∧ mm_Xt σ σ2 T (ad 0 0 0)) := by
  refine mm_of (cc := cX6_costOf) (nL := 2) (ret := (some .long)) (by decide) rfl (Nat.le_of_ble_eq_true rfl) hst ?_
  intro p e s m args below meth c ls F ht hr hin hN hl
  have hl : lv_has ls 2 [(0, .ref ((ad 0 0 0))), (1, .int (nI k))] := hl
  have wnA := hW.hnA
  have wnP := hW.hnP
  have wnT := hW.hnT
  have wnR := hW.hnR
  have wpa := hW.hpa
  have wbo := hW.hbo
  have wen0 := hW.hen 0
  have wen1 := hW.hen 1
  refine lv_aload_n (pc := 0) F.1 F.2.1 dX6_costOf_0 rfl (lv_at hl 0 rfl) ?_
  refine lv_iload_n (pc := 1) F.1 F.2.1 dX6_costOf_1 rfl (lv_at hl 1 rfl) ?_
  refine mm_runV (pc := 2) (As := [.int (nI k)]) (rest := []) F hN (c_runAt l b D hst T z ad σ hX hW k (by omega)) mw_971 mw_973 mw_p20 mw_1 mw_974 ⟨pmX6_runAt, (Nat.le_of_ble_eq_true rfl), (Nat.le_of_ble_eq_true rfl)⟩ (mm_recv F.2.2.2.2.2.1 hN (mm_X0 hX) rfl) hl.1 rfl (Nat.le_of_ble_eq_true rfl) ⟨(Nat.le_of_ble_eq_true rfl), (Nat.le_of_ble_eq_true rfl)⟩ dX6_costOf_2
    (fun E9 σ9 H9 l9 q9 ce9 hp9 hN9 hq9 hv9 hcl9 => mm_out F ht hN9 (by obtain ⟨g1, g2, g3⟩ := hp9; exact ⟨⟨by unfold mm_q_costOf; (repeat' split) <;> omega, g1⟩, mm_Xt.rf hX g3⟩) hq9 hv9 hcl9 (Nat.le_of_ble_eq_true rfl) (Nat.le_of_ble_eq_true rfl))
    (fun v9 σ9 H locs hp9 hN => ?_)
  obtain ⟨hrn, rfl, h9⟩ := hp9
  refine W.eq (g2 := F0 m 5 ls [.ref ((ad 5 k 0))]) rfl ?_
  refine W.widen (k := 1) (n := 6) (Nat.le_of_ble_eq_true rfl) (Nat.le_of_ble_eq_true rfl) ?_
  rw [h9] at hN
  refine mm_runV (pc := 5) (As := []) (rest := []) F hN (c_centsAll l b D hst 0 (ad 5 k 0) (T.rb k) (ad 6 k 0) (ad 6 k 1) (ad 6 k 2) ((mm_po (T.oc k) (T.rc k) (T.rp k)).map (fun p => ad 7 k p)) (fun c9 i => mm_fa T ad k c9 ((mm_po (T.oc k) (T.rc k) (T.rp k)).getD i 0)) σ (mm_XR hX hrn) (mm_XQ hX hrn) (mm_X_po hX hW hrn) (by have := (hW.hru k hrn).2.2.1; omega)) mw_1058 mw_1059 mw_1060 mw_29 mw_1061 ⟨pmX3_centsForAll, (Nat.le_of_ble_eq_true rfl), (Nat.le_of_ble_eq_true rfl)⟩ (mm_recv F.2.2.2.2.2.1 hN (mm_XR hX hrn) rfl) hl.1 rfl (Nat.le_of_ble_eq_true rfl) ⟨(Nat.le_of_ble_eq_true rfl), (Nat.le_of_ble_eq_true rfl)⟩ dX6_costOf_5
    (fun _ _ _ _ _ _ h9 => False.elim h9)
    (fun v9 σ9 H locs hp9 hN => ?_)
  obtain ⟨rfl, h9⟩ := hp9
  rw [h9] at hN
  refine W.eq (g2 := F0 m 8 ls [.long (lN (mm_sm (fun i => mm_cf (mm_sm (fun j => if mm_fa T ad k 3 ((mm_po (T.oc k) (T.rc k) (T.rp k)).getD j 0) / 10 = mm_fa T ad k 3 ((mm_po (T.oc k) (T.rc k) (T.rp k)).getD i 0) / 10 then 1 else 0) ((mm_po (T.oc k) (T.rc k) (T.rp k)).map (fun p => ad 7 k p)).length) (T.rb k) (mm_fa T ad k 4 ((mm_po (T.oc k) (T.rc k) (T.rp k)).getD i 0))) ((mm_po (T.oc k) (T.rc k) (T.rp k)).map (fun p => ad 7 k p)).length))]) rfl ?_
  refine W.widen (k := 1) (n := 6) (Nat.le_of_ble_eq_true rfl) (Nat.le_of_ble_eq_true rfl) ?_
  exact mm_lret (pc := 8) F hr hN (⟨by unfold mm_q_costOf; (repeat' split) <;> omega, congrArg (fun q => some (Value.long (lN q))) (mm_allc hW hrn), mm_Xt.rf hX rfl⟩) (Nat.le_of_ble_eq_true rfl) (Nat.le_of_ble_eq_true rfl) dX6_costOf_8

