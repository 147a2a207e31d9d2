theorem mm_u2_at {f : Nat → Nat → Nat} {i j v : Nat} : mm_u2 f i j v i j = v := if_pos ⟨rfl, rfl⟩
theorem mm_ws {T : mm_T} {k : Nat} {f : Nat → Nat → Nat} (h : f = T k) : T.w k f = T := by
  funext q
  by_cases e : q = k
  · subst e; rw [mm_T.wi, h]
  · exact mm_T.wo e
theorem mm_XeT {σ : mm_S} {T T' : mm_T} {z : mm_Z} {ad : Nat → Nat → Nat → Nat} (h : mm_X σ T z ad) (e : T = T') : mm_X σ T' z ad := e ▸ h
theorem mm_u2s {f : Nat → Nat → Nat} {i j v : Nat} (h : v = f i j) : mm_u2 f i j v = f := by
  funext a q
  by_cases e : a = i ∧ q = j
  · obtain ⟨rfl, rfl⟩ := e
    rw [mm_u2_at, h]
  · exact if_neg e
theorem mm_w4 {T : mm_T} {z : mm_Z} {ad : Nat → Nat → Nat → Nat} {i v : Nat} : ∀ k' i' j', mm_lv T k' i' j' → ¬ (k' = 2 ∧ i' = i ∧ j' = 0) → mm_ct (T.w 4 (mm_u2 (T 4) i 0 v)) z ad k' i' j' = mm_ct T z ad k' i' j'
  | 0, i', j', hl, hn => rfl
  | 1, i', j', hl, hn => rfl
  | 2, i', j', hl, hn => by
    have hi : ¬ (i' = i ∧ 0 = 0) := fun e => hn ⟨rfl, e.1, hl.2⟩
    show mm_O 2 [.ref (ad 1 (if i' = i ∧ 0 = 0 then v else T 4 i' 0) 0), .int (nI (T.fl i')), .int (nI (T.re i')), .int (nI (z.oc i'))] = _
    rw [if_neg hi] <;> rfl
  | 3, i', j', hl, hn => rfl
  | 4, i', j', hl, hn => rfl
  | 5, i', j', hl, hn => rfl
  | 6, i', j', hl, hn => rfl
  | 7, i', j', hl, hn => rfl
  | n + 8, i', j', hl, hn => False.elim hl
theorem mm_w5 {T : mm_T} {z : mm_Z} {ad : Nat → Nat → Nat → Nat} {i v : Nat} : ∀ k' i' j', mm_lv T k' i' j' → ¬ (k' = 2 ∧ i' = i ∧ j' = 0) → mm_ct (T.w 5 (mm_u2 (T 5) i 0 v)) z ad k' i' j' = mm_ct T z ad k' i' j'
  | 0, i', j', hl, hn => rfl
  | 1, i', j', hl, hn => rfl
  | 2, i', j', hl, hn => by
    have hi : ¬ (i' = i ∧ 0 = 0) := fun e => hn ⟨rfl, e.1, hl.2⟩
    show mm_O 2 [.ref ((ad 1 (T.ho i') 0)), .int (nI (if i' = i ∧ 0 = 0 then v else T 5 i' 0)), .int (nI (T.re i')), .int (nI (z.oc i'))] = _
    rw [if_neg hi] <;> rfl
  | 3, i', j', hl, hn => rfl
  | 4, i', j', hl, hn => rfl
  | 5, i', j', hl, hn => rfl
  | 6, i', j', hl, hn => rfl
  | 7, i', j', hl, hn => rfl
  | n + 8, i', j', hl, hn => False.elim hl
theorem mm_w6 {T : mm_T} {z : mm_Z} {ad : Nat → Nat → Nat → Nat} {i v : Nat} : ∀ k' i' j', mm_lv T k' i' j' → ¬ (k' = 2 ∧ i' = i ∧ j' = 0) → mm_ct (T.w 6 (mm_u2 (T 6) i 0 v)) z ad k' i' j' = mm_ct T z ad k' i' j'
  | 0, i', j', hl, hn => rfl
  | 1, i', j', hl, hn => rfl
  | 2, i', j', hl, hn => by
    have hi : ¬ (i' = i ∧ 0 = 0) := fun e => hn ⟨rfl, e.1, hl.2⟩
    show mm_O 2 [.ref ((ad 1 (T.ho i') 0)), .int (nI (T.fl i')), .int (nI (if i' = i ∧ 0 = 0 then v else T 6 i' 0)), .int (nI (z.oc i'))] = _
    rw [if_neg hi] <;> rfl
  | 3, i', j', hl, hn => rfl
  | 4, i', j', hl, hn => rfl
  | 5, i', j', hl, hn => rfl
  | 6, i', j', hl, hn => rfl
  | 7, i', j', hl, hn => rfl
  | n + 8, i', j', hl, hn => False.elim hl
theorem mm_w2 {T : mm_T} {z : mm_Z} {ad : Nat → Nat → Nat → Nat} {i v : Nat} : ∀ k' i' j', mm_lv T k' i' j' → ¬ (k' = 1 ∧ i' = i ∧ j' = 0) → mm_ct (T.w 2 (mm_u2 (T 2) i 0 v)) z ad k' i' j' = mm_ct T z ad k' i' j'
  | 0, i', j', hl, hn => rfl
  | 1, i', j', hl, hn => by
    have hi : ¬ (i' = i ∧ 0 = 0) := fun e => hn ⟨rfl, e.1, hl.2⟩
    show mm_O 0 [.int (nI i'), .int (nI (T.co i')), .int (nI (if i' = i ∧ 0 = 0 then v else T 2 i' 0)), .int (nI (T.go i')), .int (nI (z.sk i')), .int (nI (z.sv i'))] = _
    rw [if_neg hi] <;> rfl
  | 2, i', j', hl, hn => rfl
  | 3, i', j', hl, hn => rfl
  | 4, i', j', hl, hn => rfl
  | 5, i', j', hl, hn => rfl
  | 6, i', j', hl, hn => rfl
  | 7, i', j', hl, hn => rfl
  | n + 8, i', j', hl, hn => False.elim hl
theorem mm_w3 {T : mm_T} {z : mm_Z} {ad : Nat → Nat → Nat → Nat} {i v : Nat} : ∀ k' i' j', mm_lv T k' i' j' → ¬ (k' = 1 ∧ i' = i ∧ j' = 0) → mm_ct (T.w 3 (mm_u2 (T 3) i 0 v)) z ad k' i' j' = mm_ct T z ad k' i' j'
  | 0, i', j', hl, hn => rfl
  | 1, i', j', hl, hn => by
    have hi : ¬ (i' = i ∧ 0 = 0) := fun e => hn ⟨rfl, e.1, hl.2⟩
    show mm_O 0 [.int (nI i'), .int (nI (T.co i')), .int (nI (T.sk i')), .int (nI (if i' = i ∧ 0 = 0 then v else T 3 i' 0)), .int (nI (z.sk i')), .int (nI (z.sv i'))] = _
    rw [if_neg hi] <;> rfl
  | 2, i', j', hl, hn => rfl
  | 3, i', j', hl, hn => rfl
  | 4, i', j', hl, hn => rfl
  | 5, i', j', hl, hn => rfl
  | 6, i', j', hl, hn => rfl
  | 7, i', j', hl, hn => rfl
  | n + 8, i', j', hl, hn => False.elim hl
theorem mm_w11 {T : mm_T} {z : mm_Z} {ad : Nat → Nat → Nat → Nat} {i v : Nat} : ∀ k' i' j', mm_lv T k' i' j' → ¬ (k' = 3 ∧ i' = i ∧ j' = 0) → mm_ct (T.w 11 (mm_u2 (T 11) i 0 v)) z ad k' i' j' = mm_ct T z ad k' i' j'
  | 0, i', j', hl, hn => rfl
  | 1, i', j', hl, hn => rfl
  | 2, i', j', hl, hn => rfl
  | 3, i', j', hl, hn => by
    have hi : ¬ (i' = i ∧ 0 = 0) := fun e => hn ⟨rfl, e.1, hl.2⟩
    show mm_O 5 [.ref ((ad 4 i' 0)), .ref ((ad 4 i' 1)), .ref ((ad 4 i' 2)), .int (nI (T.pc i')), .int (nI (if i' = i ∧ 0 = 0 then v else T 11 i' 0))] = _
    rw [if_neg hi] <;> rfl
  | 4, i', j', hl, hn => rfl
  | 5, i', j', hl, hn => rfl
  | 6, i', j', hl, hn => rfl
  | 7, i', j', hl, hn => rfl
  | n + 8, i', j', hl, hn => False.elim hl
theorem mm_w19 {T : mm_T} {z : mm_Z} {ad : Nat → Nat → Nat → Nat} {i j v : Nat} : ∀ k' i' j', mm_lv T k' i' j' → ¬ (k' = 7 ∧ i' = i ∧ j' = j) → mm_ct (T.w 19 (mm_u2 (T 19) i j v)) z ad k' i' j' = mm_ct T z ad k' i' j'
  | 0, i', j', hl, hn => rfl
  | 1, i', j', hl, hn => rfl
  | 2, i', j', hl, hn => rfl
  | 3, i', j', hl, hn => rfl
  | 4, i', j', hl, hn => rfl
  | 5, i', j', hl, hn => rfl
  | 6, i', j', hl, hn => rfl
  | 7, i', j', hl, hn => by
    have hi : ¬ (i' = i ∧ j' = j) := fun e => hn ⟨rfl, e.1, e.2⟩
    show mm_O 1 [.int (nI j'), .ref ((ad 2 j' 0)), .int (nI (T.oc i' j')), .int (nI (T.rc i' j')), .int (nI (T.pg i' j')), .int (nI (T.rt i' j')), .int (nI (if i' = i ∧ j' = j then v else T 19 i' j'))] = _
    rw [if_neg hi] <;> rfl
  | n + 8, i', j', hl, hn => False.elim hl
def mm_q_setFlags (T : mm_T) (i : Nat) (f : Nat) : Nat := if i < T.nP then (if f < 8 then 0 else 2) else 1
set_option maxHeartbeats 4000000 in
set_option maxRecDepth 100000 in
theorem a_setFlags (l : Launch) (b : Nat) (D : mm_D) (hst : l.stackTraces = false) (T : mm_T) (z : mm_Z) (ad : Nat → Nat → Nat → Nat) (σ : mm_S) (hX : mm_X σ T z ad) (hW : mm_WF T) (i : Nat) (zi : i < 2 ^ 32) (f : Nat) (zf : f < 2 ^ 32) : mm_K l b D yX6_setFlags (.code yX6_setFlags cX6_setFlags 5 (some .int)) ({ frames := 8, cells := 6, slots := 40, locals := 220 } : Room) [.ref ((ad 0 0 0)), .int (nI i), .int (nI f)] σ
    (fun v σ2 => mm_q_setFlags T i f = 0 ∧ v = some (.int (nI (T.fl i))) ∧ mm_Xt σ σ2 (T.w 5 (mm_u2 (T 5) i 0 f)) (ad 0 0 0))
    (fun E σ2 => ((mm_q_setFlags T i f = 1 ∧ E = "java/lang/IndexOutOfBoundsException") ∨ (mm_q_setFlags T i f = 2 ∧ E = "java/lang/IllegalArgumentException")) ∧ mm_Xt σ σ2 T (ad 0 0 0)) := by
  refine mm_of (cc := cX6_setFlags) (nL := 5) (ret := (some .int)) (by decide) rfl (Nat.le_of_ble_eq_true rfl) hst ?_
  intro p e s m args below meth c ls F ht hr hin hN hl
  have hl : lv_has ls 5 [(0, .ref ((ad 0 0 0))), (1, .int (nI i)), (2, .int (nI f))] := hl
  have wnA := hW.hnA
  have wnP := hW.hnP
  have wnT := hW.hnT
  have wnR := hW.hnR
  have wpa := hW.hpa
  have wbo := hW.hbo
  have wen0 := hW.hen 0
  have wen1 := hW.hen 1
  refine lv_aload_n (pc := 0) F.1 F.2.1 dX6_setFlags_0 rfl (lv_at hl 0 rfl) ?_
  refine lv_iload_n (pc := 1) F.1 F.2.1 dX6_setFlags_1 rfl (lv_at hl 1 rfl) ?_
  refine mm_runV (pc := 2) (As := [.int (nI i)]) (rest := []) F hN (c_personAt l b D hst T z ad σ hX hW i (by omega)) mw_378 mw_380 mw_p5 mw_1 mw_381 ⟨pmX6_personAt, (Nat.le_of_ble_eq_true rfl), (Nat.le_of_ble_eq_true rfl)⟩ (mm_recv F.2.2.2.2.2.1 hN (mm_X0 hX) rfl) hl.1 rfl (Nat.le_of_ble_eq_true rfl) ⟨(Nat.le_of_ble_eq_true rfl), (Nat.le_of_ble_eq_true rfl)⟩ dX6_setFlags_2
    (fun E9 σ9 H9 l9 q9 ce9 hp9 hN9 hq9 hv9 hcl9 => mm_out F ht hN9 (by obtain ⟨g1, g2, g3⟩ := hp9; exact ⟨Or.inl (⟨by unfold mm_q_setFlags; (repeat' split) <;> omega, g1⟩), mm_Xt.rf hX g3⟩) hq9 hv9 hcl9 (Nat.le_of_ble_eq_true rfl) (Nat.le_of_ble_eq_true rfl))
    (fun v9 σ9 H locs hp9 hN => ?_)
  obtain ⟨hpn, rfl, h9⟩ := hp9
  refine W.eq (g2 := F0 m 5 ls [.ref ((ad 2 i 0))]) rfl ?_
  refine W.widen (k := 1) (n := 6) (Nat.le_of_ble_eq_true rfl) (Nat.le_of_ble_eq_true rfl) ?_
  rw [h9] at hN
  obtain ⟨who, wfl, wre⟩ := hW.hpe i hpn
  refine lv_astore_n (pc := 5) (lv' := [(3, .ref ((ad 2 i 0))), (0, .ref ((ad 0 0 0))), (1, .int (nI i)), (2, .int (nI f))]) F.1 F.2.1 dX6_setFlags_5 rfl hl (by decide) rfl (fun ls hl => ?_)
  refine lv_iload_n (pc := 6) F.1 F.2.1 dX6_setFlags_6 rfl (lv_at hl 3 rfl) ?_
  refine mm_runS (pc := 7) (As := [.int (nI f)]) (rest := []) F hN (c_checkFlags l b D hst f (by omega) _) mw_383 mw_384 mw_1 mw_385 ⟨pmX6_checkFlags, (Nat.le_of_ble_eq_true rfl), (Nat.le_of_ble_eq_true rfl)⟩ hl.1 rfl (Nat.le_of_ble_eq_true rfl) ⟨(Nat.le_of_ble_eq_true rfl), (Nat.le_of_ble_eq_true rfl)⟩ dX6_setFlags_7
    (fun E9 σ9 H9 l9 q9 ce9 hp9 hN9 hq9 hv9 hcl9 => mm_out F ht hN9 (by obtain ⟨g1, g2, g3⟩ := hp9; exact ⟨Or.inr (⟨by unfold mm_q_setFlags; (repeat' split) <;> omega, g1⟩), mm_Xt.rf hX g3⟩) hq9 hv9 hcl9 (Nat.le_of_ble_eq_true rfl) (Nat.le_of_ble_eq_true rfl))
    (fun v9 σ9 H locs hp9 hN => ?_)
  obtain ⟨rfl, hfn, h9⟩ := hp9
  refine W.eq (g2 := F0 m 10 ls []) rfl ?_
  refine W.widen (k := 2) (n := 12) (Nat.le_of_ble_eq_true rfl) (Nat.le_of_ble_eq_true rfl) ?_
  rw [h9] at hN
  refine lv_aload_n (pc := 10) F.1 F.2.1 dX6_setFlags_10 rfl (lv_at hl 0 rfl) ?_
  refine mm_get (pc := 11) F hN (mm_XP hX (i := i) (by omega)) (ci := 2) rfl 1 (by decide) mw_407 rfl dX6_setFlags_11 ?_
  refine lv_istore (pc := 14) (lv' := [(4, .int (nI (T.fl i))), (3, .ref ((ad 2 i 0))), (0, .ref ((ad 0 0 0))), (1, .int (nI i)), (2, .int (nI f))]) F.1 F.2.1 dX6_setFlags_14 hl (by decide) rfl (fun ls hl => ?_)
  refine lv_aload_n (pc := 16) F.1 F.2.1 dX6_setFlags_16 rfl (lv_at hl 1 rfl) ?_
  refine lv_iload_n (pc := 17) F.1 F.2.1 dX6_setFlags_17 rfl (lv_at hl 4 rfl) ?_
  refine mm_put (pc := 18) F hN (mm_XP hX (i := i) (by omega)) (ci := 2) rfl 1 (by decide) mw_407 rfl (ty := .int) (by decide +kernel) (rfl) (rfl) (Nat.le_of_ble_eq_true rfl) dX6_setFlags_18 (fun H locs hN => ?_)
  have hN : mm_N b D s (mm_u σ ((ad 2 i 0)) (mm_obj 0 2 [.ref ((ad 1 (T.ho i) 0)), .int (nI f), .int (nI (T.re i)), .int (nI (z.oc i))])) _ _ := hN
  have hX2 := mm_X_set hX (k := 2) (i := i) (j := 0) ⟨hpn, rfl⟩ (T' := (T.w 5 (mm_u2 (T 5) i 0 f))) (z' := z) rfl mm_w5 (x := mm_O 2 [.ref ((ad 1 (T.ho i) 0)), .int (nI f), .int (nI (T.re i)), .int (nI (z.oc i))]) (by rw [show mm_ct (T.w 5 (mm_u2 (T 5) i 0 f)) z ad 2 i 0 = mm_O 2 [.ref ((ad 1 (T.ho i) 0)), .int (nI (mm_u2 (T 5) i 0 f i 0)), .int (nI (T.re i)), .int (nI (z.oc i))] from rfl, mm_u2_at])
  have hF2 : mm_Fr 0 _ _ := mm_Fr.u (x := mm_obj 0 2 [.ref ((ad 1 (T.ho i) 0)), .int (nI f), .int (nI (T.re i)), .int (nI (z.oc i))]) (mm_XP hX hpn)
  obtain ⟨σ2, eσ2⟩ : ∃ q, q = mm_u σ ((ad 2 i 0)) (mm_obj 0 2 [.ref ((ad 1 (T.ho i) 0)), .int (nI f), .int (nI (T.re i)), .int (nI (z.oc i))]) := ⟨_, rfl⟩
  obtain ⟨T2, eT2⟩ : ∃ q, q = (T.w 5 (mm_u2 (T 5) i 0 f)) := ⟨_, rfl⟩
  rw [← eσ2] at hN
  have hX2 : mm_X σ2 T2 z ad := by rw [eσ2, eT2]; exact hX2
  have hF2 : mm_Fr 0 σ σ2 := by rw [eσ2]; exact hF2
  have hqnA2 : T2.nA = T.nA := by rw [eT2]; rfl
  have hqnP2 : T2.nP = T.nP := by rw [eT2]; rfl
  have hqnT2 : T2.nT = T.nT := by rw [eT2]; rfl
  have hqnR2 : T2.nR = T.nR := by rw [eT2]; rfl
  refine lv_iload (pc := 21) F.1 F.2.1 dX6_setFlags_21 (lv_at hl 0 rfl) ?_
  exact mm_iret (pc := 23) F hr hN (⟨by unfold mm_q_setFlags; (repeat' split) <;> omega, rfl, z, ad, mm_XeT hX2 (by rw [eT2]), rfl, hF2⟩) (Nat.le_of_ble_eq_true rfl) (Nat.le_of_ble_eq_true rfl) dX6_setFlags_23

def mm_q_suppress (T : mm_T) (i : Nat) (ch : Nat) : Nat := if i < T.nP then (if ch = 109 ∨ ch = 100 ∨ ch = 111 then 0 else 2) else 1
set_option maxHeartbeats 4000000 in
set_option maxRecDepth 100000 in
theorem a_suppress (l : Launch) (b : Nat) (D : mm_D) (hst : l.stackTraces = false) (T : mm_T) (z : mm_Z) (ad : Nat → Nat → Nat → Nat) (σ : mm_S) (hX : mm_X σ T z ad) (hW : mm_WF T) (i : Nat) (zi : i < 2 ^ 32) (ch : Nat) (zch : ch < 65536) : mm_K l b D yX6_suppress (.code yX6_suppress cX6_suppress 5 (some .char)) ({ frames := 8, cells := 6, slots := 40, locals := 220 } : Room) [.ref ((ad 0 0 0)), .int (nI i), .int (nI ch)] σ
    (fun v σ2 => mm_q_suppress T i ch = 0 ∧ v = some (.int (nI (T.re i))) ∧ mm_Xt σ σ2 (T.w 6 (mm_u2 (T 6) i 0 ch)) (ad 0 0 0))
    (fun E σ2 => ((mm_q_suppress T i ch = 1 ∧ E = "java/lang/IndexOutOfBoundsException") ∨ (mm_q_suppress T i ch = 2 ∧ E = "java/lang/IllegalArgumentException")) ∧ mm_Xt σ σ2 T (ad 0 0 0)) := by
  refine mm_of (cc := cX6_suppress) (nL := 5) (ret := (some .char)) (by decide) rfl (Nat.le_of_ble_eq_true rfl) hst ?_
  intro p e s m args below meth c ls F ht hr hin hN hl
  have hl : lv_has ls 5 [(0, .ref ((ad 0 0 0))), (1, .int (nI i)), (2, .int (nI ch))] := hl
  have wnA := hW.hnA
  have wnP := hW.hnP
  have wnT := hW.hnT
  have wnR := hW.hnR
  have wpa := hW.hpa
  have wbo := hW.hbo
  have wen0 := hW.hen 0
  have wen1 := hW.hen 1
  refine lv_aload_n (pc := 0) F.1 F.2.1 dX6_suppress_0 rfl (lv_at hl 0 rfl) ?_
  refine lv_iload_n (pc := 1) F.1 F.2.1 dX6_suppress_1 rfl (lv_at hl 1 rfl) ?_
  refine mm_runV (pc := 2) (As := [.int (nI i)]) (rest := []) F hN (c_personAt l b D hst T z ad σ hX hW i (by omega)) mw_378 mw_380 mw_p5 mw_1 mw_381 ⟨pmX6_personAt, (Nat.le_of_ble_eq_true rfl), (Nat.le_of_ble_eq_true rfl)⟩ (mm_recv F.2.2.2.2.2.1 hN (mm_X0 hX) rfl) hl.1 rfl (Nat.le_of_ble_eq_true rfl) ⟨(Nat.le_of_ble_eq_true rfl), (Nat.le_of_ble_eq_true rfl)⟩ dX6_suppress_2
    (fun E9 σ9 H9 l9 q9 ce9 hp9 hN9 hq9 hv9 hcl9 => mm_out F ht hN9 (by obtain ⟨g1, g2, g3⟩ := hp9; exact ⟨Or.inl (⟨by unfold mm_q_suppress; (repeat' split) <;> omega, g1⟩), mm_Xt.rf hX g3⟩) hq9 hv9 hcl9 (Nat.le_of_ble_eq_true rfl) (Nat.le_of_ble_eq_true rfl))
    (fun v9 σ9 H locs hp9 hN => ?_)
  obtain ⟨hpn, rfl, h9⟩ := hp9
  refine W.eq (g2 := F0 m 5 ls [.ref ((ad 2 i 0))]) rfl ?_
  refine W.widen (k := 1) (n := 6) (Nat.le_of_ble_eq_true rfl) (Nat.le_of_ble_eq_true rfl) ?_
  rw [h9] at hN
  obtain ⟨who, wfl, wre⟩ := hW.hpe i hpn
  refine lv_astore_n (pc := 5) (lv' := [(3, .ref ((ad 2 i 0))), (0, .ref ((ad 0 0 0))), (1, .int (nI i)), (2, .int (nI ch))]) F.1 F.2.1 dX6_suppress_5 rfl hl (by decide) rfl (fun ls hl => ?_)
  refine lv_iload_n (pc := 6) F.1 F.2.1 dX6_suppress_6 rfl (lv_at hl 3 rfl) ?_
  refine lv_bipush (pc := 7) (v := nI 109) F.1 F.2.1 dX6_suppress_7 (by decide) ?_
  refine mm_icmp_eq (pc := 9) F (x := ch) (y := 109) (tgt := 34) (by omega) (by omega) dX6_suppress_9 (by decide) (fun cz9 => ?_) (fun cz9 => ?_)
  ·
    refine lv_aload_n (pc := 34) F.1 F.2.1 dX6_suppress_34 rfl (lv_at hl 0 rfl) ?_
    refine mm_get (pc := 35) F hN (mm_XP hX (i := i) (by omega)) (ci := 2) rfl 2 (by decide) mw_409 rfl dX6_suppress_35 ?_
    refine lv_istore (pc := 38) (lv' := [(4, .int (nI (T.re i))), (3, .ref ((ad 2 i 0))), (0, .ref ((ad 0 0 0))), (1, .int (nI i)), (2, .int (nI ch))]) F.1 F.2.1 dX6_suppress_38 hl (by decide) rfl (fun ls hl => ?_)
    refine lv_aload_n (pc := 40) F.1 F.2.1 dX6_suppress_40 rfl (lv_at hl 1 rfl) ?_
    refine lv_iload_n (pc := 41) F.1 F.2.1 dX6_suppress_41 rfl (lv_at hl 4 rfl) ?_
    refine mm_put (pc := 42) F hN (mm_XP hX (i := i) (by omega)) (ci := 2) rfl 2 (by decide) mw_409 rfl (ty := .char) (by decide +kernel) (mm_narC zch) (mm_fitC zch) (Nat.le_of_ble_eq_true rfl) dX6_suppress_42 (fun H locs hN => ?_)
    have hN : mm_N b D s (mm_u σ ((ad 2 i 0)) (mm_obj 0 2 [.ref ((ad 1 (T.ho i) 0)), .int (nI (T.fl i)), .int (nI ch), .int (nI (z.oc i))])) _ _ := hN
    have hX2 := mm_X_set hX (k := 2) (i := i) (j := 0) ⟨hpn, rfl⟩ (T' := (T.w 6 (mm_u2 (T 6) i 0 ch))) (z' := z) rfl mm_w6 (x := mm_O 2 [.ref ((ad 1 (T.ho i) 0)), .int (nI (T.fl i)), .int (nI ch), .int (nI (z.oc i))]) (by rw [show mm_ct (T.w 6 (mm_u2 (T 6) i 0 ch)) z ad 2 i 0 = mm_O 2 [.ref ((ad 1 (T.ho i) 0)), .int (nI (T.fl i)), .int (nI (mm_u2 (T 6) i 0 ch i 0)), .int (nI (z.oc i))] from rfl, mm_u2_at])
    have hF2 : mm_Fr 0 _ _ := mm_Fr.u (x := mm_obj 0 2 [.ref ((ad 1 (T.ho i) 0)), .int (nI (T.fl i)), .int (nI ch), .int (nI (z.oc i))]) (mm_XP hX hpn)
    obtain ⟨σ2, eσ2⟩ : ∃ q, q = mm_u σ ((ad 2 i 0)) (mm_obj 0 2 [.ref ((ad 1 (T.ho i) 0)), .int (nI (T.fl i)), .int (nI ch), .int (nI (z.oc i))]) := ⟨_, rfl⟩
    obtain ⟨T2, eT2⟩ : ∃ q, q = (T.w 6 (mm_u2 (T 6) i 0 ch)) := ⟨_, rfl⟩
    rw [← eσ2] at hN
    have hX2 : mm_X σ2 T2 z ad := by rw [eσ2, eT2]; exact hX2
    have hF2 : mm_Fr 0 σ σ2 := by rw [eσ2]; exact hF2
    have hqnA2 : T2.nA = T.nA := by rw [eT2]; rfl
    have hqnP2 : T2.nP = T.nP := by rw [eT2]; rfl
    have hqnT2 : T2.nT = T.nT := by rw [eT2]; rfl
    have hqnR2 : T2.nR = T.nR := by rw [eT2]; rfl
    refine lv_iload (pc := 45) F.1 F.2.1 dX6_suppress_45 (lv_at hl 0 rfl) ?_
    exact mm_zret (pc := 47) F (ty := .char) hr hN (mm_narC wre) (⟨by unfold mm_q_suppress; (repeat' split) <;> omega, rfl, z, ad, mm_XeT hX2 (by rw [eT2]), rfl, hF2⟩) (Nat.le_of_ble_eq_true rfl) (Nat.le_of_ble_eq_true rfl) dX6_suppress_47
  ·
    refine lv_iload_n (pc := 12) F.1 F.2.1 dX6_suppress_12 rfl (lv_at hl 3 rfl) ?_
    refine lv_bipush (pc := 13) (v := nI 100) F.1 F.2.1 dX6_suppress_13 (by decide) ?_
    refine mm_icmp_eq (pc := 15) F (x := ch) (y := 100) (tgt := 34) (by omega) (by omega) dX6_suppress_15 (by decide) (fun cz15 => ?_) (fun cz15 => ?_)
    ·
      refine lv_aload_n (pc := 34) F.1 F.2.1 dX6_suppress_34 rfl (lv_at hl 0 rfl) ?_
      refine mm_get (pc := 35) F hN (mm_XP hX (i := i) (by omega)) (ci := 2) rfl 2 (by decide) mw_409 rfl dX6_suppress_35 ?_
      refine lv_istore (pc := 38) (lv' := [(4, .int (nI (T.re i))), (3, .ref ((ad 2 i 0))), (0, .ref ((ad 0 0 0))), (1, .int (nI i)), (2, .int (nI ch))]) F.1 F.2.1 dX6_suppress_38 hl (by decide) rfl (fun ls hl => ?_)
      refine lv_aload_n (pc := 40) F.1 F.2.1 dX6_suppress_40 rfl (lv_at hl 1 rfl) ?_
      refine lv_iload_n (pc := 41) F.1 F.2.1 dX6_suppress_41 rfl (lv_at hl 4 rfl) ?_
      refine mm_put (pc := 42) F hN (mm_XP hX (i := i) (by omega)) (ci := 2) rfl 2 (by decide) mw_409 rfl (ty := .char) (by decide +kernel) (mm_narC zch) (mm_fitC zch) (Nat.le_of_ble_eq_true rfl) dX6_suppress_42 (fun H locs hN => ?_)
      have hN : mm_N b D s (mm_u σ ((ad 2 i 0)) (mm_obj 0 2 [.ref ((ad 1 (T.ho i) 0)), .int (nI (T.fl i)), .int (nI ch), .int (nI (z.oc i))])) _ _ := hN
      have hX2 := mm_X_set hX (k := 2) (i := i) (j := 0) ⟨hpn, rfl⟩ (T' := (T.w 6 (mm_u2 (T 6) i 0 ch))) (z' := z) rfl mm_w6 (x := mm_O 2 [.ref ((ad 1 (T.ho i) 0)), .int (nI (T.fl i)), .int (nI ch), .int (nI (z.oc i))]) (by rw [show mm_ct (T.w 6 (mm_u2 (T 6) i 0 ch)) z ad 2 i 0 = mm_O 2 [.ref ((ad 1 (T.ho i) 0)), .int (nI (T.fl i)), .int (nI (mm_u2 (T 6) i 0 ch i 0)), .int (nI (z.oc i))] from rfl, mm_u2_at])
      have hF2 : mm_Fr 0 _ _ := mm_Fr.u (x := mm_obj 0 2 [.ref ((ad 1 (T.ho i) 0)), .int (nI (T.fl i)), .int (nI ch), .int (nI (z.oc i))]) (mm_XP hX hpn)
      obtain ⟨σ2, eσ2⟩ : ∃ q, q = mm_u σ ((ad 2 i 0)) (mm_obj 0 2 [.ref ((ad 1 (T.ho i) 0)), .int (nI (T.fl i)), .int (nI ch), .int (nI (z.oc i))]) := ⟨_, rfl⟩
      obtain ⟨T2, eT2⟩ : ∃ q, q = (T.w 6 (mm_u2 (T 6) i 0 ch)) := ⟨_, rfl⟩
      rw [← eσ2] at hN
      have hX2 : mm_X σ2 T2 z ad := by rw [eσ2, eT2]; exact hX2
      have hF2 : mm_Fr 0 σ σ2 := by rw [eσ2]; exact hF2
      have hqnA2 : T2.nA = T.nA := by rw [eT2]; rfl
      have hqnP2 : T2.nP = T.nP := by rw [eT2]; rfl
      have hqnT2 : T2.nT = T.nT := by rw [eT2]; rfl
      have hqnR2 : T2.nR = T.nR := by rw [eT2]; rfl
      refine lv_iload (pc := 45) F.1 F.2.1 dX6_suppress_45 (lv_at hl 0 rfl) ?_
      exact mm_zret (pc := 47) F (ty := .char) hr hN (mm_narC wre) (⟨by unfold mm_q_suppress; (repeat' split) <;> omega, rfl, z, ad, mm_XeT hX2 (by rw [eT2]), rfl, hF2⟩) (Nat.le_of_ble_eq_true rfl) (Nat.le_of_ble_eq_true rfl) dX6_suppress_47
    ·
      refine lv_iload_n (pc := 18) F.1 F.2.1 dX6_suppress_18 rfl (lv_at hl 3 rfl) ?_
      refine lv_bipush (pc := 19) (v := nI 111) F.1 F.2.1 dX6_suppress_19 (by decide) ?_
      refine mm_icmp_eq (pc := 21) F (x := ch) (y := 111) (tgt := 34) (by omega) (by omega) dX6_suppress_21 (by decide) (fun cz21 => ?_) (fun cz21 => ?_)
      ·
        refine lv_aload_n (pc := 34) F.1 F.2.1 dX6_suppress_34 rfl (lv_at hl 0 rfl) ?_
        refine mm_get (pc := 35) F hN (mm_XP hX (i := i) (by omega)) (ci := 2) rfl 2 (by decide) mw_409 rfl dX6_suppress_35 ?_
        refine lv_istore (pc := 38) (lv' := [(4, .int (nI (T.re i))), (3, .ref ((ad 2 i 0))), (0, .ref ((ad 0 0 0))), (1, .int (nI i)), (2, .int (nI ch))]) F.1 F.2.1 dX6_suppress_38 hl (by decide) rfl (fun ls hl => ?_)
        refine lv_aload_n (pc := 40) F.1 F.2.1 dX6_suppress_40 rfl (lv_at hl 1 rfl) ?_
        refine lv_iload_n (pc := 41) F.1 F.2.1 dX6_suppress_41 rfl (lv_at hl 4 rfl) ?_
        refine mm_put (pc := 42) F hN (mm_XP hX (i := i) (by omega)) (ci := 2) rfl 2 (by decide) mw_409 rfl (ty := .char) (by decide +kernel) (mm_narC zch) (mm_fitC zch) (Nat.le_of_ble_eq_true rfl) dX6_suppress_42 (fun H locs hN => ?_)
        have hN : mm_N b D s (mm_u σ ((ad 2 i 0)) (mm_obj 0 2 [.ref ((ad 1 (T.ho i) 0)), .int (nI (T.fl i)), .int (nI ch), .int (nI (z.oc i))])) _ _ := hN
        have hX2 := mm_X_set hX (k := 2) (i := i) (j := 0) ⟨hpn, rfl⟩ (T' := (T.w 6 (mm_u2 (T 6) i 0 ch))) (z' := z) rfl mm_w6 (x := mm_O 2 [.ref ((ad 1 (T.ho i) 0)), .int (nI (T.fl i)), .int (nI ch), .int (nI (z.oc i))]) (by rw [show mm_ct (T.w 6 (mm_u2 (T 6) i 0 ch)) z ad 2 i 0 = mm_O 2 [.ref ((ad 1 (T.ho i) 0)), .int (nI (T.fl i)), .int (nI (mm_u2 (T 6) i 0 ch i 0)), .int (nI (z.oc i))] from rfl, mm_u2_at])
        have hF2 : mm_Fr 0 _ _ := mm_Fr.u (x := mm_obj 0 2 [.ref ((ad 1 (T.ho i) 0)), .int (nI (T.fl i)), .int (nI ch), .int (nI (z.oc i))]) (mm_XP hX hpn)
        obtain ⟨σ2, eσ2⟩ : ∃ q, q = mm_u σ ((ad 2 i 0)) (mm_obj 0 2 [.ref ((ad 1 (T.ho i) 0)), .int (nI (T.fl i)), .int (nI ch), .int (nI (z.oc i))]) := ⟨_, rfl⟩
        obtain ⟨T2, eT2⟩ : ∃ q, q = (T.w 6 (mm_u2 (T 6) i 0 ch)) := ⟨_, rfl⟩
        rw [← eσ2] at hN
        have hX2 : mm_X σ2 T2 z ad := by rw [eσ2, eT2]; exact hX2
        have hF2 : mm_Fr 0 σ σ2 := by rw [eσ2]; exact hF2
        have hqnA2 : T2.nA = T.nA := by rw [eT2]; rfl
        have hqnP2 : T2.nP = T.nP := by rw [eT2]; rfl
        have hqnT2 : T2.nT = T.nT := by rw [eT2]; rfl
        have hqnR2 : T2.nR = T.nR := by rw [eT2]; rfl
        refine lv_iload (pc := 45) F.1 F.2.1 dX6_suppress_45 (lv_at hl 0 rfl) ?_
        exact mm_zret (pc := 47) F (ty := .char) hr hN (mm_narC wre) (⟨by unfold mm_q_suppress; (repeat' split) <;> omega, rfl, z, ad, mm_XeT hX2 (by rw [eT2]), rfl, hF2⟩) (Nat.le_of_ble_eq_true rfl) (Nat.le_of_ble_eq_true rfl) dX6_suppress_47
      ·
        exact mm_throw F ht hN (by decide) (mm_tIAE mw_170) mw_125 mw_15 (List.mem_of_getElem? (i := 8) rfl) hl.1 dX6_suppress_24 dX6_suppress_27 dX6_suppress_28 dX6_suppress_30 dX6_suppress_33 ⟨(Nat.le_of_ble_eq_true rfl), (Nat.le_of_ble_eq_true rfl), (Nat.le_of_ble_eq_true rfl), (Nat.le_of_ble_eq_true rfl)⟩ (⟨Or.inr (⟨by unfold mm_q_suppress; (repeat' split) <;> omega, rfl⟩), mm_Xt.rf hX rfl⟩) (Nat.le_of_ble_eq_true rfl) (Nat.le_of_ble_eq_true rfl)

def mm_q_allow (T : mm_T) (i : Nat) : Nat := if i < T.nP then (if T.re i = 45 ∨ T.re i = 100 then 2 else 0) else 1
set_option maxHeartbeats 4000000 in
set_option maxRecDepth 100000 in
theorem a_allow (l : Launch) (b : Nat) (D : mm_D) (hst : l.stackTraces = false) (T : mm_T) (z : mm_Z) (ad : Nat → Nat → Nat → Nat) (σ : mm_S) (hX : mm_X σ T z ad) (hW : mm_WF T) (i : Nat) (zi : i < 2 ^ 32) : mm_K l b D yX6_allow (.code yX6_allow cX6_allow 4 (some .char)) ({ frames := 8, cells := 6, slots := 40, locals := 220 } : Room) [.ref ((ad 0 0 0)), .int (nI i)] σ
    (fun v σ2 => mm_q_allow T i = 0 ∧ v = some (.int (nI (T.re i))) ∧ mm_Xt σ σ2 (T.w 6 (mm_u2 (T 6) i 0 45)) (ad 0 0 0))
    (fun E σ2 => ((mm_q_allow T i = 1 ∧ E = "java/lang/IndexOutOfBoundsException") ∨ (mm_q_allow T i = 2 ∧ E = "java/lang/IllegalStateException")) ∧ mm_Xt σ σ2 T (ad 0 0 0)) := by
  refine mm_of (cc := cX6_allow) (nL := 4) (ret := (some .char)) (by decide) rfl (Nat.le_of_ble_eq_true rfl) hst ?_
  intro p e s m args below meth c ls F ht hr hin hN hl
  have hl : lv_has ls 4 [(0, .ref ((ad 0 0 0))), (1, .int (nI i))] := hl
  have wnA := hW.hnA
  have wnP := hW.hnP
  have wnT := hW.hnT
  have wnR := hW.hnR
  have wpa := hW.hpa
  have wbo := hW.hbo
  have wen0 := hW.hen 0
  have wen1 := hW.hen 1
  refine lv_aload_n (pc := 0) F.1 F.2.1 dX6_allow_0 rfl (lv_at hl 0 rfl) ?_
  refine lv_iload_n (pc := 1) F.1 F.2.1 dX6_allow_1 rfl (lv_at hl 1 rfl) ?_
  refine mm_runV (pc := 2) (As := [.int (nI i)]) (rest := []) F hN (c_personAt l b D hst T z ad σ hX hW i (by omega)) mw_378 mw_380 mw_p5 mw_1 mw_381 ⟨pmX6_personAt, (Nat.le_of_ble_eq_true rfl), (Nat.le_of_ble_eq_true rfl)⟩ (mm_recv F.2.2.2.2.2.1 hN (mm_X0 hX) rfl) hl.1 rfl (Nat.le_of_ble_eq_true rfl) ⟨(Nat.le_of_ble_eq_true rfl), (Nat.le_of_ble_eq_true rfl)⟩ dX6_allow_2
    (fun E9 σ9 H9 l9 q9 ce9 hp9 hN9 hq9 hv9 hcl9 => mm_out F ht hN9 (by obtain ⟨g1, g2, g3⟩ := hp9; exact ⟨Or.inl (⟨by unfold mm_q_allow; (repeat' split) <;> omega, g1⟩), mm_Xt.rf hX g3⟩) hq9 hv9 hcl9 (Nat.le_of_ble_eq_true rfl) (Nat.le_of_ble_eq_true rfl))
    (fun v9 σ9 H locs hp9 hN => ?_)
  obtain ⟨hpn, rfl, h9⟩ := hp9
  refine W.eq (g2 := F0 m 5 ls [.ref ((ad 2 i 0))]) rfl ?_
  refine W.widen (k := 1) (n := 6) (Nat.le_of_ble_eq_true rfl) (Nat.le_of_ble_eq_true rfl) ?_
  rw [h9] at hN
  obtain ⟨who, wfl, wre⟩ := hW.hpe i hpn
  refine lv_astore_n (pc := 5) (lv' := [(2, .ref ((ad 2 i 0))), (0, .ref ((ad 0 0 0))), (1, .int (nI i))]) F.1 F.2.1 dX6_allow_5 rfl hl (by decide) rfl (fun ls hl => ?_)
  refine lv_aload_n (pc := 6) F.1 F.2.1 dX6_allow_6 rfl (lv_at hl 0 rfl) ?_
  refine mm_runV (pc := 7) (As := []) (rest := []) F hN (c_isSupp l b D hst 0 (ad 2 i 0) (ad 1 (T.ho i) 0) (T.fl i) (T.re i) (z.oc i) wre σ (mm_XP hX hpn)) mw_428 mw_429 mw_430 mw_25 mw_431 ⟨pmX2_isSuppressed, (Nat.le_of_ble_eq_true rfl), (Nat.le_of_ble_eq_true rfl)⟩ (mm_recv F.2.2.2.2.2.1 hN (mm_XP hX hpn) rfl) hl.1 rfl (Nat.le_of_ble_eq_true rfl) ⟨(Nat.le_of_ble_eq_true rfl), (Nat.le_of_ble_eq_true rfl)⟩ dX6_allow_7
    (fun _ _ _ _ _ _ h9 => False.elim h9)
    (fun v9 σ9 H locs hp9 hN => ?_)
  obtain ⟨rfl, h9⟩ := hp9
  rw [h9] at hN
  refine W.eq (g2 := F0 m 10 ls [.int (nI (if T.re i = 45 then 0 else 1))]) rfl ?_
  refine W.widen (k := 1) (n := 6) (Nat.le_of_ble_eq_true rfl) (Nat.le_of_ble_eq_true rfl) ?_
  have hs9 : (if T.re i = 45 then 0 else 1 : Nat) = 0 ↔ T.re i = 45 := by split <;> simp_all
  have hs8 : (if T.re i = 45 then 0 else 1 : Nat) < 2 := by split <;> omega
  refine mm_if_eq (pc := 10) F (tgt := 22) (by omega) dX6_allow_10 (by decide) (fun cz10 => ?_) (fun cz10 => ?_)
  ·
    have hs7 := hs9.mp cz10
    exact mm_throw F ht hN (by decide) (mm_tISE mw_210) mw_200 mw_20 (List.mem_of_getElem? (i := 9) rfl) hl.1 dX6_allow_22 dX6_allow_25 dX6_allow_26 dX6_allow_28 dX6_allow_31 ⟨(Nat.le_of_ble_eq_true rfl), (Nat.le_of_ble_eq_true rfl), (Nat.le_of_ble_eq_true rfl), (Nat.le_of_ble_eq_true rfl)⟩ (⟨Or.inr (⟨by unfold mm_q_allow; (repeat' split) <;> omega, rfl⟩), mm_Xt.rf hX rfl⟩) (Nat.le_of_ble_eq_true rfl) (Nat.le_of_ble_eq_true rfl)
  ·
    have hs7 := mt hs9.mpr cz10
    refine lv_aload_n (pc := 13) F.1 F.2.1 dX6_allow_13 rfl (lv_at hl 0 rfl) ?_
    refine mm_get (pc := 14) F hN (mm_XP hX (i := i) (by omega)) (ci := 2) rfl 2 (by decide) mw_409 rfl dX6_allow_14 ?_
    refine lv_bipush (pc := 17) (v := nI 100) F.1 F.2.1 dX6_allow_17 (by decide) ?_
    refine mm_icmp_ne (pc := 19) F (x := T.re i) (y := 100) (tgt := 32) (by omega) (by omega) dX6_allow_19 (by decide) (fun cz19 => ?_) (fun cz19 => ?_)
    ·
      refine lv_aload_n (pc := 32) F.1 F.2.1 dX6_allow_32 rfl (lv_at hl 0 rfl) ?_
      refine mm_get (pc := 33) F hN (mm_XP hX (i := i) (by omega)) (ci := 2) rfl 2 (by decide) mw_409 rfl dX6_allow_33 ?_
      refine lv_istore_n (pc := 36) (lv' := [(3, .int (nI (T.re i))), (2, .ref ((ad 2 i 0))), (0, .ref ((ad 0 0 0))), (1, .int (nI i))]) F.1 F.2.1 dX6_allow_36 rfl hl (by decide) rfl (fun ls hl => ?_)
      refine lv_aload_n (pc := 37) F.1 F.2.1 dX6_allow_37 rfl (lv_at hl 1 rfl) ?_
      refine lv_bipush (pc := 38) (v := nI 45) F.1 F.2.1 dX6_allow_38 (by decide) ?_
      refine mm_put (pc := 40) F hN (mm_XP hX (i := i) (by omega)) (ci := 2) rfl 2 (by decide) mw_409 rfl (ty := .char) (by decide +kernel) (by decide) (by decide) (Nat.le_of_ble_eq_true rfl) dX6_allow_40 (fun H locs hN => ?_)
      have hN : mm_N b D s (mm_u σ ((ad 2 i 0)) (mm_obj 0 2 [.ref ((ad 1 (T.ho i) 0)), .int (nI (T.fl i)), .int (nI 45), .int (nI (z.oc i))])) _ _ := hN
      have hX2 := mm_X_set hX (k := 2) (i := i) (j := 0) ⟨hpn, rfl⟩ (T' := (T.w 6 (mm_u2 (T 6) i 0 45))) (z' := z) rfl mm_w6 (x := mm_O 2 [.ref ((ad 1 (T.ho i) 0)), .int (nI (T.fl i)), .int (nI 45), .int (nI (z.oc i))]) (by rw [show mm_ct (T.w 6 (mm_u2 (T 6) i 0 45)) z ad 2 i 0 = mm_O 2 [.ref ((ad 1 (T.ho i) 0)), .int (nI (T.fl i)), .int (nI (mm_u2 (T 6) i 0 45 i 0)), .int (nI (z.oc i))] from rfl, mm_u2_at])
      have hF2 : mm_Fr 0 _ _ := mm_Fr.u (x := mm_obj 0 2 [.ref ((ad 1 (T.ho i) 0)), .int (nI (T.fl i)), .int (nI 45), .int (nI (z.oc i))]) (mm_XP hX hpn)
      obtain ⟨σ2, eσ2⟩ : ∃ q, q = mm_u σ ((ad 2 i 0)) (mm_obj 0 2 [.ref ((ad 1 (T.ho i) 0)), .int (nI (T.fl i)), .int (nI 45), .int (nI (z.oc i))]) := ⟨_, rfl⟩
      obtain ⟨T2, eT2⟩ : ∃ q, q = (T.w 6 (mm_u2 (T 6) i 0 45)) := ⟨_, rfl⟩
      rw [← eσ2] at hN
      have hX2 : mm_X σ2 T2 z ad := by rw [eσ2, eT2]; exact hX2
      have hF2 : mm_Fr 0 σ σ2 := by rw [eσ2]; exact hF2
      have hqnA2 : T2.nA = T.nA := by rw [eT2]; rfl
      have hqnP2 : T2.nP = T.nP := by rw [eT2]; rfl
      have hqnT2 : T2.nT = T.nT := by rw [eT2]; rfl
      have hqnR2 : T2.nR = T.nR := by rw [eT2]; rfl
      refine lv_iload_n (pc := 43) F.1 F.2.1 dX6_allow_43 rfl (lv_at hl 0 rfl) ?_
      exact mm_zret (pc := 44) F (ty := .char) hr hN (mm_narC wre) (⟨by unfold mm_q_allow; (repeat' split) <;> omega, rfl, z, ad, mm_XeT hX2 (by rw [eT2]), rfl, hF2⟩) (Nat.le_of_ble_eq_true rfl) (Nat.le_of_ble_eq_true rfl) dX6_allow_44
    ·
      exact mm_throw F ht hN (by decide) (mm_tISE mw_210) mw_200 mw_20 (List.mem_of_getElem? (i := 9) rfl) hl.1 dX6_allow_22 dX6_allow_25 dX6_allow_26 dX6_allow_28 dX6_allow_31 ⟨(Nat.le_of_ble_eq_true rfl), (Nat.le_of_ble_eq_true rfl), (Nat.le_of_ble_eq_true rfl), (Nat.le_of_ble_eq_true rfl)⟩ (⟨Or.inr (⟨by unfold mm_q_allow; (repeat' split) <;> omega, rfl⟩), mm_Xt.rf hX rfl⟩) (Nat.le_of_ble_eq_true rfl) (Nat.le_of_ble_eq_true rfl)

def mm_q_move (T : mm_T) (i : Nat) (a : Nat) : Nat := if i < T.nP ∧ (a < T.nA ∧ T.go a = 0) then 0 else 1
set_option maxHeartbeats 4000000 in
set_option maxRecDepth 100000 in
theorem a_move (l : Launch) (b : Nat) (D : mm_D) (hst : l.stackTraces = false) (T : mm_T) (z : mm_Z) (ad : Nat → Nat → Nat → Nat) (σ : mm_S) (hX : mm_X σ T z ad) (hW : mm_WF T) (i : Nat) (zi : i < 2 ^ 32) (a : Nat) (za : a < 2 ^ 32) : mm_K l b D yX6_move (.code yX6_move cX6_move 6 (some .int)) ({ frames := 8, cells := 6, slots := 40, locals := 220 } : Room) [.ref ((ad 0 0 0)), .int (nI i), .int (nI a)] σ
    (fun v σ2 => mm_q_move T i a = 0 ∧ v = some (.int (nI (T.ho i))) ∧ mm_Xt σ σ2 ((T.w 4 (mm_u2 (T 4) i 0 a)).w 6 (mm_u2 (T 6) i 0 (if T.re i = 109 then 45 else T.re i))) (ad 0 0 0))
    (fun E σ2 => ((mm_q_move T i a = 1 ∧ E = "java/lang/IndexOutOfBoundsException")) ∧ mm_Xt σ σ2 T (ad 0 0 0)) := by
  refine mm_of (cc := cX6_move) (nL := 6) (ret := (some .int)) (by decide) rfl (Nat.le_of_ble_eq_true rfl) hst ?_
  intro p e s m args below meth c ls F ht hr hin hN hl
  have hl : lv_has ls 6 [(0, .ref ((ad 0 0 0))), (1, .int (nI i)), (2, .int (nI a))] := hl
  have wnA := hW.hnA
  have wnP := hW.hnP
  have wnT := hW.hnT
  have wnR := hW.hnR
  have wpa := hW.hpa
  have wbo := hW.hbo
  have wen0 := hW.hen 0
  have wen1 := hW.hen 1
  refine lv_aload_n (pc := 0) F.1 F.2.1 dX6_move_0 rfl (lv_at hl 0 rfl) ?_
  refine lv_iload_n (pc := 1) F.1 F.2.1 dX6_move_1 rfl (lv_at hl 1 rfl) ?_
  refine mm_runV (pc := 2) (As := [.int (nI i)]) (rest := []) F hN (c_personAt l b D hst T z ad σ hX hW i (by omega)) mw_378 mw_380 mw_p5 mw_1 mw_381 ⟨pmX6_personAt, (Nat.le_of_ble_eq_true rfl), (Nat.le_of_ble_eq_true rfl)⟩ (mm_recv F.2.2.2.2.2.1 hN (mm_X0 hX) rfl) hl.1 rfl (Nat.le_of_ble_eq_true rfl) ⟨(Nat.le_of_ble_eq_true rfl), (Nat.le_of_ble_eq_true rfl)⟩ dX6_move_2
    (fun E9 σ9 H9 l9 q9 ce9 hp9 hN9 hq9 hv9 hcl9 => mm_out F ht hN9 (by obtain ⟨g1, g2, g3⟩ := hp9; exact ⟨⟨by unfold mm_q_move; (repeat' split) <;> omega, g1⟩, mm_Xt.rf hX g3⟩) hq9 hv9 hcl9 (Nat.le_of_ble_eq_true rfl) (Nat.le_of_ble_eq_true rfl))
    (fun v9 σ9 H locs hp9 hN => ?_)
  obtain ⟨hpn, rfl, h9⟩ := hp9
  refine W.eq (g2 := F0 m 5 ls [.ref ((ad 2 i 0))]) rfl ?_
  refine W.widen (k := 1) (n := 6) (Nat.le_of_ble_eq_true rfl) (Nat.le_of_ble_eq_true rfl) ?_
  rw [h9] at hN
  obtain ⟨who, wfl, wre⟩ := hW.hpe i hpn
  refine lv_astore_n (pc := 5) (lv' := [(3, .ref ((ad 2 i 0))), (0, .ref ((ad 0 0 0))), (1, .int (nI i)), (2, .int (nI a))]) F.1 F.2.1 dX6_move_5 rfl hl (by decide) rfl (fun ls hl => ?_)
  refine lv_aload_n (pc := 6) F.1 F.2.1 dX6_move_6 rfl (lv_at hl 1 rfl) ?_
  refine lv_iload_n (pc := 7) F.1 F.2.1 dX6_move_7 rfl (lv_at hl 3 rfl) ?_
  refine mm_runV (pc := 8) (As := [.int (nI a)]) (rest := []) F hN (c_addressAt l b D hst T z ad σ hX hW a (by omega)) mw_340 mw_342 mw_p4 mw_1 mw_343 ⟨pmX6_addressAt, (Nat.le_of_ble_eq_true rfl), (Nat.le_of_ble_eq_true rfl)⟩ (mm_recv F.2.2.2.2.2.1 hN (mm_X0 hX) rfl) hl.1 rfl (Nat.le_of_ble_eq_true rfl) ⟨(Nat.le_of_ble_eq_true rfl), (Nat.le_of_ble_eq_true rfl)⟩ dX6_move_8
    (fun E9 σ9 H9 l9 q9 ce9 hp9 hN9 hq9 hv9 hcl9 => mm_out F ht hN9 (by obtain ⟨g1, g2, g3⟩ := hp9; exact ⟨⟨by unfold mm_q_move; (repeat' split) <;> omega, g1⟩, mm_Xt.rf hX g3⟩) hq9 hv9 hcl9 (Nat.le_of_ble_eq_true rfl) (Nat.le_of_ble_eq_true rfl))
    (fun v9 σ9 H locs hp9 hN => ?_)
  obtain ⟨han, hgo, rfl, h9⟩ := hp9
  refine W.eq (g2 := F0 m 11 ls [.ref ((ad 1 a 0))]) rfl ?_
  refine W.widen (k := 2) (n := 12) (Nat.le_of_ble_eq_true rfl) (Nat.le_of_ble_eq_true rfl) ?_
  rw [h9] at hN
  refine lv_astore (pc := 11) (lv' := [(4, .ref ((ad 1 a 0))), (3, .ref ((ad 2 i 0))), (0, .ref ((ad 0 0 0))), (1, .int (nI i)), (2, .int (nI a))]) F.1 F.2.1 dX6_move_11 hl (by decide) rfl (fun ls hl => ?_)
  refine lv_aload_n (pc := 13) F.1 F.2.1 dX6_move_13 rfl (lv_at hl 1 rfl) ?_
  refine mm_get (pc := 14) F hN (mm_XP hX (i := i) (by omega)) (ci := 2) rfl 0 (by decide) mw_403 rfl dX6_move_14 ?_
  refine mm_get (pc := 17) F hN (mm_XA hX (i := (T.ho i)) (by omega)) (ci := 0) rfl 0 (by decide) mw_223 rfl dX6_move_17 ?_
  refine lv_istore (pc := 20) (lv' := [(5, .int (nI (T.ho i))), (4, .ref ((ad 1 a 0))), (3, .ref ((ad 2 i 0))), (0, .ref ((ad 0 0 0))), (1, .int (nI i)), (2, .int (nI a))]) F.1 F.2.1 dX6_move_20 hl (by decide) rfl (fun ls hl => ?_)
  refine lv_aload_n (pc := 22) F.1 F.2.1 dX6_move_22 rfl (lv_at hl 2 rfl) ?_
  refine lv_aload (pc := 23) F.1 F.2.1 dX6_move_23 (lv_at hl 1 rfl) ?_
  refine mm_put (pc := 25) F hN (mm_XP hX (i := i) (by omega)) (ci := 2) rfl 0 (by decide) mw_403 rfl (ty := (.object "Mailmerge$Address")) (by decide +kernel) (rfl) (rfl) (Nat.le_of_ble_eq_true rfl) dX6_move_25 (fun H locs hN => ?_)
  have hN : mm_N b D s (mm_u σ ((ad 2 i 0)) (mm_obj 0 2 [.ref ((ad 1 a 0)), .int (nI (T.fl i)), .int (nI (T.re i)), .int (nI (z.oc i))])) _ _ := hN
  have hX2 := mm_X_set hX (k := 2) (i := i) (j := 0) ⟨hpn, rfl⟩ (T' := (T.w 4 (mm_u2 (T 4) i 0 a))) (z' := z) rfl mm_w4 (x := mm_O 2 [.ref ((ad 1 a 0)), .int (nI (T.fl i)), .int (nI (T.re i)), .int (nI (z.oc i))]) (by rw [show mm_ct (T.w 4 (mm_u2 (T 4) i 0 a)) z ad 2 i 0 = mm_O 2 [.ref (ad 1 (mm_u2 (T 4) i 0 a i 0) 0), .int (nI (T.fl i)), .int (nI (T.re i)), .int (nI (z.oc i))] from rfl, mm_u2_at])
  have hF2 : mm_Fr 0 _ _ := mm_Fr.u (x := mm_obj 0 2 [.ref ((ad 1 a 0)), .int (nI (T.fl i)), .int (nI (T.re i)), .int (nI (z.oc i))]) (mm_XP hX hpn)
  obtain ⟨σ2, eσ2⟩ : ∃ q, q = mm_u σ ((ad 2 i 0)) (mm_obj 0 2 [.ref ((ad 1 a 0)), .int (nI (T.fl i)), .int (nI (T.re i)), .int (nI (z.oc i))]) := ⟨_, rfl⟩
  obtain ⟨T2, eT2⟩ : ∃ q, q = (T.w 4 (mm_u2 (T 4) i 0 a)) := ⟨_, rfl⟩
  rw [← eσ2] at hN
  have hX2 : mm_X σ2 T2 z ad := by rw [eσ2, eT2]; exact hX2
  have hF2 : mm_Fr 0 σ σ2 := by rw [eσ2]; exact hF2
  have hqnA2 : T2.nA = T.nA := by rw [eT2]; rfl
  have hqnP2 : T2.nP = T.nP := by rw [eT2]; rfl
  have hqnT2 : T2.nT = T.nT := by rw [eT2]; rfl
  have hqnR2 : T2.nR = T.nR := by rw [eT2]; rfl
  have hre2 : T2.re i = T.re i := by rw [eT2]; rfl
  refine lv_aload_n (pc := 28) F.1 F.2.1 dX6_move_28 rfl (lv_at hl 2 rfl) ?_
  refine mm_get (pc := 29) F hN (mm_XP hX2 (i := i) (by omega)) (ci := 2) rfl 2 (by decide) mw_409 rfl dX6_move_29 ?_
  refine lv_bipush (pc := 32) (v := nI 109) F.1 F.2.1 dX6_move_32 (by decide) ?_
  refine mm_icmp_ne (pc := 34) F (x := T2.re i) (y := 109) (tgt := 43) (by omega) (by omega) dX6_move_34 (by decide) (fun cz34 => ?_) (fun cz34 => ?_)
  ·
    refine lv_iload (pc := 43) F.1 F.2.1 dX6_move_43 (lv_at hl 0 rfl) ?_
    exact mm_iret (pc := 45) F hr hN (⟨by unfold mm_q_move; (repeat' split) <;> omega, rfl, z, ad, mm_XeT hX2 (by rw [eT2, if_neg (fun q => cz34 (hre2.trans q))]; exact (mm_ws (mm_u2s rfl)).symm), rfl, hF2⟩) (Nat.le_of_ble_eq_true rfl) (Nat.le_of_ble_eq_true rfl) dX6_move_45
  ·
    refine lv_aload_n (pc := 37) F.1 F.2.1 dX6_move_37 rfl (lv_at hl 2 rfl) ?_
    refine lv_bipush (pc := 38) (v := nI 45) F.1 F.2.1 dX6_move_38 (by decide) ?_
    refine mm_put (pc := 40) F hN (mm_XP hX2 (i := i) (by omega)) (ci := 2) rfl 2 (by decide) mw_409 rfl (ty := .char) (by decide +kernel) (by decide) (by decide) (Nat.le_of_ble_eq_true rfl) dX6_move_40 (fun H locs hN => ?_)
    have hN : mm_N b D s (mm_u σ2 ((ad 2 i 0)) (mm_obj 0 2 [.ref ((ad 1 (T2.ho i) 0)), .int (nI (T2.fl i)), .int (nI 45), .int (nI (z.oc i))])) _ _ := hN
    have hX3 := mm_X_set hX2 (k := 2) (i := i) (j := 0) ⟨by omega, rfl⟩ (T' := (T2.w 6 (mm_u2 (T2 6) i 0 45))) (z' := z) rfl mm_w6 (x := mm_O 2 [.ref ((ad 1 (T2.ho i) 0)), .int (nI (T2.fl i)), .int (nI 45), .int (nI (z.oc i))]) (by rw [show mm_ct (T2.w 6 (mm_u2 (T2 6) i 0 45)) z ad 2 i 0 = mm_O 2 [.ref ((ad 1 (T2.ho i) 0)), .int (nI (T2.fl i)), .int (nI (mm_u2 (T2 6) i 0 45 i 0)), .int (nI (z.oc i))] from rfl, mm_u2_at])
    have hF3 : mm_Fr 0 _ _ := mm_Fr.u (x := mm_obj 0 2 [.ref ((ad 1 (T2.ho i) 0)), .int (nI (T2.fl i)), .int (nI 45), .int (nI (z.oc i))]) (mm_XP hX2 (i := i) (by omega))
    obtain ⟨σ3, eσ3⟩ : ∃ q, q = mm_u σ2 ((ad 2 i 0)) (mm_obj 0 2 [.ref ((ad 1 (T2.ho i) 0)), .int (nI (T2.fl i)), .int (nI 45), .int (nI (z.oc i))]) := ⟨_, rfl⟩
    obtain ⟨T3, eT3⟩ : ∃ q, q = (T2.w 6 (mm_u2 (T2 6) i 0 45)) := ⟨_, rfl⟩
    rw [← eσ3] at hN
    have hX3 : mm_X σ3 T3 z ad := by rw [eσ3, eT3]; exact hX3
    have hF3 : mm_Fr 0 σ2 σ3 := by rw [eσ3]; exact hF3
    have hqnA3 : T3.nA = T2.nA := by rw [eT3]; rfl
    have hqnP3 : T3.nP = T2.nP := by rw [eT3]; rfl
    have hqnT3 : T3.nT = T2.nT := by rw [eT3]; rfl
    have hqnR3 : T3.nR = T2.nR := by rw [eT3]; rfl
    refine lv_iload (pc := 43) F.1 F.2.1 dX6_move_43 (lv_at hl 0 rfl) ?_
    exact mm_iret (pc := 45) F hr hN (⟨by unfold mm_q_move; (repeat' split) <;> omega, rfl, z, ad, mm_XeT hX3 (by rw [eT3, eT2, if_pos (hre2.symm.trans cz34)]; rfl), rfl, hF2.tr hF3⟩) (Nat.le_of_ble_eq_true rfl) (Nat.le_of_ble_eq_true rfl) dX6_move_45

