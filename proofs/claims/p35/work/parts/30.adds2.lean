/-- the draft of a new person -/
def mm_zP (z : mm_Z) (n : Nat) : mm_Z := fun k i => if k = 3 ∧ i = n then 0 else z k i
def mm_t_addPerson (T : mm_T) (a f : Nat) : mm_T := (((T.w 0 (mm_u2 (T 0) 1 0 (T.nP + 1))).w 4 (mm_u2 (T 4) T.nP 0 a)).w 5 (mm_u2 (T 5) T.nP 0 f)).w 6 (mm_u2 (T 6) T.nP 0 45)
theorem mm_ctP {T : mm_T} {z : mm_Z} {ad : Nat → Nat → Nat → Nat} {q a f : Nat} (hW : mm_WF T) : ∀ k i j, mm_lv T k i j → ¬ (k = 0 ∧ i = 2 ∧ j = 0) → mm_ct (mm_t_addPerson T a f) (mm_zP z T.nP) (mm_au ad 2 T.nP 0 q) k i j = mm_ct T z ad k i j
  | 0, 0, j, hl, hn => rfl
  | 0, 1, j, hl, hn => rfl
  | 0, 2, j, hl, hn => absurd ⟨rfl, rfl, hl.2⟩ hn
  | 0, 3, j, hl, hn => rfl
  | 0, 4, j, hl, hn => rfl
  | 0, 5, j, hl, hn => rfl
  | 0, 6, j, hl, hn => rfl
  | 0, 7, j, hl, hn => rfl
  | 0, i + 8, j, hl, hn => absurd hl.1 (by omega)
  | 1, i, j, hl, hn => rfl
  | 2, i, j, hl, hn => by
    have hi : i ≠ T.nP := Nat.ne_of_lt hl.1
    show mm_O 2 [.ref (ad 1 (if i = T.nP ∧ 0 = 0 then a else T.ho i) 0), .int (nI (if i = T.nP ∧ 0 = 0 then f else T.fl i)), .int (nI (if i = T.nP ∧ 0 = 0 then 45 else T.re i)), .int (nI (if 3 = 3 ∧ i = T.nP then 0 else z.oc i))] = _
    rw [if_neg (fun q => hi q.1), if_neg (fun q => hi q.1), if_neg (fun q => hi q.1), if_neg (fun q => hi q.2)] <;> rfl
  | 3, i, j, hl, hn => rfl
  | 4, i, j, hl, hn => rfl
  | 5, i, j, hl, hn => rfl
  | 6, i, j, hl, hn => rfl
  | 7, i, j, hl, hn => by
    have hj : j < T.nP := Nat.lt_of_lt_of_le hl.2 (hW.hru i hl.1).1
    show mm_O 1 [.int (nI j), .ref (mm_au ad 2 T.nP 0 q 2 j 0), .int (nI (T.oc i j)), .int (nI (T.rc i j)), .int (nI (T.pg i j)), .int (nI (T.rt i j)), .int (nI (T.bk i j))] = _
    rw [mm_au_ne (fun q => Nat.ne_of_lt hj q.2.1)] <;> rfl
  | n + 8, i, j, hl, hn => False.elim hl
theorem mm_XaddP {σ : mm_S} {T : mm_T} {z : mm_Z} {ad : Nat → Nat → Nat → Nat} (hX : mm_X σ T z ad) (hW : mm_WF T) {q a f : Nat} (hq : σ q = none) :
    mm_X (mm_u (mm_u σ q (mm_obj 0 2 [.ref (ad 1 a 0), .int (nI f), .int (nI 45), .int (nI 0)])) (ad 0 2 0) (mm_lst 0 ((List.range T.nP).map (fun q => ad 2 q 0) ++ [q]))) (mm_t_addPerson T a f) (mm_zP z T.nP) (mm_au ad 2 T.nP 0 q) := by
  have hqn : ∀ k i j, mm_lv T k i j → ad k i j ≠ q := fun k i j hl e => by have := hX.1 k i j hl; rw [e, hq] at this; cases this
  have hql : q ≠ ad 0 2 0 := fun e => hqn 0 2 0 ⟨by decide, rfl⟩ e.symm
  refine mm_X_mk (fun k i j => k = 2 ∧ i = T.nP ∧ j = 0) hX ?_ (fun k i j hl => ?_) (fun k i j hl => ?_) ?_ (fun k i j k' i' j' h1 h2 _ => ⟨h1.1.trans h2.1.symm, h1.2.1.trans h2.2.1.symm, h1.2.2.trans h2.2.2.symm⟩)
  · intro k i j hl
    match k, hl with
    | 0, hl => exact Or.inl hl
    | 1, hl => exact Or.inl hl
    | 2, hl =>
      have h1 : i < T.nP + 1 := hl.1
      by_cases e : i = T.nP
      · exact Or.inr ⟨rfl, e, hl.2⟩
      · exact Or.inl ⟨by omega, hl.2⟩
    | 3, hl => exact Or.inl hl
    | 4, hl => exact Or.inl hl
    | 5, hl => exact Or.inl hl
    | 6, hl => exact Or.inl hl
    | 7, hl => exact Or.inl hl
    | n + 8, hl => exact False.elim hl
  · refine mm_au_ne (fun e => ?_)
    obtain ⟨rfl, rfl, rfl⟩ := e
    exact absurd hl.1 (Nat.lt_irrefl _)
  · by_cases e : k = 0 ∧ i = 2 ∧ j = 0
    · obtain ⟨rfl, rfl, rfl⟩ := e
      rw [mm_u_eq]
      show mm_lst 0 _ = mm_lst 0 ((List.range (T.nP + 1)).map (fun c => mm_au ad 2 T.nP 0 q 2 c 0))
      rw [mm_rg_app (g' := fun c => mm_au ad 2 T.nP 0 q 2 c 0) (fun c hc => mm_au_ne (fun e => Nat.ne_of_lt hc e.2.1)) mm_au_at]
    · rw [mm_u_ne (mm_X_ne (k' := 0) (i' := 2) (j' := 0) hX hl ⟨by decide, rfl⟩ e), mm_u_ne (hqn k i j hl), hX.1 k i j hl, mm_ctP hW k i j hl e]
  · rintro k i j ⟨rfl, rfl, rfl⟩
    rw [mm_au_at, mm_u_ne hql, mm_u_eq]
    refine ⟨?_, hq⟩
    show _ = mm_obj 0 2 [.ref (ad 1 (if T.nP = T.nP ∧ 0 = 0 then a else T.ho T.nP) 0), .int (nI (if T.nP = T.nP ∧ 0 = 0 then f else T.fl T.nP)), .int (nI (if T.nP = T.nP ∧ 0 = 0 then 45 else T.re T.nP)), .int (nI (if 3 = 3 ∧ T.nP = T.nP then 0 else z.oc T.nP))]
    rw [if_pos ⟨rfl, rfl⟩, if_pos ⟨rfl, rfl⟩, if_pos ⟨rfl, rfl⟩, if_pos ⟨rfl, rfl⟩]
def mm_q_addPerson (T : mm_T) (a : Nat) (f : Nat) : Nat := if a < T.nA ∧ T.go a = 0 then (if f < 8 then (if T.nP < 24 then 0 else 3) else 2) else 1
set_option maxHeartbeats 4000000 in
set_option maxRecDepth 100000 in
theorem a_addPerson (l : Launch) (b : Nat) (D : mm_D) (hst : l.stackTraces = false) (T : mm_T) (z : mm_Z) (ad : Nat → Nat → Nat → Nat) (σ : mm_S) (hX : mm_X σ T z ad) (hW : mm_WF T) (a : Nat) (za : a < 2 ^ 32) (f : Nat) (zf : f < 2 ^ 32) : mm_K l b D yX6_addPerson (.code yX6_addPerson cX6_addPerson 4 (some .int)) ({ frames := 8, cells := 8, slots := 300, locals := 220 } : Room) [.ref ((ad 0 0 0)), .int (nI a), .int (nI f)] σ
    (fun v σ2 => mm_q_addPerson T a f = 0 ∧ v = some (.int (nI (T.nP))) ∧ mm_Xt σ σ2 (mm_t_addPerson T a f) (ad 0 0 0))
    (fun E σ2 => ((mm_q_addPerson T a f = 1 ∧ E = "java/lang/IndexOutOfBoundsException") ∨ (mm_q_addPerson T a f = 2 ∧ E = "java/lang/IllegalArgumentException") ∨ (mm_q_addPerson T a f = 3 ∧ E = "java/lang/IllegalStateException")) ∧ mm_Xt σ σ2 T (ad 0 0 0)) := by
  refine mm_of (cc := cX6_addPerson) (nL := 4) (ret := (some .int)) (by decide) rfl (Nat.le_of_ble_eq_true rfl) hst ?_
  intro p e s m args below meth c ls F ht hr hin hN hl
  have hl : lv_has ls 4 [(0, .ref ((ad 0 0 0))), (1, .int (nI a)), (2, .int (nI f))] := hl
  have wnA := hW.hnA
  have wnP := hW.hnP
  have wnT := hW.hnT
  have wnR := hW.hnR
  have wpa := hW.hpa
  have wbo := hW.hbo
  have wen0 := hW.hen 0
  have wen1 := hW.hen 1
  refine lv_aload_n (pc := 0) F.1 F.2.1 dX6_addPerson_0 rfl (lv_at hl 0 rfl) ?_
  refine lv_iload_n (pc := 1) F.1 F.2.1 dX6_addPerson_1 rfl (lv_at hl 1 rfl) ?_
  refine mm_runV (pc := 2) (As := [.int (nI a)]) (rest := []) F hN (c_addressAt l b D hst T z ad σ hX hW a (by omega)) mw_340 mw_342 mw_p4 mw_1 mw_343 ⟨pmX6_addressAt, (Nat.le_of_ble_eq_true rfl), (Nat.le_of_ble_eq_true rfl)⟩ (mm_recv F.2.2.2.2.2.1 hN (mm_X0 hX) rfl) hl.1 rfl (Nat.le_of_ble_eq_true rfl) ⟨(Nat.le_of_ble_eq_true rfl), (Nat.le_of_ble_eq_true rfl)⟩ dX6_addPerson_2
    (fun E9 σ9 H9 l9 q9 ce9 hp9 hN9 hq9 hv9 hcl9 => mm_out F ht hN9 (by obtain ⟨g1, g2, g3⟩ := hp9; exact ⟨Or.inl (⟨by unfold mm_q_addPerson; (repeat' split) <;> omega, g1⟩), mm_Xt.rf hX g3⟩) hq9 hv9 hcl9 (Nat.le_of_ble_eq_true rfl) (Nat.le_of_ble_eq_true rfl))
    (fun v9 σ9 H locs hp9 hN => ?_)
  obtain ⟨han, hgo, rfl, h9⟩ := hp9
  refine W.eq (g2 := F0 m 5 ls [.ref ((ad 1 a 0))]) rfl ?_
  refine W.widen (k := 1) (n := 6) (Nat.le_of_ble_eq_true rfl) (Nat.le_of_ble_eq_true rfl) ?_
  rw [h9] at hN
  refine lv_astore_n (pc := 5) (lv' := [(3, .ref ((ad 1 a 0))), (0, .ref ((ad 0 0 0))), (1, .int (nI a)), (2, .int (nI f))]) F.1 F.2.1 dX6_addPerson_5 rfl hl (by decide) rfl (fun ls hl => ?_)
  refine lv_iload_n (pc := 6) F.1 F.2.1 dX6_addPerson_6 rfl (lv_at hl 3 rfl) ?_
  refine mm_runS (pc := 7) (As := [.int (nI f)]) (rest := []) F hN (c_checkFlags l b D hst f (by omega) _) mw_383 mw_384 mw_1 mw_385 ⟨pmX6_checkFlags, (Nat.le_of_ble_eq_true rfl), (Nat.le_of_ble_eq_true rfl)⟩ hl.1 rfl (Nat.le_of_ble_eq_true rfl) ⟨(Nat.le_of_ble_eq_true rfl), (Nat.le_of_ble_eq_true rfl)⟩ dX6_addPerson_7
    (fun E9 σ9 H9 l9 q9 ce9 hp9 hN9 hq9 hv9 hcl9 => mm_out F ht hN9 (by obtain ⟨g1, g2, g3⟩ := hp9; exact ⟨Or.inr (Or.inl (⟨by unfold mm_q_addPerson; (repeat' split) <;> omega, g1⟩)), mm_Xt.rf hX g3⟩) hq9 hv9 hcl9 (Nat.le_of_ble_eq_true rfl) (Nat.le_of_ble_eq_true rfl))
    (fun v9 σ9 H locs hp9 hN => ?_)
  obtain ⟨rfl, hfn, h9⟩ := hp9
  refine W.eq (g2 := F0 m 10 ls []) rfl ?_
  refine W.widen (k := 2) (n := 12) (Nat.le_of_ble_eq_true rfl) (Nat.le_of_ble_eq_true rfl) ?_
  rw [h9] at hN
  refine lv_aload_n (pc := 10) F.1 F.2.1 dX6_addPerson_10 rfl (lv_at hl 1 rfl) ?_
  refine mm_get (pc := 11) F hN (mm_X0 hX) (ci := 6) rfl 1 (by decide) mw_86 rfl dX6_addPerson_11 ?_
  refine mm_runV (pc := 14) (As := []) (rest := []) F hN (c_sz l b D hst 0 _ T.nP _ _ (mm_XL2 hX) mm_rgl) mw_196 mw_197 mw_198 mw_4 mw_199 ⟨pmJx4a65c_size_8abf5, (Nat.le_of_ble_eq_true rfl), (Nat.le_of_ble_eq_true rfl)⟩ (mm_recvL F.2.2.2.2.2.1 hN (mm_XL2 hX)) hl.1 rfl (Nat.le_of_ble_eq_true rfl) ⟨(Nat.le_of_ble_eq_true rfl), (Nat.le_of_ble_eq_true rfl)⟩ dX6_addPerson_14
    (fun _ _ _ _ _ _ h9 => False.elim h9)
    (fun v9 σ9 H locs hp9 hN => ?_)
  obtain ⟨rfl, h9⟩ := hp9
  rw [h9] at hN
  refine W.eq (g2 := F0 m 17 ls [.int (nI T.nP)]) rfl ?_
  refine W.widen (k := 2) (n := 12) (Nat.le_of_ble_eq_true rfl) (Nat.le_of_ble_eq_true rfl) ?_
  refine lv_bipush (pc := 17) (v := nI 24) F.1 F.2.1 dX6_addPerson_17 (by decide) ?_
  refine mm_icmp_lt (pc := 19) F (x := T.nP) (y := 24) (tgt := 32) (by omega) (by omega) dX6_addPerson_19 (by decide) (fun cz19 => ?_) (fun cz19 => ?_)
  ·
    refine lv_aload_n (pc := 32) F.1 F.2.1 dX6_addPerson_32 rfl (lv_at hl 1 rfl) ?_
    refine mm_get (pc := 33) F hN (mm_X0 hX) (ci := 6) rfl 1 (by decide) mw_86 rfl dX6_addPerson_33 ?_
    refine mm_new (pc := 36) F hN 0 (ci := 2) (fs := [.null, .int (nI 0), .int (nI 0), .int (nI 0)]) rfl tyX2 tyX2_ok (fun j9 h9 => by rcases (show j9 = 0 ∨ j9 = 1 ∨ j9 = 2 ∨ j9 = 3 by omega) with rfl | rfl | rfl | rfl <;> rfl) mw_373 mw_396 mw_25 (Nat.le_of_ble_eq_true rfl) (Nat.le_of_ble_eq_true rfl) dX6_addPerson_36 (fun q1 H hq1 hN => ?_)
    have hN : mm_N b D s (mm_u σ q1 (mm_obj 0 2 [.null, .int (nI 0), .int (nI 0), .int (nI 0)])) _ _ := hN
    have hX1 : mm_X (mm_u σ q1 (mm_obj 0 2 [.null, .int (nI 0), .int (nI 0), .int (nI 0)])) T z ad := mm_X_new hX hq1
    refine lv_dup (pc := 39) F.1 F.2.1 dX6_addPerson_39 rfl ?_
    refine lv_aload_n (pc := 40) F.1 F.2.1 dX6_addPerson_40 rfl (lv_at hl 0 rfl) ?_
    refine lv_iload_n (pc := 41) F.1 F.2.1 dX6_addPerson_41 rfl (lv_at hl 3 rfl) ?_
    refine mm_runI (pc := 42) (As := [.ref ((ad 1 a 0)), .int (nI f)]) (rest := [.ref q1, .ref ((ad 0 2 0))]) F hN (c_Per l b D hst 0 q1 (ad 1 a 0) f _ mm_u_eq) rfl mw_397 mw_398 mw_25 mw_399 ⟨pmX2_init, (Nat.le_of_ble_eq_true rfl), (Nat.le_of_ble_eq_true rfl)⟩ hl.1 rfl (Nat.le_of_ble_eq_true rfl) ⟨(Nat.le_of_ble_eq_true rfl), (Nat.le_of_ble_eq_true rfl)⟩ dX6_addPerson_42
      (fun _ _ _ _ _ _ h9 => False.elim h9)
      (fun v9 σ9 H locs hp9 hN => ?_)
    obtain ⟨rfl, hσ9⟩ := hp9
    refine W.eq (g2 := F0 m 45 ls [.ref q1, .ref ((ad 0 2 0))]) rfl ?_
    refine W.widen (k := 3) (n := 16) (Nat.le_of_ble_eq_true rfl) (Nat.le_of_ble_eq_true rfl) ?_
    rw [hσ9, mm_uu] at hN
    have hX2 : mm_X (mm_u σ q1 (mm_obj 0 2 [.ref (ad 1 a 0), .int (nI f), .int (nI 45), .int (nI 0)])) T z ad := mm_X_new hX hq1
    refine mm_runV (pc := 45) (As := [.ref q1]) (rest := []) F hN (c_ALadd l b D hst 0 (ad 0 2 0) q1 _ _ (mm_XL2 hX2) ⟨0, 2, _, mm_u_eq, by decide⟩ (by rw [mm_rgl]; omega)) mw_246 mw_247 mw_248 mw_4 mw_249 ⟨pmJx4a65c_add_9ea2d, (Nat.le_of_ble_eq_true rfl), (Nat.le_of_ble_eq_true rfl)⟩ (mm_recvL F.2.2.2.2.2.1 hN (mm_XL2 hX2)) hl.1 rfl (Nat.le_of_ble_eq_true rfl) ⟨(Nat.le_of_ble_eq_true rfl), (Nat.le_of_ble_eq_true rfl)⟩ dX6_addPerson_45
      (fun _ _ _ _ _ _ h9 => False.elim h9)
      (fun v9 σ8 H locs hp9 hN => ?_)
    obtain ⟨rfl, hσ8⟩ := hp9
    refine W.eq (g2 := F0 m 48 ls [.int (nI 1)]) rfl ?_
    refine W.widen (k := 4) (n := 166) (Nat.le_of_ble_eq_true rfl) (Nat.le_of_ble_eq_true rfl) ?_
    rw [hσ8] at hN
    have hX3 := mm_XaddP (a := a) (f := f) hX hW hq1
    rw [← hσ8] at hX3 hN
    have hL3 : σ8 (ad 0 2 0) = mm_lst 0 (((List.range T.nP).map (fun q => ad 2 q 0)) ++ [q1]) := by rw [hσ8]; exact mm_u_eq
    have h03 := (mm_u_ne (a := ad 0 2 0) (x := mm_lst 0 (((List.range T.nP).map (fun q => ad 2 q 0)) ++ [q1])) (mm_X_ne (k := 0) (i := 0) (j := 0) (k' := 0) (i' := 2) (j' := 0) hX2 ⟨by decide, rfl⟩ ⟨by decide, rfl⟩ (by decide))).trans (mm_X0 hX2)
    rw [← hσ8] at h03
    have hF3 : mm_Fr 0 σ σ8 := by rw [hσ8]; exact (mm_Fr.new hq1).tr (mm_Fr.u (mm_XL2 hX2))
    refine lv_pop (pc := 48) F.1 F.2.1 dX6_addPerson_48 rfl ?_
    refine lv_aload_n (pc := 49) F.1 F.2.1 dX6_addPerson_49 rfl (lv_at hl 1 rfl) ?_
    refine mm_get (pc := 50) F hN (h03) (ci := 6) rfl 1 (by decide) mw_86 rfl dX6_addPerson_50 ?_
    refine mm_runV (pc := 53) (As := []) (rest := []) F hN (c_sz l b D hst 0 _ (T.nP + 1) _ _ hL3 (by rw [List.length_append, mm_rgl]; rfl)) mw_196 mw_197 mw_198 mw_4 mw_199 ⟨pmJx4a65c_size_8abf5, (Nat.le_of_ble_eq_true rfl), (Nat.le_of_ble_eq_true rfl)⟩ (mm_recvL F.2.2.2.2.2.1 hN hL3) hl.1 rfl (Nat.le_of_ble_eq_true rfl) ⟨(Nat.le_of_ble_eq_true rfl), (Nat.le_of_ble_eq_true rfl)⟩ dX6_addPerson_53
      (fun _ _ _ _ _ _ h9 => False.elim h9)
      (fun v9 σ9 H locs hp9 hN => ?_)
    obtain ⟨rfl, h9⟩ := hp9
    rw [h9] at hN
    refine W.eq (g2 := F0 m 56 ls [.int (nI (T.nP + 1))]) rfl ?_
    refine W.widen (k := 4) (n := 166) (Nat.le_of_ble_eq_true rfl) (Nat.le_of_ble_eq_true rfl) ?_
    refine lv_iconst (pc := 56) (v := nI 1) F.1 F.2.1 dX6_addPerson_56 (by decide) ?_
    refine mm_isub (pc := 57) F (z := nI ((T.nP + 1) - 1)) (pk_sub (by omega)) dX6_addPerson_57 ?_
    exact mm_iret (pc := 58) F hr hN (⟨by unfold mm_q_addPerson; (repeat' split) <;> omega, by rw [Nat.add_sub_cancel], _, _, hX3, rfl, hF3⟩) (Nat.le_of_ble_eq_true rfl) (Nat.le_of_ble_eq_true rfl) dX6_addPerson_58
  ·
    exact mm_throw F ht hN (by decide) (mm_tISE mw_210) mw_200 mw_20 (List.mem_of_getElem? (i := 6) rfl) hl.1 dX6_addPerson_22 dX6_addPerson_25 dX6_addPerson_26 dX6_addPerson_28 dX6_addPerson_31 ⟨(Nat.le_of_ble_eq_true rfl), (Nat.le_of_ble_eq_true rfl), (Nat.le_of_ble_eq_true rfl), (Nat.le_of_ble_eq_true rfl)⟩ (⟨Or.inr (Or.inr (⟨by unfold mm_q_addPerson; (repeat' split) <;> omega, rfl⟩)), mm_Xt.rf hX rfl⟩) (Nat.le_of_ble_eq_true rfl) (Nat.le_of_ble_eq_true rfl)

