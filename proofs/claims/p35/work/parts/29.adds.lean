/-- a new place -/
def mm_au (ad : Nat → Nat → Nat → Nat) (k i j q : Nat) : Nat → Nat → Nat → Nat := fun a c e => if a = k ∧ c = i ∧ e = j then q else ad a c e
theorem mm_au_at {ad : Nat → Nat → Nat → Nat} {k i j q : Nat} : mm_au ad k i j q k i j = q := if_pos ⟨rfl, rfl, rfl⟩
theorem mm_au_ne {ad : Nat → Nat → Nat → Nat} {k i j q a c e : Nat} (h : ¬ (a = k ∧ c = i ∧ e = j)) : mm_au ad k i j q a c e = ad a c e := if_neg h
theorem mm_X_new {σ : mm_S} {T : mm_T} {z : mm_Z} {ad : Nat → Nat → Nat → Nat} (h : mm_X σ T z ad) {q : Nat} {x : Option (Nat × mm_e)} (hq : σ q = none) : mm_X (mm_u σ q x) T z ad :=
  mm_X_kept h (fun a e he => by rw [mm_u_ne (fun e9 => by rw [e9, hq] at he; cases he)]; exact he)
/-- the class's objects have become more -/
theorem mm_X_mk {σ σ' : mm_S} {T T' : mm_T} {z z' : mm_Z} {ad ad' : Nat → Nat → Nat → Nat} (N : Nat → Nat → Nat → Prop) (h : mm_X σ T z ad) (hl : ∀ k i j, mm_lv T' k i j → mm_lv T k i j ∨ N k i j)
    (ha : ∀ k i j, mm_lv T k i j → ad' k i j = ad k i j) (hc : ∀ k i j, mm_lv T k i j → σ' (ad k i j) = some (0, mm_ct T' z' ad' k i j))
    (hn : ∀ k i j, N k i j → σ' (ad' k i j) = some (0, mm_ct T' z' ad' k i j) ∧ σ (ad' k i j) = none)
    (hi : ∀ k i j k' i' j', N k i j → N k' i' j' → ad' k i j = ad' k' i' j' → k = k' ∧ i = i' ∧ j = j') : mm_X σ' T' z' ad' := by
  have hx : ∀ k i j k' i' j', mm_lv T k i j → N k' i' j' → ad' k i j ≠ ad' k' i' j' := fun k i j k' i' j' h1 h2 e => by
    have h3 := h.1 k i j h1
    rw [← ha k i j h1, e, (hn _ _ _ h2).2] at h3
    cases h3
  refine ⟨fun k i j h1 => ?_, fun k i j k' i' j' h1 h2 e => ?_⟩
  · rcases hl k i j h1 with h2 | h2
    · rw [ha k i j h2]; exact hc k i j h2
    · exact (hn k i j h2).1
  · rcases hl k i j h1 with g1 | g1
    · rcases hl k' i' j' h2 with g2 | g2
      · rw [ha _ _ _ g1, ha _ _ _ g2] at e
        exact h.2 _ _ _ _ _ _ g1 g2 e
      · exact absurd e (hx _ _ _ _ _ _ g1 g2)
    · rcases hl k' i' j' h2 with g2 | g2
      · exact absurd e.symm (hx _ _ _ _ _ _ g2 g1)
      · exact hi _ _ _ _ _ _ g1 g2 e
theorem mm_rg_app {n : Nat} {g g' : Nat → Nat} {q : Nat} (h : ∀ i, i < n → g' i = g i) (hq : g' n = q) : (List.range n).map g ++ [q] = (List.range (n + 1)).map g' := by
  rw [List.range_succ, List.map_append, List.map_cons, List.map_nil, hq]
  exact congrArg (· ++ [q]) (List.map_congr_left (fun i hi => (h i (List.mem_range.mp hi)).symm))
theorem mm_rg_eq {n : Nat} {g g' : Nat → Nat} (h : ∀ i, i < n → g' i = g i) : (List.range n).map g' = (List.range n).map g := List.map_congr_left (fun i hi => h i (List.mem_range.mp hi))
/-- drafts of a new address -/
def mm_zA (z : mm_Z) (n : Nat) : mm_Z := fun k i => if (k = 1 ∨ k = 2) ∧ i = n then 0 else z k i
def mm_t_addAddress (T : mm_T) (n : Nat) : mm_T := (T.w 0 (mm_u2 (T 0) 0 0 (T.nA + 1))).w 1 (mm_u2 (T 1) T.nA 0 n)
theorem mm_ctA {T : mm_T} {z : mm_Z} {ad : Nat → Nat → Nat → Nat} {q n : Nat} (hW : mm_WF T) : ∀ k i j, mm_lv T k i j → ¬ (k = 0 ∧ i = 1 ∧ j = 0) → mm_ct (mm_t_addAddress T n) (mm_zA z T.nA) (mm_au ad 1 T.nA 0 q) k i j = mm_ct T z ad k i j
  | 0, 0, j, hl, hn => rfl
  | 0, 1, j, hl, hn => absurd ⟨rfl, rfl, hl.2⟩ hn
  | 0, 2, j, hl, hn => rfl
  | 0, 3, j, hl, hn => rfl
  | 0, 4, j, hl, hn => rfl
  | 0, 5, j, hl, hn => rfl
  | 0, 6, j, hl, hn => rfl
  | 0, 7, j, hl, hn => rfl
  | 0, i + 8, j, hl, hn => absurd hl.1 (by omega)
  | 1, i, j, hl, hn => by
    have hi : i ≠ T.nA := Nat.ne_of_lt hl.1
    show mm_O 0 [.int (nI i), .int (nI (if i = T.nA ∧ 0 = 0 then n else T.co i)), .int (nI (T.sk i)), .int (nI (T.go i)), .int (nI (if (1 = 1 ∨ 1 = 2) ∧ i = T.nA then 0 else z.sk i)), .int (nI (if (2 = 1 ∨ 2 = 2) ∧ i = T.nA then 0 else z.sv i))] = _
    rw [if_neg (fun q => hi q.1), if_neg (fun q => hi q.2), if_neg (fun q => hi q.2)] <;> rfl
  | 2, i, j, hl, hn => by
    show mm_O 2 [.ref (mm_au ad 1 T.nA 0 q 1 (T.ho i) 0), .int (nI (T.fl i)), .int (nI (T.re i)), .int (nI (z.oc i))] = _
    rw [mm_au_ne (fun q => Nat.ne_of_lt (hW.hpe i hl.1).1 q.2.1)] <;> rfl
  | 3, i, j, hl, hn => rfl
  | 4, i, j, hl, hn => rfl
  | 5, i, j, hl, hn => rfl
  | 6, i, j, hl, hn => rfl
  | 7, i, j, hl, hn => rfl
  | n + 8, i, j, hl, hn => False.elim hl
theorem mm_XaddA {σ : mm_S} {T : mm_T} {z : mm_Z} {ad : Nat → Nat → Nat → Nat} (hX : mm_X σ T z ad) (hW : mm_WF T) {q n : Nat} (hq : σ q = none) :
    mm_X (mm_u (mm_u σ q (mm_obj 0 0 [.int (nI T.nA), .int (nI n), .int (nI 0), .int (nI 0), .int (nI 0), .int (nI 0)])) (ad 0 1 0) (mm_lst 0 ((List.range T.nA).map (fun q => ad 1 q 0) ++ [q]))) (mm_t_addAddress T n) (mm_zA z T.nA) (mm_au ad 1 T.nA 0 q) := by
  have hlst := mm_XL1 hX
  have hqn : ∀ k i j, mm_lv T k i j → ad k i j ≠ q := fun k i j hl e => by have := hX.1 k i j hl; rw [e, hq] at this; cases this
  have hql : q ≠ ad 0 1 0 := fun e => hqn 0 1 0 ⟨by decide, rfl⟩ e.symm
  refine mm_X_mk (fun k i j => k = 1 ∧ i = T.nA ∧ j = 0) hX ?_ (fun k i j hl => ?_) (fun k i j hl => ?_) ?_ (fun k i j k' i' j' h1 h2 _ => ⟨h1.1.trans h2.1.symm, h1.2.1.trans h2.2.1.symm, h1.2.2.trans h2.2.2.symm⟩)
  · intro k i j hl
    match k, hl with
    | 0, hl => exact Or.inl hl
    | 1, hl =>
      have h1 : i < T.nA + 1 := hl.1
      by_cases e : i = T.nA
      · exact Or.inr ⟨rfl, e, hl.2⟩
      · exact Or.inl ⟨by omega, hl.2⟩
    | 2, hl => exact Or.inl hl
    | 3, hl => exact Or.inl hl
    | 4, hl => exact Or.inl hl
    | 5, hl => exact Or.inl hl
    | 6, hl => exact Or.inl hl
    | 7, hl => exact Or.inl hl
    | n + 8, hl => exact False.elim hl
  · refine mm_au_ne (fun e => ?_)
    obtain ⟨rfl, rfl, rfl⟩ := e
    exact absurd hl.1 (Nat.lt_irrefl _)
  · by_cases e : k = 0 ∧ i = 1 ∧ j = 0
    · obtain ⟨rfl, rfl, rfl⟩ := e
      rw [mm_u_eq]
      show mm_lst 0 _ = mm_lst 0 ((List.range (T.nA + 1)).map (fun c => mm_au ad 1 T.nA 0 q 1 c 0))
      rw [mm_rg_app (g' := fun c => mm_au ad 1 T.nA 0 q 1 c 0) (fun c hc => mm_au_ne (fun e => Nat.ne_of_lt hc e.2.1)) mm_au_at]
    · rw [mm_u_ne (mm_X_ne (k' := 0) (i' := 1) (j' := 0) hX hl ⟨by decide, rfl⟩ e), mm_u_ne (hqn k i j hl), hX.1 k i j hl, mm_ctA hW k i j hl e]
  · rintro k i j ⟨rfl, rfl, rfl⟩
    rw [mm_au_at, mm_u_ne hql, mm_u_eq]
    refine ⟨?_, hq⟩
    show _ = mm_obj 0 0 [.int (nI T.nA), .int (nI (if T.nA = T.nA ∧ 0 = 0 then n else T.co T.nA)), .int (nI (T.sk T.nA)), .int (nI (T.go T.nA)), .int (nI (if (1 = 1 ∨ 1 = 2) ∧ T.nA = T.nA then 0 else z.sk T.nA)), .int (nI (if (2 = 1 ∨ 2 = 2) ∧ T.nA = T.nA then 0 else z.sv T.nA))]
    rw [if_pos ⟨rfl, rfl⟩, if_pos ⟨Or.inl rfl, rfl⟩, if_pos ⟨Or.inr rfl, rfl⟩, (hW.hza T.nA (Nat.le_refl _)).1, (hW.hza T.nA (Nat.le_refl _)).2]
def mm_q_addAddress (T : mm_T) (n : Nat) : Nat := if n < 100 then (if T.nA < 12 then 0 else 2) else 1
set_option maxHeartbeats 4000000 in
set_option maxRecDepth 100000 in
theorem a_addAddress (l : Launch) (b : Nat) (D : mm_D) (hst : l.stackTraces = false) (T : mm_T) (z : mm_Z) (ad : Nat → Nat → Nat → Nat) (σ : mm_S) (hX : mm_X σ T z ad) (hW : mm_WF T) (n : Nat) (zn : n < 2 ^ 32) : mm_K l b D yX6_addAddress (.code yX6_addAddress cX6_addAddress 2 (some .int)) ({ frames := 8, cells := 6, slots := 300, locals := 220 } : Room) [.ref ((ad 0 0 0)), .int (nI n)] σ
    (fun v σ2 => mm_q_addAddress T n = 0 ∧ v = some (.int (nI (T.nA))) ∧ mm_Xt σ σ2 (mm_t_addAddress T n) (ad 0 0 0))
    (fun E σ2 => ((mm_q_addAddress T n = 1 ∧ E = "java/lang/IllegalArgumentException") ∨ (mm_q_addAddress T n = 2 ∧ E = "java/lang/IllegalStateException")) ∧ mm_Xt σ σ2 T (ad 0 0 0)) := by
  refine mm_of (cc := cX6_addAddress) (nL := 2) (ret := (some .int)) (by decide) rfl (Nat.le_of_ble_eq_true rfl) hst ?_
  intro p e s m args below meth c ls F ht hr hin hN hl
  have hl : lv_has ls 2 [(0, .ref ((ad 0 0 0))), (1, .int (nI n))] := hl
  have wnA := hW.hnA
  have wnP := hW.hnP
  have wnT := hW.hnT
  have wnR := hW.hnR
  have wpa := hW.hpa
  have wbo := hW.hbo
  have wen0 := hW.hen 0
  have wen1 := hW.hen 1
  refine lv_iload_n (pc := 0) F.1 F.2.1 dX6_addAddress_0 rfl (lv_at hl 1 rfl) ?_
  refine mm_if_ltB (pc := 1) F (tgt := 10) (by omega) dX6_addAddress_1 (by decide) (fun cz1 => ?_) (fun cz1 => ?_)
  ·
    exact mm_throw F ht hN (by decide) (mm_tIAE mw_170) mw_125 mw_15 (List.mem_of_getElem? (i := 0) rfl) hl.1 dX6_addAddress_10 dX6_addAddress_13 dX6_addAddress_14 dX6_addAddress_16 dX6_addAddress_19 ⟨(Nat.le_of_ble_eq_true rfl), (Nat.le_of_ble_eq_true rfl), (Nat.le_of_ble_eq_true rfl), (Nat.le_of_ble_eq_true rfl)⟩ (⟨Or.inl (⟨by unfold mm_q_addAddress; (repeat' split) <;> omega, rfl⟩), mm_Xt.rf hX rfl⟩) (Nat.le_of_ble_eq_true rfl) (Nat.le_of_ble_eq_true rfl)
  ·
    refine lv_iload_n (pc := 4) F.1 F.2.1 dX6_addAddress_4 rfl (lv_at hl 1 rfl) ?_
    refine lv_bipush (pc := 5) (v := nI 99) F.1 F.2.1 dX6_addAddress_5 (by decide) ?_
    refine mm_icmp_leB (pc := 7) F (x := n) (y := 99) (tgt := 20) (by omega) (by omega) dX6_addAddress_7 (by decide) (fun cz7 => ?_) (fun cz7 => ?_)
    ·
      refine lv_aload_n (pc := 20) F.1 F.2.1 dX6_addAddress_20 rfl (lv_at hl 0 rfl) ?_
      refine mm_get (pc := 21) F hN (mm_X0 hX) (ci := 6) rfl 0 (by decide) mw_85 rfl dX6_addAddress_21 ?_
      refine mm_runV (pc := 24) (As := []) (rest := []) F hN (c_sz l b D hst 0 _ T.nA _ _ (mm_XL1 hX) mm_rgl) mw_196 mw_197 mw_198 mw_4 mw_199 ⟨pmJx4a65c_size_8abf5, (Nat.le_of_ble_eq_true rfl), (Nat.le_of_ble_eq_true rfl)⟩ (mm_recvL F.2.2.2.2.2.1 hN (mm_XL1 hX)) hl.1 rfl (Nat.le_of_ble_eq_true rfl) ⟨(Nat.le_of_ble_eq_true rfl), (Nat.le_of_ble_eq_true rfl)⟩ dX6_addAddress_24
        (fun _ _ _ _ _ _ h9 => False.elim h9)
        (fun v9 σ9 H locs hp9 hN => ?_)
      obtain ⟨rfl, h9⟩ := hp9
      rw [h9] at hN
      refine W.eq (g2 := F0 m 27 ls [.int (nI T.nA)]) rfl ?_
      refine W.widen (k := 0) (n := 0) (Nat.le_of_ble_eq_true rfl) (Nat.le_of_ble_eq_true rfl) ?_
      refine lv_bipush (pc := 27) (v := nI 12) F.1 F.2.1 dX6_addAddress_27 (by decide) ?_
      refine mm_icmp_lt (pc := 29) F (x := T.nA) (y := 12) (tgt := 42) (by omega) (by omega) dX6_addAddress_29 (by decide) (fun cz29 => ?_) (fun cz29 => ?_)
      ·
        refine lv_aload_n (pc := 42) F.1 F.2.1 dX6_addAddress_42 rfl (lv_at hl 0 rfl) ?_
        refine mm_get (pc := 43) F hN (mm_X0 hX) (ci := 6) rfl 0 (by decide) mw_85 rfl dX6_addAddress_43 ?_
        refine mm_new (pc := 46) F hN 0 (ci := 0) (fs := [.int (nI 0), .int (nI 0), .int (nI 0), .int (nI 0), .int (nI 0), .int (nI 0)]) rfl tyX0 tyX0_ok (fun j9 h9 => by rcases (show j9 = 0 ∨ j9 = 1 ∨ j9 = 2 ∨ j9 = 3 ∨ j9 = 4 ∨ j9 = 5 by omega) with rfl | rfl | rfl | rfl | rfl | rfl <;> rfl) mw_216 mw_217 mw_21 (Nat.le_of_ble_eq_true rfl) (Nat.le_of_ble_eq_true rfl) dX6_addAddress_46 (fun q1 H hq1 hN => ?_)
        have hN : mm_N b D s (mm_u σ q1 (mm_obj 0 0 [.int (nI 0), .int (nI 0), .int (nI 0), .int (nI 0), .int (nI 0), .int (nI 0)])) _ _ := hN
        have hX1 : mm_X (mm_u σ q1 (mm_obj 0 0 [.int (nI 0), .int (nI 0), .int (nI 0), .int (nI 0), .int (nI 0), .int (nI 0)])) T z ad := mm_X_new hX hq1
        refine lv_dup (pc := 49) F.1 F.2.1 dX6_addAddress_49 rfl ?_
        refine lv_aload_n (pc := 50) F.1 F.2.1 dX6_addAddress_50 rfl (lv_at hl 0 rfl) ?_
        refine mm_get (pc := 51) F hN (mm_X0 hX1) (ci := 6) rfl 0 (by decide) mw_85 rfl dX6_addAddress_51 ?_
        refine mm_runV (pc := 54) (As := []) (rest := [.ref q1, .ref q1, .ref ((ad 0 1 0))]) F hN (c_sz l b D hst 0 _ T.nA _ _ (mm_XL1 hX1) mm_rgl) mw_196 mw_197 mw_198 mw_4 mw_199 ⟨pmJx4a65c_size_8abf5, (Nat.le_of_ble_eq_true rfl), (Nat.le_of_ble_eq_true rfl)⟩ (mm_recvL F.2.2.2.2.2.1 hN (mm_XL1 hX1)) hl.1 rfl (Nat.le_of_ble_eq_true rfl) ⟨(Nat.le_of_ble_eq_true rfl), (Nat.le_of_ble_eq_true rfl)⟩ dX6_addAddress_54
          (fun _ _ _ _ _ _ h9 => False.elim h9)
          (fun v9 σ9 H locs hp9 hN => ?_)
        obtain ⟨rfl, h9⟩ := hp9
        rw [h9] at hN
        refine W.eq (g2 := F0 m 57 ls [.int (nI T.nA), .ref q1, .ref q1, .ref ((ad 0 1 0))]) rfl ?_
        refine W.widen (k := 1) (n := 6) (Nat.le_of_ble_eq_true rfl) (Nat.le_of_ble_eq_true rfl) ?_
        refine lv_iload_n (pc := 57) F.1 F.2.1 dX6_addAddress_57 rfl (lv_at hl 1 rfl) ?_
        refine mm_runI (pc := 58) (As := [.int (nI T.nA), .int (nI n)]) (rest := [.ref q1, .ref ((ad 0 1 0))]) F hN (c_Adr l b D hst 0 q1 T.nA n _ mm_u_eq) rfl mw_218 mw_219 mw_21 mw_220 ⟨pmX0_init, (Nat.le_of_ble_eq_true rfl), (Nat.le_of_ble_eq_true rfl)⟩ hl.1 rfl (Nat.le_of_ble_eq_true rfl) ⟨(Nat.le_of_ble_eq_true rfl), (Nat.le_of_ble_eq_true rfl)⟩ dX6_addAddress_58
          (fun _ _ _ _ _ _ h9 => False.elim h9)
          (fun v9 σ9 H locs hp9 hN => ?_)
        obtain ⟨rfl, hσ9⟩ := hp9
        refine W.eq (g2 := F0 m 61 ls [.ref q1, .ref ((ad 0 1 0))]) rfl ?_
        refine W.widen (k := 1) (n := 6) (Nat.le_of_ble_eq_true rfl) (Nat.le_of_ble_eq_true rfl) ?_
        rw [hσ9, mm_uu] at hN
        have hX2 : mm_X (mm_u σ q1 (mm_obj 0 0 [.int (nI T.nA), .int (nI n), .int (nI 0), .int (nI 0), .int (nI 0), .int (nI 0)])) T z ad := mm_X_new hX hq1
        refine mm_runV (pc := 61) (As := [.ref q1]) (rest := []) F hN (c_ALadd l b D hst 0 (ad 0 1 0) q1 _ _ (mm_XL1 hX2) ⟨0, 0, _, mm_u_eq, by decide⟩ (by rw [mm_rgl]; omega)) mw_246 mw_247 mw_248 mw_4 mw_249 ⟨pmJx4a65c_add_9ea2d, (Nat.le_of_ble_eq_true rfl), (Nat.le_of_ble_eq_true rfl)⟩ (mm_recvL F.2.2.2.2.2.1 hN (mm_XL1 hX2)) hl.1 rfl (Nat.le_of_ble_eq_true rfl) ⟨(Nat.le_of_ble_eq_true rfl), (Nat.le_of_ble_eq_true rfl)⟩ dX6_addAddress_61
          (fun _ _ _ _ _ _ h9 => False.elim h9)
          (fun v9 σ8 H locs hp9 hN => ?_)
        obtain ⟨rfl, hσ8⟩ := hp9
        refine W.eq (g2 := F0 m 64 ls [.int (nI 1)]) rfl ?_
        refine W.widen (k := 2) (n := 156) (Nat.le_of_ble_eq_true rfl) (Nat.le_of_ble_eq_true rfl) ?_
        rw [hσ8] at hN
        have hX3 := mm_XaddA (n := n) hX hW hq1
        rw [← hσ8] at hX3 hN
        have hL3 : σ8 (ad 0 1 0) = mm_lst 0 (((List.range T.nA).map (fun q => ad 1 q 0)) ++ [q1]) := by rw [hσ8]; exact mm_u_eq
        have h03 := (mm_u_ne (a := ad 0 1 0) (x := mm_lst 0 (((List.range T.nA).map (fun q => ad 1 q 0)) ++ [q1])) (mm_X_ne (k := 0) (i := 0) (j := 0) (k' := 0) (i' := 1) (j' := 0) hX2 ⟨by decide, rfl⟩ ⟨by decide, rfl⟩ (by decide))).trans (mm_X0 hX2)
        rw [← hσ8] at h03
        have hF3 : mm_Fr 0 σ σ8 := by rw [hσ8]; exact (mm_Fr.new hq1).tr (mm_Fr.u (mm_XL1 hX2))
        refine lv_pop (pc := 64) F.1 F.2.1 dX6_addAddress_64 rfl ?_
        refine lv_aload_n (pc := 65) F.1 F.2.1 dX6_addAddress_65 rfl (lv_at hl 0 rfl) ?_
        refine mm_get (pc := 66) F hN (h03) (ci := 6) rfl 0 (by decide) mw_85 rfl dX6_addAddress_66 ?_
        refine mm_runV (pc := 69) (As := []) (rest := []) F hN (c_sz l b D hst 0 _ (T.nA + 1) _ _ hL3 (by rw [List.length_append, mm_rgl]; rfl)) mw_196 mw_197 mw_198 mw_4 mw_199 ⟨pmJx4a65c_size_8abf5, (Nat.le_of_ble_eq_true rfl), (Nat.le_of_ble_eq_true rfl)⟩ (mm_recvL F.2.2.2.2.2.1 hN hL3) hl.1 rfl (Nat.le_of_ble_eq_true rfl) ⟨(Nat.le_of_ble_eq_true rfl), (Nat.le_of_ble_eq_true rfl)⟩ dX6_addAddress_69
          (fun _ _ _ _ _ _ h9 => False.elim h9)
          (fun v9 σ9 H locs hp9 hN => ?_)
        obtain ⟨rfl, h9⟩ := hp9
        rw [h9] at hN
        refine W.eq (g2 := F0 m 72 ls [.int (nI (T.nA + 1))]) rfl ?_
        refine W.widen (k := 2) (n := 156) (Nat.le_of_ble_eq_true rfl) (Nat.le_of_ble_eq_true rfl) ?_
        refine lv_iconst (pc := 72) (v := nI 1) F.1 F.2.1 dX6_addAddress_72 (by decide) ?_
        refine mm_isub (pc := 73) F (z := nI ((T.nA + 1) - 1)) (pk_sub (by omega)) dX6_addAddress_73 ?_
        exact mm_iret (pc := 74) F hr hN (⟨by unfold mm_q_addAddress; (repeat' split) <;> omega, by rw [Nat.add_sub_cancel], _, _, hX3, rfl, hF3⟩) (Nat.le_of_ble_eq_true rfl) (Nat.le_of_ble_eq_true rfl) dX6_addAddress_74
      ·
        exact mm_throw F ht hN (by decide) (mm_tISE mw_210) mw_200 mw_20 (List.mem_of_getElem? (i := 1) rfl) hl.1 dX6_addAddress_32 dX6_addAddress_35 dX6_addAddress_36 dX6_addAddress_38 dX6_addAddress_41 ⟨(Nat.le_of_ble_eq_true rfl), (Nat.le_of_ble_eq_true rfl), (Nat.le_of_ble_eq_true rfl), (Nat.le_of_ble_eq_true rfl)⟩ (⟨Or.inr (⟨by unfold mm_q_addAddress; (repeat' split) <;> omega, rfl⟩), mm_Xt.rf hX rfl⟩) (Nat.le_of_ble_eq_true rfl) (Nat.le_of_ble_eq_true rfl)
    ·
      exact mm_throw F ht hN (by decide) (mm_tIAE mw_170) mw_125 mw_15 (List.mem_of_getElem? (i := 0) rfl) hl.1 dX6_addAddress_10 dX6_addAddress_13 dX6_addAddress_14 dX6_addAddress_16 dX6_addAddress_19 ⟨(Nat.le_of_ble_eq_true rfl), (Nat.le_of_ble_eq_true rfl), (Nat.le_of_ble_eq_true rfl), (Nat.le_of_ble_eq_true rfl)⟩ (⟨Or.inl (⟨by unfold mm_q_addAddress; (repeat' split) <;> omega, rfl⟩), mm_Xt.rf hX rfl⟩) (Nat.le_of_ble_eq_true rfl) (Nat.le_of_ble_eq_true rfl)

