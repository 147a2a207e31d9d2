/-- the places of a new template -/
def mm_aT (ad : Nat → Nat → Nat → Nat) (n q pa pg lo : Nat) : Nat → Nat → Nat → Nat := fun k i j => if k = 3 ∧ i = n ∧ j = 0 then q else if k = 4 ∧ i = n then (if j = 0 then pa else if j = 1 then pg else lo) else ad k i j
theorem mm_aT3 {ad : Nat → Nat → Nat → Nat} {n q pa pg lo : Nat} : mm_aT ad n q pa pg lo 3 n 0 = q := if_pos ⟨rfl, rfl, rfl⟩
theorem mm_aT4 {ad : Nat → Nat → Nat → Nat} {n q pa pg lo j : Nat} : mm_aT ad n q pa pg lo 4 n j = (if j = 0 then pa else if j = 1 then pg else lo) := by
  rw [mm_aT, if_neg (fun e => absurd e.1 (by decide)), if_pos ⟨rfl, rfl⟩]
theorem mm_aTn {ad : Nat → Nat → Nat → Nat} {n q pa pg lo k i j : Nat} (h : i ≠ n) : mm_aT ad n q pa pg lo k i j = ad k i j := by
  rw [mm_aT, if_neg (fun e => h e.2.1), if_neg (fun e => h e.2)]
theorem mm_aTk {ad : Nat → Nat → Nat → Nat} {n q pa pg lo k i j : Nat} (h3 : k ≠ 3) (h4 : k ≠ 4) : mm_aT ad n q pa pg lo k i j = ad k i j := by
  rw [mm_aT, if_neg (fun e => h3 e.1), if_neg (fun e => h4 e.1)]
def mm_t_addTemplate (T : mm_T) : mm_T := T.w 0 (mm_u2 (T 0) 2 0 (T.nT + 1))
theorem mm_ctT {T : mm_T} {z : mm_Z} {ad : Nat → Nat → Nat → Nat} {q pa pg lo : Nat} : ∀ k i j, mm_lv T k i j → ¬ (k = 0 ∧ i = 3 ∧ j = 0) → mm_ct (mm_t_addTemplate T) z (mm_aT ad T.nT q pa pg lo) k i j = mm_ct T z ad k i j
  | 0, 0, j, hl, hn => rfl
  | 0, 1, j, hl, hn => rfl
  | 0, 2, j, hl, hn => rfl
  | 0, 3, j, hl, hn => absurd ⟨rfl, rfl, hl.2⟩ hn
  | 0, 4, j, hl, hn => rfl
  | 0, 5, j, hl, hn => rfl
  | 0, 6, j, hl, hn => rfl
  | 0, 7, j, hl, hn => rfl
  | 0, i + 8, j, hl, hn => absurd hl.1 (by omega)
  | 1, i, j, hl, hn => rfl
  | 2, i, j, hl, hn => rfl
  | 3, i, j, hl, hn => by
    have hi : i ≠ T.nT := Nat.ne_of_lt hl.1
    show mm_O 5 [.ref (mm_aT ad T.nT q pa pg lo 4 i 0), .ref (mm_aT ad T.nT q pa pg lo 4 i 1), .ref (mm_aT ad T.nT q pa pg lo 4 i 2), .int (nI (T.pc i)), .int (nI (T.us i))] = _
    rw [mm_aTn hi, mm_aTn hi, mm_aTn hi] <;> rfl
  | 4, i, j, hl, hn => rfl
  | 5, i, j, hl, hn => rfl
  | 6, i, j, hl, hn => rfl
  | 7, i, j, hl, hn => rfl
  | n + 8, i, j, hl, hn => False.elim hl
theorem mm_XaddT {σ : mm_S} {T : mm_T} {z : mm_Z} {ad : Nat → Nat → Nat → Nat} (hX : mm_X σ T z ad) (hW : mm_WF T) {q pa pg lo : Nat} (hq : σ q = none) (ha : σ pa = none) (hp : σ pg = none) (hlo : σ lo = none) (n1 : pg ≠ pa) (n2 : lo ≠ pa) (n3 : lo ≠ pg) (n4 : pa ≠ q) (n5 : pg ≠ q) (n6 : lo ≠ q) :
    mm_X (mm_u (mm_u (mm_u (mm_u (mm_u σ q (mm_obj 0 5 [.ref pa, .ref pg, .ref lo, .int (nI 0), .int (nI 0)])) pa (mm_a8 0 (fun _ => 0))) pg (mm_a8 0 (fun _ => 0))) lo (mm_a8 0 (fun _ => 0))) (ad 0 3 0) (mm_lst 0 ((List.range T.nT).map (fun q => ad 3 q 0) ++ [q]))) (mm_t_addTemplate T) z (mm_aT ad T.nT q pa pg lo) := by
  have hN : ∀ x, σ x = none → ∀ k i j, mm_lv T k i j → ad k i j ≠ x := fun x hx k i j hl e => by have := hX.1 k i j hl; rw [e, hx] at this; cases this
  have l3 : mm_lv T 0 3 0 := ⟨by decide, rfl⟩
  obtain ⟨z1, z2⟩ := hW.hzt T.nT (Nat.le_refl _)
  refine mm_X_mk (fun k i j => (k = 3 ∧ i = T.nT ∧ j = 0) ∨ (k = 4 ∧ i = T.nT ∧ j < 3)) hX ?_ (fun k i j hl => ?_) (fun k i j hl => ?_) ?_ ?_
  · intro k i j hl
    match k, hl with
    | 0, hl => exact Or.inl hl
    | 1, hl => exact Or.inl hl
    | 2, hl => exact Or.inl hl
    | 3, hl =>
      have h1 : i < T.nT + 1 := hl.1
      by_cases e : i = T.nT
      · exact Or.inr (Or.inl ⟨rfl, e, hl.2⟩)
      · exact Or.inl ⟨by omega, hl.2⟩
    | 4, hl =>
      have h1 : i < T.nT + 1 := hl.1
      by_cases e : i = T.nT
      · exact Or.inr (Or.inr ⟨rfl, e, hl.2⟩)
      · exact Or.inl ⟨by omega, hl.2⟩
    | 5, hl => exact Or.inl hl
    | 6, hl => exact Or.inl hl
    | 7, hl => exact Or.inl hl
    | n + 8, hl => exact False.elim hl
  · by_cases e3 : k = 3
    · subst e3; exact mm_aTn (Nat.ne_of_lt hl.1)
    · by_cases e4 : k = 4
      · subst e4; exact mm_aTn (Nat.ne_of_lt hl.1)
      · exact mm_aTk e3 e4
  · by_cases e : k = 0 ∧ i = 3 ∧ j = 0
    · obtain ⟨rfl, rfl, rfl⟩ := e
      rw [mm_u_eq]
      show mm_lst 0 _ = mm_lst 0 ((List.range (T.nT + 1)).map (fun c => mm_aT ad T.nT q pa pg lo 3 c 0))
      rw [mm_rg_app (g' := fun c => mm_aT ad T.nT q pa pg lo 3 c 0) (fun c hc => mm_aTn (Nat.ne_of_lt hc)) mm_aT3]
    · rw [mm_u_ne (mm_X_ne (k' := 0) (i' := 3) (j' := 0) hX hl l3 e), mm_u_ne (hN _ hlo k i j hl), mm_u_ne (hN _ hp k i j hl), mm_u_ne (hN _ ha k i j hl), mm_u_ne (hN _ hq k i j hl), hX.1 k i j hl, mm_ctT k i j hl e]
  · rintro k i j (⟨rfl, rfl, rfl⟩ | ⟨rfl, rfl, h⟩)
    · rw [mm_aT3]
      refine ⟨?_, hq⟩
      rw [mm_u_ne (Ne.symm (hN _ hq 0 3 0 l3)), mm_u_ne (Ne.symm n6), mm_u_ne (Ne.symm n5), mm_u_ne (Ne.symm n4), mm_u_eq]
      show _ = mm_obj 0 5 [.ref (mm_aT ad T.nT q pa pg lo 4 T.nT 0), .ref (mm_aT ad T.nT q pa pg lo 4 T.nT 1), .ref (mm_aT ad T.nT q pa pg lo 4 T.nT 2), .int (nI (T.pc T.nT)), .int (nI (T.us T.nT))]
      rw [mm_aT4, mm_aT4, mm_aT4, z1, z2]; rfl
    · rw [mm_aT4]
      rcases (show j = 0 ∨ j = 1 ∨ j = 2 by omega) with rfl | rfl | rfl
      · refine ⟨?_, ha⟩
        show mm_u _ _ _ pa = mm_a8 0 (fun x => if x < 8 then mm_ptF (T.ne T.nT) (T.fo T.nT) x (T.pc T.nT) else 0)
        rw [mm_u_ne (Ne.symm (hN _ ha 0 3 0 l3)), mm_u_ne (Ne.symm n2), mm_u_ne (Ne.symm n1), mm_u_eq, z1]
        exact congrArg (mm_a8 0) (funext fun x => (ite_self _).symm)
      · refine ⟨?_, hp⟩
        show mm_u _ _ _ pg = mm_a8 0 (fun x => if x < 8 then (mm_lyF (T.li T.nT) (T.ne T.nT) (T.fo T.nT) x (T.pc T.nT)).1 else 0)
        rw [mm_u_ne (Ne.symm (hN _ hp 0 3 0 l3)), mm_u_ne (Ne.symm n3), mm_u_eq, z1]
        exact congrArg (mm_a8 0) (funext fun x => (ite_self _).symm)
      · refine ⟨?_, hlo⟩
        show mm_u _ _ _ lo = mm_a8 0 (fun x => if x < 8 then (mm_lyF (T.li T.nT) (T.ne T.nT) (T.fo T.nT) x (T.pc T.nT)).2 else 0)
        rw [mm_u_ne (Ne.symm (hN _ hlo 0 3 0 l3)), mm_u_eq, z1]
        exact congrArg (mm_a8 0) (funext fun x => (ite_self _).symm)
  · rintro k i j k' i' j' (⟨rfl, rfl, rfl⟩ | ⟨rfl, rfl, h⟩) (⟨rfl, rfl, rfl⟩ | ⟨rfl, rfl, h'⟩) e
    · exact ⟨rfl, rfl, rfl⟩
    · rw [mm_aT3, mm_aT4] at e
      rcases (show j' = 0 ∨ j' = 1 ∨ j' = 2 by omega) with rfl | rfl | rfl
      · exact absurd e.symm n4
      · exact absurd e.symm n5
      · exact absurd e.symm n6
    · rw [mm_aT3, mm_aT4] at e
      rcases (show j = 0 ∨ j = 1 ∨ j = 2 by omega) with rfl | rfl | rfl
      · exact absurd e n4
      · exact absurd e n5
      · exact absurd e n6
    · rw [mm_aT4, mm_aT4] at e
      rcases (show j = 0 ∨ j = 1 ∨ j = 2 by omega) with rfl | rfl | rfl <;> rcases (show j' = 0 ∨ j' = 1 ∨ j' = 2 by omega) with rfl | rfl | rfl <;>
        first | exact ⟨rfl, rfl, rfl⟩ | exact absurd e n1 | exact absurd e.symm n1 | exact absurd e n2 | exact absurd e.symm n2 | exact absurd e n3 | exact absurd e.symm n3
def mm_q_addTemplate (T : mm_T) : Nat := if T.nT < 4 then 0 else 1
set_option maxHeartbeats 4000000 in
set_option maxRecDepth 100000 in
theorem a_addTemplate (l : Launch) (b : Nat) (D : mm_D) (hst : l.stackTraces = false) (T : mm_T) (z : mm_Z) (ad : Nat → Nat → Nat → Nat) (σ : mm_S) (hX : mm_X σ T z ad) (hW : mm_WF T) : mm_K l b D yX6_addTemplate (.code yX6_addTemplate cX6_addTemplate 1 (some .int)) ({ frames := 8, cells := 8, slots := 300, locals := 220 } : Room) [.ref ((ad 0 0 0))] σ
    (fun v σ2 => mm_q_addTemplate T = 0 ∧ v = some (.int (nI (T.nT))) ∧ mm_Xt σ σ2 (mm_t_addTemplate T) (ad 0 0 0))
    (fun E σ2 => ((mm_q_addTemplate T = 1 ∧ E = "java/lang/IllegalStateException")) ∧ mm_Xt σ σ2 T (ad 0 0 0)) := by
  refine mm_of (cc := cX6_addTemplate) (nL := 1) (ret := (some .int)) (by decide) rfl (Nat.le_of_ble_eq_true rfl) hst ?_
  intro p e s m args below meth c ls F ht hr hin hN hl
  have hl : lv_has ls 1 [(0, .ref ((ad 0 0 0)))] := hl
  have wnA := hW.hnA
  have wnP := hW.hnP
  have wnT := hW.hnT
  have wnR := hW.hnR
  have wpa := hW.hpa
  have wbo := hW.hbo
  have wen0 := hW.hen 0
  have wen1 := hW.hen 1
  refine lv_aload_n (pc := 0) F.1 F.2.1 dX6_addTemplate_0 rfl (lv_at hl 0 rfl) ?_
  refine mm_get (pc := 1) F hN (mm_X0 hX) (ci := 6) rfl 2 (by decide) mw_87 rfl dX6_addTemplate_1 ?_
  refine mm_runV (pc := 4) (As := []) (rest := []) F hN (c_sz l b D hst 0 _ T.nT _ _ (mm_XL3 hX) mm_rgl) mw_196 mw_197 mw_198 mw_4 mw_199 ⟨pmJx4a65c_size_8abf5, (Nat.le_of_ble_eq_true rfl), (Nat.le_of_ble_eq_true rfl)⟩ (mm_recvL F.2.2.2.2.2.1 hN (mm_XL3 hX)) hl.1 rfl (Nat.le_of_ble_eq_true rfl) ⟨(Nat.le_of_ble_eq_true rfl), (Nat.le_of_ble_eq_true rfl)⟩ dX6_addTemplate_4
    (fun _ _ _ _ _ _ h9 => False.elim h9)
    (fun v9 σ9 H locs hp9 hN => ?_)
  obtain ⟨rfl, h9⟩ := hp9
  rw [h9] at hN
  refine W.eq (g2 := F0 m 7 ls [.int (nI T.nT)]) rfl ?_
  refine W.widen (k := 0) (n := 0) (Nat.le_of_ble_eq_true rfl) (Nat.le_of_ble_eq_true rfl) ?_
  refine lv_iconst (pc := 7) (v := nI 4) F.1 F.2.1 dX6_addTemplate_7 (by decide) ?_
  refine mm_icmp_lt (pc := 8) F (x := T.nT) (y := 4) (tgt := 21) (by omega) (by omega) dX6_addTemplate_8 (by decide) (fun cz8 => ?_) (fun cz8 => ?_)
  ·
    refine lv_aload_n (pc := 21) F.1 F.2.1 dX6_addTemplate_21 rfl (lv_at hl 0 rfl) ?_
    refine mm_get (pc := 22) F hN (mm_X0 hX) (ci := 6) rfl 2 (by decide) mw_87 rfl dX6_addTemplate_22 ?_
    refine mm_new (pc := 25) F hN 0 (ci := 5) (fs := [.null, .null, .null, .int (nI 0), .int (nI 0)]) rfl tyX5 tyX5_ok (fun j9 h9 => by rcases (show j9 = 0 ∨ j9 = 1 ∨ j9 = 2 ∨ j9 = 3 ∨ j9 = 4 by omega) with rfl | rfl | rfl | rfl | rfl <;> rfl) mw_461 mw_462 mw_28 (Nat.le_of_ble_eq_true rfl) (Nat.le_of_ble_eq_true rfl) dX6_addTemplate_25 (fun q1 H hq1 hN => ?_)
    have hN : mm_N b D s (mm_u σ q1 (mm_obj 0 5 [.null, .null, .null, .int (nI 0), .int (nI 0)])) _ _ := hN
    have hX1 : mm_X (mm_u σ q1 (mm_obj 0 5 [.null, .null, .null, .int (nI 0), .int (nI 0)])) T z ad := mm_X_new hX hq1
    refine lv_dup (pc := 28) F.1 F.2.1 dX6_addTemplate_28 rfl ?_
    refine mm_runI (pc := 29) (As := []) (rest := [.ref q1, .ref ((ad 0 3 0))]) F hN (c_Tpl l b D hst 0 q1 _ mm_u_eq) rfl mw_463 mw_464 mw_28 mw_465 ⟨pmX5_init, (Nat.le_of_ble_eq_true rfl), (Nat.le_of_ble_eq_true rfl)⟩ hl.1 rfl (Nat.le_of_ble_eq_true rfl) ⟨(Nat.le_of_ble_eq_true rfl), (Nat.le_of_ble_eq_true rfl)⟩ dX6_addTemplate_29
      (fun _ _ _ _ _ _ h9 => False.elim h9)
      (fun v9 σ9 H locs hp9 hN => ?_)
    obtain ⟨rfl, pa, pg, lo, y1, y2, y3, n1, n2, n3, n4, n5, n6, hσ9⟩ := hp9
    refine W.eq (g2 := F0 m 32 ls [.ref q1, .ref ((ad 0 3 0))]) rfl ?_
    refine W.widen (k := 4) (n := 29) (Nat.le_of_ble_eq_true rfl) (Nat.le_of_ble_eq_true rfl) ?_
    rw [hσ9, mm_uu] at hN
    have x1 : σ pa = none := (mm_u_ne n4).symm.trans y1
    have x2 : σ pg = none := (mm_u_ne n5).symm.trans y2
    have x3 : σ lo = none := (mm_u_ne n6).symm.trans y3
    have hX2 : mm_X (mm_u (mm_u (mm_u (mm_u σ q1 (mm_obj 0 5 [.ref pa, .ref pg, .ref lo, .int (nI 0), .int (nI 0)])) pa (mm_a8 0 (fun _ => 0))) pg (mm_a8 0 (fun _ => 0))) lo (mm_a8 0 (fun _ => 0))) T z ad := mm_X_new (mm_X_new (mm_X_new (mm_X_new hX hq1) ((mm_u_ne n4).trans x1)) ((mm_u_ne n1).trans ((mm_u_ne n5).trans x2))) ((mm_u_ne n3).trans ((mm_u_ne n2).trans ((mm_u_ne n6).trans x3)))
    have hF2 : mm_Fr 0 σ (mm_u (mm_u (mm_u (mm_u σ q1 (mm_obj 0 5 [.ref pa, .ref pg, .ref lo, .int (nI 0), .int (nI 0)])) pa (mm_a8 0 (fun _ => 0))) pg (mm_a8 0 (fun _ => 0))) lo (mm_a8 0 (fun _ => 0))) := (((mm_Fr.new hq1).tr (mm_Fr.new ((mm_u_ne n4).trans x1))).tr (mm_Fr.new ((mm_u_ne n1).trans ((mm_u_ne n5).trans x2)))).tr (mm_Fr.new ((mm_u_ne n3).trans ((mm_u_ne n2).trans ((mm_u_ne n6).trans x3))))
    have hob2 : mm_ob (mm_u (mm_u (mm_u (mm_u σ q1 (mm_obj 0 5 [.ref pa, .ref pg, .ref lo, .int (nI 0), .int (nI 0)])) pa (mm_a8 0 (fun _ => 0))) pg (mm_a8 0 (fun _ => 0))) lo (mm_a8 0 (fun _ => 0))) q1 := ⟨0, 5, _, (mm_u_ne (Ne.symm n6)).trans ((mm_u_ne (Ne.symm n5)).trans ((mm_u_ne (Ne.symm n4)).trans mm_u_eq)), by decide⟩
    refine mm_runV (pc := 32) (As := [.ref q1]) (rest := []) F hN (c_ALadd l b D hst 0 (ad 0 3 0) q1 _ _ (mm_XL3 hX2) hob2 (by rw [mm_rgl]; omega)) mw_246 mw_247 mw_248 mw_4 mw_249 ⟨pmJx4a65c_add_9ea2d, (Nat.le_of_ble_eq_true rfl), (Nat.le_of_ble_eq_true rfl)⟩ (mm_recvL F.2.2.2.2.2.1 hN (mm_XL3 hX2)) hl.1 rfl (Nat.le_of_ble_eq_true rfl) ⟨(Nat.le_of_ble_eq_true rfl), (Nat.le_of_ble_eq_true rfl)⟩ dX6_addTemplate_32
      (fun _ _ _ _ _ _ h9 => False.elim h9)
      (fun v9 σ8 H locs hp9 hN => ?_)
    obtain ⟨rfl, hσ8⟩ := hp9
    refine W.eq (g2 := F0 m 35 ls [.int (nI 1)]) rfl ?_
    refine W.widen (k := 5) (n := 179) (Nat.le_of_ble_eq_true rfl) (Nat.le_of_ble_eq_true rfl) ?_
    rw [hσ8] at hN
    have hX3 := mm_XaddT hX hW hq1 x1 x2 x3 n1 n2 n3 n4 n5 n6
    rw [← hσ8] at hX3 hN
    have hL3 : σ8 (ad 0 3 0) = mm_lst 0 (((List.range T.nT).map (fun q => ad 3 q 0)) ++ [q1]) := by rw [hσ8]; exact mm_u_eq
    have h03 := (mm_u_ne (a := ad 0 3 0) (x := mm_lst 0 (((List.range T.nT).map (fun q => ad 3 q 0)) ++ [q1])) (mm_X_ne (k := 0) (i := 0) (j := 0) (k' := 0) (i' := 3) (j' := 0) hX2 ⟨by decide, rfl⟩ ⟨by decide, rfl⟩ (by decide))).trans (mm_X0 hX2)
    rw [← hσ8] at h03
    have hF3 : mm_Fr 0 σ σ8 := by rw [hσ8]; exact hF2.tr (mm_Fr.u (mm_XL3 hX2))
    refine lv_pop (pc := 35) F.1 F.2.1 dX6_addTemplate_35 rfl ?_
    refine lv_aload_n (pc := 36) F.1 F.2.1 dX6_addTemplate_36 rfl (lv_at hl 0 rfl) ?_
    refine mm_get (pc := 37) F hN (h03) (ci := 6) rfl 2 (by decide) mw_87 rfl dX6_addTemplate_37 ?_
    refine mm_runV (pc := 40) (As := []) (rest := []) F hN (c_sz l b D hst 0 _ (T.nT + 1) _ _ hL3 (by rw [List.length_append, mm_rgl]; rfl)) mw_196 mw_197 mw_198 mw_4 mw_199 ⟨pmJx4a65c_size_8abf5, (Nat.le_of_ble_eq_true rfl), (Nat.le_of_ble_eq_true rfl)⟩ (mm_recvL F.2.2.2.2.2.1 hN hL3) hl.1 rfl (Nat.le_of_ble_eq_true rfl) ⟨(Nat.le_of_ble_eq_true rfl), (Nat.le_of_ble_eq_true rfl)⟩ dX6_addTemplate_40
      (fun _ _ _ _ _ _ h9 => False.elim h9)
      (fun v9 σ9 H locs hp9 hN => ?_)
    obtain ⟨rfl, h9⟩ := hp9
    rw [h9] at hN
    refine W.eq (g2 := F0 m 43 ls [.int (nI (T.nT + 1))]) rfl ?_
    refine W.widen (k := 5) (n := 179) (Nat.le_of_ble_eq_true rfl) (Nat.le_of_ble_eq_true rfl) ?_
    refine lv_iconst (pc := 43) (v := nI 1) F.1 F.2.1 dX6_addTemplate_43 (by decide) ?_
    refine mm_isub (pc := 44) F (z := nI ((T.nT + 1) - 1)) (pk_sub (by omega)) dX6_addTemplate_44 ?_
    exact mm_iret (pc := 45) F hr hN (⟨by unfold mm_q_addTemplate; (repeat' split) <;> omega, by rw [Nat.add_sub_cancel], _, _, hX3, rfl, hF3⟩) (Nat.le_of_ble_eq_true rfl) (Nat.le_of_ble_eq_true rfl) dX6_addTemplate_45
  ·
    exact mm_throw F ht hN (by decide) (mm_tISE mw_210) mw_200 mw_20 (List.mem_of_getElem? (i := 10) rfl) hl.1 dX6_addTemplate_11 dX6_addTemplate_14 dX6_addTemplate_15 dX6_addTemplate_17 dX6_addTemplate_20 ⟨(Nat.le_of_ble_eq_true rfl), (Nat.le_of_ble_eq_true rfl), (Nat.le_of_ble_eq_true rfl), (Nat.le_of_ble_eq_true rfl)⟩ (⟨⟨by unfold mm_q_addTemplate; (repeat' split) <;> omega, rfl⟩, mm_Xt.rf hX rfl⟩) (Nat.le_of_ble_eq_true rfl) (Nat.le_of_ble_eq_true rfl)

