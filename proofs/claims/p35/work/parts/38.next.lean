/-- an address gets letters: its strikes are few, or they end -/
def mm_good2 (T : mm_T) (a : Nat) : Prop := nI (T.sk a) < nI 2 ∨ mm_ends T a = true
def mm_srv (T : mm_T) (t a i : Nat) : Bool := mm_ex (fun q => decide (T.ho q = a ∧ T.re q = 45 ∧ (nI (T.sk a) < nI 2 ∨ mm_ends T a = true) ∧ 0 < mm_pgs T t (T.fl q))) i
/-- the drafts before the person i -/
def mm_dI (T : mm_T) (t hh i : Nat) (z : mm_Z) : Prop :=
  (∀ a, a < T.nA → z 1 a = (if mm_ends T a = true then 0 else T.sk a)) ∧ (∀ a, a < T.nA → z 2 a = (if mm_srv T t a i = true then 1 else 0)) ∧
  z 0 0 = (mm_lf T t hh i).1 ∧ z 0 1 = (mm_lf T t hh i).2.1 ∧ z 0 2 = (mm_lf T t hh i).2.2
theorem mm_srv1 {T : mm_T} {t a i : Nat} : mm_srv T t a (i + 1) = (mm_srv T t a i || decide (T.ho i = a ∧ T.re i = 45 ∧ (nI (T.sk a) < nI 2 ∨ mm_ends T a = true) ∧ 0 < mm_pgs T t (T.fl i))) := rfl
theorem mm_srv_sec {T : mm_T} {t i : Nat} (hg : nI (T.sk (T.ho i)) < nI 2 ∨ mm_ends T (T.ho i) = true) : mm_srv T t (T.ho i) i = mm_sec T t i := by
  refine mm_ex_eq ⟨fun ⟨q, h1, h2⟩ => ?_, fun ⟨q, h1, h2⟩ => ?_⟩
  · obtain ⟨g1, g2, -, g4⟩ := decide_eq_true_iff.mp h2
    exact ⟨q, h1, decide_eq_true ⟨g1, g2, g4⟩⟩
  · obtain ⟨g1, g2, g4⟩ := decide_eq_true_iff.mp h2
    exact ⟨q, h1, decide_eq_true ⟨g1, g2, hg, g4⟩⟩
theorem mm_dr2 {T : mm_T} {a x : Nat} (h : x = (if mm_ends T a = true then 0 else T.sk a)) : (nI x < nI 2) ↔ (nI (T.sk a) < nI 2 ∨ mm_ends T a = true) := by
  by_cases e : mm_ends T a = true
  · rw [if_pos e] at h
    subst h
    exact ⟨fun _ => Or.inr e, fun _ => by decide⟩
  · rw [if_neg e] at h
    subst h
    exact ⟨Or.inl, fun q => q.elim id (fun g => absurd g e)⟩
theorem mm_dI_same {T : mm_T} {t hh i : Nat} {z : mm_Z} (hI : mm_dI T t hh i z) (ho : ¬ mm_obs T t hh i = 45) (hs : ∀ a, mm_srv T t a (i + 1) = mm_srv T t a i) : mm_dI T t hh (i + 1) z := by
  have e : mm_lf T t hh (i + 1) = mm_lf T t hh i := by rw [mm_lf, if_neg (fun q => ho q.1)]
  refine ⟨hI.1, fun a ha => by rw [hs a]; exact hI.2.1 a ha, ?_⟩
  rw [e]
  exact hI.2.2
theorem mm_pgs_le {T : mm_T} (hW : mm_WF T) {t x : Nat} (ht : t < T.nT) : mm_pgs T t x ≤ 8 :=
  Nat.le_trans (mm_lyF_le (T.pc t) (fun j hj => ((hW.htp t ht).2.2 j hj).2.1)).1 (hW.htp t ht).1
set_option maxHeartbeats 4000000 in
set_option maxRecDepth 100000 in
theorem c_next (l : Launch) (b : Nat) (D : mm_D) (hst : l.stackTraces = false) (T : mm_T) (z : mm_Z) (ad : Nat → Nat → Nat → Nat) (σ : mm_S) (hX : mm_X σ T z ad) (hW : mm_WF T) (t i hh : Nat) (ht2 : t < T.nT) (hi2 : i < T.nP) (hh2 : hh < 2) (hI : mm_dI T t hh i z) : mm_K l b D yX6_nextOutcome (.code yX6_nextOutcome cX6_nextOutcome 6 (some .char)) ({ frames := 4, cells := 0, slots := 0, locals := 100 } : Room) [.ref ((ad 0 0 0)), .ref ((ad 2 i 0)), .ref ((ad 3 t 0)), .int (nI hh)] σ
    (fun v σ2 => v = some (.int (nI (mm_oc T t hh i))) ∧ ∃ z2 : mm_Z, mm_X σ2 T z2 ad ∧ mm_Fr 0 σ σ2 ∧ mm_dI T t hh (i + 1) z2 ∧ z2 3 = z 3)
    (fun _ _ => False) := by
  refine mm_of (cc := cX6_nextOutcome) (nL := 6) (ret := (some .char)) (by decide) rfl (Nat.le_of_ble_eq_true rfl) hst ?_
  intro p e s m args below meth c ls F ht hr hin hN hl
  have hl : lv_has ls 6 [(0, .ref ((ad 0 0 0))), (1, .ref ((ad 2 i 0))), (2, .ref ((ad 3 t 0))), (3, .int (nI hh))] := hl
  have wnA := hW.hnA
  have wnP := hW.hnP
  have wnT := hW.hnT
  have wnR := hW.hnR
  have wpa := hW.hpa
  have wbo := hW.hbo
  have wen0 := hW.hen 0
  have wen1 := hW.hen 1
  obtain ⟨who, wfl, wre⟩ := hW.hpe i hi2
  refine lv_aload_n (pc := 0) F.1 F.2.1 dX6_nextOutcome_0 rfl (lv_at hl 1 rfl) ?_
  refine mm_runV (pc := 1) (As := []) (rest := []) F hN (c_isSupp l b D hst 0 (ad 2 i 0) (ad 1 (T.ho i) 0) (T.fl i) (T.re i) (z.oc i) wre σ (mm_XP hX hi2)) mw_428 mw_429 mw_430 mw_25 mw_431 ⟨pmX2_isSuppressed, (Nat.le_of_ble_eq_true rfl), (Nat.le_of_ble_eq_true rfl)⟩ (mm_recv F.2.2.2.2.2.1 hN (mm_XP hX hi2) rfl) hl.1 rfl (Nat.le_of_ble_eq_true rfl) ⟨(Nat.le_of_ble_eq_true rfl), (Nat.le_of_ble_eq_true rfl)⟩ dX6_nextOutcome_1
    (fun _ _ _ _ _ _ h9 => False.elim h9)
    (fun v9 σ9 H locs hp9 hN => ?_)
  obtain ⟨rfl, h9⟩ := hp9
  rw [h9] at hN
  refine W.eq (g2 := F0 m 4 ls [.int (nI (if T.re i = 45 then 0 else 1))]) rfl ?_
  refine W.widen (k := 0) (n := 0) (Nat.le_of_ble_eq_true rfl) (Nat.le_of_ble_eq_true rfl) ?_
  by_cases hre : T.re i = 45
  ·
    refine W.eq (g2 := F0 m 4 ls [.int (nI 0)]) (by rw [if_pos hre]) ?_
    refine mm_if_eq (pc := 4) F (tgt := 10) (by omega) dX6_nextOutcome_4 (by decide) (fun cz4 => ?_) (fun h9 => absurd h9 (by decide))
    refine lv_aload_n (pc := 10) F.1 F.2.1 dX6_nextOutcome_10 rfl (lv_at hl 1 rfl) ?_
    refine mm_get (pc := 11) F hN (mm_XP hX (i := i) (by omega)) (ci := 2) rfl 0 (by decide) mw_403 rfl dX6_nextOutcome_11 ?_
    refine lv_astore (pc := 14) (lv' := [(4, .ref ((ad 1 (T.ho i) 0))), (0, .ref ((ad 0 0 0))), (1, .ref ((ad 2 i 0))), (2, .ref ((ad 3 t 0))), (3, .int (nI hh))]) F.1 F.2.1 dX6_nextOutcome_14 hl (by decide) rfl (fun ls hl => ?_)
    refine lv_aload (pc := 16) F.1 F.2.1 dX6_nextOutcome_16 (lv_at hl 0 rfl) ?_
    refine mm_get (pc := 18) F hN (mm_XA hX (i := (T.ho i)) (by omega)) (ci := 0) rfl 4 (by decide) mw_230 rfl dX6_nextOutcome_18 ?_
    refine lv_iconst (pc := 21) (v := nI 2) F.1 F.2.1 dX6_nextOutcome_21 (by decide) ?_
    have hdr := mm_dr2 (hI.1 (T.ho i) who)
    refine lv_icmp_lt (pc := 22) (tgt := 28) F.1 F.2.1 dX6_nextOutcome_22 (by decide) (fun cz22 => ?_) (fun cz22 => ?_)
    ·
      have hgd := hdr.mp cz22
      have hbad : ¬ (¬ (nI (T.sk (T.ho i)) < nI 2) ∧ mm_ends T (T.ho i) = false) := fun q => hgd.elim q.1 (fun g => by rw [q.2] at g; cases g)
      have hpg8 : mm_pgs T t (T.fl i) ≤ 8 := mm_pgs_le hW ht2
      refine lv_aload_n (pc := 28) F.1 F.2.1 dX6_nextOutcome_28 rfl (lv_at hl 3 rfl) ?_
      refine lv_aload_n (pc := 29) F.1 F.2.1 dX6_nextOutcome_29 rfl (lv_at hl 2 rfl) ?_
      refine mm_get (pc := 30) F hN (mm_XP hX (i := i) (by omega)) (ci := 2) rfl 1 (by decide) mw_407 rfl dX6_nextOutcome_30 ?_
      refine mm_runV (pc := 33) (As := [.int (nI (T.fl i))]) (rest := []) F hN (c_pagesW l b D hst 0 (ad 3 t 0) (ad 4 t 0) (ad 4 t 1) (ad 4 t 2) (T.pc t) (T.us t) (T.fl i) (fun x => if x < 8 then mm_pgs T t x else 0) wfl σ (mm_XT hX ht2) (mm_XTp hX ht2)) mw_514 mw_515 mw_516 mw_28 mw_517 ⟨pmX5_pagesWith, (Nat.le_of_ble_eq_true rfl), (Nat.le_of_ble_eq_true rfl)⟩ (mm_recv F.2.2.2.2.2.1 hN (mm_XT hX ht2) rfl) hl.1 rfl (Nat.le_of_ble_eq_true rfl) ⟨(Nat.le_of_ble_eq_true rfl), (Nat.le_of_ble_eq_true rfl)⟩ dX6_nextOutcome_33
        (fun _ _ _ _ _ _ h9 => False.elim h9)
        (fun v9 σ9 H locs hp9 hN => ?_)
      obtain ⟨rfl, h9⟩ := hp9
      rw [h9] at hN
      refine W.eq (g2 := F0 m 36 ls [.int (nI ((fun x => if x < 8 then mm_pgs T t x else 0) (T.fl i)))]) rfl ?_
      refine W.widen (k := 0) (n := 0) (Nat.le_of_ble_eq_true rfl) (Nat.le_of_ble_eq_true rfl) ?_
      refine W.eq (g2 := F0 m 36 ls [.int (nI (mm_pgs T t (T.fl i)))]) (congrArg (fun q => F0 m 36 ls [Value.int (nI q)]) (if_pos wfl)) ?_
      refine lv_istore (pc := 36) (lv' := [(5, .int (nI (mm_pgs T t (T.fl i)))), (4, .ref ((ad 1 (T.ho i) 0))), (0, .ref ((ad 0 0 0))), (1, .ref ((ad 2 i 0))), (2, .ref ((ad 3 t 0))), (3, .int (nI hh))]) F.1 F.2.1 dX6_nextOutcome_36 hl (by decide) rfl (fun ls hl => ?_)
      refine lv_iload (pc := 38) F.1 F.2.1 dX6_nextOutcome_38 (lv_at hl 0 rfl) ?_
      refine mm_if_ne (pc := 40) F (tgt := 46) (by omega) dX6_nextOutcome_40 (by decide) (fun cz40 => ?_) (fun cz40 => ?_)
      ·
        refine lv_iload_n (pc := 46) F.1 F.2.1 dX6_nextOutcome_46 rfl (lv_at hl 5 rfl) ?_
        refine mm_if_eq (pc := 47) F (tgt := 61) (by omega) dX6_nextOutcome_47 (by decide) (fun cz47 => ?_) (fun cz47 => ?_)
        ·
          have ho8 : mm_obs T t hh i = 45 := by rw [mm_obs, if_neg (fun q => q hre), if_neg hbad, if_neg cz40, if_neg (fun q => q.1 cz47)]
          refine lv_aload (pc := 61) F.1 F.2.1 dX6_nextOutcome_61 (lv_at hl 1 rfl) ?_
          refine lv_iconst (pc := 63) (v := nI 1) F.1 F.2.1 dX6_nextOutcome_63 (by decide) ?_
          refine mm_put (pc := 64) F hN (mm_XA hX (i := (T.ho i)) (by omega)) (ci := 0) rfl 5 (by decide) mw_232 rfl (ty := .boolean) (by decide +kernel) (by decide) (by decide) (Nat.le_of_ble_eq_true rfl) dX6_nextOutcome_64 (fun H locs hN => ?_)
          have hN : mm_N b D s (mm_u σ ((ad 1 (T.ho i) 0)) (mm_obj 0 0 [.int (nI (T.ho i)), .int (nI (T.co (T.ho i))), .int (nI (T.sk (T.ho i))), .int (nI (T.go (T.ho i))), .int (nI (z.sk (T.ho i))), .int (nI 1)])) _ _ := hN
          have hXA := mm_Xz1 (v := z 1 (T.ho i)) (w := 1) hX (i := T.ho i) who
          have hFA := mm_Fr.u (x := mm_obj 0 0 [.int (nI (T.ho i)), .int (nI (T.co (T.ho i))), .int (nI (T.sk (T.ho i))), .int (nI (T.go (T.ho i))), .int (nI (z.sk (T.ho i))), .int (nI 1)]) (mm_XA hX (i := T.ho i) who)
          obtain ⟨σA, eσA⟩ : ∃ q, q = mm_u σ ((ad 1 (T.ho i) 0)) (mm_obj 0 0 [.int (nI (T.ho i)), .int (nI (T.co (T.ho i))), .int (nI (T.sk (T.ho i))), .int (nI (T.go (T.ho i))), .int (nI (z.sk (T.ho i))), .int (nI 1)]) := ⟨_, rfl⟩
          rw [← eσA] at hN
          obtain ⟨zA, ezA⟩ : ∃ q, q = mm_zw (mm_zw z 1 (T.ho i) (z 1 (T.ho i))) 2 (T.ho i) 1 := ⟨_, rfl⟩
          have hXA : mm_X σA T zA ad := by rw [eσA, ezA]; exact hXA
          have hFA : mm_Fr 0 σ σA := by rw [eσA]; exact hFA
          obtain ⟨i1, i2, i3, i4, i5⟩ := hI
          have z0 : zA 0 0 = (mm_lf T t hh i).1 := by rw [ezA]; exact i3
          have z1 : zA 0 1 = (mm_lf T t hh i).2.1 := by rw [ezA]; exact i4
          have z2 : zA 0 2 = (mm_lf T t hh i).2.2 := by rw [ezA]; exact i5
          have z3 : zA 3 = z 3 := by rw [ezA]; rfl
          have zs : ∀ a, a < T.nA → zA 1 a = (if mm_ends T a = true then 0 else T.sk a) := fun a ha => by
            rw [ezA, mm_zw_ne (fun e => absurd e.1 (by decide))]
            by_cases e : a = T.ho i
            · rw [e, mm_zw_at]; exact i1 _ who
            · rw [mm_zw_ne (fun q => e q.2)]; exact i1 a ha
          have zv : ∀ a, a < T.nA → zA 2 a = (if mm_srv T t a (i + 1) = true then 1 else 0) := fun a ha => by
            rw [ezA, mm_srv1]
            by_cases e : a = T.ho i
            · rw [e, mm_zw_at, decide_eq_true ⟨rfl, hre, hgd, by omega⟩, Bool.or_true, if_pos rfl]
            · rw [mm_zw_ne (fun q => e q.2), mm_zw_ne (fun q => absurd q.1 (by decide)), decide_eq_false (fun q => e q.1.symm), Bool.or_false]; exact i2 a ha
          have hle := mm_lf_le hW t hh i
          refine lv_aload_n (pc := 67) F.1 F.2.1 dX6_nextOutcome_67 rfl (lv_at hl 2 rfl) ?_
          refine mm_get (pc := 68) F hN (mm_X0 hXA) (ci := 6) rfl 6 (by decide) mw_91 rfl dX6_nextOutcome_68 ?_
          refine lv_iload (pc := 71) F.1 F.2.1 dX6_nextOutcome_71 (lv_at hl 0 rfl) ?_
          refine mm_runV (pc := 73) (As := [.int (nI (mm_pgs T t (T.fl i)))]) (rest := []) F hN (c_take l b D hst (mm_pgs T t (T.fl i)) 0 (ad 0 7 0) (zA.l0) (zA.l1) (zA.l2) _ (mm_X7 hXA) (by show _ ≤ 100 ∧ zA 0 0 ≤ 1000000 ∧ zA 0 1 ≤ 1000000 ∧ zA 0 2 ≤ 1000000; omega)) mw_581 mw_582 mw_583 mw_5 mw_584 ⟨pmX4_take, (Nat.le_of_ble_eq_true rfl), (Nat.le_of_ble_eq_true rfl)⟩ (mm_recv F.2.2.2.2.2.1 hN (mm_X7 hXA) rfl) hl.1 rfl (Nat.le_of_ble_eq_true rfl) ⟨(Nat.le_of_ble_eq_true rfl), (Nat.le_of_ble_eq_true rfl)⟩ dX6_nextOutcome_73
            (fun _ _ _ _ _ _ h9 => False.elim h9)
            (fun v9 σ9 H locs hp9 hN => ?_)
          obtain ⟨rfl, hσ9⟩ := hp9
          refine W.eq (g2 := F0 m 76 ls [.int (nI (if mm_pgs T t (T.fl i) ≤ zA.l0 ∧ 1 ≤ (if 3 < mm_pgs T t (T.fl i) then zA.l2 else zA.l1) then 1 else 0))]) rfl ?_
          refine W.widen (k := 0) (n := 0) (Nat.le_of_ble_eq_true rfl) (Nat.le_of_ble_eq_true rfl) ?_
          by_cases hb76 : mm_pgs T t (T.fl i) ≤ zA.l0 ∧ 1 ≤ (if 3 < mm_pgs T t (T.fl i) then zA.l2 else zA.l1)
          ·
            refine W.eq (g2 := F0 m 76 ls [.int (nI 1)]) (by rw [if_pos hb76]) ?_
            rw [if_pos hb76] at hσ9
            have hX9 := mm_Xz0 hXA (a := zA.l0 - mm_pgs T t (T.fl i)) (c := if 3 < mm_pgs T t (T.fl i) then zA.l1 else zA.l1 - 1) (e := if 3 < mm_pgs T t (T.fl i) then zA.l2 - 1 else zA.l2)
            rw [← hσ9] at hX9
            have hF9 : mm_Fr 0 σA σ9 := by rw [hσ9]; exact mm_Fr.u (mm_X7 hXA)
            have hf9 : mm_fit (mm_lf T t hh i) (mm_pgs T t (T.fl i)) := by
              have q := hb76
              rw [show zA.l0 = _ from z0, show zA.l1 = _ from z1, show zA.l2 = _ from z2] at q
              exact q
            have hl9 : mm_lf T t hh (i + 1) = mm_tk (mm_lf T t hh i) (mm_pgs T t (T.fl i)) := by rw [mm_lf, if_pos ⟨ho8, hf9⟩]
            refine mm_if_eq (pc := 76) F (tgt := 84) (by omega) dX6_nextOutcome_76 (by decide) (fun h9 => absurd h9 (by decide)) (fun cz76 => ?_)
            refine lv_bipush (pc := 79) (v := nI 108) F.1 F.2.1 dX6_nextOutcome_79 (by decide) ?_
            refine lv_goto (pc := 81) (tgt := 86) F.1 F.2.1 dX6_nextOutcome_81 (by decide) ?_
            exact mm_zret (pc := 86) F (ty := .char) hr hN (by decide) (⟨by rw [mm_oc, if_neg (fun q => q ho8), if_pos hf9], _, hX9, hFA.tr hF9, ⟨zs, zv, by rw [hl9]; exact congrArg (· - mm_pgs T t (T.fl i)) z0, by rw [hl9]; show (if 3 < mm_pgs T t (T.fl i) then zA 0 1 else zA 0 1 - 1) = _; rw [z1]; rfl, by rw [hl9]; show (if 3 < mm_pgs T t (T.fl i) then zA 0 2 - 1 else zA 0 2) = _; rw [z2]; rfl⟩, z3⟩) (Nat.le_of_ble_eq_true rfl) (Nat.le_of_ble_eq_true rfl) dX6_nextOutcome_86
          ·
            refine W.eq (g2 := F0 m 76 ls [.int (nI 0)]) (by rw [if_neg hb76]) ?_
            rw [if_neg hb76] at hσ9
            rw [hσ9] at hN
            have hf9 : ¬ mm_fit (mm_lf T t hh i) (mm_pgs T t (T.fl i)) := by
              have q := hb76
              rw [show zA.l0 = _ from z0, show zA.l1 = _ from z1, show zA.l2 = _ from z2] at q
              exact q
            have hl9 : mm_lf T t hh (i + 1) = mm_lf T t hh i := by rw [mm_lf, if_neg (fun q => hf9 q.2)]
            refine mm_if_eq (pc := 76) F (tgt := 84) (by omega) dX6_nextOutcome_76 (by decide) (fun cz76 => ?_) (fun h9 => absurd h9 (by decide))
            refine lv_bipush (pc := 84) (v := nI 112) F.1 F.2.1 dX6_nextOutcome_84 (by decide) ?_
            exact mm_zret (pc := 86) F (ty := .char) hr hN (by decide) (⟨by rw [mm_oc, if_neg (fun q => q ho8), if_neg hf9], zA, hXA, hFA, ⟨zs, zv, by rw [hl9]; exact z0, by rw [hl9]; exact z1, by rw [hl9]; exact z2⟩, z3⟩) (Nat.le_of_ble_eq_true rfl) (Nat.le_of_ble_eq_true rfl) dX6_nextOutcome_86
        ·
          refine lv_aload (pc := 50) F.1 F.2.1 dX6_nextOutcome_50 (lv_at hl 1 rfl) ?_
          refine mm_get (pc := 52) F hN (mm_XA hX (i := (T.ho i)) (by omega)) (ci := 0) rfl 5 (by decide) mw_232 rfl dX6_nextOutcome_52 ?_
          have hsv : z.sv (T.ho i) = (if mm_sec T t i = true then 1 else 0) := by rw [← mm_srv_sec hgd]; exact hI.2.1 (T.ho i) who
          have hsv2 : z.sv (T.ho i) < 2 := by rw [hsv]; split <;> decide
          refine mm_if_eq (pc := 55) F (tgt := 61) (by omega) dX6_nextOutcome_55 (by decide) (fun cz55 => ?_) (fun cz55 => ?_)
          ·
            have ho8 : mm_obs T t hh i = 45 := by
              rw [mm_obs, if_neg (fun q => q hre), if_neg hbad, if_neg cz40, if_neg (fun q => ?_)]
              rw [q.2, if_pos rfl] at hsv
              rw [hsv] at cz55
              cases cz55
            refine lv_aload (pc := 61) F.1 F.2.1 dX6_nextOutcome_61 (lv_at hl 1 rfl) ?_
            refine lv_iconst (pc := 63) (v := nI 1) F.1 F.2.1 dX6_nextOutcome_63 (by decide) ?_
            refine mm_put (pc := 64) F hN (mm_XA hX (i := (T.ho i)) (by omega)) (ci := 0) rfl 5 (by decide) mw_232 rfl (ty := .boolean) (by decide +kernel) (by decide) (by decide) (Nat.le_of_ble_eq_true rfl) dX6_nextOutcome_64 (fun H locs hN => ?_)
            have hN : mm_N b D s (mm_u σ ((ad 1 (T.ho i) 0)) (mm_obj 0 0 [.int (nI (T.ho i)), .int (nI (T.co (T.ho i))), .int (nI (T.sk (T.ho i))), .int (nI (T.go (T.ho i))), .int (nI (z.sk (T.ho i))), .int (nI 1)])) _ _ := hN
            have hXA := mm_Xz1 (v := z 1 (T.ho i)) (w := 1) hX (i := T.ho i) who
            have hFA := mm_Fr.u (x := mm_obj 0 0 [.int (nI (T.ho i)), .int (nI (T.co (T.ho i))), .int (nI (T.sk (T.ho i))), .int (nI (T.go (T.ho i))), .int (nI (z.sk (T.ho i))), .int (nI 1)]) (mm_XA hX (i := T.ho i) who)
            obtain ⟨σA, eσA⟩ : ∃ q, q = mm_u σ ((ad 1 (T.ho i) 0)) (mm_obj 0 0 [.int (nI (T.ho i)), .int (nI (T.co (T.ho i))), .int (nI (T.sk (T.ho i))), .int (nI (T.go (T.ho i))), .int (nI (z.sk (T.ho i))), .int (nI 1)]) := ⟨_, rfl⟩
            rw [← eσA] at hN
            obtain ⟨zA, ezA⟩ : ∃ q, q = mm_zw (mm_zw z 1 (T.ho i) (z 1 (T.ho i))) 2 (T.ho i) 1 := ⟨_, rfl⟩
            have hXA : mm_X σA T zA ad := by rw [eσA, ezA]; exact hXA
            have hFA : mm_Fr 0 σ σA := by rw [eσA]; exact hFA
            obtain ⟨i1, i2, i3, i4, i5⟩ := hI
            have z0 : zA 0 0 = (mm_lf T t hh i).1 := by rw [ezA]; exact i3
            have z1 : zA 0 1 = (mm_lf T t hh i).2.1 := by rw [ezA]; exact i4
            have z2 : zA 0 2 = (mm_lf T t hh i).2.2 := by rw [ezA]; exact i5
            have z3 : zA 3 = z 3 := by rw [ezA]; rfl
            have zs : ∀ a, a < T.nA → zA 1 a = (if mm_ends T a = true then 0 else T.sk a) := fun a ha => by
              rw [ezA, mm_zw_ne (fun e => absurd e.1 (by decide))]
              by_cases e : a = T.ho i
              · rw [e, mm_zw_at]; exact i1 _ who
              · rw [mm_zw_ne (fun q => e q.2)]; exact i1 a ha
            have zv : ∀ a, a < T.nA → zA 2 a = (if mm_srv T t a (i + 1) = true then 1 else 0) := fun a ha => by
              rw [ezA, mm_srv1]
              by_cases e : a = T.ho i
              · rw [e, mm_zw_at, decide_eq_true ⟨rfl, hre, hgd, by omega⟩, Bool.or_true, if_pos rfl]
              · rw [mm_zw_ne (fun q => e q.2), mm_zw_ne (fun q => absurd q.1 (by decide)), decide_eq_false (fun q => e q.1.symm), Bool.or_false]; exact i2 a ha
            have hle := mm_lf_le hW t hh i
            refine lv_aload_n (pc := 67) F.1 F.2.1 dX6_nextOutcome_67 rfl (lv_at hl 2 rfl) ?_
            refine mm_get (pc := 68) F hN (mm_X0 hXA) (ci := 6) rfl 6 (by decide) mw_91 rfl dX6_nextOutcome_68 ?_
            refine lv_iload (pc := 71) F.1 F.2.1 dX6_nextOutcome_71 (lv_at hl 0 rfl) ?_
            refine mm_runV (pc := 73) (As := [.int (nI (mm_pgs T t (T.fl i)))]) (rest := []) F hN (c_take l b D hst (mm_pgs T t (T.fl i)) 0 (ad 0 7 0) (zA.l0) (zA.l1) (zA.l2) _ (mm_X7 hXA) (by show _ ≤ 100 ∧ zA 0 0 ≤ 1000000 ∧ zA 0 1 ≤ 1000000 ∧ zA 0 2 ≤ 1000000; omega)) mw_581 mw_582 mw_583 mw_5 mw_584 ⟨pmX4_take, (Nat.le_of_ble_eq_true rfl), (Nat.le_of_ble_eq_true rfl)⟩ (mm_recv F.2.2.2.2.2.1 hN (mm_X7 hXA) rfl) hl.1 rfl (Nat.le_of_ble_eq_true rfl) ⟨(Nat.le_of_ble_eq_true rfl), (Nat.le_of_ble_eq_true rfl)⟩ dX6_nextOutcome_73
              (fun _ _ _ _ _ _ h9 => False.elim h9)
              (fun v9 σ9 H locs hp9 hN => ?_)
            obtain ⟨rfl, hσ9⟩ := hp9
            refine W.eq (g2 := F0 m 76 ls [.int (nI (if mm_pgs T t (T.fl i) ≤ zA.l0 ∧ 1 ≤ (if 3 < mm_pgs T t (T.fl i) then zA.l2 else zA.l1) then 1 else 0))]) rfl ?_
            refine W.widen (k := 0) (n := 0) (Nat.le_of_ble_eq_true rfl) (Nat.le_of_ble_eq_true rfl) ?_
            by_cases hb76 : mm_pgs T t (T.fl i) ≤ zA.l0 ∧ 1 ≤ (if 3 < mm_pgs T t (T.fl i) then zA.l2 else zA.l1)
            ·
              refine W.eq (g2 := F0 m 76 ls [.int (nI 1)]) (by rw [if_pos hb76]) ?_
              rw [if_pos hb76] at hσ9
              have hX9 := mm_Xz0 hXA (a := zA.l0 - mm_pgs T t (T.fl i)) (c := if 3 < mm_pgs T t (T.fl i) then zA.l1 else zA.l1 - 1) (e := if 3 < mm_pgs T t (T.fl i) then zA.l2 - 1 else zA.l2)
              rw [← hσ9] at hX9
              have hF9 : mm_Fr 0 σA σ9 := by rw [hσ9]; exact mm_Fr.u (mm_X7 hXA)
              have hf9 : mm_fit (mm_lf T t hh i) (mm_pgs T t (T.fl i)) := by
                have q := hb76
                rw [show zA.l0 = _ from z0, show zA.l1 = _ from z1, show zA.l2 = _ from z2] at q
                exact q
              have hl9 : mm_lf T t hh (i + 1) = mm_tk (mm_lf T t hh i) (mm_pgs T t (T.fl i)) := by rw [mm_lf, if_pos ⟨ho8, hf9⟩]
              refine mm_if_eq (pc := 76) F (tgt := 84) (by omega) dX6_nextOutcome_76 (by decide) (fun h9 => absurd h9 (by decide)) (fun cz76 => ?_)
              refine lv_bipush (pc := 79) (v := nI 108) F.1 F.2.1 dX6_nextOutcome_79 (by decide) ?_
              refine lv_goto (pc := 81) (tgt := 86) F.1 F.2.1 dX6_nextOutcome_81 (by decide) ?_
              exact mm_zret (pc := 86) F (ty := .char) hr hN (by decide) (⟨by rw [mm_oc, if_neg (fun q => q ho8), if_pos hf9], _, hX9, hFA.tr hF9, ⟨zs, zv, by rw [hl9]; exact congrArg (· - mm_pgs T t (T.fl i)) z0, by rw [hl9]; show (if 3 < mm_pgs T t (T.fl i) then zA 0 1 else zA 0 1 - 1) = _; rw [z1]; rfl, by rw [hl9]; show (if 3 < mm_pgs T t (T.fl i) then zA 0 2 - 1 else zA 0 2) = _; rw [z2]; rfl⟩, z3⟩) (Nat.le_of_ble_eq_true rfl) (Nat.le_of_ble_eq_true rfl) dX6_nextOutcome_86
            ·
              refine W.eq (g2 := F0 m 76 ls [.int (nI 0)]) (by rw [if_neg hb76]) ?_
              rw [if_neg hb76] at hσ9
              rw [hσ9] at hN
              have hf9 : ¬ mm_fit (mm_lf T t hh i) (mm_pgs T t (T.fl i)) := by
                have q := hb76
                rw [show zA.l0 = _ from z0, show zA.l1 = _ from z1, show zA.l2 = _ from z2] at q
                exact q
              have hl9 : mm_lf T t hh (i + 1) = mm_lf T t hh i := by rw [mm_lf, if_neg (fun q => hf9 q.2)]
              refine mm_if_eq (pc := 76) F (tgt := 84) (by omega) dX6_nextOutcome_76 (by decide) (fun cz76 => ?_) (fun h9 => absurd h9 (by decide))
              refine lv_bipush (pc := 84) (v := nI 112) F.1 F.2.1 dX6_nextOutcome_84 (by decide) ?_
              exact mm_zret (pc := 86) F (ty := .char) hr hN (by decide) (⟨by rw [mm_oc, if_neg (fun q => q ho8), if_neg hf9], zA, hXA, hFA, ⟨zs, zv, by rw [hl9]; exact z0, by rw [hl9]; exact z1, by rw [hl9]; exact z2⟩, z3⟩) (Nat.le_of_ble_eq_true rfl) (Nat.le_of_ble_eq_true rfl) dX6_nextOutcome_86
          ·
            have hsec : mm_sec T t i = true := by
              by_cases q : mm_sec T t i = true
              · exact q
              · rw [if_neg q] at hsv; exact absurd hsv cz55
            refine lv_bipush (pc := 58) (v := nI 104) F.1 F.2.1 dX6_nextOutcome_58 (by decide) ?_
            have ho8 : mm_obs T t hh i = 104 := by rw [mm_obs, if_neg (fun q => q hre), if_neg hbad, if_neg cz40, if_pos ⟨cz47, hsec⟩]
            have ho9 : ¬ mm_obs T t hh i = 45 := by rw [ho8]; decide
            exact mm_zret (pc := 60) F (ty := .char) hr hN (by decide) (⟨by rw [mm_oc, if_pos ho9, ho8], z, hX, mm_Fr.rf, mm_dI_same hI ho9 (fun a => by rw [mm_srv1]; exact by by_cases e : a = T.ho i; subst e; rw [mm_srv_sec hgd, hsec, Bool.true_or]; rw [decide_eq_false (fun q => e q.1.symm), Bool.or_false]), rfl⟩) (Nat.le_of_ble_eq_true rfl) (Nat.le_of_ble_eq_true rfl) dX6_nextOutcome_60
      ·
        refine lv_bipush (pc := 43) (v := nI 101) F.1 F.2.1 dX6_nextOutcome_43 (by decide) ?_
        have ho8 : mm_obs T t hh i = 101 := by rw [mm_obs, if_neg (fun q => q hre), if_neg hbad, if_pos cz40]
        have ho9 : ¬ mm_obs T t hh i = 45 := by rw [ho8]; decide
        exact mm_zret (pc := 45) F (ty := .char) hr hN (by decide) (⟨by rw [mm_oc, if_pos ho9, ho8], z, hX, mm_Fr.rf, mm_dI_same hI ho9 (fun a => by rw [mm_srv1]; exact by rw [decide_eq_false (fun q => by have := q.2.2.2; omega), Bool.or_false]), rfl⟩) (Nat.le_of_ble_eq_true rfl) (Nat.le_of_ble_eq_true rfl) dX6_nextOutcome_45
    ·
      have hbad : ¬ (nI (T.sk (T.ho i)) < nI 2) ∧ mm_ends T (T.ho i) = false := ⟨fun q => cz22 (hdr.mpr (Or.inl q)), by cases hq : mm_ends T (T.ho i) with | true => exact absurd (hdr.mpr (Or.inr hq)) cz22 | false => rfl⟩
      refine lv_bipush (pc := 25) (v := nI 98) F.1 F.2.1 dX6_nextOutcome_25 (by decide) ?_
      have ho8 : mm_obs T t hh i = 98 := by rw [mm_obs, if_neg (fun q => q hre), if_pos hbad]
      have ho9 : ¬ mm_obs T t hh i = 45 := by rw [ho8]; decide
      exact mm_zret (pc := 27) F (ty := .char) hr hN (by decide) (⟨by rw [mm_oc, if_pos ho9, ho8], z, hX, mm_Fr.rf, mm_dI_same hI ho9 (fun a => by rw [mm_srv1]; exact by rw [decide_eq_false (fun q => by rcases q with ⟨q1, -, q3, -⟩; subst q1; exact cz22 (hdr.mpr q3)), Bool.or_false]), rfl⟩) (Nat.le_of_ble_eq_true rfl) (Nat.le_of_ble_eq_true rfl) dX6_nextOutcome_27
  ·
    refine W.eq (g2 := F0 m 4 ls [.int (nI 1)]) (by rw [if_neg hre]) ?_
    refine mm_if_eq (pc := 4) F (tgt := 10) (by omega) dX6_nextOutcome_4 (by decide) (fun h9 => absurd h9 (by decide)) (fun cz4 => ?_)
    refine lv_bipush (pc := 7) (v := nI 115) F.1 F.2.1 dX6_nextOutcome_7 (by decide) ?_
    have ho8 : mm_obs T t hh i = 115 := by rw [mm_obs, if_pos hre]
    have ho9 : ¬ mm_obs T t hh i = 45 := by rw [ho8]; decide
    exact mm_zret (pc := 9) F (ty := .char) hr hN (by decide) (⟨by rw [mm_oc, if_pos ho9, ho8], z, hX, mm_Fr.rf, mm_dI_same hI ho9 (fun a => by rw [mm_srv1]; exact by rw [decide_eq_false (fun q => hre q.2.1), Bool.or_false]), rfl⟩) (Nat.le_of_ble_eq_true rfl) (Nat.le_of_ble_eq_true rfl) dX6_nextOutcome_9

