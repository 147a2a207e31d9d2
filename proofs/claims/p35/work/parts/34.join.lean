/-- the homes, where the first i people have moved from o2 to a -/
def mm_jo (T : mm_T) (a o2 i : Nat) : Nat → Nat → Nat := fun p j => if p < i ∧ T.ho p = o2 ∧ j = 0 then a else T 4 p j
theorem mm_jo0 {T : mm_T} {a o2 : Nat} : T.w 4 (mm_jo T a o2 0) = T := mm_ws (by
  funext p j
  exact if_neg (fun e => absurd e.1 (Nat.not_lt_zero _)))
theorem mm_jo_at {T : mm_T} {a o2 i : Nat} : mm_jo T a o2 i i 0 = T.ho i := if_neg (fun e => absurd e.1 (Nat.lt_irrefl _))
theorem mm_jo1 {T : mm_T} {a o2 i : Nat} (h : T.ho i = o2) : mm_u2 (mm_jo T a o2 i) i 0 a = mm_jo T a o2 (i + 1) := by
  funext p j
  by_cases e : p = i ∧ j = 0
  · obtain ⟨rfl, rfl⟩ := e
    rw [mm_u2_at]
    exact (if_pos ⟨Nat.lt_succ_self _, h, rfl⟩).symm
  · rw [mm_u2, if_neg e, mm_jo, mm_jo]
    by_cases g : p < i ∧ T.ho p = o2 ∧ j = 0
    · rw [if_pos g, if_pos ⟨Nat.lt_succ_of_lt g.1, g.2⟩]
    · rw [if_neg g, if_neg (fun q => g ⟨by
        have := q.1
        have : p ≠ i := fun z => e ⟨z, q.2.2⟩
        omega, q.2⟩)]
theorem mm_jon {T : mm_T} {a o2 i : Nat} (h : ¬ T.ho i = o2) : mm_jo T a o2 i = mm_jo T a o2 (i + 1) := by
  funext p j
  rw [mm_jo, mm_jo]
  by_cases g : p < i ∧ T.ho p = o2 ∧ j = 0
  · rw [if_pos g, if_pos ⟨Nat.lt_succ_of_lt g.1, g.2⟩]
  · rw [if_neg g, if_neg (fun q => g ⟨by
      have h1 := q.1
      have : p ≠ i := fun z => h (z ▸ q.2.1)
      omega, q.2⟩)]
theorem mm_ww {T : mm_T} {k : Nat} {f g : Nat → Nat → Nat} : (T.w k f).w k g = T.w k g := by
  funext q
  by_cases e : q = k
  · subst e; rw [mm_T.wi, mm_T.wi]
  · rw [mm_T.wo e, mm_T.wo e, mm_T.wo e]
def mm_t_join (T : mm_T) (a o2 : Nat) : mm_T := ((T.w 4 (mm_jo T a o2 T.nP)).w 2 (mm_u2 (T 2) a 0 (T.sk a + T.sk o2))).w 3 (mm_u2 (T 3) o2 0 1)
def mm_q_join (T : mm_T) (a : Nat) (o2 : Nat) : Nat := if (a < T.nA ∧ T.go a = 0) ∧ (o2 < T.nA ∧ T.go o2 = 0) then (if a = o2 then 2 else 0) else 1
set_option maxHeartbeats 4000000 in
set_option maxRecDepth 100000 in
theorem a_join (l : Launch) (b : Nat) (D : mm_D) (hst : l.stackTraces = false) (T : mm_T) (z : mm_Z) (ad : Nat → Nat → Nat → Nat) (σ : mm_S) (hX : mm_X σ T z ad) (hW : mm_WF T) (a : Nat) (za : a < 2 ^ 32) (o2 : Nat) (zo2 : o2 < 2 ^ 32) : mm_K l b D yX6_join (.code yX6_join cX6_join 8 (some .int)) ({ frames := 8, cells := 8, slots := 60, locals := 220 } : Room) [.ref ((ad 0 0 0)), .int (nI a), .int (nI o2)] σ
    (fun v σ2 => mm_q_join T a o2 = 0 ∧ v = some (.int (nI (mm_sm (fun p => if T.ho p = o2 then 1 else 0) T.nP))) ∧ mm_Xt σ σ2 (mm_t_join T a o2) (ad 0 0 0))
    (fun E σ2 => ((mm_q_join T a o2 = 1 ∧ E = "java/lang/IndexOutOfBoundsException") ∨ (mm_q_join T a o2 = 2 ∧ E = "java/lang/IllegalArgumentException")) ∧ mm_Xt σ σ2 T (ad 0 0 0)) := by
  refine mm_of (cc := cX6_join) (nL := 8) (ret := (some .int)) (by decide) rfl (Nat.le_of_ble_eq_true rfl) hst ?_
  intro p e s m args below meth c ls F ht hr hin hN hl
  have hl : lv_has ls 8 [(0, .ref ((ad 0 0 0))), (1, .int (nI a)), (2, .int (nI o2))] := hl
  have wnA := hW.hnA
  have wnP := hW.hnP
  have wnT := hW.hnT
  have wnR := hW.hnR
  have wpa := hW.hpa
  have wbo := hW.hbo
  have wen0 := hW.hen 0
  have wen1 := hW.hen 1
  refine lv_aload_n (pc := 0) F.1 F.2.1 dX6_join_0 rfl (lv_at hl 0 rfl) ?_
  refine lv_iload_n (pc := 1) F.1 F.2.1 dX6_join_1 rfl (lv_at hl 1 rfl) ?_
  refine mm_runV (pc := 2) (As := [.int (nI a)]) (rest := []) F hN (c_addressAt l b D hst T z ad σ hX hW a (by omega)) mw_340 mw_342 mw_p4 mw_1 mw_343 ⟨pmX6_addressAt, (Nat.le_of_ble_eq_true rfl), (Nat.le_of_ble_eq_true rfl)⟩ (mm_recv F.2.2.2.2.2.1 hN (mm_X0 hX) rfl) hl.1 rfl (Nat.le_of_ble_eq_true rfl) ⟨(Nat.le_of_ble_eq_true rfl), (Nat.le_of_ble_eq_true rfl)⟩ dX6_join_2
    (fun E9 σ9 H9 l9 q9 ce9 hp9 hN9 hq9 hv9 hcl9 => mm_out F ht hN9 (by obtain ⟨g1, g2, g3⟩ := hp9; exact ⟨Or.inl (⟨by unfold mm_q_join; (repeat' split) <;> omega, g1⟩), mm_Xt.rf hX g3⟩) hq9 hv9 hcl9 (Nat.le_of_ble_eq_true rfl) (Nat.le_of_ble_eq_true rfl))
    (fun v9 σ9 H locs hp9 hN => ?_)
  obtain ⟨han, gan, rfl, h9⟩ := hp9
  refine W.eq (g2 := F0 m 5 ls [.ref ((ad 1 a 0))]) rfl ?_
  refine W.widen (k := 1) (n := 6) (Nat.le_of_ble_eq_true rfl) (Nat.le_of_ble_eq_true rfl) ?_
  rw [h9] at hN
  refine lv_astore_n (pc := 5) (lv' := [(3, .ref ((ad 1 a 0))), (0, .ref ((ad 0 0 0))), (1, .int (nI a)), (2, .int (nI o2))]) F.1 F.2.1 dX6_join_5 rfl hl (by decide) rfl (fun ls hl => ?_)
  refine lv_aload_n (pc := 6) F.1 F.2.1 dX6_join_6 rfl (lv_at hl 1 rfl) ?_
  refine lv_iload_n (pc := 7) F.1 F.2.1 dX6_join_7 rfl (lv_at hl 3 rfl) ?_
  refine mm_runV (pc := 8) (As := [.int (nI o2)]) (rest := []) F hN (c_addressAt l b D hst T z ad σ hX hW o2 (by omega)) mw_340 mw_342 mw_p4 mw_1 mw_343 ⟨pmX6_addressAt, (Nat.le_of_ble_eq_true rfl), (Nat.le_of_ble_eq_true rfl)⟩ (mm_recv F.2.2.2.2.2.1 hN (mm_X0 hX) rfl) hl.1 rfl (Nat.le_of_ble_eq_true rfl) ⟨(Nat.le_of_ble_eq_true rfl), (Nat.le_of_ble_eq_true rfl)⟩ dX6_join_8
    (fun E9 σ9 H9 l9 q9 ce9 hp9 hN9 hq9 hv9 hcl9 => mm_out F ht hN9 (by obtain ⟨g1, g2, g3⟩ := hp9; exact ⟨Or.inl (⟨by unfold mm_q_join; (repeat' split) <;> omega, g1⟩), mm_Xt.rf hX g3⟩) hq9 hv9 hcl9 (Nat.le_of_ble_eq_true rfl) (Nat.le_of_ble_eq_true rfl))
    (fun v9 σ9 H locs hp9 hN => ?_)
  obtain ⟨ho2n, go2n, rfl, h9⟩ := hp9
  refine W.eq (g2 := F0 m 11 ls [.ref ((ad 1 o2 0))]) rfl ?_
  refine W.widen (k := 2) (n := 12) (Nat.le_of_ble_eq_true rfl) (Nat.le_of_ble_eq_true rfl) ?_
  rw [h9] at hN
  refine lv_astore (pc := 11) (lv' := [(4, .ref ((ad 1 o2 0))), (3, .ref ((ad 1 a 0))), (0, .ref ((ad 0 0 0))), (1, .int (nI a)), (2, .int (nI o2))]) F.1 F.2.1 dX6_join_11 hl (by decide) rfl (fun ls hl => ?_)
  refine lv_iload_n (pc := 13) F.1 F.2.1 dX6_join_13 rfl (lv_at hl 3 rfl) ?_
  refine lv_iload_n (pc := 14) F.1 F.2.1 dX6_join_14 rfl (lv_at hl 4 rfl) ?_
  refine mm_icmp_neB (pc := 15) F (x := a) (y := o2) (tgt := 28) (by omega) (by omega) dX6_join_15 (by decide) (fun cz15 => ?_) (fun cz15 => ?_)
  ·
    refine lv_iconst (pc := 28) (v := nI 0) F.1 F.2.1 dX6_join_28 (by decide) ?_
    refine lv_istore (pc := 29) (lv' := [(5, .int (nI 0)), (4, .ref ((ad 1 o2 0))), (3, .ref ((ad 1 a 0))), (0, .ref ((ad 0 0 0))), (1, .int (nI a)), (2, .int (nI o2))]) F.1 F.2.1 dX6_join_29 hl (by decide) rfl (fun ls hl => ?_)
    refine lv_iconst (pc := 31) (v := nI 0) F.1 F.2.1 dX6_join_31 (by decide) ?_
    refine lv_istore (pc := 32) (lv' := [(6, .int (nI 0)), (5, .int (nI 0)), (4, .ref ((ad 1 o2 0))), (3, .ref ((ad 1 a 0))), (0, .ref ((ad 0 0 0))), (1, .int (nI a)), (2, .int (nI o2))]) F.1 F.2.1 dX6_join_32 hl (by decide) rfl (fun ls hl => ?_)
    have hn := hW.hnP
    have lp34 : ∀ (k34 i : Nat) (mo : Nat) (σi : mm_S) (ls : Array Slot) (H : Heap) (locs : List Loc), T.nP < i + k34 → i ≤ T.nP → (mo = mm_sm (fun p => if T.ho p = o2 then 1 else 0) i) → (mm_X σi (T.w 4 (mm_jo T a o2 i)) z ad) → (mm_Fr 0 σ σi) → mm_N b D s σi H locs → lv_has ls 8 [(0, .ref ((ad 0 0 0))), (1, .int (nI a)), (2, .int (nI o2)), (3, .ref ((ad 1 a 0))), (4, .ref ((ad 1 o2 0))), (5, .int (nI mo)), (6, .int (nI i))] →
        W p l e ({ frames := 8, cells := 8, slots := 60, locals := 220 } : Room) s m args below meth c H locs (2) (12) (mm_Q b D (fun v σ2 => mm_q_join T a o2 = 0 ∧ v = some (.int (nI (mm_sm (fun p => if T.ho p = o2 then 1 else 0) T.nP))) ∧ mm_Xt σ σ2 (mm_t_join T a o2) (ad 0 0 0)) (fun E σ2 => ((mm_q_join T a o2 = 1 ∧ E = "java/lang/IndexOutOfBoundsException") ∨ (mm_q_join T a o2 = 2 ∧ E = "java/lang/IllegalArgumentException")) ∧ mm_Xt σ σ2 T (ad 0 0 0)) below args s ({ frames := 8, cells := 8, slots := 60, locals := 220 } : Room)) (F0 m 34 ls []) := by
      intro k34
      induction k34 with
      | zero => intro i mo σi ls H locs hk34 hi34 hmo hXi hFi hN hl; omega
      | succ k34 ih34 =>
        intro i mo σi ls H locs hk34 hi34 hmo hXi hFi hN hl
        have hXn : (T.w 4 (mm_jo T a o2 i)).nP = T.nP := rfl
        refine lv_iload (pc := 34) F.1 F.2.1 dX6_join_34 (lv_at hl 6 rfl) ?_
        refine lv_aload_n (pc := 36) F.1 F.2.1 dX6_join_36 rfl (lv_at hl 0 rfl) ?_
        refine mm_get (pc := 37) F hN (mm_X0 hXi) (ci := 6) rfl 1 (by decide) mw_86 rfl dX6_join_37 ?_
        refine mm_runV (pc := 40) (As := []) (rest := [.int (nI i)]) F hN (c_sz l b D hst 0 _ (T.nP) _ _ (mm_XL2 hXi) mm_rgl) mw_196 mw_197 mw_198 mw_4 mw_199 ⟨pmJx4a65c_size_8abf5, (Nat.le_of_ble_eq_true rfl), (Nat.le_of_ble_eq_true rfl)⟩ (mm_recvL F.2.2.2.2.2.1 hN (mm_XL2 hXi)) hl.1 rfl (Nat.le_of_ble_eq_true rfl) ⟨(Nat.le_of_ble_eq_true rfl), (Nat.le_of_ble_eq_true rfl)⟩ dX6_join_40
          (fun _ _ _ _ _ _ h9 => False.elim h9)
          (fun v9 σ9 H locs hp9 hN => ?_)
        obtain ⟨rfl, h9⟩ := hp9
        rw [h9] at hN
        refine W.eq (g2 := F0 m 43 ls [.int (nI T.nP), .int (nI i)]) rfl ?_
        refine W.widen (k := 2) (n := 12) (Nat.le_of_ble_eq_true rfl) (Nat.le_of_ble_eq_true rfl) ?_
        refine mm_icmp_ge (pc := 43) F (x := i) (y := T.nP) (tgt := 85) (by omega) (by omega) dX6_join_43 (by decide) (fun cz43 => ?_) (fun cz43 => ?_)
        ·
          refine lv_aload_n (pc := 85) F.1 F.2.1 dX6_join_85 rfl (lv_at hl 3 rfl) ?_
          refine lv_dup (pc := 86) F.1 F.2.1 dX6_join_86 rfl ?_
          refine mm_get (pc := 87) F hN (mm_XA hXi (i := a) (show a < T.nA by omega)) (ci := 0) rfl 2 (by decide) mw_227 rfl dX6_join_87 ?_
          refine lv_aload (pc := 90) F.1 F.2.1 dX6_join_90 (lv_at hl 4 rfl) ?_
          refine mm_get (pc := 92) F hN (mm_XA hXi (i := o2) (show o2 < T.nA by omega)) (ci := 0) rfl 2 (by decide) mw_227 rfl dX6_join_92 ?_
          refine mm_iadd (pc := 95) F (z := nI ((T.sk a) + (T.sk o2))) (nI_add _ _) dX6_join_95 ?_
          refine mm_put (pc := 96) F hN (mm_XA hXi (i := a) (show a < T.nA by omega)) (ci := 0) rfl 2 (by decide) mw_227 rfl (ty := .int) (by decide +kernel) (rfl) (rfl) (Nat.le_of_ble_eq_true rfl) dX6_join_96 (fun H locs hN => ?_)
          have hN : mm_N b D s (mm_u σi ((ad 1 a 0)) (mm_obj 0 0 [.int (nI a), .int (nI (T.co a)), .int (nI ((T.sk a) + (T.sk o2))), .int (nI (T.go a)), .int (nI (z.sk a)), .int (nI (z.sv a))])) _ _ := hN
          have hX2 := mm_X_set hXi (k := 1) (i := a) (j := 0) ⟨show a < T.nA by omega, rfl⟩ (T' := (T.w 4 (mm_jo T a o2 i)).w 2 (mm_u2 (T 2) a 0 (T.sk a + T.sk o2))) (z' := z) rfl mm_w2 (x := mm_O 0 [.int (nI a), .int (nI (T.co a)), .int (nI ((T.sk a) + (T.sk o2))), .int (nI (T.go a)), .int (nI (z.sk a)), .int (nI (z.sv a))]) (by show _ = mm_O 0 [.int (nI a), .int (nI (T.co a)), .int (nI (mm_u2 (T 2) a 0 (T.sk a + T.sk o2) a 0)), .int (nI (T.go a)), .int (nI (z.sk a)), .int (nI (z.sv a))]; rw [mm_u2_at])
          have hF2 : mm_Fr 0 _ _ := mm_Fr.u (x := mm_obj 0 0 [.int (nI a), .int (nI (T.co a)), .int (nI ((T.sk a) + (T.sk o2))), .int (nI (T.go a)), .int (nI (z.sk a)), .int (nI (z.sv a))]) (mm_XA hXi (i := a) (show a < T.nA by omega))
          obtain ⟨σ2, eσ2⟩ : ∃ q, q = mm_u σi ((ad 1 a 0)) (mm_obj 0 0 [.int (nI a), .int (nI (T.co a)), .int (nI ((T.sk a) + (T.sk o2))), .int (nI (T.go a)), .int (nI (z.sk a)), .int (nI (z.sv a))]) := ⟨_, rfl⟩
          obtain ⟨T2, eT2⟩ : ∃ q, q = (T.w 4 (mm_jo T a o2 i)).w 2 (mm_u2 (T 2) a 0 (T.sk a + T.sk o2)) := ⟨_, rfl⟩
          rw [← eσ2] at hN
          have hX2 : mm_X σ2 T2 z ad := by rw [eσ2, eT2]; exact hX2
          have hF2 : mm_Fr 0 σi σ2 := by rw [eσ2]; exact hF2
          have hqnA2 : T2.nA = (T.w 4 (mm_jo T a o2 i)).nA := by rw [eT2]; rfl
          have hqnP2 : T2.nP = (T.w 4 (mm_jo T a o2 i)).nP := by rw [eT2]; rfl
          have hqnT2 : T2.nT = (T.w 4 (mm_jo T a o2 i)).nT := by rw [eT2]; rfl
          have hqnR2 : T2.nR = (T.w 4 (mm_jo T a o2 i)).nR := by rw [eT2]; rfl
          have hA2 : T2.nA = T.nA := by rw [eT2]; rfl
          refine lv_aload (pc := 99) F.1 F.2.1 dX6_join_99 (lv_at hl 4 rfl) ?_
          refine lv_iconst (pc := 101) (v := nI 1) F.1 F.2.1 dX6_join_101 (by decide) ?_
          refine mm_put (pc := 102) F hN (mm_XA hX2 (i := o2) (by omega)) (ci := 0) rfl 3 (by decide) mw_228 rfl (ty := .boolean) (by decide +kernel) (mm_narZ (by decide)) (mm_fitZ (by decide)) (Nat.le_of_ble_eq_true rfl) dX6_join_102 (fun H locs hN => ?_)
          have hN : mm_N b D s (mm_u σ2 ((ad 1 o2 0)) (mm_obj 0 0 [.int (nI o2), .int (nI (T2.co o2)), .int (nI (T2.sk o2)), .int (nI 1), .int (nI (z.sk o2)), .int (nI (z.sv o2))])) _ _ := hN
          have hX3 := mm_X_set hX2 (k := 1) (i := o2) (j := 0) ⟨by show o2 < T2.nA; omega, rfl⟩ (T' := T2.w 3 (mm_u2 (T2 3) o2 0 1)) (z' := z) rfl mm_w3 (x := mm_O 0 [.int (nI o2), .int (nI (T2.co o2)), .int (nI (T2.sk o2)), .int (nI 1), .int (nI (z.sk o2)), .int (nI (z.sv o2))]) (by show _ = mm_O 0 [.int (nI o2), .int (nI (T2.co o2)), .int (nI (T2.sk o2)), .int (nI (mm_u2 (T2 3) o2 0 1 o2 0)), .int (nI (z.sk o2)), .int (nI (z.sv o2))]; rw [mm_u2_at])
          have hF3 : mm_Fr 0 _ _ := mm_Fr.u (x := mm_obj 0 0 [.int (nI o2), .int (nI (T2.co o2)), .int (nI (T2.sk o2)), .int (nI 1), .int (nI (z.sk o2)), .int (nI (z.sv o2))]) (mm_XA hX2 (i := o2) (by omega))
          obtain ⟨σ3, eσ3⟩ : ∃ q, q = mm_u σ2 ((ad 1 o2 0)) (mm_obj 0 0 [.int (nI o2), .int (nI (T2.co o2)), .int (nI (T2.sk o2)), .int (nI 1), .int (nI (z.sk o2)), .int (nI (z.sv o2))]) := ⟨_, rfl⟩
          obtain ⟨T3, eT3⟩ : ∃ q, q = T2.w 3 (mm_u2 (T2 3) o2 0 1) := ⟨_, rfl⟩
          rw [← eσ3] at hN
          have hX3 : mm_X σ3 T3 z ad := by rw [eσ3, eT3]; exact hX3
          have hF3 : mm_Fr 0 σ2 σ3 := by rw [eσ3]; exact hF3
          have hqnA3 : T3.nA = T2.nA := by rw [eT3]; rfl
          have hqnP3 : T3.nP = T2.nP := by rw [eT3]; rfl
          have hqnT3 : T3.nT = T2.nT := by rw [eT3]; rfl
          have hqnR3 : T3.nR = T2.nR := by rw [eT3]; rfl
          refine lv_iload (pc := 105) F.1 F.2.1 dX6_join_105 (lv_at hl 5 rfl) ?_
          exact mm_iret (pc := 107) F hr hN (⟨by unfold mm_q_join; (repeat' split) <;> omega, by rw [hmo, show i = T.nP from by omega], z, ad, mm_XeT hX3 (by rw [eT3, eT2, show i = T.nP from by omega]; rfl), rfl, (hFi.tr hF2).tr hF3⟩) (Nat.le_of_ble_eq_true rfl) (Nat.le_of_ble_eq_true rfl) dX6_join_107
        ·
          refine lv_aload_n (pc := 46) F.1 F.2.1 dX6_join_46 rfl (lv_at hl 0 rfl) ?_
          refine mm_get (pc := 47) F hN (mm_X0 hXi) (ci := 6) rfl 1 (by decide) mw_86 rfl dX6_join_47 ?_
          refine lv_iload (pc := 50) F.1 F.2.1 dX6_join_50 (lv_at hl 6 rfl) ?_
          refine mm_runV (pc := 52) (As := [.int (nI i)]) (rest := []) F hN (c_ALget l b D hst 0 _ i (ad 2 i 0) _ _ (mm_XL2 hXi) (mm_rg (show i < T.nP by omega))) mw_357 mw_358 mw_359 mw_4 mw_360 ⟨pmJx4a65c_get_915e3, (Nat.le_of_ble_eq_true rfl), (Nat.le_of_ble_eq_true rfl)⟩ (mm_recvL F.2.2.2.2.2.1 hN (mm_XL2 hXi)) hl.1 rfl (Nat.le_of_ble_eq_true rfl) ⟨(Nat.le_of_ble_eq_true rfl), (Nat.le_of_ble_eq_true rfl)⟩ dX6_join_52
            (fun _ _ _ _ _ _ h9 => False.elim h9)
            (fun v9 σ9 H locs hp9 hN => ?_)
          obtain ⟨rfl, h9⟩ := hp9
          rw [h9] at hN
          refine W.eq (g2 := F0 m 55 ls [.ref ((ad 2 i 0))]) rfl ?_
          refine W.widen (k := 2) (n := 12) (Nat.le_of_ble_eq_true rfl) (Nat.le_of_ble_eq_true rfl) ?_
          refine mm_cast (pc := 55) F hN (mm_XP hXi (i := i) (show i < T.nP by omega)) (ci := 2) rfl mw_373 dX6_join_55 ?_
          refine lv_astore (pc := 58) (lv' := [(7, .ref ((ad 2 i 0))), (0, .ref ((ad 0 0 0))), (1, .int (nI a)), (2, .int (nI o2)), (3, .ref ((ad 1 a 0))), (4, .ref ((ad 1 o2 0))), (5, .int (nI mo)), (6, .int (nI i))]) F.1 F.2.1 dX6_join_58 hl (by decide) rfl (fun ls hl => ?_)
          refine lv_aload (pc := 60) F.1 F.2.1 dX6_join_60 (lv_at hl 0 rfl) ?_
          refine mm_get (pc := 62) F hN (mm_XP hXi (i := i) (show i < T.nP by omega)) (ci := 2) rfl 0 (by decide) mw_403 rfl dX6_join_62 ?_
          refine lv_aload (pc := 65) F.1 F.2.1 dX6_join_65 (lv_at hl 5 rfl) ?_
          refine W.eq (g2 := F0 m 67 ls [.ref (ad 1 o2 0), .ref (ad 1 (T.ho i) 0)]) (by rw [show (T.w 4 (mm_jo T a o2 i)).ho i = T.ho i from mm_jo_at]) ?_
          refine mm_acmp_ne (pc := 67) F (rx := (ad 1 (T.ho i) 0)) (ry := (ad 1 o2 0)) (tgt := 79) dX6_join_67 (by decide) (fun cz67 => ?_) (fun cz67 => ?_)
          ·
            have hic : ¬ T.ho i = o2 := fun e => cz67 (by rw [e])
            refine lv_iinc (pc := 79) (v := nI (i + 1)) (lv' := [(6, .int (nI (i + 1))), (7, .ref ((ad 2 i 0))), (0, .ref ((ad 0 0 0))), (1, .int (nI a)), (2, .int (nI o2)), (3, .ref ((ad 1 a 0))), (4, .ref ((ad 1 o2 0))), (5, .int (nI mo))]) F.1 F.2.1 dX6_join_79 hl (k := 7) rfl (by rw [← nI_add]; rfl) (by decide) rfl (fun ls hl => ?_)
            refine lv_goto (pc := 82) (tgt := 34) F.1 F.2.1 dX6_join_82 (by decide) ?_
            exact ih34 (i + 1) mo σi ls _ _ (by omega) (by omega) (by rw [hmo]; show _ = _ + (if T.ho i = o2 then 1 else 0); rw [if_neg hic]; rfl) (by rw [← mm_jon hic]; exact hXi) (hFi) hN (lv_sub hl [2, 3, 4, 5, 6, 7, 0] rfl)
          ·
            have who := (hW.hpe i (by omega)).1
            have hic : T.ho i = o2 := (hX.2 1 (T.ho i) 0 1 o2 0 ⟨who, rfl⟩ ⟨ho2n, rfl⟩ cz67).2.1
            refine lv_aload (pc := 70) F.1 F.2.1 dX6_join_70 (lv_at hl 0 rfl) ?_
            refine lv_aload_n (pc := 72) F.1 F.2.1 dX6_join_72 rfl (lv_at hl 4 rfl) ?_
            refine mm_put (pc := 73) F hN (mm_XP hXi (i := i) (show i < T.nP by omega)) (ci := 2) rfl 0 (by decide) mw_403 rfl (ty := (.object "Mailmerge$Address")) (by decide +kernel) (rfl) (rfl) (Nat.le_of_ble_eq_true rfl) dX6_join_73 (fun H locs hN => ?_)
            have hN : mm_N b D s (mm_u σi ((ad 2 i 0)) (mm_obj 0 2 [.ref ((ad 1 a 0)), .int (nI (T.fl i)), .int (nI (T.re i)), .int (nI (z.oc i))])) _ _ := hN
            have hX2 := mm_X_set hXi (k := 2) (i := i) (j := 0) ⟨show i < T.nP by omega, rfl⟩ (T' := ((T.w 4 (mm_jo T a o2 i))).w 4 (mm_u2 (mm_jo T a o2 i) i 0 a)) (z' := z) rfl mm_w4 (x := mm_O 2 [.ref (ad 1 a 0), .int (nI (T.fl i)), .int (nI (T.re i)), .int (nI (z.oc i))]) (by show _ = mm_O 2 [.ref (ad 1 (mm_u2 (mm_jo T a o2 i) i 0 a i 0) 0), .int (nI (T.fl i)), .int (nI (T.re i)), .int (nI (z.oc i))]; rw [mm_u2_at])
            have hF2 : mm_Fr 0 σi _ := mm_Fr.u (x := mm_obj 0 2 [.ref (ad 1 a 0), .int (nI (T.fl i)), .int (nI (T.re i)), .int (nI (z.oc i))]) (mm_XP hXi (i := i) (show i < T.nP by omega))
            rw [mm_ww, mm_jo1 hic] at hX2
            obtain ⟨σ2, eσ2⟩ : ∃ q, q = mm_u σi ((ad 2 i 0)) (mm_obj 0 2 [.ref ((ad 1 a 0)), .int (nI (T.fl i)), .int (nI (T.re i)), .int (nI (z.oc i))]) := ⟨_, rfl⟩
            rw [← eσ2] at hN
            have hX2 : mm_X σ2 (T.w 4 (mm_jo T a o2 (i + 1))) z ad := by rw [eσ2]; exact hX2
            have hF2 : mm_Fr 0 σi σ2 := by rw [eσ2]; exact hF2
            refine lv_iinc (pc := 76) (v := nI (mo + 1)) (lv' := [(5, .int (nI (mo + 1))), (7, .ref ((ad 2 i 0))), (0, .ref ((ad 0 0 0))), (1, .int (nI a)), (2, .int (nI o2)), (3, .ref ((ad 1 a 0))), (4, .ref ((ad 1 o2 0))), (6, .int (nI i))]) F.1 F.2.1 dX6_join_76 hl (k := 6) rfl (by rw [← nI_add]; rfl) (by decide) rfl (fun ls hl => ?_)
            refine lv_iinc (pc := 79) (v := nI (i + 1)) (lv' := [(6, .int (nI (i + 1))), (5, .int (nI (mo + 1))), (7, .ref ((ad 2 i 0))), (0, .ref ((ad 0 0 0))), (1, .int (nI a)), (2, .int (nI o2)), (3, .ref ((ad 1 a 0))), (4, .ref ((ad 1 o2 0)))]) F.1 F.2.1 dX6_join_79 hl (k := 7) rfl (by rw [← nI_add]; rfl) (by decide) rfl (fun ls hl => ?_)
            refine lv_goto (pc := 82) (tgt := 34) F.1 F.2.1 dX6_join_82 (by decide) ?_
            exact ih34 (i + 1) (mo + 1) σ2 ls _ _ (by omega) (by omega) (by rw [hmo]; show _ = _ + (if T.ho i = o2 then 1 else 0); rw [if_pos hic]) (hX2) (hFi.tr hF2) hN (lv_sub hl [3, 4, 5, 6, 7, 1, 0] rfl)
    exact lp34 (T.nP + 1) 0 0 σ ls _ _ (by omega) (by omega) (rfl) (by rw [mm_jo0]; exact hX) (mm_Fr.rf) hN (lv_sub hl [4, 5, 6, 3, 2, 1, 0] rfl)
  ·
    exact mm_throw F ht hN (by decide) (mm_tIAE mw_170) mw_125 mw_15 (List.mem_of_getElem? (i := 4) rfl) hl.1 dX6_join_18 dX6_join_21 dX6_join_22 dX6_join_24 dX6_join_27 ⟨(Nat.le_of_ble_eq_true rfl), (Nat.le_of_ble_eq_true rfl), (Nat.le_of_ble_eq_true rfl), (Nat.le_of_ble_eq_true rfl)⟩ (⟨Or.inr (⟨by unfold mm_q_join; (repeat' split) <;> omega, rfl⟩), mm_Xt.rf hX rfl⟩) (Nat.le_of_ble_eq_true rfl) (Nat.le_of_ble_eq_true rfl)

