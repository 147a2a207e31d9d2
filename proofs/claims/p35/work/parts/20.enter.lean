theorem mm_en_u {σ : mm_S} {o a o2 : Nat} {L M : List Nat} {f : Nat → Nat → Nat} {x : Option (Nat × mm_e)} (h : mm_en σ o L f) (ha : σ a = mm_lst o2 M) : mm_en (mm_u σ a x) o L f :=
  ⟨h.1, fun i hi => ⟨(mm_u_ne (fun e => by have := (h.2 i hi).1; rw [e, ha] at this; cases this)).trans (h.2 i hi).1, (h.2 i hi).2⟩⟩
theorem mm_sm1 {P : Nat → Prop} [DecidablePred P] (n : Nat) : mm_sm (fun i => if P i then 1 else 0) n ≤ n := by
  have := mm_sm_le (f := fun i => if P i then 1 else 0) (c := 1) (n := n) (fun i _ => by show (if P i then 1 else 0) ≤ 1; split <;> omega)
  omega
set_option maxHeartbeats 4000000 in
set_option maxRecDepth 100000 in
theorem c_enter (l : Launch) (b : Nat) (D : mm_D) (hst : l.stackTraces = false) (o r rb eL pL qL y oc co pg pa bk : Nat) (nu pe : Value) (Le Lp : List Nat) (f : Nat → Nat → Nat) (σ : mm_S) (hR : σ r = mm_obj o 3 [.int (nI rb), .ref eL, .ref pL, .ref qL]) (hLe : σ eL = mm_lst o Le) (hLp : σ pL = mm_lst o Lp) (hE : mm_en σ o Lp f) (hY : σ y = mm_obj o 1 [nu, pe, .int (nI oc), .int (nI co), .int (nI pg), .int (nI pa), .int (nI bk)]) (hoc : oc < 65536) (hco : co < 100) (hle : Le.length ≤ 100) (hne : pL ≠ eL) : mm_K l b D yX3_enter (.code yX3_enter cX3_enter 2 none) ({ frames := 7, cells := 2, slots := 300, locals := 180 } : Room) [.ref r, .ref y] σ
    (fun v σ2 => v = none ∧ σ2 = if oc = 108 then mm_u (mm_u σ eL (mm_lst o (Le ++ [y]))) pL (mm_lst o (Lp.insertIdx (mm_sm (fun i => if f 3 i ≤ co then 1 else 0) Lp.length) y)) else (mm_u σ eL (mm_lst o (Le ++ [y]))))
    (fun _ _ => False) := by
  refine mm_of (cc := cX3_enter) (nL := 2) (ret := none) (by decide) rfl (Nat.le_of_ble_eq_true rfl) hst ?_
  intro p e s m args below meth c ls F ht hr hin hN hl
  have hl : lv_has ls 2 [(0, .ref r), (1, .ref y)] := hl
  have hR1 : (mm_u σ eL (mm_lst o (Le ++ [y]))) r = _ := (mm_u_ne (fun e => by rw [e, hLe] at hR; cases hR)).trans hR
  have hY1 : (mm_u σ eL (mm_lst o (Le ++ [y]))) y = _ := (mm_u_ne (fun e => by rw [e, hLe] at hY; cases hY)).trans hY
  have hLp1 : (mm_u σ eL (mm_lst o (Le ++ [y]))) pL = _ := (mm_u_ne hne).trans hLp
  have hE1 : mm_en (mm_u σ eL (mm_lst o (Le ++ [y]))) o Lp f := mm_en_u hE hLe
  refine lv_aload_n (pc := 0) F.1 F.2.1 dX3_enter_0 rfl (lv_at hl 0 rfl) ?_
  refine mm_get (pc := 1) F hN (hR) (ci := 3) rfl 1 (by decide) mw_598 rfl dX3_enter_1 ?_
  refine lv_aload_n (pc := 4) F.1 F.2.1 dX3_enter_4 rfl (lv_at hl 1 rfl) ?_
  refine mm_runV (pc := 5) (As := [.ref y]) (rest := []) F hN (c_ALadd l b D hst o eL y Le σ hLe ⟨o, 1, _, hY, by decide⟩ hle) mw_658 mw_247 mw_248 mw_4 mw_249 ⟨pmJx4a65c_add_9ea2d, (Nat.le_of_ble_eq_true rfl), (Nat.le_of_ble_eq_true rfl)⟩ (mm_recvL F.2.2.2.2.2.1 hN hLe) hl.1 rfl (Nat.le_of_ble_eq_true rfl) ⟨(Nat.le_of_ble_eq_true rfl), (Nat.le_of_ble_eq_true rfl)⟩ dX3_enter_5
    (fun _ _ _ _ _ _ h9 => False.elim h9)
    (fun v9 σ9 H locs hp9 hN => ?_)
  obtain ⟨rfl, hσ9⟩ := hp9
  refine W.eq (g2 := F0 m 8 ls [.int (nI 1)]) rfl ?_
  refine W.widen (k := 1) (n := 150) (Nat.le_of_ble_eq_true rfl) (Nat.le_of_ble_eq_true rfl) ?_
  rw [hσ9] at hN
  have hob1 : mm_ob (mm_u σ eL (mm_lst o (Le ++ [y]))) y := ⟨o, 1, _, hY1, by decide⟩
  refine lv_pop (pc := 8) F.1 F.2.1 dX3_enter_8 rfl ?_
  refine lv_aload_n (pc := 9) F.1 F.2.1 dX3_enter_9 rfl (lv_at hl 1 rfl) ?_
  refine mm_runV (pc := 10) (As := []) (rest := []) F hN (c_isLet l b D hst o y oc co pg pa bk nu pe _ hY1 hoc) mw_659 mw_660 mw_661 mw_30 mw_662 ⟨pmX1_isLetter, (Nat.le_of_ble_eq_true rfl), (Nat.le_of_ble_eq_true rfl)⟩ (mm_recv F.2.2.2.2.2.1 hN hY1 rfl) hl.1 rfl (Nat.le_of_ble_eq_true rfl) ⟨(Nat.le_of_ble_eq_true rfl), (Nat.le_of_ble_eq_true rfl)⟩ dX3_enter_10
    (fun _ _ _ _ _ _ h9 => False.elim h9)
    (fun v9 σ9 H locs hp9 hN => ?_)
  obtain ⟨rfl, h9⟩ := hp9
  rw [h9] at hN
  refine W.eq (g2 := F0 m 13 ls [.int (nI (if oc = 108 then 1 else 0))]) rfl ?_
  refine W.widen (k := 1) (n := 150) (Nat.le_of_ble_eq_true rfl) (Nat.le_of_ble_eq_true rfl) ?_
  by_cases hb13 : oc = 108
  ·
    refine W.eq (g2 := F0 m 13 ls [.int (nI 1)]) (by rw [if_pos hb13]) ?_
    refine mm_if_eq (pc := 13) F (tgt := 32) (by omega) dX3_enter_13 (by decide) (fun h9 => absurd h9 (by decide)) (fun cz13 => ?_)
    refine lv_aload_n (pc := 16) F.1 F.2.1 dX3_enter_16 rfl (lv_at hl 0 rfl) ?_
    refine mm_get (pc := 17) F hN (hR1) (ci := 3) rfl 2 (by decide) mw_600 rfl dX3_enter_17 ?_
    refine lv_aload_n (pc := 20) F.1 F.2.1 dX3_enter_20 rfl (lv_at hl 0 rfl) ?_
    refine lv_aload_n (pc := 21) F.1 F.2.1 dX3_enter_21 rfl (lv_at hl 1 rfl) ?_
    refine mm_get (pc := 22) F hN (hY1) (ci := 1) rfl 3 (by decide) mw_631 rfl dX3_enter_22 ?_
    refine mm_runV (pc := 25) (As := [.int (nI co)]) (rest := [.ref pL]) F hN (c_upToCode l b D hst o r rb eL pL qL Lp f _ hR1 hLp1 hE1 co hco) mw_663 mw_665 mw_p11 mw_29 mw_666 ⟨pmX3_countUpToCode, (Nat.le_of_ble_eq_true rfl), (Nat.le_of_ble_eq_true rfl)⟩ (mm_recv F.2.2.2.2.2.1 hN hR1 rfl) hl.1 rfl (Nat.le_of_ble_eq_true rfl) ⟨(Nat.le_of_ble_eq_true rfl), (Nat.le_of_ble_eq_true rfl)⟩ dX3_enter_25
      (fun _ _ _ _ _ _ h9 => False.elim h9)
      (fun v9 σ9 H locs hp9 hN => ?_)
    obtain ⟨rfl, h9⟩ := hp9
    rw [h9] at hN
    refine W.eq (g2 := F0 m 28 ls [.int (nI (mm_sm (fun i => if f 3 i ≤ co then 1 else 0) Lp.length)), .ref pL]) rfl ?_
    refine W.widen (k := 1) (n := 150) (Nat.le_of_ble_eq_true rfl) (Nat.le_of_ble_eq_true rfl) ?_
    refine lv_aload_n (pc := 28) F.1 F.2.1 dX3_enter_28 rfl (lv_at hl 1 rfl) ?_
    refine mm_runV (pc := 29) (As := [.int (nI (mm_sm (fun i => if f 3 i ≤ co then 1 else 0) Lp.length)), .ref y]) (rest := []) F hN (c_ALins l b D hst o pL (mm_sm (fun i => if f 3 i ≤ co then 1 else 0) Lp.length) y Lp _ hLp1 hob1 (mm_sm1 _) (Nat.le_trans hE.1 (by decide))) mw_670 mw_671 mw_672 mw_4 mw_673 ⟨pmJx4a65c_add_7a177, (Nat.le_of_ble_eq_true rfl), (Nat.le_of_ble_eq_true rfl)⟩ (mm_recvL F.2.2.2.2.2.1 hN hLp1) hl.1 rfl (Nat.le_of_ble_eq_true rfl) ⟨(Nat.le_of_ble_eq_true rfl), (Nat.le_of_ble_eq_true rfl)⟩ dX3_enter_29
      (fun _ _ _ _ _ _ h9 => False.elim h9)
      (fun v9 σ8 H locs hp9 hN => ?_)
    obtain ⟨rfl, hσ8⟩ := hp9
    refine W.eq (g2 := F0 m 32 ls []) rfl ?_
    refine W.widen (k := 2) (n := 300) (Nat.le_of_ble_eq_true rfl) (Nat.le_of_ble_eq_true rfl) ?_
    rw [hσ8] at hN
    exact mm_vret (pc := 32) F hr hN (⟨rfl, by rw [if_pos hb13]⟩) (Nat.le_of_ble_eq_true rfl) (Nat.le_of_ble_eq_true rfl) dX3_enter_32
  ·
    refine W.eq (g2 := F0 m 13 ls [.int (nI 0)]) (by rw [if_neg hb13]) ?_
    refine mm_if_eq (pc := 13) F (tgt := 32) (by omega) dX3_enter_13 (by decide) (fun cz13 => ?_) (fun h9 => absurd h9 (by decide))
    exact mm_vret (pc := 32) F hr hN (⟨rfl, by rw [if_neg hb13]⟩) (Nat.le_of_ble_eq_true rfl) (Nat.le_of_ble_eq_true rfl) dX3_enter_32

set_option maxHeartbeats 4000000 in
set_option maxRecDepth 100000 in
theorem c_choose (l : Launch) (b : Nat) (D : mm_D) (hst : l.stackTraces = false) (o r rb eL pL qL : Nat) (L : List Nat) (f : Nat → Nat → Nat) (σ : mm_S) (hR : σ r = mm_obj o 3 [.int (nI rb), .ref eL, .ref pL, .ref qL]) (hL : σ eL = mm_lst o L) (hE : mm_en σ o L f) (hQ : σ qL = mm_lst o []) (hqe : qL ≠ eL) : mm_K l b D yX3_chooseProof (.code yX3_chooseProof cX3_chooseProof 4 none) ({ frames := 7, cells := 8, slots := 1200, locals := 180 } : Room) [.ref r] σ
    (fun v σ2 => v = none ∧ σ2 = (mm_u σ qL (mm_lst o ((mm_pl f L.length 8).map (fun p => L.getD p 0)))))
    (fun _ _ => False) := by
  refine mm_of (cc := cX3_chooseProof) (nL := 4) (ret := none) (by decide) rfl (Nat.le_of_ble_eq_true rfl) hst ?_
  intro p e s m args below meth c ls F ht hr hin hN hl
  have hl : lv_has ls 4 [(0, .ref r)] := hl
  have hn := hE.1
  have nrq : r ≠ qL := fun e => by rw [e, hQ] at hR; cases hR
  have neq : eL ≠ qL := Ne.symm hqe
  refine lv_iconst (pc := 0) (v := nI 0) F.1 F.2.1 dX3_chooseProof_0 (by decide) ?_
  refine lv_istore_n (pc := 1) (lv' := [(1, .int (nI 0)), (0, .ref r)]) F.1 F.2.1 dX3_chooseProof_1 rfl hl (by decide) rfl (fun ls hl => ?_)
  refine lv_iconst (pc := 2) (v := nI 0) F.1 F.2.1 dX3_chooseProof_2 (by decide) ?_
  refine lv_istore_n (pc := 3) (lv' := [(2, .int (nI 0)), (1, .int (nI 0)), (0, .ref r)]) F.1 F.2.1 dX3_chooseProof_3 rfl hl (by decide) rfl (fun ls hl => ?_)
  have hN := mm_NS hN (show σ = (mm_u σ qL (mm_lst o ((mm_pl f L.length 0).map (fun p => L.getD p 0)))) from (mm_us hQ).symm)
  have lp4 : ∀ (k4 i : Nat) (ls : Array Slot) (H : Heap) (locs : List Loc), 8 < i + k4 → i ≤ 8 → mm_N b D s ((mm_u σ qL (mm_lst o ((mm_pl f L.length i).map (fun p => L.getD p 0))))) H locs → lv_has ls 4 [(0, .ref r), (1, .int (nI (mm_hd f L.length i))), (2, .int (nI i))] →
      W p l e ({ frames := 7, cells := 8, slots := 1200, locals := 180 } : Room) s m args below meth c H locs (i) (150 * i) (mm_Q b D (fun v σ2 => v = none ∧ σ2 = (mm_u σ qL (mm_lst o ((mm_pl f L.length 8).map (fun p => L.getD p 0))))) (fun _ _ => False) below args s ({ frames := 7, cells := 8, slots := 1200, locals := 180 } : Room)) (F0 m 4 ls []) := by
    intro k4
    induction k4 with
    | zero => intro i  ls H locs hk4 hi4  hN hl; omega
    | succ k4 ih4 =>
      intro i  ls H locs hk4 hi4  hN hl
      refine lv_iload_n (pc := 4) F.1 F.2.1 dX3_chooseProof_4 rfl (lv_at hl 2 rfl) ?_
      refine lv_bipush (pc := 5) (v := nI 8) F.1 F.2.1 dX3_chooseProof_5 (by decide) ?_
      refine mm_icmp_ge (pc := 7) F (x := i) (y := 8) (tgt := 43) (by omega) (by omega) dX3_chooseProof_7 (by decide) (fun cz7 => ?_) (fun cz7 => ?_)
      ·
        exact mm_vret (pc := 43) F hr hN (⟨rfl, by rw [show i = 8 from by omega]⟩) (by show i ≤ 8; omega) (by show 150 * i ≤ 1200; omega) dX3_chooseProof_43
      ·
        have hE1 : mm_en (mm_u σ qL (mm_lst o ((mm_pl f L.length i).map (fun p => L.getD p 0)))) o L f := mm_en_u hE hQ
        refine lv_aload_n (pc := 10) F.1 F.2.1 dX3_chooseProof_10 rfl (lv_at hl 0 rfl) ?_
        refine lv_iload_n (pc := 11) F.1 F.2.1 dX3_chooseProof_11 rfl (lv_at hl 1 rfl) ?_
        refine mm_runV (pc := 12) (As := [.int (nI (mm_hd f L.length i))]) (rest := []) F hN (c_mostNew l b D hst o r rb eL pL qL L f _ ((mm_u_ne nrq).trans hR) ((mm_u_ne neq).trans hL) hE1 (mm_hd f L.length i) (mm_hd_le (fun j hj => (hE.2 j hj).2.2.2.2.1) i)) mw_915 mw_917 mw_p14 mw_29 mw_918 ⟨pmX3_letterWithMostNewParts, (Nat.le_of_ble_eq_true rfl), (Nat.le_of_ble_eq_true rfl)⟩ (mm_recv F.2.2.2.2.2.1 hN ((mm_u_ne nrq).trans hR) rfl) hl.1 rfl (Nat.le_of_ble_eq_true rfl) ⟨by show i + 0 ≤ 8; omega, by show (150 * i) + 0 ≤ 1200; omega⟩ dX3_chooseProof_12
          (fun _ _ _ _ _ _ h9 => False.elim h9)
          (fun v9 σ9 H locs hp9 hN => ?_)
        obtain ⟨rfl, h9⟩ := hp9
        rw [h9] at hN
        refine W.eq (g2 := F0 m 15 ls [(if mm_bk f L.length i = 0 then Value.null else Value.ref (L.getD (mm_bk f L.length i - 1) 0))]) rfl ?_
        refine W.widen (k := i) (n := 150 * i) (Nat.le_refl _) (Nat.le_refl _) ?_
        by_cases hz : mm_bk f L.length i = 0
        ·
          refine W.eq (g2 := F0 m 15 ls [.null]) (congrArg (fun z => F0 m 15 ls [z]) (if_pos hz)) ?_
          refine lv_astore_nN (pc := 15) (lv' := [(3, .null), (0, .ref r), (1, .int (nI (mm_hd f L.length i))), (2, .int (nI i))]) F.1 F.2.1 dX3_chooseProof_15 rfl hl (by decide) rfl (fun ls hl => ?_)
          refine lv_aload_nN (pc := 16) F.1 F.2.1 dX3_chooseProof_16 rfl (lv_at hl 0 rfl) ?_
          refine lv_ifnonnullN (pc := 17) F.1 F.2.1 dX3_chooseProof_17 ?_
          exact mm_vret (pc := 20) F hr hN (⟨rfl, by have h7 := (mm_pl_stop hz (8 - i)).2.2; rw [show i + (8 - i) = 8 from by omega] at h7; rw [h7]⟩) (by show i ≤ 8; omega) (by show 150 * i ≤ 1200; omega) dX3_chooseProof_20
        ·
          refine W.eq (g2 := F0 m 15 ls [.ref ((L.getD (mm_bk f L.length i - 1) 0))]) (congrArg (fun z => F0 m 15 ls [z]) (if_neg hz)) ?_
          have hbk : mm_bk f L.length i ≤ L.length := mm_bs_le _ _
          obtain ⟨hEi, b2, b3, b4, b5, b6⟩ := hE1.2 (mm_bk f L.length i - 1) (by omega)
          have hpl := mm_pl_len f L.length i
          refine lv_astore_n (pc := 15) (lv' := [(3, .ref ((L.getD (mm_bk f L.length i - 1) 0))), (0, .ref r), (1, .int (nI (mm_hd f L.length i))), (2, .int (nI i))]) F.1 F.2.1 dX3_chooseProof_15 rfl hl (by decide) rfl (fun ls hl => ?_)
          refine lv_aload_n (pc := 16) F.1 F.2.1 dX3_chooseProof_16 rfl (lv_at hl 0 rfl) ?_
          refine lv_ifnonnull (pc := 17) (tgt := 21) F.1 F.2.1 dX3_chooseProof_17 (by decide) ?_
          refine lv_aload_n (pc := 21) F.1 F.2.1 dX3_chooseProof_21 rfl (lv_at hl 1 rfl) ?_
          refine mm_get (pc := 22) F hN ((mm_u_ne nrq).trans hR) (ci := 3) rfl 3 (by decide) mw_602 rfl dX3_chooseProof_22 ?_
          refine lv_aload_n (pc := 25) F.1 F.2.1 dX3_chooseProof_25 rfl (lv_at hl 0 rfl) ?_
          refine mm_runV (pc := 26) (As := [.ref ((L.getD (mm_bk f L.length i - 1) 0))]) (rest := []) F hN (c_ALadd l b D hst o qL (L.getD (mm_bk f L.length i - 1) 0) _ _ mm_u_eq ⟨o, 1, _, hEi, by decide⟩ (by rw [List.length_map]; omega)) mw_658 mw_247 mw_248 mw_4 mw_249 ⟨pmJx4a65c_add_9ea2d, (Nat.le_of_ble_eq_true rfl), (Nat.le_of_ble_eq_true rfl)⟩ (mm_recvL F.2.2.2.2.2.1 hN mm_u_eq) hl.1 rfl (Nat.le_of_ble_eq_true rfl) ⟨by show i + 1 ≤ 8; omega, by show (150 * i) + 150 ≤ 1200; omega⟩ dX3_chooseProof_26
            (fun _ _ _ _ _ _ h9 => False.elim h9)
            (fun v9 σ8 H locs hp9 hN => ?_)
          obtain ⟨rfl, hσ9⟩ := hp9
          refine W.eq (g2 := F0 m 29 ls [.int (nI 1)]) rfl ?_
          refine W.widen (k := i + 1) (n := 150 * i + 150) (Nat.le_refl _) (Nat.le_refl _) ?_
          have hEi0 := hEi
          rw [hσ9] at hN
          have hne9 : L.getD (mm_bk f L.length i - 1) 0 ≠ qL := fun e => by rw [e, mm_u_eq] at hEi0; cases hEi0
          have hEi := (mm_u_ne (x := mm_lst o ((mm_pl f L.length i).map (fun p => L.getD p 0) ++ [L.getD (mm_bk f L.length i - 1) 0])) hne9).trans hEi0
          refine lv_pop (pc := 29) F.1 F.2.1 dX3_chooseProof_29 rfl ?_
          refine lv_iload_n (pc := 30) F.1 F.2.1 dX3_chooseProof_30 rfl (lv_at hl 2 rfl) ?_
          refine lv_aload_n (pc := 31) F.1 F.2.1 dX3_chooseProof_31 rfl (lv_at hl 0 rfl) ?_
          refine mm_get (pc := 32) F hN (hEi) (ci := 1) rfl 5 (by decide) mw_636 rfl dX3_chooseProof_32 ?_
          refine mm_ior (pc := 35) F (z := nI ((mm_hd f L.length i) ||| (f 5 (mm_bk f L.length i - 1)))) (mm_orN _ _) dX3_chooseProof_35 ?_
          refine lv_istore_n (pc := 36) (lv' := [(1, .int (nI ((mm_hd f L.length i) ||| (f 5 (mm_bk f L.length i - 1))))), (3, .ref ((L.getD (mm_bk f L.length i - 1) 0))), (0, .ref r), (2, .int (nI i))]) F.1 F.2.1 dX3_chooseProof_36 rfl hl (by decide) rfl (fun ls hl => ?_)
          refine lv_iinc (pc := 37) (v := nI (i + 1)) (lv' := [(2, .int (nI (i + 1))), (1, .int (nI ((mm_hd f L.length i) ||| (f 5 (mm_bk f L.length i - 1))))), (3, .ref ((L.getD (mm_bk f L.length i - 1) 0))), (0, .ref r)]) F.1 F.2.1 dX3_chooseProof_37 hl (k := 3) rfl (by rw [← nI_add]; rfl) (by decide) rfl (fun ls hl => ?_)
          refine lv_goto (pc := 40) (tgt := 4) F.1 F.2.1 dX3_chooseProof_40 (by decide) ?_
          have hN := mm_NS hN (show mm_u (mm_u σ qL (mm_lst o ((mm_pl f L.length i).map (fun p => L.getD p 0)))) qL (mm_lst o ((mm_pl f L.length i).map (fun p => L.getD p 0) ++ [L.getD (mm_bk f L.length i - 1) 0])) = (mm_u σ qL (mm_lst o ((mm_pl f L.length (i + 1)).map (fun p => L.getD p 0)))) by rw [mm_uu, show mm_pl f L.length (i + 1) = mm_pl f L.length i ++ [mm_bk f L.length i - 1] from if_neg hz, List.map_append]; rfl)
          have hl := hl
          rw [show mm_hd f L.length i ||| f 5 (mm_bk f L.length i - 1) = mm_hd f L.length (i + 1) from (if_neg hz).symm] at hl
          refine W.widen (k := (i + 1)) (n := 150 * (i + 1)) (by omega) (by omega) ?_
          exact ih4 (i + 1) ls _ _ (by omega) (by omega) hN (lv_sub hl [3, 1, 0] rfl)
  exact lp4 (8 + 1) 0 ls _ _ (by omega) (by omega) hN (lv_sub hl [2, 1, 0] rfl)

