set_option maxHeartbeats 4000000 in
set_option maxRecDepth 100000 in
theorem c_grow1 (l : Launch) (b : Nat) (D : mm_D) (hst : l.stackTraces = false) (o a r n0 : Nat) (mc : Int32) (L : List Nat) (σ : mm_S) (hA : σ a = mm_obj o 8 [.int mc, .ref r, .int (nI n0)]) (hLn : L.length = n0) (hn : n0 ≤ 100) (hob : ∀ y ∈ L, mm_ob σ y) (hcs : (r = D.2.2 ∧ n0 = 0) ∨ (σ r = mm_arq o 8 n0 (fun i => L[i]?) ∧ 10 ≤ n0)) : mm_K l b D yJx4a65c_grow_92f84 (.code yJx4a65c_grow_92f84 cJx4a65c_grow_92f84 4 (some (.array (.object "java/lang/Object")))) ({ frames := 3, cells := 1, slots := 150, locals := 80 } : Room) [.ref a, .int (nI (n0 + 1))] σ
    (fun v σ2 => ∃ q n2, v = some (.ref q) ∧ σ q = none ∧ 10 ≤ n2 ∧ n2 ≤ 150 ∧ n0 + 1 ≤ n2 ∧ σ2 = mm_u (mm_u σ q (mm_arq o 8 n2 (fun i => L[i]?))) a (mm_obj o 8 [.int mc, .ref q, .int (nI n0)]))
    (fun _ _ => False) := by
  refine mm_of (cc := cJx4a65c_grow_92f84) (nL := 4) (ret := (some (.array (.object "java/lang/Object")))) (by decide) rfl (Nat.le_of_ble_eq_true rfl) hst ?_
  intro p e s m args below meth c ls F ht hr hin hN hl
  have hl : lv_has ls 4 [(0, .ref a), (1, .int (nI (n0 + 1)))] := hl
  rcases hcs with ⟨rfl, rfl⟩ | ⟨hR, h10⟩
  ·
    refine lv_aload_n (pc := 0) F.1 F.2.1 dJx4a65c_grow_92f84_0 rfl (lv_at hl 0 rfl) ?_
    refine mm_get (pc := 1) F hN (hA) (ci := 8) rfl 1 (by decide) mw_56 rfl dJx4a65c_grow_92f84_1 ?_
    refine mm_alen0 (pc := 4) F hN dJx4a65c_grow_92f84_4 ?_
    refine lv_istore_n (pc := 5) (lv' := [(2, .int (nI 0)), (0, .ref a), (1, .int (nI (0 + 1)))]) F.1 F.2.1 dJx4a65c_grow_92f84_5 rfl hl (by decide) rfl (fun ls hl => ?_)
    refine lv_iload_n (pc := 6) F.1 F.2.1 dJx4a65c_grow_92f84_6 rfl (lv_at hl 0 rfl) ?_
    refine mm_if_gt (pc := 7) F (tgt := 20) (by omega) dJx4a65c_grow_92f84_7 (by decide) (fun c7 => ?_) (fun c7 => ?_)
    ·
      omega
    ·
      refine lv_aload_n (pc := 10) F.1 F.2.1 dJx4a65c_grow_92f84_10 rfl (lv_at hl 1 rfl) ?_
      refine mm_get (pc := 11) F hN (hA) (ci := 8) rfl 1 (by decide) mw_56 rfl dJx4a65c_grow_92f84_11 ?_
      refine mm_gets (pc := 14) F hN mw_54 dJx4a65c_grow_92f84_14 ?_
      refine mm_acmp_eq (pc := 17) F (rx := D.2.2) (ry := D.2.2) (tgt := 45) dJx4a65c_grow_92f84_17 (by decide) (fun c17 => ?_) (fun c17 => ?_)
      ·
        refine lv_aload_n (pc := 45) F.1 F.2.1 dJx4a65c_grow_92f84_45 rfl (lv_at hl 1 rfl) ?_
        refine lv_bipush (pc := 46) (v := nI 10) F.1 F.2.1 dJx4a65c_grow_92f84_46 (by decide) ?_
        refine lv_iload_n (pc := 48) F.1 F.2.1 dJx4a65c_grow_92f84_48 rfl (lv_at hl 2 rfl) ?_
        refine va_mmax (pc := 49) F.1 F.2.1 (F.2.2.1.trans hl.1.symm) F.2.2.2.1 (F.2.2.2.2.1 _ mw_307) (F.2.2.2.2.1 _ mw_266) (F.2.2.2.2.1 _ mw_16) (F.2.2.2.2.1 _ mw_267) (Nat.le_of_ble_eq_true rfl) (Nat.le_of_ble_eq_true rfl) (by decide) (by decide) dJx4a65c_grow_92f84_49 ?_
        refine W.eq (g2 := F0 m 52 ls [.int (nI ((max 10 (0 + 1)))), .ref a]) (congrArg (fun z => F0 m 52 ls (.int z :: [.ref a])) (mm_max (by omega) (by omega))) ?_
        refine mm_newq (pc := 52) F hN o ((max 10 (0 + 1))) rfl (by omega) mw_308 (by decide) (by decide) dJx4a65c_grow_92f84_52 (fun q1 H hq1 hN => ?_)
        refine W.widen (k := 1) (n := 10) (by omega) (by omega) ?_
        have haq : a ≠ q1 := fun e => by rw [e, hq1] at hA; cases hA
        have hA1 : (mm_u σ q1 (mm_arq o 8 (max 10 (0 + 1)) (fun _ => none))) a = mm_obj o 8 [.int mc, .ref D.2.2, .int (nI 0)] := by rw [mm_u_ne haq]; exact hA
        refine lv_dup_x1 (pc := 55) F.1 F.2.1 dJx4a65c_grow_92f84_55 rfl rfl ?_
        refine mm_put (pc := 56) F hN (hA1) (ci := 8) rfl 1 (by decide) mw_56 rfl (ty := (.array (.object "java/lang/Object"))) (by decide +kernel) (rfl) (rfl) (Nat.le_of_ble_eq_true rfl) dJx4a65c_grow_92f84_56 (fun H locs hN => ?_)
        have hN : mm_N b D s (mm_u ((mm_u σ q1 (mm_arq o 8 (max 10 (0 + 1)) (fun _ => none)))) a (mm_obj o 8 [.int mc, .ref q1, .int (nI 0)])) H locs := hN
        exact mm_aret (pc := 59) F hr (Or.inr ⟨_, rfl⟩) hN (⟨q1, 10, rfl, hq1, by decide, by decide, by decide, by rw [List.eq_nil_of_length_eq_zero hLn]; rfl⟩) (Nat.le_of_ble_eq_true rfl) (Nat.le_of_ble_eq_true rfl) dJx4a65c_grow_92f84_59
      ·
        exact absurd rfl c17
  ·
    refine lv_aload_n (pc := 0) F.1 F.2.1 dJx4a65c_grow_92f84_0 rfl (lv_at hl 0 rfl) ?_
    refine mm_get (pc := 1) F hN (hA) (ci := 8) rfl 1 (by decide) mw_56 rfl dJx4a65c_grow_92f84_1 ?_
    refine mm_alen (pc := 4) F hN (hR) rfl dJx4a65c_grow_92f84_4 ?_
    refine lv_istore_n (pc := 5) (lv' := [(2, .int (nI n0)), (0, .ref a), (1, .int (nI (n0 + 1)))]) F.1 F.2.1 dJx4a65c_grow_92f84_5 rfl hl (by decide) rfl (fun ls hl => ?_)
    refine lv_iload_n (pc := 6) F.1 F.2.1 dJx4a65c_grow_92f84_6 rfl (lv_at hl 0 rfl) ?_
    refine mm_if_gt (pc := 7) F (tgt := 20) (by omega) dJx4a65c_grow_92f84_7 (by decide) (fun c7 => ?_) (fun c7 => ?_)
    ·
      refine lv_iload_n (pc := 20) F.1 F.2.1 dJx4a65c_grow_92f84_20 rfl (lv_at hl 0 rfl) ?_
      refine lv_iload_n (pc := 21) F.1 F.2.1 dJx4a65c_grow_92f84_21 rfl (lv_at hl 2 rfl) ?_
      refine lv_iload_n (pc := 22) F.1 F.2.1 dJx4a65c_grow_92f84_22 rfl (lv_at hl 0 rfl) ?_
      refine mm_isub (pc := 23) F (z := nI ((n0 + 1) - n0)) (pk_sub (by omega)) dJx4a65c_grow_92f84_23 ?_
      refine lv_iload_n (pc := 24) F.1 F.2.1 dJx4a65c_grow_92f84_24 rfl (lv_at hl 0 rfl) ?_
      refine lv_iconst (pc := 25) (v := nI 1) F.1 F.2.1 dJx4a65c_grow_92f84_25 (by decide) ?_
      refine mm_ishr (pc := 26) F (z := nI (n0 / 2)) (mm_half (by omega)) dJx4a65c_grow_92f84_26 ?_
      refine W.eq (g2 := F0 m 27 ls [.int (nI (n0 / 2)), .int (nI 1), .int (nI n0)]) (by rw [show n0 + 1 - n0 = 1 by omega]) ?_
      refine mm_runS (pc := 27) (As := [.int (nI n0), .int (nI 1), .int (nI (n0 / 2))]) (rest := []) F hN (c_newLength l b D hst n0 h10 (by omega) σ) mw_262 mw_263 mw_22 mw_264 ⟨pmJ8_newLength_cabcc, (Nat.le_of_ble_eq_true rfl), (Nat.le_of_ble_eq_true rfl)⟩ hl.1 rfl (Nat.le_of_ble_eq_true rfl) ⟨(Nat.le_of_ble_eq_true rfl), (Nat.le_of_ble_eq_true rfl)⟩ dJx4a65c_grow_92f84_27
        (fun _ _ _ _ _ _ h9 => False.elim h9)
        (fun v9 σ1 H locs hp9 hN => ?_)
      obtain ⟨rfl, h9⟩ := hp9
      rw [h9] at hN
      refine W.eq (g2 := F0 m 30 ls [.int (nI (n0 + n0 / 2))]) rfl ?_
      refine W.widen (k := 0) (n := 0) (Nat.le_of_ble_eq_true rfl) (Nat.le_of_ble_eq_true rfl) ?_
      refine lv_istore_n (pc := 30) (lv' := [(3, .int (nI (n0 + n0 / 2))), (2, .int (nI n0)), (0, .ref a), (1, .int (nI (n0 + 1)))]) F.1 F.2.1 dJx4a65c_grow_92f84_30 rfl hl (by decide) rfl (fun ls hl => ?_)
      refine lv_aload_n (pc := 31) F.1 F.2.1 dJx4a65c_grow_92f84_31 rfl (lv_at hl 2 rfl) ?_
      refine lv_aload_n (pc := 32) F.1 F.2.1 dJx4a65c_grow_92f84_32 rfl (lv_at hl 2 rfl) ?_
      refine mm_get (pc := 33) F hN (hA) (ci := 8) rfl 1 (by decide) mw_56 rfl dJx4a65c_grow_92f84_33 ?_
      refine lv_iload_n (pc := 36) F.1 F.2.1 dJx4a65c_grow_92f84_36 rfl (lv_at hl 0 rfl) ?_
      refine mm_runS (pc := 37) (As := [.ref r, .int (nI (n0 + n0 / 2))]) (rest := [.ref a]) F hN (c_copyOf2 l b D hst o r n0 (n0 + n0 / 2) L σ hR (by omega) (by omega) (by omega) hob) mw_272 mw_273 mw_23 mw_274 ⟨pmJ7_copyOf_1904c, (Nat.le_of_ble_eq_true rfl), (Nat.le_of_ble_eq_true rfl)⟩ hl.1 rfl (Nat.le_of_ble_eq_true rfl) ⟨(Nat.le_of_ble_eq_true rfl), (Nat.le_of_ble_eq_true rfl)⟩ dJx4a65c_grow_92f84_37
        (fun _ _ _ _ _ _ h9 => False.elim h9)
        (fun v9 σ1 H locs hp9 hN => ?_)
      obtain ⟨q, rfl, hq, hσ1⟩ := hp9
      refine W.eq (g2 := F0 m 40 ls [.ref q, .ref a]) rfl ?_
      refine W.widen (k := 1) (n := 150) (Nat.le_of_ble_eq_true rfl) (Nat.le_of_ble_eq_true rfl) ?_
      rw [hσ1] at hN
      have haq : a ≠ q := fun e => by rw [e, hq] at hA; cases hA
      have hA1 : (mm_u σ q (mm_arq o 8 (n0 + n0 / 2) (fun i => L[i]?))) a = mm_obj o 8 [.int mc, .ref r, .int (nI n0)] := by rw [mm_u_ne haq]; exact hA
      refine lv_dup_x1 (pc := 40) F.1 F.2.1 dJx4a65c_grow_92f84_40 rfl rfl ?_
      refine mm_put (pc := 41) F hN (hA1) (ci := 8) rfl 1 (by decide) mw_56 rfl (ty := (.array (.object "java/lang/Object"))) (by decide +kernel) (rfl) (rfl) (Nat.le_of_ble_eq_true rfl) dJx4a65c_grow_92f84_41 (fun H locs hN => ?_)
      have hN : mm_N b D s (mm_u ((mm_u σ q (mm_arq o 8 (n0 + n0 / 2) (fun i => L[i]?)))) a (mm_obj o 8 [.int mc, .ref q, .int (nI n0)])) H locs := hN
      exact mm_aret (pc := 44) F hr (Or.inr ⟨_, rfl⟩) hN (⟨q, n0 + n0 / 2, rfl, hq, by omega, by omega, by omega, rfl⟩) (Nat.le_of_ble_eq_true rfl) (Nat.le_of_ble_eq_true rfl) dJx4a65c_grow_92f84_44
    ·
      omega
set_option maxHeartbeats 4000000 in
set_option maxRecDepth 100000 in
theorem c_grow (l : Launch) (b : Nat) (D : mm_D) (hst : l.stackTraces = false) (o a r n0 : Nat) (mc : Int32) (L : List Nat) (σ : mm_S) (hA : σ a = mm_obj o 8 [.int mc, .ref r, .int (nI n0)]) (hLn : L.length = n0) (hn : n0 ≤ 100) (hob : ∀ y ∈ L, mm_ob σ y) (hcs : (r = D.2.2 ∧ n0 = 0) ∨ (σ r = mm_arq o 8 n0 (fun i => L[i]?) ∧ 10 ≤ n0)) : mm_K l b D yJx4a65c_grow_d5877 (.code yJx4a65c_grow_d5877 cJx4a65c_grow_d5877 1 (some (.array (.object "java/lang/Object")))) ({ frames := 4, cells := 1, slots := 150, locals := 104 } : Room) [.ref a] σ
    (fun v σ2 => ∃ q n2, v = some (.ref q) ∧ σ q = none ∧ 10 ≤ n2 ∧ n2 ≤ 150 ∧ n0 + 1 ≤ n2 ∧ σ2 = mm_u (mm_u σ q (mm_arq o 8 n2 (fun i => L[i]?))) a (mm_obj o 8 [.int mc, .ref q, .int (nI n0)]))
    (fun _ _ => False) := by
  refine mm_of (cc := cJx4a65c_grow_d5877) (nL := 1) (ret := (some (.array (.object "java/lang/Object")))) (by decide) rfl (Nat.le_of_ble_eq_true rfl) hst ?_
  intro p e s m args below meth c ls F ht hr hin hN hl
  have hl : lv_has ls 1 [(0, .ref a)] := hl
  refine lv_aload_n (pc := 0) F.1 F.2.1 dJx4a65c_grow_d5877_0 rfl (lv_at hl 0 rfl) ?_
  refine lv_aload_n (pc := 1) F.1 F.2.1 dJx4a65c_grow_d5877_1 rfl (lv_at hl 0 rfl) ?_
  refine mm_get (pc := 2) F hN (hA) (ci := 8) rfl 2 (by decide) mw_57 rfl dJx4a65c_grow_d5877_2 ?_
  refine lv_iconst (pc := 5) (v := nI 1) F.1 F.2.1 dJx4a65c_grow_d5877_5 (by decide) ?_
  refine mm_iadd (pc := 6) F (z := nI (n0 + 1)) (nI_add _ _) dJx4a65c_grow_d5877_6 ?_
  refine mm_runV (pc := 7) (As := [.int (nI (n0 + 1))]) (rest := []) F hN (c_grow1 l b D hst o a r n0 mc L σ hA hLn hn hob hcs) mw_258 mw_260 mw_p3 mw_4 mw_261 ⟨pmJx4a65c_grow_92f84, (Nat.le_of_ble_eq_true rfl), (Nat.le_of_ble_eq_true rfl)⟩ (mm_recv F.2.2.2.2.2.1 hN hA rfl) hl.1 rfl (Nat.le_of_ble_eq_true rfl) ⟨(Nat.le_of_ble_eq_true rfl), (Nat.le_of_ble_eq_true rfl)⟩ dJx4a65c_grow_d5877_7
    (fun _ _ _ _ _ _ h9 => False.elim h9)
    (fun v9 σ1 H locs hp9 hN => ?_)
  obtain ⟨q, n2, rfl, hq, hn1, hn2, hn3, hσ1⟩ := hp9
  refine W.eq (g2 := F0 m 10 ls [.ref q]) rfl ?_
  refine W.widen (k := 1) (n := 150) (Nat.le_of_ble_eq_true rfl) (Nat.le_of_ble_eq_true rfl) ?_
  exact mm_aret (pc := 10) F hr (Or.inr ⟨_, rfl⟩) hN (⟨q, n2, rfl, hq, hn1, hn2, hn3, hσ1⟩) (Nat.le_of_ble_eq_true rfl) (Nat.le_of_ble_eq_true rfl) dJx4a65c_grow_d5877_10

set_option maxHeartbeats 4000000 in
set_option maxRecDepth 100000 in
theorem c_addP (l : Launch) (b : Nat) (D : mm_D) (hst : l.stackTraces = false) (o a r n0 n x : Nat) (mc : Int32) (L : List Nat) (σ : mm_S) (hA : σ a = mm_obj o 8 [.int mc, .ref r, .int (nI n0)]) (hLn : L.length = n0) (hn : n0 ≤ 100) (hob : ∀ y ∈ L, mm_ob σ y) (hx : mm_ob σ x) (hcs : (r = D.2.2 ∧ n0 = 0) ∨ (σ r = mm_arq o 8 n (fun i => L[i]?) ∧ 10 ≤ n ∧ n0 ≤ n ∧ n ≤ 2000)) : mm_K l b D yJx4a65c_add_72be8 (.code yJx4a65c_add_72be8 cJx4a65c_add_72be8 4 none) ({ frames := 5, cells := 1, slots := 150, locals := 124 } : Room) [.ref a, .ref x, .ref r, .int (nI n0)] σ
    (fun v σ2 => v = none ∧ ∃ r2 n2, 10 ≤ n2 ∧ n2 ≤ 2000 ∧ n0 + 1 ≤ n2 ∧ ((r2 = r ∧ σ r ≠ none) ∨ σ r2 = none) ∧ σ2 a = mm_obj o 8 [.int mc, .ref r2, .int (nI (n0 + 1))] ∧ σ2 r2 = mm_arq o 8 n2 (fun i => (L ++ [x])[i]?) ∧ ∀ z, z ≠ a → z ≠ r2 → σ2 z = σ z)
    (fun _ _ => False) := by
  refine mm_of (cc := cJx4a65c_add_72be8) (nL := 4) (ret := none) (by decide) rfl (Nat.le_of_ble_eq_true rfl) hst ?_
  intro p e s m args below meth c ls F ht hr hin hN hl
  have hl : lv_has ls 4 [(0, .ref a), (1, .ref x), (2, .ref r), (3, .int (nI n0))] := hl
  rcases hcs with ⟨rfl, rfl⟩ | ⟨hR, h10, hn0, h2000⟩
  ·
    refine lv_iload_n (pc := 0) F.1 F.2.1 dJx4a65c_add_72be8_0 rfl (lv_at hl 3 rfl) ?_
    refine lv_aload_n (pc := 1) F.1 F.2.1 dJx4a65c_add_72be8_1 rfl (lv_at hl 2 rfl) ?_
    refine mm_alen0 (pc := 2) F hN dJx4a65c_add_72be8_2 ?_
    refine mm_icmp_ne (pc := 3) F (x := 0) (y := 0) (tgt := 11) (by omega) (by omega) dJx4a65c_add_72be8_3 (by decide) (fun c3 => ?_) (fun c3 => ?_)
    ·
      omega
    ·
      refine lv_aload_n (pc := 6) F.1 F.2.1 dJx4a65c_add_72be8_6 rfl (lv_at hl 0 rfl) ?_
      refine mm_runV (pc := 7) (As := []) (rest := []) F hN (c_grow l b D hst o a D.2.2 0 mc L σ hA hLn hn hob (Or.inl ⟨rfl, rfl⟩)) mw_254 mw_256 mw_p2 mw_4 mw_257 ⟨pmJx4a65c_grow_d5877, (Nat.le_of_ble_eq_true rfl), (Nat.le_of_ble_eq_true rfl)⟩ (mm_recv F.2.2.2.2.2.1 hN hA rfl) hl.1 rfl (Nat.le_of_ble_eq_true rfl) ⟨(Nat.le_of_ble_eq_true rfl), (Nat.le_of_ble_eq_true rfl)⟩ dJx4a65c_add_72be8_7
        (fun _ _ _ _ _ _ h9 => False.elim h9)
        (fun v9 σ1 H locs hp9 hN => ?_)
      obtain ⟨q, n2, rfl, hq, hn1, hn2, hn3, hσ1⟩ := hp9
      refine W.eq (g2 := F0 m 10 ls [.ref q]) rfl ?_
      refine W.widen (k := 1) (n := 150) (Nat.le_of_ble_eq_true rfl) (Nat.le_of_ble_eq_true rfl) ?_
      have haq : a ≠ q := fun e => by rw [e, hq] at hA; cases hA
      have hA1 : σ1 a = mm_obj o 8 [.int mc, .ref q, .int (nI 0)] := by rw [hσ1]; exact mm_u_eq
      have hR1 : σ1 q = mm_arq o 8 n2 (fun i => L[i]?) := by rw [hσ1, mm_u_ne (Ne.symm haq)]; exact mm_u_eq
      have hz1 : ∀ z, z ≠ a → z ≠ q → σ1 z = σ z := fun z z1 z2 => by rw [hσ1, mm_u_ne z1, mm_u_ne z2]
      have hx1 : mm_ob σ1 x := by
        obtain ⟨o9, c9, f9, g, g2⟩ := hx
        exact ⟨o9, c9, f9, by rw [hz1 x (fun e => by rw [e, hA] at g; cases g; exact absurd g2 (by decide)) (fun e => by rw [e, hq] at g; cases g)]; exact g, g2⟩
      refine lv_astore_n (pc := 10) (lv' := [(2, .ref q), (0, .ref a), (1, .ref x), (3, .int (nI 0))]) F.1 F.2.1 dJx4a65c_add_72be8_10 rfl hl (by decide) rfl (fun ls hl => ?_)
      refine lv_aload_n (pc := 11) F.1 F.2.1 dJx4a65c_add_72be8_11 rfl (lv_at hl 0 rfl) ?_
      refine lv_iload_n (pc := 12) F.1 F.2.1 dJx4a65c_add_72be8_12 rfl (lv_at hl 3 rfl) ?_
      refine lv_aload_n (pc := 13) F.1 F.2.1 dJx4a65c_add_72be8_13 rfl (lv_at hl 2 rfl) ?_
      refine mm_astq (pc := 14) F hN (hR1) (hx1) (j := 0) rfl (by omega) (by omega) dJx4a65c_add_72be8_14 (fun H locs hN => ?_)
      have hN := mm_setl o b D s σ1 H locs q n2 0 x L hLn.symm hN
      have hA2 : (mm_u σ1 q (mm_arq o 8 n2 (fun i => (L ++ [x])[i]?))) a = mm_obj o 8 [.int mc, .ref q, .int (nI 0)] := by rw [mm_u_ne (fun e => by rw [← e, hA1] at hR1; cases hR1)]; exact hA1
      refine lv_aload_n (pc := 15) F.1 F.2.1 dJx4a65c_add_72be8_15 rfl (lv_at hl 1 rfl) ?_
      refine lv_iload_n (pc := 16) F.1 F.2.1 dJx4a65c_add_72be8_16 rfl (lv_at hl 3 rfl) ?_
      refine lv_iconst (pc := 17) (v := nI 1) F.1 F.2.1 dJx4a65c_add_72be8_17 (by decide) ?_
      refine mm_iadd (pc := 18) F (z := nI (0 + 1)) (nI_add _ _) dJx4a65c_add_72be8_18 ?_
      refine mm_put (pc := 19) F hN (hA2) (ci := 8) rfl 2 (by decide) mw_57 rfl (ty := .int) (by decide +kernel) (rfl) (rfl) (Nat.le_of_ble_eq_true rfl) dJx4a65c_add_72be8_19 (fun H locs hN => ?_)
      have hN : mm_N b D s (mm_u ((mm_u σ1 q (mm_arq o 8 n2 (fun i => (L ++ [x])[i]?)))) a (mm_obj o 8 [.int mc, .ref q, .int (nI (0 + 1))])) H locs := hN
      exact mm_vret (pc := 22) F hr hN (⟨rfl, q, n2, by omega, by omega, by omega, Or.inr hq, mm_u_eq, by rw [mm_u_ne (fun e => by rw [e, hA1] at hR1; cases hR1)]; exact mm_u_eq, fun z z1 z2 => by rw [mm_u_ne z1, mm_u_ne z2]; exact hz1 z z1 z2⟩) (Nat.le_of_ble_eq_true rfl) (Nat.le_of_ble_eq_true rfl) dJx4a65c_add_72be8_22
  ·
    refine lv_iload_n (pc := 0) F.1 F.2.1 dJx4a65c_add_72be8_0 rfl (lv_at hl 3 rfl) ?_
    refine lv_aload_n (pc := 1) F.1 F.2.1 dJx4a65c_add_72be8_1 rfl (lv_at hl 2 rfl) ?_
    refine mm_alen (pc := 2) F hN (hR) rfl dJx4a65c_add_72be8_2 ?_
    refine mm_icmp_ne (pc := 3) F (x := n0) (y := n) (tgt := 11) (by omega) (by omega) dJx4a65c_add_72be8_3 (by decide) (fun c3 => ?_) (fun c3 => ?_)
    ·
      refine lv_aload_n (pc := 11) F.1 F.2.1 dJx4a65c_add_72be8_11 rfl (lv_at hl 2 rfl) ?_
      refine lv_iload_n (pc := 12) F.1 F.2.1 dJx4a65c_add_72be8_12 rfl (lv_at hl 3 rfl) ?_
      refine lv_aload_n (pc := 13) F.1 F.2.1 dJx4a65c_add_72be8_13 rfl (lv_at hl 1 rfl) ?_
      refine mm_astq (pc := 14) F hN (hR) (hx) (j := n0) rfl (by omega) (by omega) dJx4a65c_add_72be8_14 (fun H locs hN => ?_)
      have hN := mm_setl o b D s σ H locs r n n0 x L hLn.symm hN
      have hA2 : (mm_u σ r (mm_arq o 8 n (fun i => (L ++ [x])[i]?))) a = mm_obj o 8 [.int mc, .ref r, .int (nI n0)] := by rw [mm_u_ne (fun e => by rw [← e, hA] at hR; cases hR)]; exact hA
      refine lv_aload_n (pc := 15) F.1 F.2.1 dJx4a65c_add_72be8_15 rfl (lv_at hl 0 rfl) ?_
      refine lv_iload_n (pc := 16) F.1 F.2.1 dJx4a65c_add_72be8_16 rfl (lv_at hl 3 rfl) ?_
      refine lv_iconst (pc := 17) (v := nI 1) F.1 F.2.1 dJx4a65c_add_72be8_17 (by decide) ?_
      refine mm_iadd (pc := 18) F (z := nI (n0 + 1)) (nI_add _ _) dJx4a65c_add_72be8_18 ?_
      refine mm_put (pc := 19) F hN (hA2) (ci := 8) rfl 2 (by decide) mw_57 rfl (ty := .int) (by decide +kernel) (rfl) (rfl) (Nat.le_of_ble_eq_true rfl) dJx4a65c_add_72be8_19 (fun H locs hN => ?_)
      have hN : mm_N b D s (mm_u ((mm_u σ r (mm_arq o 8 n (fun i => (L ++ [x])[i]?)))) a (mm_obj o 8 [.int mc, .ref r, .int (nI (n0 + 1))])) H locs := hN
      exact mm_vret (pc := 22) F hr hN (⟨rfl, r, n, by omega, by omega, by omega, Or.inl ⟨rfl, by rw [hR]; exact fun h => by cases h⟩, mm_u_eq, by rw [mm_u_ne (fun e => by rw [e, hA] at hR; cases hR)]; exact mm_u_eq, fun z z1 z2 => by rw [mm_u_ne z1, mm_u_ne z2]⟩) (Nat.le_of_ble_eq_true rfl) (Nat.le_of_ble_eq_true rfl) dJx4a65c_add_72be8_22
    ·
      refine lv_aload_n (pc := 6) F.1 F.2.1 dJx4a65c_add_72be8_6 rfl (lv_at hl 0 rfl) ?_
      refine mm_runV (pc := 7) (As := []) (rest := []) F hN (c_grow l b D hst o a r n0 mc L σ hA hLn hn hob (Or.inr ⟨by rw [c3]; exact hR, by omega⟩)) mw_254 mw_256 mw_p2 mw_4 mw_257 ⟨pmJx4a65c_grow_d5877, (Nat.le_of_ble_eq_true rfl), (Nat.le_of_ble_eq_true rfl)⟩ (mm_recv F.2.2.2.2.2.1 hN hA rfl) hl.1 rfl (Nat.le_of_ble_eq_true rfl) ⟨(Nat.le_of_ble_eq_true rfl), (Nat.le_of_ble_eq_true rfl)⟩ dJx4a65c_add_72be8_7
        (fun _ _ _ _ _ _ h9 => False.elim h9)
        (fun v9 σ1 H locs hp9 hN => ?_)
      obtain ⟨q, n2, rfl, hq, hn1, hn2, hn3, hσ1⟩ := hp9
      refine W.eq (g2 := F0 m 10 ls [.ref q]) rfl ?_
      refine W.widen (k := 1) (n := 150) (Nat.le_of_ble_eq_true rfl) (Nat.le_of_ble_eq_true rfl) ?_
      have haq : a ≠ q := fun e => by rw [e, hq] at hA; cases hA
      have hA1 : σ1 a = mm_obj o 8 [.int mc, .ref q, .int (nI n0)] := by rw [hσ1]; exact mm_u_eq
      have hR1 : σ1 q = mm_arq o 8 n2 (fun i => L[i]?) := by rw [hσ1, mm_u_ne (Ne.symm haq)]; exact mm_u_eq
      have hz1 : ∀ z, z ≠ a → z ≠ q → σ1 z = σ z := fun z z1 z2 => by rw [hσ1, mm_u_ne z1, mm_u_ne z2]
      have hx1 : mm_ob σ1 x := by
        obtain ⟨o9, c9, f9, g, g2⟩ := hx
        exact ⟨o9, c9, f9, by rw [hz1 x (fun e => by rw [e, hA] at g; cases g; exact absurd g2 (by decide)) (fun e => by rw [e, hq] at g; cases g)]; exact g, g2⟩
      refine lv_astore_n (pc := 10) (lv' := [(2, .ref q), (0, .ref a), (1, .ref x), (3, .int (nI n0))]) F.1 F.2.1 dJx4a65c_add_72be8_10 rfl hl (by decide) rfl (fun ls hl => ?_)
      refine lv_aload_n (pc := 11) F.1 F.2.1 dJx4a65c_add_72be8_11 rfl (lv_at hl 0 rfl) ?_
      refine lv_iload_n (pc := 12) F.1 F.2.1 dJx4a65c_add_72be8_12 rfl (lv_at hl 3 rfl) ?_
      refine lv_aload_n (pc := 13) F.1 F.2.1 dJx4a65c_add_72be8_13 rfl (lv_at hl 2 rfl) ?_
      refine mm_astq (pc := 14) F hN (hR1) (hx1) (j := n0) rfl (by omega) (by omega) dJx4a65c_add_72be8_14 (fun H locs hN => ?_)
      have hN := mm_setl o b D s σ1 H locs q n2 n0 x L hLn.symm hN
      have hA2 : (mm_u σ1 q (mm_arq o 8 n2 (fun i => (L ++ [x])[i]?))) a = mm_obj o 8 [.int mc, .ref q, .int (nI n0)] := by rw [mm_u_ne (fun e => by rw [← e, hA1] at hR1; cases hR1)]; exact hA1
      refine lv_aload_n (pc := 15) F.1 F.2.1 dJx4a65c_add_72be8_15 rfl (lv_at hl 1 rfl) ?_
      refine lv_iload_n (pc := 16) F.1 F.2.1 dJx4a65c_add_72be8_16 rfl (lv_at hl 3 rfl) ?_
      refine lv_iconst (pc := 17) (v := nI 1) F.1 F.2.1 dJx4a65c_add_72be8_17 (by decide) ?_
      refine mm_iadd (pc := 18) F (z := nI (n0 + 1)) (nI_add _ _) dJx4a65c_add_72be8_18 ?_
      refine mm_put (pc := 19) F hN (hA2) (ci := 8) rfl 2 (by decide) mw_57 rfl (ty := .int) (by decide +kernel) (rfl) (rfl) (Nat.le_of_ble_eq_true rfl) dJx4a65c_add_72be8_19 (fun H locs hN => ?_)
      have hN : mm_N b D s (mm_u ((mm_u σ1 q (mm_arq o 8 n2 (fun i => (L ++ [x])[i]?)))) a (mm_obj o 8 [.int mc, .ref q, .int (nI (n0 + 1))])) H locs := hN
      exact mm_vret (pc := 22) F hr hN (⟨rfl, q, n2, by omega, by omega, by omega, Or.inr hq, mm_u_eq, by rw [mm_u_ne (fun e => by rw [e, hA1] at hR1; cases hR1)]; exact mm_u_eq, fun z z1 z2 => by rw [mm_u_ne z1, mm_u_ne z2]; exact hz1 z z1 z2⟩) (Nat.le_of_ble_eq_true rfl) (Nat.le_of_ble_eq_true rfl) dJx4a65c_add_72be8_22
