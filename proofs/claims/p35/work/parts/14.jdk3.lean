theorem mm_uu {σ : mm_S} {a : Nat} {x y : Option (Nat × mm_e)} : mm_u (mm_u σ a x) a y = mm_u σ a y := by
  funext z
  by_cases h : z = a
  · subst h; rw [mm_u_eq, mm_u_eq]
  · rw [mm_u_ne h, mm_u_ne h, mm_u_ne h]
theorem mm_open2 {b : Nat} {D : mm_D} {σ : mm_S} {H : Heap} {s : State} {locs : List Loc} (hE : mm_E b D s) (hN : mm_N b D s σ H locs) {a o : Nat} {L : List Nat} (hl : σ a = mm_lst o L) : ∃ (mc : Int32) (r n : Nat) (σ1 : mm_S), L.length ≤ 1000 ∧ (∀ y ∈ L, mm_ob σ y) ∧ (∀ y, mm_ob σ y → mm_ob σ1 y) ∧ σ r = none ∧
    ((σ1 = mm_u σ a (mm_obj o 8 [.int mc, .ref r, .int (nI L.length)])) ∨ (σ r = none ∧ r ≠ a ∧ σ1 = mm_u (mm_u σ a (mm_obj o 8 [.int mc, .ref r, .int (nI L.length)])) r (mm_arq o 8 n (fun i => L[i]?)))) ∧
    ((r = D.2.2 ∧ L.length = 0) ∨ (σ1 r = mm_arq o 8 n (fun i => L[i]?) ∧ 10 ≤ n ∧ L.length ≤ n ∧ n ≤ 2000)) ∧ mm_N b D s σ1 H locs ∧ σ1 a = mm_obj o 8 [.int mc, .ref r, .int (nI L.length)] := by
  have hob1 : ∀ {x : Option (Nat × mm_e)} (y : Nat), mm_ob σ y → mm_ob (mm_u σ a x) y := fun {x} y hy => by
    obtain ⟨o9, c9, f9, g, g2⟩ := hy
    exact ⟨o9, c9, f9, by rw [mm_u_ne (fun e => by rw [e, hl] at g; cases g)]; exact g, g2⟩
  obtain ⟨mc, r, h1, hob, h | h⟩ := mm_open hN.1 hl
  · obtain ⟨e1, e2, h3⟩ := h
    have hrn : σ r = none := by
      cases hz : σ r with
      | none => rfl
      | some z =>
        have h9 := mm_H_b hN.1 (o := z.1) (e := z.2) hz
        obtain ⟨-, -, -, -, -, -, -, h8⟩ := hE.2.2.2.2.2.1.2
        exact absurd (by rw [← e1]; exact h9) h8
    exact ⟨mc, r, 0, _, h1, hob, hob1, hrn, Or.inl rfl, Or.inl ⟨e1, by rw [e2]; rfl⟩, ⟨h3, hN.2⟩, mm_u_eq⟩
  · obtain ⟨h2, h3, -, n, h4, h5, h6, h7⟩ := h
    refine ⟨mc, r, n, _, h1, hob, fun y hy => ?_, h2, Or.inr ⟨h2, h3, rfl⟩, Or.inr ⟨mm_u_eq, h4, h6, h5⟩, ⟨h7, hN.2⟩, by rw [mm_u_ne (Ne.symm h3)]; exact mm_u_eq⟩
    obtain ⟨o9, c9, f9, g, g2⟩ := hob1 (x := mm_obj o 8 [.int mc, .ref r, .int (nI L.length)]) y hy
    exact ⟨o9, c9, f9, by rw [mm_u_ne (fun e => by obtain ⟨o8, c8, f8, w, -⟩ := hy; rw [e, h2] at w; cases w)]; exact g, g2⟩
theorem mm_ob_put {σ : mm_S} {a o : Nat} {fs fs2 : List Value} (hA : σ a = mm_obj o 8 fs) (y : Nat) (h : mm_ob σ y) : mm_ob (mm_u σ a (mm_obj o 8 fs2)) y := by
  obtain ⟨o9, c9, f9, g, g2⟩ := h
  exact ⟨o9, c9, f9, by rw [mm_u_ne (fun e => by rw [e, hA] at g; cases g; exact absurd g2 (by decide))]; exact g, g2⟩
set_option maxHeartbeats 4000000 in
set_option maxRecDepth 100000 in
theorem c_ALadd (l : Launch) (b : Nat) (D : mm_D) (hst : l.stackTraces = false) (o a x : Nat) (L : List Nat) (σ : mm_S) (hl0 : σ a = mm_lst o L) (hx : mm_ob σ x) (hn : L.length ≤ 100) : mm_K l b D yJx4a65c_add_9ea2d (.code yJx4a65c_add_9ea2d cJx4a65c_add_9ea2d 2 (some .boolean)) ({ frames := 6, cells := 1, slots := 150, locals := 148 } : Room) [.ref a, .ref x] σ
    (fun v σ2 => v = some (.int (nI 1)) ∧ σ2 = mm_u σ a (mm_lst o (L ++ [x])))
    (fun _ _ => False) := by
  refine mm_of (cc := cJx4a65c_add_9ea2d) (nL := 2) (ret := (some .boolean)) (by decide) rfl (Nat.le_of_ble_eq_true rfl) hst ?_
  intro p e s m args below meth c ls F ht hr hin hN hl
  have hl : lv_has ls 2 [(0, .ref a), (1, .ref x)] := hl
  obtain ⟨mc, r, n, σ1, hlen, hob, hob1, hrn, hop, hcs, hN, hA⟩ := mm_open2 F.2.2.2.2.2.1 hN hl0
  refine lv_aload_n (pc := 0) F.1 F.2.1 dJx4a65c_add_9ea2d_0 rfl (lv_at hl 0 rfl) ?_
  refine lv_dup (pc := 1) F.1 F.2.1 dJx4a65c_add_9ea2d_1 rfl ?_
  refine mm_getS (pc := 2) F hN (hA) (ci := 8) rfl 0 (by decide) mw_59 (fun x9 h9 => u_same (F.2.2.2.2.1 _ mw_60) x9 h9) rfl dJx4a65c_add_9ea2d_2 ?_
  refine lv_iconst (pc := 5) (v := nI 1) F.1 F.2.1 dJx4a65c_add_9ea2d_5 (by decide) ?_
  refine mm_iadd (pc := 6) F (z := mc + (nI 1)) (rfl) dJx4a65c_add_9ea2d_6 ?_
  refine mm_putS (pc := 7) F hN (hA) (ci := 8) rfl 0 (by decide) mw_59 (fun x9 h9 => u_same (F.2.2.2.2.1 _ mw_60) x9 h9) rfl (ty := .int) (by decide +kernel) (rfl) (rfl) (Nat.le_of_ble_eq_true rfl) dJx4a65c_add_9ea2d_7 (fun H locs hN => ?_)
  have hN : mm_N b D s (mm_u σ1 a (mm_obj o 8 [.int (mc + (nI 1)), .ref r, .int (nI L.length)])) H locs := hN
  have hA2 : (mm_u σ1 a (mm_obj o 8 [.int (mc + (nI 1)), .ref r, .int (nI L.length)])) a = mm_obj o 8 [.int (mc + nI 1), .ref r, .int (nI L.length)] := mm_u_eq
  have hz2 : ∀ z, z ≠ a → (mm_u σ1 a (mm_obj o 8 [.int (mc + (nI 1)), .ref r, .int (nI L.length)])) z = σ1 z := fun z hz => mm_u_ne hz
  have hob2 : ∀ y, mm_ob σ y → mm_ob (mm_u σ1 a (mm_obj o 8 [.int (mc + (nI 1)), .ref r, .int (nI L.length)])) y := fun y hy => mm_ob_put hA y (hob1 y hy)
  generalize mm_u σ1 a (mm_obj o 8 [.int (mc + (nI 1)), .ref r, .int (nI L.length)]) = σ2 at hN hA2 hz2 hob2
  refine lv_aload_n (pc := 10) F.1 F.2.1 dJx4a65c_add_9ea2d_10 rfl (lv_at hl 0 rfl) ?_
  refine lv_aload_n (pc := 11) F.1 F.2.1 dJx4a65c_add_9ea2d_11 rfl (lv_at hl 1 rfl) ?_
  refine lv_aload_n (pc := 12) F.1 F.2.1 dJx4a65c_add_9ea2d_12 rfl (lv_at hl 0 rfl) ?_
  refine mm_get (pc := 13) F hN (hA2) (ci := 8) rfl 1 (by decide) mw_56 rfl dJx4a65c_add_9ea2d_13 ?_
  refine lv_aload_n (pc := 16) F.1 F.2.1 dJx4a65c_add_9ea2d_16 rfl (lv_at hl 0 rfl) ?_
  refine mm_get (pc := 17) F hN (hA2) (ci := 8) rfl 2 (by decide) mw_57 rfl dJx4a65c_add_9ea2d_17 ?_
  have hcs2 : (r = D.2.2 ∧ L.length = 0) ∨ (σ2 r = mm_arq o 8 n (fun i => L[i]?) ∧ 10 ≤ n ∧ L.length ≤ n ∧ n ≤ 2000) := hcs.imp id (fun ⟨q1, q2⟩ => ⟨by rw [hz2 r (fun e => by rw [e, hA] at q1; cases q1)]; exact q1, q2⟩)
  refine mm_runV (pc := 20) (As := [.ref x, .ref r, .int (nI L.length)]) (rest := []) F hN (c_addP l b D hst o a r L.length n x (mc + nI 1) L σ2 hA2 rfl hn (fun y hy => hob2 y (hob y hy)) (hob2 x hx) hcs2) mw_250 mw_252 mw_p1 mw_4 mw_253 ⟨pmJx4a65c_add_72be8, (Nat.le_of_ble_eq_true rfl), (Nat.le_of_ble_eq_true rfl)⟩ (mm_recv F.2.2.2.2.2.1 hN hA2 rfl) hl.1 rfl (Nat.le_of_ble_eq_true rfl) ⟨(Nat.le_of_ble_eq_true rfl), (Nat.le_of_ble_eq_true rfl)⟩ dJx4a65c_add_9ea2d_20
    (fun _ _ _ _ _ _ h9 => False.elim h9)
    (fun v9 σ3 H locs hp9 hN => ?_)
  obtain ⟨rfl, r2, n2, hm1, hm2, hm3, hm4, hA3, hR3, hz3⟩ := hp9
  refine W.eq (g2 := F0 m 23 ls []) rfl ?_
  refine W.widen (k := 1) (n := 150) (Nat.le_of_ble_eq_true rfl) (Nat.le_of_ble_eq_true rfl) ?_
  have hr2a : r2 ≠ a := fun e => by rw [e, hA3] at hR3; cases hR3
  have hN := mm_N_to hN (mm_fin hl0 hop hN.1 (L2 := L ++ [x]) (by rw [hA3, List.length_append]; rfl) hR3 hm1 hm2 (by rw [List.length_append]; exact hm3) (by rw [List.length_append]; show L.length + 1 ≤ 1000; omega) (fun y hy => (List.mem_append.mp hy).elim (hob y) (fun h => by rw [List.mem_singleton.mp h]; exact hx)) (hm4.imp (fun q => ⟨q.1, hrn⟩) (fun q => by rw [← hz2 r2 hr2a]; exact q)) (fun z z1 z2 => (hz3 z z1 z2).trans (hz2 z z1)))
  refine lv_iconst (pc := 23) (v := nI 1) F.1 F.2.1 dJx4a65c_add_9ea2d_23 (by decide) ?_
  exact mm_zret (pc := 24) F (ty := .boolean) hr hN (by decide) (⟨rfl, rfl⟩) (Nat.le_of_ble_eq_true rfl) (Nat.le_of_ble_eq_true rfl) dJx4a65c_add_9ea2d_24

set_option maxHeartbeats 4000000 in
set_option maxRecDepth 100000 in
theorem c_ALrange (l : Launch) (b : Nat) (D : mm_D) (hst : l.stackTraces = false) (o a i : Nat) (L : List Nat) (σ : mm_S) (hl0 : σ a = mm_lst o L) (hi : i ≤ L.length) : mm_K l b D yJx4a65c_rangeCheckForAdd_d00df (.code yJx4a65c_rangeCheckForAdd_d00df cJx4a65c_rangeCheckForAdd_d00df 2 none) ({ frames := 0, cells := 0, slots := 0, locals := 0 } : Room) [.ref a, .int (nI i)] σ
    (fun v σ2 => v = none ∧ σ2 = σ)
    (fun _ _ => False) := by
  refine mm_of (cc := cJx4a65c_rangeCheckForAdd_d00df) (nL := 2) (ret := none) (by decide) rfl (Nat.le_of_ble_eq_true rfl) hst ?_
  intro p e s m args below meth c ls F ht hr hin hN hl
  have hl : lv_has ls 2 [(0, .ref a), (1, .int (nI i))] := hl
  have hN0 := hN
  obtain ⟨mc, r, σv, hlen, hN, ha, hr2⟩ := mm_view hN hl0
  refine lv_iload_n (pc := 0) F.1 F.2.1 dJx4a65c_rangeCheckForAdd_d00df_0 rfl (lv_at hl 1 rfl) ?_
  refine lv_aload_n (pc := 1) F.1 F.2.1 dJx4a65c_rangeCheckForAdd_d00df_1 rfl (lv_at hl 0 rfl) ?_
  refine mm_get (pc := 2) F hN (ha) (ci := 8) rfl 2 (by decide) mw_57 rfl dJx4a65c_rangeCheckForAdd_d00df_2 ?_
  refine mm_icmp_gt (pc := 5) F (x := i) (y := L.length) (tgt := 12) (by omega) (by omega) dJx4a65c_rangeCheckForAdd_d00df_5 (by decide) (fun cz5 => ?_) (fun cz5 => ?_)
  ·
    omega
  ·
    refine lv_iload_n (pc := 8) F.1 F.2.1 dJx4a65c_rangeCheckForAdd_d00df_8 rfl (lv_at hl 1 rfl) ?_
    refine mm_if_ge (pc := 9) F (tgt := 25) (by omega) dJx4a65c_rangeCheckForAdd_d00df_9 (by decide) ?_
    have hN := hN0
    exact mm_vret (pc := 25) F hr hN (⟨rfl, rfl⟩) (Nat.le_of_ble_eq_true rfl) (Nat.le_of_ble_eq_true rfl) dJx4a65c_rangeCheckForAdd_d00df_25

set_option maxHeartbeats 4000000 in
set_option maxRecDepth 100000 in
theorem c_AbsColl (l : Launch) (b : Nat) (D : mm_D) (hst : l.stackTraces = false) (a : Nat) (σ : mm_S) : mm_K l b D yJxa1e45_init_da8c8 (.code yJxa1e45_init_da8c8 cJxa1e45_init_da8c8 1 none) ({ frames := 1, cells := 0, slots := 0, locals := 12 } : Room) [.ref a] σ
    (fun v σ2 => v = none ∧ σ2 = σ)
    (fun _ _ => False) := by
  refine mm_of (cc := cJxa1e45_init_da8c8) (nL := 1) (ret := none) (by decide) rfl (Nat.le_of_ble_eq_true rfl) hst ?_
  intro p e s m args below meth c ls F ht hr hin hN hl
  have hl : lv_has ls 1 [(0, .ref a)] := hl
  refine lv_aload_n (pc := 0) F.1 F.2.1 dJxa1e45_init_da8c8_0 rfl (lv_at hl 0 rfl) ?_
  refine W.objInit F.1 F.2.1 F.2.2.2.1 (F.2.2.2.2.1 _ mw_53) (F.2.2.2.2.1 _ mw_40) (F.2.2.2.2.1 _ mw_41) rfl (by rw [F.2.2.1]; exact hl.1) rfl (g := F0 m 1 ls [.ref a]) dJxa1e45_init_da8c8_1 (Nat.le_of_ble_eq_true rfl) (Nat.le_of_ble_eq_true rfl) ?_
  refine W.eq (g2 := F0 m 4 ls []) rfl ?_
  exact mm_vret (pc := 4) F hr hN (⟨rfl, rfl⟩) (Nat.le_of_ble_eq_true rfl) (Nat.le_of_ble_eq_true rfl) dJxa1e45_init_da8c8_4

set_option maxHeartbeats 4000000 in
set_option maxRecDepth 100000 in
theorem c_AbsList (l : Launch) (b : Nat) (D : mm_D) (hst : l.stackTraces = false) (o a : Nat) (v1 v2 : Value) (i0 : Int32) (σ : mm_S) (hA : σ a = mm_obj o 8 [.int i0, v1, v2]) : mm_K l b D yJxc12de_init_da8c8 (.code yJxc12de_init_da8c8 cJxc12de_init_da8c8 1 none) ({ frames := 2, cells := 0, slots := 0, locals := 32 } : Room) [.ref a] σ
    (fun v σ2 => v = none ∧ σ2 = mm_u σ a (mm_obj o 8 [.int (nI 0), v1, v2]))
    (fun _ _ => False) := by
  refine mm_of (cc := cJxc12de_init_da8c8) (nL := 1) (ret := none) (by decide) rfl (Nat.le_of_ble_eq_true rfl) hst ?_
  intro p e s m args below meth c ls F ht hr hin hN hl
  have hl : lv_has ls 1 [(0, .ref a)] := hl
  refine lv_aload_n (pc := 0) F.1 F.2.1 dJxc12de_init_da8c8_0 rfl (lv_at hl 0 rfl) ?_
  refine mm_runI (pc := 1) (As := []) (rest := []) F hN (c_AbsColl l b D hst a σ) rfl mw_50 mw_51 mw_2 mw_52 ⟨pmJxa1e45_init_da8c8, (Nat.le_of_ble_eq_true rfl), (Nat.le_of_ble_eq_true rfl)⟩ hl.1 rfl (Nat.le_of_ble_eq_true rfl) ⟨(Nat.le_of_ble_eq_true rfl), (Nat.le_of_ble_eq_true rfl)⟩ dJxc12de_init_da8c8_1
    (fun _ _ _ _ _ _ h9 => False.elim h9)
    (fun v9 σ1 H locs hp9 hN => ?_)
  obtain ⟨rfl, h9⟩ := hp9
  rw [h9] at hN
  refine W.eq (g2 := F0 m 4 ls []) rfl ?_
  refine W.widen (k := 0) (n := 0) (Nat.le_of_ble_eq_true rfl) (Nat.le_of_ble_eq_true rfl) ?_
  refine lv_aload_n (pc := 4) F.1 F.2.1 dJxc12de_init_da8c8_4 rfl (lv_at hl 0 rfl) ?_
  refine lv_iconst (pc := 5) (v := nI 0) F.1 F.2.1 dJxc12de_init_da8c8_5 (by decide) ?_
  refine mm_put (pc := 6) F hN (hA) (ci := 8) rfl 0 (by decide) mw_58 rfl (ty := .int) (by decide +kernel) (rfl) (rfl) (Nat.le_of_ble_eq_true rfl) dJxc12de_init_da8c8_6 (fun H locs hN => ?_)
  have hN : mm_N b D s (mm_u σ a (mm_obj o 8 [.int (nI 0), v1, v2])) H locs := hN
  exact mm_vret (pc := 9) F hr hN (⟨rfl, rfl⟩) (Nat.le_of_ble_eq_true rfl) (Nat.le_of_ble_eq_true rfl) dJxc12de_init_da8c8_9

set_option maxHeartbeats 4000000 in
set_option maxRecDepth 100000 in
theorem c_ALinit (l : Launch) (b : Nat) (D : mm_D) (hst : l.stackTraces = false) (o a : Nat) (σ : mm_S) (hA : σ a = mm_obj o 8 [.int (nI 0), .null, .int (nI 0)]) : mm_K l b D yJx4a65c_init_da8c8 (.code yJx4a65c_init_da8c8 cJx4a65c_init_da8c8 1 none) ({ frames := 3, cells := 0, slots := 0, locals := 52 } : Room) [.ref a] σ
    (fun v σ2 => v = none ∧ σ2 = mm_u σ a (mm_lst o []))
    (fun _ _ => False) := by
  refine mm_of (cc := cJx4a65c_init_da8c8) (nL := 1) (ret := none) (by decide) rfl (Nat.le_of_ble_eq_true rfl) hst ?_
  intro p e s m args below meth c ls F ht hr hin hN hl
  have hl : lv_has ls 1 [(0, .ref a)] := hl
  refine lv_aload_n (pc := 0) F.1 F.2.1 dJx4a65c_init_da8c8_0 rfl (lv_at hl 0 rfl) ?_
  refine mm_runI (pc := 1) (As := []) (rest := []) F hN (c_AbsList l b D hst o a .null (.int (nI 0)) (nI 0) σ hA) rfl mw_47 mw_48 mw_3 mw_49 ⟨pmJxc12de_init_da8c8, (Nat.le_of_ble_eq_true rfl), (Nat.le_of_ble_eq_true rfl)⟩ hl.1 rfl (Nat.le_of_ble_eq_true rfl) ⟨(Nat.le_of_ble_eq_true rfl), (Nat.le_of_ble_eq_true rfl)⟩ dJx4a65c_init_da8c8_1
    (fun _ _ _ _ _ _ h9 => False.elim h9)
    (fun v9 σ1 H locs hp9 hN => ?_)
  obtain ⟨rfl, hσ1⟩ := hp9
  refine W.eq (g2 := F0 m 4 ls []) rfl ?_
  refine W.widen (k := 0) (n := 0) (Nat.le_of_ble_eq_true rfl) (Nat.le_of_ble_eq_true rfl) ?_
  rw [hσ1] at hN
  have hA1 : (mm_u σ a (mm_obj o 8 [.int (nI 0), .null, .int (nI 0)])) a = mm_obj o 8 [.int (nI 0), .null, .int (nI 0)] := mm_u_eq
  refine lv_aload_n (pc := 4) F.1 F.2.1 dJx4a65c_init_da8c8_4 rfl (lv_at hl 0 rfl) ?_
  refine mm_gets (pc := 5) F hN mw_54 dJx4a65c_init_da8c8_5 ?_
  refine mm_put (pc := 8) F hN (hA1) (ci := 8) rfl 1 (by decide) mw_56 rfl (ty := (.array (.object "java/lang/Object"))) (by decide +kernel) (rfl) (rfl) (Nat.le_of_ble_eq_true rfl) dJx4a65c_init_da8c8_8 (fun H locs hN => ?_)
  have hN : mm_N b D s (mm_u ((mm_u σ a (mm_obj o 8 [.int (nI 0), .null, .int (nI 0)]))) a (mm_obj o 8 [.int (nI 0), .ref D.2.2, .int (nI 0)])) H locs := hN
  rw [mm_uu] at hN
  have hN := mm_N_to hN (mm_close0 hN.1 (mc := nI 0) mm_u_eq)
  rw [mm_uu] at hN
  exact mm_vret (pc := 11) F hr hN (⟨rfl, rfl⟩) (Nat.le_of_ble_eq_true rfl) (Nat.le_of_ble_eq_true rfl) dJx4a65c_init_da8c8_11

set_option maxHeartbeats 4000000 in
set_option maxRecDepth 100000 in
theorem c_ALins (l : Launch) (b : Nat) (D : mm_D) (hst : l.stackTraces = false) (o a i x : Nat) (L : List Nat) (σ : mm_S) (hl0 : σ a = mm_lst o L) (hx : mm_ob σ x) (hi : i ≤ L.length) (hn : L.length ≤ 100) : mm_K l b D yJx4a65c_add_7a177 (.code yJx4a65c_add_7a177 cJx4a65c_add_7a177 5 none) ({ frames := 5, cells := 1, slots := 150, locals := 124 } : Room) [.ref a, .int (nI i), .ref x] σ
    (fun v σ2 => v = none ∧ σ2 = mm_u σ a (mm_lst o (L.insertIdx i x)))
    (fun _ _ => False) := by
  refine mm_of (cc := cJx4a65c_add_7a177) (nL := 5) (ret := none) (by decide) rfl (Nat.le_of_ble_eq_true rfl) hst ?_
  intro p e s m args below meth c ls F ht hr hin hN hl
  have hl : lv_has ls 5 [(0, .ref a), (1, .int (nI i)), (2, .ref x)] := hl
  refine lv_aload_n (pc := 0) F.1 F.2.1 dJx4a65c_add_7a177_0 rfl (lv_at hl 0 rfl) ?_
  refine lv_iload_n (pc := 1) F.1 F.2.1 dJx4a65c_add_7a177_1 rfl (lv_at hl 1 rfl) ?_
  refine mm_runV (pc := 2) (As := [.int (nI i)]) (rest := []) F hN (c_ALrange l b D hst o a i L σ hl0 hi) mw_674 mw_676 mw_p12 mw_4 mw_677 ⟨pmJx4a65c_rangeCheckForAdd_d00df, (Nat.le_of_ble_eq_true rfl), (Nat.le_of_ble_eq_true rfl)⟩ (mm_recvL F.2.2.2.2.2.1 hN hl0) hl.1 rfl (Nat.le_of_ble_eq_true rfl) ⟨(Nat.le_of_ble_eq_true rfl), (Nat.le_of_ble_eq_true rfl)⟩ dJx4a65c_add_7a177_2
    (fun _ _ _ _ _ _ h9 => False.elim h9)
    (fun v9 σ8 H locs hp9 hN => ?_)
  obtain ⟨rfl, h9⟩ := hp9
  rw [h9] at hN
  refine W.eq (g2 := F0 m 5 ls []) rfl ?_
  refine W.widen (k := 0) (n := 0) (Nat.le_of_ble_eq_true rfl) (Nat.le_of_ble_eq_true rfl) ?_
  obtain ⟨mc, r, n, σ1, hlen, hob, hob1, hrn, hop, hcs, hN, hA⟩ := mm_open2 F.2.2.2.2.2.1 hN hl0
  refine lv_aload_n (pc := 5) F.1 F.2.1 dJx4a65c_add_7a177_5 rfl (lv_at hl 0 rfl) ?_
  refine lv_dup (pc := 6) F.1 F.2.1 dJx4a65c_add_7a177_6 rfl ?_
  refine mm_getS (pc := 7) F hN (hA) (ci := 8) rfl 0 (by decide) mw_59 (fun x9 h9 => u_same (F.2.2.2.2.1 _ mw_60) x9 h9) rfl dJx4a65c_add_7a177_7 ?_
  refine lv_iconst (pc := 10) (v := nI 1) F.1 F.2.1 dJx4a65c_add_7a177_10 (by decide) ?_
  refine mm_iadd (pc := 11) F (z := mc + (nI 1)) (rfl) dJx4a65c_add_7a177_11 ?_
  refine mm_putS (pc := 12) F hN (hA) (ci := 8) rfl 0 (by decide) mw_59 (fun x9 h9 => u_same (F.2.2.2.2.1 _ mw_60) x9 h9) rfl (ty := .int) (by decide +kernel) (rfl) (rfl) (Nat.le_of_ble_eq_true rfl) dJx4a65c_add_7a177_12 (fun H locs hN => ?_)
  have hN : mm_N b D s (mm_u σ1 a (mm_obj o 8 [.int (mc + (nI 1)), .ref r, .int (nI L.length)])) H locs := hN
  have hA2 : (mm_u σ1 a (mm_obj o 8 [.int (mc + (nI 1)), .ref r, .int (nI L.length)])) a = mm_obj o 8 [.int (mc + nI 1), .ref r, .int (nI L.length)] := mm_u_eq
  have hz2 : ∀ z, z ≠ a → (mm_u σ1 a (mm_obj o 8 [.int (mc + (nI 1)), .ref r, .int (nI L.length)])) z = σ1 z := fun z hz => mm_u_ne hz
  have hob2 : ∀ y, mm_ob σ y → mm_ob (mm_u σ1 a (mm_obj o 8 [.int (mc + (nI 1)), .ref r, .int (nI L.length)])) y := fun y hy => mm_ob_put hA y (hob1 y hy)
  generalize mm_u σ1 a (mm_obj o 8 [.int (mc + (nI 1)), .ref r, .int (nI L.length)]) = σ2 at hN hA2 hz2 hob2
  rcases hcs with ⟨hrD, hL0⟩ | ⟨hR, hm1, hm2, hm3⟩
  ·
    rw [hrD] at hA2
    refine lv_aload_n (pc := 15) F.1 F.2.1 dJx4a65c_add_7a177_15 rfl (lv_at hl 0 rfl) ?_
    refine mm_get (pc := 16) F hN (hA2) (ci := 8) rfl 2 (by decide) mw_57 rfl dJx4a65c_add_7a177_16 ?_
    refine lv_dup (pc := 19) F.1 F.2.1 dJx4a65c_add_7a177_19 rfl ?_
    refine lv_istore_n (pc := 20) (lv' := [(3, .int (nI L.length)), (0, .ref a), (1, .int (nI i)), (2, .ref x)]) F.1 F.2.1 dJx4a65c_add_7a177_20 rfl hl (by decide) rfl (fun ls hl => ?_)
    refine lv_aload_n (pc := 21) F.1 F.2.1 dJx4a65c_add_7a177_21 rfl (lv_at hl 1 rfl) ?_
    refine mm_get (pc := 22) F hN (hA2) (ci := 8) rfl 1 (by decide) mw_56 rfl dJx4a65c_add_7a177_22 ?_
    refine lv_dup (pc := 25) F.1 F.2.1 dJx4a65c_add_7a177_25 rfl ?_
    refine lv_astore (pc := 26) (lv' := [(4, .ref D.2.2), (3, .int (nI L.length)), (0, .ref a), (1, .int (nI i)), (2, .ref x)]) F.1 F.2.1 dJx4a65c_add_7a177_26 hl (by decide) rfl (fun ls hl => ?_)
    refine mm_alen0 (pc := 28) F hN dJx4a65c_add_7a177_28 ?_
    refine mm_icmp_ne (pc := 29) F (x := L.length) (y := 0) (tgt := 38) (by omega) (by omega) dJx4a65c_add_7a177_29 (by decide) (fun cz29 => ?_) (fun cz29 => ?_)
    ·
      omega
    ·
      refine lv_aload_n (pc := 32) F.1 F.2.1 dJx4a65c_add_7a177_32 rfl (lv_at hl 2 rfl) ?_
      refine mm_runV (pc := 33) (As := []) (rest := []) F hN (c_grow l b D hst o a D.2.2 L.length (mc + nI 1) L σ2 hA2 rfl hn (fun y hy => hob2 y (hob y hy)) (Or.inl ⟨rfl, hL0⟩)) mw_254 mw_256 mw_p2 mw_4 mw_257 ⟨pmJx4a65c_grow_d5877, (Nat.le_of_ble_eq_true rfl), (Nat.le_of_ble_eq_true rfl)⟩ (mm_recv F.2.2.2.2.2.1 hN hA2 rfl) hl.1 rfl (Nat.le_of_ble_eq_true rfl) ⟨(Nat.le_of_ble_eq_true rfl), (Nat.le_of_ble_eq_true rfl)⟩ dJx4a65c_add_7a177_33
        (fun _ _ _ _ _ _ h9 => False.elim h9)
        (fun v9 σ3 H locs hp9 hN => ?_)
      obtain ⟨q, n2, rfl, hq, hn1, hn2, hn3, hσ3⟩ := hp9
      refine W.eq (g2 := F0 m 36 ls [.ref q]) rfl ?_
      refine W.widen (k := 1) (n := 150) (Nat.le_of_ble_eq_true rfl) (Nat.le_of_ble_eq_true rfl) ?_
      have haq : a ≠ q := fun e => by rw [e, hq] at hA2; cases hA2
      have hA4 : σ3 a = mm_obj o 8 [.int (mc + nI 1), .ref q, .int (nI L.length)] := by rw [hσ3]; exact mm_u_eq
      have hR4 : σ3 q = mm_arq o 8 n2 (fun i => L[i]?) := by rw [hσ3, mm_u_ne (Ne.symm haq)]; exact mm_u_eq
      have hz4 : ∀ z, z ≠ a → z ≠ q → σ3 z = σ1 z := fun z z1 z2 => by rw [hσ3, mm_u_ne z1, mm_u_ne z2]; exact hz2 z z1
      have hob4 : ∀ y, mm_ob σ y → mm_ob σ3 y := fun y hy => by
        obtain ⟨o9, c9, f9, g, g2⟩ := hob2 y hy
        exact ⟨o9, c9, f9, by rw [hσ3, mm_u_ne (fun e => by rw [e, hA2] at g; cases g; exact absurd g2 (by decide)), mm_u_ne (fun e => by rw [e, hq] at g; cases g)]; exact g, g2⟩
      have hw4 : σ1 q = none := by rw [← hz2 q (Ne.symm haq)]; exact hq
      refine lv_astore (pc := 36) (lv' := [(4, .ref q), (3, .int (nI L.length)), (0, .ref a), (1, .int (nI i)), (2, .ref x)]) F.1 F.2.1 dJx4a65c_add_7a177_36 hl (by decide) rfl (fun ls hl => ?_)
      refine lv_aload (pc := 38) F.1 F.2.1 dJx4a65c_add_7a177_38 (lv_at hl 0 rfl) ?_
      refine lv_iload_n (pc := 40) F.1 F.2.1 dJx4a65c_add_7a177_40 rfl (lv_at hl 3 rfl) ?_
      refine lv_aload (pc := 41) F.1 F.2.1 dJx4a65c_add_7a177_41 (lv_at hl 0 rfl) ?_
      refine lv_iload_n (pc := 43) F.1 F.2.1 dJx4a65c_add_7a177_43 rfl (lv_at hl 3 rfl) ?_
      refine lv_iconst (pc := 44) (v := nI 1) F.1 F.2.1 dJx4a65c_add_7a177_44 (by decide) ?_
      refine mm_iadd (pc := 45) F (z := nI (i + 1)) (nI_add _ _) dJx4a65c_add_7a177_45 ?_
      refine lv_iload_n (pc := 46) F.1 F.2.1 dJx4a65c_add_7a177_46 rfl (lv_at hl 1 rfl) ?_
      refine lv_iload_n (pc := 47) F.1 F.2.1 dJx4a65c_add_7a177_47 rfl (lv_at hl 3 rfl) ?_
      refine mm_isub (pc := 48) F (z := nI (L.length - i)) (pk_sub (by omega)) dJx4a65c_add_7a177_48 ?_
      refine mm_acopy (pc := 49) F hN (hR4) (hR4) (sp := i) (dp := i + 1) (n := L.length - i) (by omega) (by omega) (by omega) (by omega) (fun j y hy => hob4 y (hob y (List.mem_of_getElem? hy))) mw_910 (rfl) (rfl) (rfl) hl.1 (Nat.le_of_ble_eq_true rfl) (by decide +kernel) dJx4a65c_add_7a177_49 (fun H locs hN => ?_)
      have haq5 : a ≠ q := fun e => by rw [← e, hA4] at hR4; cases hR4
      have hA5 : (mm_u σ3 q (mm_arq o 8 n2 (va_cpy (fun i => L[i]?) (fun i => L[i]?) i (i + 1) (L.length - i)))) a = mm_obj o 8 [.int (mc + nI 1), .ref q, .int (nI L.length)] := by rw [mm_u_ne haq5]; exact hA4
      have hR5 : (mm_u σ3 q (mm_arq o 8 n2 (va_cpy (fun i => L[i]?) (fun i => L[i]?) i (i + 1) (L.length - i)))) q = mm_arq o 8 n2 (va_cpy (fun i => L[i]?) (fun i => L[i]?) i (i + 1) (L.length - i)) := mm_u_eq
      have hx5 : mm_ob (mm_u σ3 q (mm_arq o 8 n2 (va_cpy (fun i => L[i]?) (fun i => L[i]?) i (i + 1) (L.length - i)))) x := by
        obtain ⟨o9, c9, f9, g, g2⟩ := hob4 x hx
        exact ⟨o9, c9, f9, by rw [mm_u_ne (fun e => by rw [e, hR4] at g; cases g)]; exact g, g2⟩
      have hz5 : ∀ z, z ≠ a → z ≠ q → (mm_u σ3 q (mm_arq o 8 n2 (va_cpy (fun i => L[i]?) (fun i => L[i]?) i (i + 1) (L.length - i)))) z = σ1 z := fun z z1 z2 => (mm_u_ne z2).trans (hz4 z z1 z2)
      generalize mm_u σ3 q (mm_arq o 8 n2 (va_cpy (fun i => L[i]?) (fun i => L[i]?) i (i + 1) (L.length - i))) = σ5 at hN hA5 hR5 hx5 hz5
      refine lv_aload (pc := 52) F.1 F.2.1 dJx4a65c_add_7a177_52 (lv_at hl 0 rfl) ?_
      refine lv_iload_n (pc := 54) F.1 F.2.1 dJx4a65c_add_7a177_54 rfl (lv_at hl 3 rfl) ?_
      refine lv_aload_n (pc := 55) F.1 F.2.1 dJx4a65c_add_7a177_55 rfl (lv_at hl 4 rfl) ?_
      refine mm_astq (pc := 56) F hN hR5 hx5 (j := i) rfl (by omega) (by omega) dJx4a65c_add_7a177_56 (fun H locs hN => ?_)
      rw [mm_insl L i x hi] at hN
      have hA6 : (mm_u σ5 q (mm_arq o 8 n2 (fun j => (L.insertIdx i x)[j]?))) a = mm_obj o 8 [.int (mc + nI 1), .ref q, .int (nI L.length)] := by rw [mm_u_ne haq5]; exact hA5
      have hR6 : (mm_u σ5 q (mm_arq o 8 n2 (fun j => (L.insertIdx i x)[j]?))) q = mm_arq o 8 n2 (fun j => (L.insertIdx i x)[j]?) := mm_u_eq
      have hz6 : ∀ z, z ≠ a → z ≠ q → (mm_u σ5 q (mm_arq o 8 n2 (fun j => (L.insertIdx i x)[j]?))) z = σ1 z := fun z z1 z2 => (mm_u_ne z2).trans (hz5 z z1 z2)
      generalize mm_u σ5 q (mm_arq o 8 n2 (fun j => (L.insertIdx i x)[j]?)) = σ6 at hN hA6 hR6 hz6
      refine lv_aload_n (pc := 57) F.1 F.2.1 dJx4a65c_add_7a177_57 rfl (lv_at hl 2 rfl) ?_
      refine lv_iload_n (pc := 58) F.1 F.2.1 dJx4a65c_add_7a177_58 rfl (lv_at hl 1 rfl) ?_
      refine lv_iconst (pc := 59) (v := nI 1) F.1 F.2.1 dJx4a65c_add_7a177_59 (by decide) ?_
      refine mm_iadd (pc := 60) F (z := nI (L.length + 1)) (nI_add _ _) dJx4a65c_add_7a177_60 ?_
      refine mm_put (pc := 61) F hN (hA6) (ci := 8) rfl 2 (by decide) mw_57 rfl (ty := .int) (by decide +kernel) (rfl) (rfl) (Nat.le_of_ble_eq_true rfl) dJx4a65c_add_7a177_61 (fun H locs hN => ?_)
      have hN : mm_N b D s (mm_u σ6 a (mm_obj o 8 [.int (mc + nI 1), .ref q, .int (nI (L.length + 1))])) H locs := hN
      have hli : (L.insertIdx i x).length = L.length + 1 := List.length_insertIdx_of_le_length hi x
      have hN := mm_N_to hN (mm_fin hl0 hop hN.1 (L2 := L.insertIdx i x) (r2 := q) (n2 := n2) (by rw [hli]; exact mm_u_eq) ((mm_u_ne (Ne.symm haq5)).trans hR6) (by omega) (by omega) (by omega) (by omega) (fun y hy => by rcases (List.mem_insertIdx hi).mp hy with h | h; exact h ▸ hx; exact hob y h) (Or.inr hw4) (fun z z1 z2 => (mm_u_ne z1).trans (hz6 z z1 z2)))
      exact mm_vret (pc := 64) F hr hN (⟨rfl, rfl⟩) (Nat.le_of_ble_eq_true rfl) (Nat.le_of_ble_eq_true rfl) dJx4a65c_add_7a177_64
  ·
    have hR2 : σ2 r = mm_arq o 8 n (fun i => L[i]?) := by rw [hz2 r (fun e => by rw [e, hA] at hR; cases hR)]; exact hR
    refine lv_aload_n (pc := 15) F.1 F.2.1 dJx4a65c_add_7a177_15 rfl (lv_at hl 0 rfl) ?_
    refine mm_get (pc := 16) F hN (hA2) (ci := 8) rfl 2 (by decide) mw_57 rfl dJx4a65c_add_7a177_16 ?_
    refine lv_dup (pc := 19) F.1 F.2.1 dJx4a65c_add_7a177_19 rfl ?_
    refine lv_istore_n (pc := 20) (lv' := [(3, .int (nI L.length)), (0, .ref a), (1, .int (nI i)), (2, .ref x)]) F.1 F.2.1 dJx4a65c_add_7a177_20 rfl hl (by decide) rfl (fun ls hl => ?_)
    refine lv_aload_n (pc := 21) F.1 F.2.1 dJx4a65c_add_7a177_21 rfl (lv_at hl 1 rfl) ?_
    refine mm_get (pc := 22) F hN (hA2) (ci := 8) rfl 1 (by decide) mw_56 rfl dJx4a65c_add_7a177_22 ?_
    refine lv_dup (pc := 25) F.1 F.2.1 dJx4a65c_add_7a177_25 rfl ?_
    refine lv_astore (pc := 26) (lv' := [(4, .ref r), (3, .int (nI L.length)), (0, .ref a), (1, .int (nI i)), (2, .ref x)]) F.1 F.2.1 dJx4a65c_add_7a177_26 hl (by decide) rfl (fun ls hl => ?_)
    refine mm_alen (pc := 28) F hN (hR2) rfl dJx4a65c_add_7a177_28 ?_
    refine mm_icmp_ne (pc := 29) F (x := L.length) (y := n) (tgt := 38) (by omega) (by omega) dJx4a65c_add_7a177_29 (by decide) (fun cz29 => ?_) (fun cz29 => ?_)
    ·
      refine lv_aload (pc := 38) F.1 F.2.1 dJx4a65c_add_7a177_38 (lv_at hl 0 rfl) ?_
      refine lv_iload_n (pc := 40) F.1 F.2.1 dJx4a65c_add_7a177_40 rfl (lv_at hl 3 rfl) ?_
      refine lv_aload (pc := 41) F.1 F.2.1 dJx4a65c_add_7a177_41 (lv_at hl 0 rfl) ?_
      refine lv_iload_n (pc := 43) F.1 F.2.1 dJx4a65c_add_7a177_43 rfl (lv_at hl 3 rfl) ?_
      refine lv_iconst (pc := 44) (v := nI 1) F.1 F.2.1 dJx4a65c_add_7a177_44 (by decide) ?_
      refine mm_iadd (pc := 45) F (z := nI (i + 1)) (nI_add _ _) dJx4a65c_add_7a177_45 ?_
      refine lv_iload_n (pc := 46) F.1 F.2.1 dJx4a65c_add_7a177_46 rfl (lv_at hl 1 rfl) ?_
      refine lv_iload_n (pc := 47) F.1 F.2.1 dJx4a65c_add_7a177_47 rfl (lv_at hl 3 rfl) ?_
      refine mm_isub (pc := 48) F (z := nI (L.length - i)) (pk_sub (by omega)) dJx4a65c_add_7a177_48 ?_
      refine mm_acopy (pc := 49) F hN (hR2) (hR2) (sp := i) (dp := i + 1) (n := L.length - i) (by omega) (by omega) (by omega) (by omega) (fun j y hy => hob2 y (hob y (List.mem_of_getElem? hy))) mw_910 (rfl) (rfl) (rfl) hl.1 (Nat.le_of_ble_eq_true rfl) (by decide +kernel) dJx4a65c_add_7a177_49 (fun H locs hN => ?_)
      have haq5 : a ≠ r := fun e => by rw [← e, hA2] at hR2; cases hR2
      have hA5 : (mm_u σ2 r (mm_arq o 8 n (va_cpy (fun i => L[i]?) (fun i => L[i]?) i (i + 1) (L.length - i)))) a = mm_obj o 8 [.int (mc + nI 1), .ref r, .int (nI L.length)] := by rw [mm_u_ne haq5]; exact hA2
      have hR5 : (mm_u σ2 r (mm_arq o 8 n (va_cpy (fun i => L[i]?) (fun i => L[i]?) i (i + 1) (L.length - i)))) r = mm_arq o 8 n (va_cpy (fun i => L[i]?) (fun i => L[i]?) i (i + 1) (L.length - i)) := mm_u_eq
      have hx5 : mm_ob (mm_u σ2 r (mm_arq o 8 n (va_cpy (fun i => L[i]?) (fun i => L[i]?) i (i + 1) (L.length - i)))) x := by
        obtain ⟨o9, c9, f9, g, g2⟩ := hob2 x hx
        exact ⟨o9, c9, f9, by rw [mm_u_ne (fun e => by rw [e, hR2] at g; cases g)]; exact g, g2⟩
      have hz5 : ∀ z, z ≠ a → z ≠ r → (mm_u σ2 r (mm_arq o 8 n (va_cpy (fun i => L[i]?) (fun i => L[i]?) i (i + 1) (L.length - i)))) z = σ1 z := fun z z1 z2 => (mm_u_ne z2).trans ((fun z z1 z2 => hz2 z z1) z z1 z2)
      generalize mm_u σ2 r (mm_arq o 8 n (va_cpy (fun i => L[i]?) (fun i => L[i]?) i (i + 1) (L.length - i))) = σ5 at hN hA5 hR5 hx5 hz5
      refine lv_aload (pc := 52) F.1 F.2.1 dJx4a65c_add_7a177_52 (lv_at hl 0 rfl) ?_
      refine lv_iload_n (pc := 54) F.1 F.2.1 dJx4a65c_add_7a177_54 rfl (lv_at hl 3 rfl) ?_
      refine lv_aload_n (pc := 55) F.1 F.2.1 dJx4a65c_add_7a177_55 rfl (lv_at hl 4 rfl) ?_
      refine mm_astq (pc := 56) F hN hR5 hx5 (j := i) rfl (by omega) (by omega) dJx4a65c_add_7a177_56 (fun H locs hN => ?_)
      rw [mm_insl L i x hi] at hN
      have hA6 : (mm_u σ5 r (mm_arq o 8 n (fun j => (L.insertIdx i x)[j]?))) a = mm_obj o 8 [.int (mc + nI 1), .ref r, .int (nI L.length)] := by rw [mm_u_ne haq5]; exact hA5
      have hR6 : (mm_u σ5 r (mm_arq o 8 n (fun j => (L.insertIdx i x)[j]?))) r = mm_arq o 8 n (fun j => (L.insertIdx i x)[j]?) := mm_u_eq
      have hz6 : ∀ z, z ≠ a → z ≠ r → (mm_u σ5 r (mm_arq o 8 n (fun j => (L.insertIdx i x)[j]?))) z = σ1 z := fun z z1 z2 => (mm_u_ne z2).trans (hz5 z z1 z2)
      generalize mm_u σ5 r (mm_arq o 8 n (fun j => (L.insertIdx i x)[j]?)) = σ6 at hN hA6 hR6 hz6
      refine lv_aload_n (pc := 57) F.1 F.2.1 dJx4a65c_add_7a177_57 rfl (lv_at hl 2 rfl) ?_
      refine lv_iload_n (pc := 58) F.1 F.2.1 dJx4a65c_add_7a177_58 rfl (lv_at hl 1 rfl) ?_
      refine lv_iconst (pc := 59) (v := nI 1) F.1 F.2.1 dJx4a65c_add_7a177_59 (by decide) ?_
      refine mm_iadd (pc := 60) F (z := nI (L.length + 1)) (nI_add _ _) dJx4a65c_add_7a177_60 ?_
      refine mm_put (pc := 61) F hN (hA6) (ci := 8) rfl 2 (by decide) mw_57 rfl (ty := .int) (by decide +kernel) (rfl) (rfl) (Nat.le_of_ble_eq_true rfl) dJx4a65c_add_7a177_61 (fun H locs hN => ?_)
      have hN : mm_N b D s (mm_u σ6 a (mm_obj o 8 [.int (mc + nI 1), .ref r, .int (nI (L.length + 1))])) H locs := hN
      have hli : (L.insertIdx i x).length = L.length + 1 := List.length_insertIdx_of_le_length hi x
      have hN := mm_N_to hN (mm_fin hl0 hop hN.1 (L2 := L.insertIdx i x) (r2 := r) (n2 := n) (by rw [hli]; exact mm_u_eq) ((mm_u_ne (Ne.symm haq5)).trans hR6) (by omega) (by omega) (by omega) (by omega) (fun y hy => by rcases (List.mem_insertIdx hi).mp hy with h | h; exact h ▸ hx; exact hob y h) (Or.inl ⟨rfl, hrn⟩) (fun z z1 z2 => (mm_u_ne z1).trans (hz6 z z1 z2)))
      exact mm_vret (pc := 64) F hr hN (⟨rfl, rfl⟩) (Nat.le_of_ble_eq_true rfl) (Nat.le_of_ble_eq_true rfl) dJx4a65c_add_7a177_64
    ·
      refine lv_aload_n (pc := 32) F.1 F.2.1 dJx4a65c_add_7a177_32 rfl (lv_at hl 2 rfl) ?_
      refine mm_runV (pc := 33) (As := []) (rest := []) F hN (c_grow l b D hst o a r L.length (mc + nI 1) L σ2 hA2 rfl hn (fun y hy => hob2 y (hob y hy)) (Or.inr ⟨by rw [cz29]; exact hR2, by omega⟩)) mw_254 mw_256 mw_p2 mw_4 mw_257 ⟨pmJx4a65c_grow_d5877, (Nat.le_of_ble_eq_true rfl), (Nat.le_of_ble_eq_true rfl)⟩ (mm_recv F.2.2.2.2.2.1 hN hA2 rfl) hl.1 rfl (Nat.le_of_ble_eq_true rfl) ⟨(Nat.le_of_ble_eq_true rfl), (Nat.le_of_ble_eq_true rfl)⟩ dJx4a65c_add_7a177_33
        (fun _ _ _ _ _ _ h9 => False.elim h9)
        (fun v9 σ3 H locs hp9 hN => ?_)
      obtain ⟨q, n2, rfl, hq, hn1, hn2, hn3, hσ3⟩ := hp9
      refine W.eq (g2 := F0 m 36 ls [.ref q]) rfl ?_
      refine W.widen (k := 1) (n := 150) (Nat.le_of_ble_eq_true rfl) (Nat.le_of_ble_eq_true rfl) ?_
      have haq : a ≠ q := fun e => by rw [e, hq] at hA2; cases hA2
      have hA4 : σ3 a = mm_obj o 8 [.int (mc + nI 1), .ref q, .int (nI L.length)] := by rw [hσ3]; exact mm_u_eq
      have hR4 : σ3 q = mm_arq o 8 n2 (fun i => L[i]?) := by rw [hσ3, mm_u_ne (Ne.symm haq)]; exact mm_u_eq
      have hz4 : ∀ z, z ≠ a → z ≠ q → σ3 z = σ1 z := fun z z1 z2 => by rw [hσ3, mm_u_ne z1, mm_u_ne z2]; exact hz2 z z1
      have hob4 : ∀ y, mm_ob σ y → mm_ob σ3 y := fun y hy => by
        obtain ⟨o9, c9, f9, g, g2⟩ := hob2 y hy
        exact ⟨o9, c9, f9, by rw [hσ3, mm_u_ne (fun e => by rw [e, hA2] at g; cases g; exact absurd g2 (by decide)), mm_u_ne (fun e => by rw [e, hq] at g; cases g)]; exact g, g2⟩
      have hw4 : σ1 q = none := by rw [← hz2 q (Ne.symm haq)]; exact hq
      refine lv_astore (pc := 36) (lv' := [(4, .ref q), (3, .int (nI L.length)), (0, .ref a), (1, .int (nI i)), (2, .ref x)]) F.1 F.2.1 dJx4a65c_add_7a177_36 hl (by decide) rfl (fun ls hl => ?_)
      refine lv_aload (pc := 38) F.1 F.2.1 dJx4a65c_add_7a177_38 (lv_at hl 0 rfl) ?_
      refine lv_iload_n (pc := 40) F.1 F.2.1 dJx4a65c_add_7a177_40 rfl (lv_at hl 3 rfl) ?_
      refine lv_aload (pc := 41) F.1 F.2.1 dJx4a65c_add_7a177_41 (lv_at hl 0 rfl) ?_
      refine lv_iload_n (pc := 43) F.1 F.2.1 dJx4a65c_add_7a177_43 rfl (lv_at hl 3 rfl) ?_
      refine lv_iconst (pc := 44) (v := nI 1) F.1 F.2.1 dJx4a65c_add_7a177_44 (by decide) ?_
      refine mm_iadd (pc := 45) F (z := nI (i + 1)) (nI_add _ _) dJx4a65c_add_7a177_45 ?_
      refine lv_iload_n (pc := 46) F.1 F.2.1 dJx4a65c_add_7a177_46 rfl (lv_at hl 1 rfl) ?_
      refine lv_iload_n (pc := 47) F.1 F.2.1 dJx4a65c_add_7a177_47 rfl (lv_at hl 3 rfl) ?_
      refine mm_isub (pc := 48) F (z := nI (L.length - i)) (pk_sub (by omega)) dJx4a65c_add_7a177_48 ?_
      refine mm_acopy (pc := 49) F hN (hR4) (hR4) (sp := i) (dp := i + 1) (n := L.length - i) (by omega) (by omega) (by omega) (by omega) (fun j y hy => hob4 y (hob y (List.mem_of_getElem? hy))) mw_910 (rfl) (rfl) (rfl) hl.1 (Nat.le_of_ble_eq_true rfl) (by decide +kernel) dJx4a65c_add_7a177_49 (fun H locs hN => ?_)
      have haq5 : a ≠ q := fun e => by rw [← e, hA4] at hR4; cases hR4
      have hA5 : (mm_u σ3 q (mm_arq o 8 n2 (va_cpy (fun i => L[i]?) (fun i => L[i]?) i (i + 1) (L.length - i)))) a = mm_obj o 8 [.int (mc + nI 1), .ref q, .int (nI L.length)] := by rw [mm_u_ne haq5]; exact hA4
      have hR5 : (mm_u σ3 q (mm_arq o 8 n2 (va_cpy (fun i => L[i]?) (fun i => L[i]?) i (i + 1) (L.length - i)))) q = mm_arq o 8 n2 (va_cpy (fun i => L[i]?) (fun i => L[i]?) i (i + 1) (L.length - i)) := mm_u_eq
      have hx5 : mm_ob (mm_u σ3 q (mm_arq o 8 n2 (va_cpy (fun i => L[i]?) (fun i => L[i]?) i (i + 1) (L.length - i)))) x := by
        obtain ⟨o9, c9, f9, g, g2⟩ := hob4 x hx
        exact ⟨o9, c9, f9, by rw [mm_u_ne (fun e => by rw [e, hR4] at g; cases g)]; exact g, g2⟩
      have hz5 : ∀ z, z ≠ a → z ≠ q → (mm_u σ3 q (mm_arq o 8 n2 (va_cpy (fun i => L[i]?) (fun i => L[i]?) i (i + 1) (L.length - i)))) z = σ1 z := fun z z1 z2 => (mm_u_ne z2).trans (hz4 z z1 z2)
      generalize mm_u σ3 q (mm_arq o 8 n2 (va_cpy (fun i => L[i]?) (fun i => L[i]?) i (i + 1) (L.length - i))) = σ5 at hN hA5 hR5 hx5 hz5
      refine lv_aload (pc := 52) F.1 F.2.1 dJx4a65c_add_7a177_52 (lv_at hl 0 rfl) ?_
      refine lv_iload_n (pc := 54) F.1 F.2.1 dJx4a65c_add_7a177_54 rfl (lv_at hl 3 rfl) ?_
      refine lv_aload_n (pc := 55) F.1 F.2.1 dJx4a65c_add_7a177_55 rfl (lv_at hl 4 rfl) ?_
      refine mm_astq (pc := 56) F hN hR5 hx5 (j := i) rfl (by omega) (by omega) dJx4a65c_add_7a177_56 (fun H locs hN => ?_)
      rw [mm_insl L i x hi] at hN
      have hA6 : (mm_u σ5 q (mm_arq o 8 n2 (fun j => (L.insertIdx i x)[j]?))) a = mm_obj o 8 [.int (mc + nI 1), .ref q, .int (nI L.length)] := by rw [mm_u_ne haq5]; exact hA5
      have hR6 : (mm_u σ5 q (mm_arq o 8 n2 (fun j => (L.insertIdx i x)[j]?))) q = mm_arq o 8 n2 (fun j => (L.insertIdx i x)[j]?) := mm_u_eq
      have hz6 : ∀ z, z ≠ a → z ≠ q → (mm_u σ5 q (mm_arq o 8 n2 (fun j => (L.insertIdx i x)[j]?))) z = σ1 z := fun z z1 z2 => (mm_u_ne z2).trans (hz5 z z1 z2)
      generalize mm_u σ5 q (mm_arq o 8 n2 (fun j => (L.insertIdx i x)[j]?)) = σ6 at hN hA6 hR6 hz6
      refine lv_aload_n (pc := 57) F.1 F.2.1 dJx4a65c_add_7a177_57 rfl (lv_at hl 2 rfl) ?_
      refine lv_iload_n (pc := 58) F.1 F.2.1 dJx4a65c_add_7a177_58 rfl (lv_at hl 1 rfl) ?_
      refine lv_iconst (pc := 59) (v := nI 1) F.1 F.2.1 dJx4a65c_add_7a177_59 (by decide) ?_
      refine mm_iadd (pc := 60) F (z := nI (L.length + 1)) (nI_add _ _) dJx4a65c_add_7a177_60 ?_
      refine mm_put (pc := 61) F hN (hA6) (ci := 8) rfl 2 (by decide) mw_57 rfl (ty := .int) (by decide +kernel) (rfl) (rfl) (Nat.le_of_ble_eq_true rfl) dJx4a65c_add_7a177_61 (fun H locs hN => ?_)
      have hN : mm_N b D s (mm_u σ6 a (mm_obj o 8 [.int (mc + nI 1), .ref q, .int (nI (L.length + 1))])) H locs := hN
      have hli : (L.insertIdx i x).length = L.length + 1 := List.length_insertIdx_of_le_length hi x
      have hN := mm_N_to hN (mm_fin hl0 hop hN.1 (L2 := L.insertIdx i x) (r2 := q) (n2 := n2) (by rw [hli]; exact mm_u_eq) ((mm_u_ne (Ne.symm haq5)).trans hR6) (by omega) (by omega) (by omega) (by omega) (fun y hy => by rcases (List.mem_insertIdx hi).mp hy with h | h; exact h ▸ hx; exact hob y h) (Or.inr hw4) (fun z z1 z2 => (mm_u_ne z1).trans (hz6 z z1 z2)))
      exact mm_vret (pc := 64) F hr hN (⟨rfl, rfl⟩) (Nat.le_of_ble_eq_true rfl) (Nat.le_of_ble_eq_true rfl) dJx4a65c_add_7a177_64

