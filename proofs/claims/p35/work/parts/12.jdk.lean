theorem mm_max {x y : Nat} (hx : x < 2 ^ 31) (hy : y < 2 ^ 31) : (if nI x < nI y then nI y else nI x) = nI (max x y) := by
  by_cases h : x < y
  · rw [if_pos ((nI_ltI hx hy).mpr h), show max x y = y by omega]
  · rw [if_neg (fun g => h ((nI_ltI hx hy).mp g)), show max x y = x by omega]
theorem mm_min {x y : Nat} (hx : x < 2 ^ 31) (hy : y < 2 ^ 31) : (if nI y < nI x then nI y else nI x) = nI (min x y) := by
  by_cases h : y < x
  · rw [if_pos ((nI_ltI hy hx).mpr h), show min x y = y by omega]
  · rw [if_neg (fun g => h ((nI_ltI hy hx).mp g)), show min x y = x by omega]
theorem mm_recvA {s : State} {b : Nat} {D : mm_D} {σ : mm_S} {H : Heap} {locs : List Loc} {a o n : Nat} {f : Nat → Option Nat} (hE : mm_E b D s) (hN : mm_N b D s σ H locs) (he : σ a = mm_arq o 8 n f) : ∃ cell : Cell, H[a]? = some cell ∧ cell.vm.isStatics = false ∧ s.vm.findClass "[Ljava/lang/Object;" = some cell.cls :=
  ⟨_, mm_H_arr hN.1 he, rfl, va_nmO (hE.1.2 8 _ rfl).2 (by decide +kernel)⟩
theorem mm_half {n : Nat} (h : n < 2 ^ 31) : nI n >>> ((nI 1) &&& 31) = nI (n / 2) := by
  have k := pk_shrN (n := n) h ((nI 1) &&& 31) 1 (by decide)
  rw [Nat.pow_one] at k
  exact k
/-- a list seen as an object, nothing changed -/
theorem mm_view {b : Nat} {D : mm_D} {σ : mm_S} {H : Heap} {s : State} {locs : List Loc} (hN : mm_N b D s σ H locs) {a o : Nat} {L : List Nat} (hl : σ a = mm_lst o L) : ∃ (mc : Int32) (r : Nat) (σ2 : mm_S), L.length ≤ 1000 ∧ mm_N b D s σ2 H locs ∧ σ2 a = mm_obj o 8 [.int mc, .ref r, .int (nI L.length)] ∧ (L ≠ [] → ∃ n : Nat, L.length ≤ n ∧ n ≤ 2000 ∧ σ2 r = mm_arq o 8 n (fun i => L[i]?)) := by
  obtain ⟨mc, r, h1, -, h | h⟩ := mm_open hN.1 hl
  · exact ⟨mc, r, _, h1, ⟨h.2.2, hN.2⟩, mm_u_eq, fun q => absurd h.2.1 q⟩
  · obtain ⟨h2, h3, -, n, -, h5, h6, h7⟩ := h
    exact ⟨mc, r, _, h1, ⟨h7, hN.2⟩, by rw [mm_u_ne (Ne.symm h3)]; exact mm_u_eq, fun _ => ⟨n, h6, h5, mm_u_eq⟩⟩
/-- a list after a change of its cells -/
theorem mm_fin {b : Nat} {D : mm_D} {σ0 σ1 σ2 : mm_S} {H : Heap} {a o o2 r r2 n n2 : Nat} {mc mc2 : Int32} {L L2 : List Nat} (hl : σ0 a = mm_lst o L)
    (hop : (σ1 = mm_u σ0 a (mm_obj o 8 [.int mc, .ref r, .int (nI L.length)])) ∨ (σ0 r = none ∧ r ≠ a ∧ σ1 = mm_u (mm_u σ0 a (mm_obj o 8 [.int mc, .ref r, .int (nI L.length)])) r (mm_arq o 8 n (fun i => L[i]?))))
    (h : mm_H b D σ2 H) (ha : σ2 a = mm_obj o 8 [.int mc2, .ref r2, .int (nI L2.length)]) (hr : σ2 r2 = mm_arq o2 8 n2 (fun i => L2[i]?)) (h1 : 10 ≤ n2) (h2 : n2 ≤ 2000) (h3 : L2.length ≤ n2) (h4 : L2.length ≤ 1000) (hob : ∀ y ∈ L2, mm_ob σ0 y) (hnew : (r2 = r ∧ σ0 r = none) ∨ σ1 r2 = none) (hz : ∀ z, z ≠ a → z ≠ r2 → σ2 z = σ1 z) : mm_H b D (mm_u σ0 a (mm_lst o L2)) H := by
  have hra : r2 ≠ a := fun e => by rw [e, ha] at hr; cases hr
  have hob2 : ∀ y ∈ L2, mm_ob σ2 y := fun y hy => by
    obtain ⟨o9, c9, f9, g, g2⟩ := hob y hy
    have e1 : y ≠ a := fun e => by rw [e, hl] at g; cases g
    have e2 : y ≠ r2 := fun e => by
      rcases hnew with ⟨q1, q2⟩ | q
      · rw [e, q1, q2] at g; cases g
      · rcases hop with q3 | ⟨q4, q5, q3⟩
        · rw [q3, mm_u_ne hra, ← e, g] at q; cases q
        · by_cases er : r2 = r
          · rw [e, er, q4] at g; cases g
          · rw [q3, mm_u_ne er, mm_u_ne hra, ← e, g] at q; cases q
    refine ⟨o9, c9, f9, ?_, g2⟩
    rw [hz y e1 e2]
    rcases hop with q3 | ⟨q4, q5, q3⟩
    · rw [q3, mm_u_ne e1]; exact g
    · have e3 : y ≠ r := fun e => by rw [e, q4] at g; cases g
      rw [q3, mm_u_ne e3, mm_u_ne e1]; exact g
  have hc := mm_close h ha hr h1 h2 h3 h4 hob2
  have h0 : σ0 r2 = none := by
    rcases hnew with ⟨q1, q2⟩ | q
    · rw [q1]; exact q2
    · rcases hop with q3 | ⟨q4, q5, q3⟩
      · rw [q3, mm_u_ne hra] at q; exact q
      · by_cases er : r2 = r
        · rw [er]; exact q4
        · rw [q3, mm_u_ne er, mm_u_ne hra] at q; exact q
  rcases hop with q3 | ⟨q4, q5, q3⟩
  · have e : mm_u (mm_u σ2 a (mm_lst o L2)) r2 none = mm_u σ0 a (mm_lst o L2) := by
      funext z
      by_cases z2 : z = r2
      · subst z2; rw [mm_u_eq, mm_u_ne hra, h0]
      · rw [mm_u_ne z2]
        by_cases za : z = a
        · subst za; rw [mm_u_eq, mm_u_eq]
        · rw [mm_u_ne za, mm_u_ne za, hz z za z2, q3, mm_u_ne za]
    rw [← e]; exact hc
  · by_cases er : r2 = r
    · have e : mm_u (mm_u σ2 a (mm_lst o L2)) r2 none = mm_u σ0 a (mm_lst o L2) := by
        funext z
        by_cases z2 : z = r2
        · subst z2; rw [mm_u_eq, mm_u_ne hra, h0]
        · rw [mm_u_ne z2]
          by_cases za : z = a
          · subst za; rw [mm_u_eq, mm_u_eq]
          · rw [mm_u_ne za, mm_u_ne za, hz z za z2, q3, mm_u_ne (by rw [← er]; exact z2), mm_u_ne za]
      rw [← e]; exact hc
    · have hd := mm_drop hc (r := r) (o := o) (k := 8) (x := (n, .inr (.inr (.inr (.inr (fun i => L[i]?)))))) (by rw [mm_u_ne (Ne.symm er), mm_u_ne q5, hz r q5 (Ne.symm er), q3, mm_u_eq])
      have e : mm_u (mm_u (mm_u σ2 a (mm_lst o L2)) r2 none) r none = mm_u σ0 a (mm_lst o L2) := by
        funext z
        by_cases zr : z = r
        · subst zr; rw [mm_u_eq, mm_u_ne q5, q4]
        · rw [mm_u_ne zr]
          by_cases z2 : z = r2
          · subst z2; rw [mm_u_eq, mm_u_ne hra, h0]
          · rw [mm_u_ne z2]
            by_cases za : z = a
            · subst za; rw [mm_u_eq, mm_u_eq]
            · rw [mm_u_ne za, mm_u_ne za, hz z za z2, q3, mm_u_ne zr, mm_u_ne za]
      rw [← e]; exact hd
theorem mm_setl (o : Nat) (b : Nat) (D : mm_D) (s : State) (σ : mm_S) (H : Heap) (locs : List Loc) (a n j y : Nat) (L : List Nat) (hj : j = L.length) (h : mm_N b D s (mm_u σ a (mm_arq o 8 n (va_up (fun i => L[i]?) j (some y)))) H locs) : mm_N b D s (mm_u σ a (mm_arq o 8 n (fun i => (L ++ [y])[i]?))) H locs := by
  have e : va_up (fun i => L[i]?) j (some y) = fun i => (L ++ [y])[i]? := by
    funext i
    subst hj
    unfold va_up
    by_cases h : i = L.length
    · subst h; simp
    · rw [if_neg h]
      by_cases h2 : i < L.length
      · rw [List.getElem?_append_left h2]
      · rw [show (fun i => L[i]?) i = L[i]? from rfl, List.getElem?_eq_none (l := L) (by omega), List.getElem?_eq_none (l := L ++ [y]) (by simp; omega)]
  rw [e] at h; exact h
theorem mm_insl (L : List Nat) (i x : Nat) (hi : i ≤ L.length) : va_up (va_cpy (fun i => L[i]?) (fun i => L[i]?) i (i + 1) (L.length - i)) i (some x) = fun j => (L.insertIdx i x)[j]? := by
  funext j
  rw [List.getElem?_insertIdx]
  unfold va_up va_cpy
  by_cases h1 : j = i
  · subst h1; simp [hi]
  · rw [if_neg h1]
    by_cases h2 : j < i
    · rw [if_neg (by omega), if_pos h2]
    · rw [if_neg h2, if_neg h1]
      by_cases h3 : j < L.length + 1
      · rw [if_pos (by omega)]
        congr 1
        omega
      · rw [if_neg (by omega)]
        try rw [if_neg (by omega)]
        show L[j]? = L[j - 1]?
        rw [List.getElem?_eq_none (l := L) (i := j) (by omega), List.getElem?_eq_none (l := L) (i := j - 1) (by omega)]
theorem mm_cpyl (L : List Nat) {n : Nat} (hn : L.length ≤ n) : va_cpy (fun i => L[i]?) (fun _ => none) 0 0 n = fun i => L[i]? := by
  funext i
  unfold va_cpy
  by_cases h : 0 ≤ i ∧ i < 0 + n
  · rw [if_pos h]; simp
  · rw [if_neg h, List.getElem?_eq_none (by omega)]
set_option maxHeartbeats 4000000 in
set_option maxRecDepth 100000 in
theorem c_checkIndex3 (l : Launch) (b : Nat) (D : mm_D) (hst : l.stackTraces = false) (i n : Nat) (hi : i < n) (hn : n < 2 ^ 31) (σ : mm_S) : mm_K l b D yJ3_checkIndex_8e157 (.code yJ3_checkIndex_8e157 cJ3_checkIndex_8e157 3 (some .int)) ({ frames := 0, cells := 0, slots := 0, locals := 0 } : Room) [.int (nI i), .int (nI n), .null] σ
    (fun v σ2 => v = some (.int (nI i)) ∧ σ2 = σ)
    (fun _ _ => False) := by
  refine mm_of (cc := cJ3_checkIndex_8e157) (nL := 3) (ret := (some .int)) (by decide) rfl (Nat.le_of_ble_eq_true rfl) hst ?_
  intro p e s m args below meth c ls F ht hr hin hN hl
  have hl : lv_has ls 3 [(0, .int (nI i)), (1, .int (nI n)), (2, .null)] := hl
  refine lv_iload_n (pc := 0) F.1 F.2.1 dJ3_checkIndex_8e157_0 rfl (lv_at hl 0 rfl) ?_
  refine mm_if_lt (pc := 1) F (tgt := 9) (by omega) dJ3_checkIndex_8e157_1 (by decide) ?_
  refine lv_iload_n (pc := 4) F.1 F.2.1 dJ3_checkIndex_8e157_4 rfl (lv_at hl 0 rfl) ?_
  refine lv_iload_n (pc := 5) F.1 F.2.1 dJ3_checkIndex_8e157_5 rfl (lv_at hl 1 rfl) ?_
  refine mm_icmp_lt (pc := 6) F (x := i) (y := n) (tgt := 16) (by omega) (by omega) dJ3_checkIndex_8e157_6 (by decide) (fun c6 => ?_) (fun c6 => ?_)
  ·
    refine lv_iload_n (pc := 16) F.1 F.2.1 dJ3_checkIndex_8e157_16 rfl (lv_at hl 0 rfl) ?_
    exact mm_iret (pc := 17) F hr hN (⟨rfl, rfl⟩) (Nat.le_of_ble_eq_true rfl) (Nat.le_of_ble_eq_true rfl) dJ3_checkIndex_8e157_17
  ·
    omega

set_option maxHeartbeats 4000000 in
set_option maxRecDepth 100000 in
theorem c_checkIndex (l : Launch) (b : Nat) (D : mm_D) (hst : l.stackTraces = false) (i n : Nat) (hi : i < n) (hn : n < 2 ^ 31) (σ : mm_S) : mm_K l b D yJ15_checkIndex_7cf53 (.code yJ15_checkIndex_7cf53 cJ15_checkIndex_7cf53 2 (some .int)) ({ frames := 1, cells := 0, slots := 0, locals := 22 } : Room) [.int (nI i), .int (nI n)] σ
    (fun v σ2 => v = some (.int (nI i)) ∧ σ2 = σ)
    (fun _ _ => False) := by
  refine mm_of (cc := cJ15_checkIndex_7cf53) (nL := 2) (ret := (some .int)) (by decide) rfl (Nat.le_of_ble_eq_true rfl) hst ?_
  intro p e s m args below meth c ls F ht hr hin hN hl
  have hl : lv_has ls 2 [(0, .int (nI i)), (1, .int (nI n))] := hl
  refine lv_iload_n (pc := 0) F.1 F.2.1 dJ15_checkIndex_7cf53_0 rfl (lv_at hl 0 rfl) ?_
  refine lv_iload_n (pc := 1) F.1 F.2.1 dJ15_checkIndex_7cf53_1 rfl (lv_at hl 1 rfl) ?_
  refine lv_null (pc := 2) F.1 F.2.1 dJ15_checkIndex_7cf53_2 ?_
  refine mm_runS (pc := 3) (As := [.int (nI i), .int (nI n), .null]) (rest := []) F hN (c_checkIndex3 l b D hst i n hi hn σ) mw_364 mw_365 mw_13 mw_366 ⟨pmJ3_checkIndex_8e157, (Nat.le_of_ble_eq_true rfl), (Nat.le_of_ble_eq_true rfl)⟩ hl.1 rfl (Nat.le_of_ble_eq_true rfl) ⟨(Nat.le_of_ble_eq_true rfl), (Nat.le_of_ble_eq_true rfl)⟩ dJ15_checkIndex_7cf53_3
    (fun _ _ _ _ _ _ h9 => False.elim h9)
    (fun v9 σ1 H locs hp9 hN => ?_)
  obtain ⟨rfl, h9⟩ := hp9
  rw [h9] at hN
  refine W.eq (g2 := F0 m 6 ls [.int (nI i)]) rfl ?_
  refine W.widen (k := 0) (n := 0) (Nat.le_of_ble_eq_true rfl) (Nat.le_of_ble_eq_true rfl) ?_
  exact mm_iret (pc := 6) F hr hN (⟨rfl, rfl⟩) (Nat.le_of_ble_eq_true rfl) (Nat.le_of_ble_eq_true rfl) dJ15_checkIndex_7cf53_6

set_option maxHeartbeats 4000000 in
set_option maxRecDepth 100000 in
theorem c_ALsize (l : Launch) (b : Nat) (D : mm_D) (hst : l.stackTraces = false) (o a : Nat) (L : List Nat) (σ : mm_S) (hl0 : σ a = mm_lst o L) : mm_K l b D yJx4a65c_size_8abf5 (.code yJx4a65c_size_8abf5 cJx4a65c_size_8abf5 1 (some .int)) ({ frames := 0, cells := 0, slots := 0, locals := 0 } : Room) [.ref a] σ
    (fun v σ2 => v = some (.int (nI L.length)) ∧ σ2 = σ)
    (fun _ _ => False) := by
  refine mm_of (cc := cJx4a65c_size_8abf5) (nL := 1) (ret := (some .int)) (by decide) rfl (Nat.le_of_ble_eq_true rfl) hst ?_
  intro p e s m args below meth c ls F ht hr hin hN hl
  have hl : lv_has ls 1 [(0, .ref a)] := hl
  have hN0 := hN
  obtain ⟨mc, r, σv, hlen, hN, ha, hr2⟩ := mm_view hN hl0
  refine lv_aload_n (pc := 0) F.1 F.2.1 dJx4a65c_size_8abf5_0 rfl (lv_at hl 0 rfl) ?_
  refine mm_get (pc := 1) F hN (ha) (ci := 8) rfl 2 (by decide) mw_57 rfl dJx4a65c_size_8abf5_1 ?_
  have hN := hN0
  exact mm_iret (pc := 4) F hr hN (⟨rfl, rfl⟩) (Nat.le_of_ble_eq_true rfl) (Nat.le_of_ble_eq_true rfl) dJx4a65c_size_8abf5_4

set_option maxHeartbeats 4000000 in
set_option maxRecDepth 100000 in
theorem c_ALisEmpty (l : Launch) (b : Nat) (D : mm_D) (hst : l.stackTraces = false) (o a : Nat) (L : List Nat) (σ : mm_S) (hl0 : σ a = mm_lst o L) : mm_K l b D yJx4a65c_isEmpty_aae02 (.code yJx4a65c_isEmpty_aae02 cJx4a65c_isEmpty_aae02 1 (some .boolean)) ({ frames := 0, cells := 0, slots := 0, locals := 0 } : Room) [.ref a] σ
    (fun v σ2 => v = some (.int (if L.length = 0 then nI 1 else nI 0)) ∧ σ2 = σ)
    (fun _ _ => False) := by
  refine mm_of (cc := cJx4a65c_isEmpty_aae02) (nL := 1) (ret := (some .boolean)) (by decide) rfl (Nat.le_of_ble_eq_true rfl) hst ?_
  intro p e s m args below meth c ls F ht hr hin hN hl
  have hl : lv_has ls 1 [(0, .ref a)] := hl
  have hN0 := hN
  obtain ⟨mc, r, σv, hlen, hN, ha, hr2⟩ := mm_view hN hl0
  refine lv_aload_n (pc := 0) F.1 F.2.1 dJx4a65c_isEmpty_aae02_0 rfl (lv_at hl 0 rfl) ?_
  refine mm_get (pc := 1) F hN (ha) (ci := 8) rfl 2 (by decide) mw_57 rfl dJx4a65c_isEmpty_aae02_1 ?_
  refine mm_if_ne (pc := 4) F (tgt := 11) (by omega) dJx4a65c_isEmpty_aae02_4 (by decide) (fun c4 => ?_) (fun c4 => ?_)
  ·
    refine lv_iconst (pc := 11) (v := nI 0) F.1 F.2.1 dJx4a65c_isEmpty_aae02_11 (by decide) ?_
    have hN := hN0
    exact mm_zret (pc := 12) F (ty := .boolean) hr hN (by decide) (⟨by rw [if_neg c4], rfl⟩) (Nat.le_of_ble_eq_true rfl) (Nat.le_of_ble_eq_true rfl) dJx4a65c_isEmpty_aae02_12
  ·
    refine lv_iconst (pc := 7) (v := nI 1) F.1 F.2.1 dJx4a65c_isEmpty_aae02_7 (by decide) ?_
    refine lv_goto (pc := 8) (tgt := 12) F.1 F.2.1 dJx4a65c_isEmpty_aae02_8 (by decide) ?_
    have hN := hN0
    exact mm_zret (pc := 12) F (ty := .boolean) hr hN (by decide) (⟨by rw [if_pos c4], rfl⟩) (Nat.le_of_ble_eq_true rfl) (Nat.le_of_ble_eq_true rfl) dJx4a65c_isEmpty_aae02_12

set_option maxHeartbeats 4000000 in
set_option maxRecDepth 100000 in
theorem c_ALelem (l : Launch) (b : Nat) (D : mm_D) (hst : l.stackTraces = false) (o a i y : Nat) (L : List Nat) (σ : mm_S) (hl0 : σ a = mm_lst o L) (hy : L[i]? = some y) : mm_K l b D yJx4a65c_elementData_915e3 (.code yJx4a65c_elementData_915e3 cJx4a65c_elementData_915e3 2 (some (.object "java/lang/Object"))) ({ frames := 0, cells := 0, slots := 0, locals := 0 } : Room) [.ref a, .int (nI i)] σ
    (fun v σ2 => v = some (.ref y) ∧ σ2 = σ)
    (fun _ _ => False) := by
  refine mm_of (cc := cJx4a65c_elementData_915e3) (nL := 2) (ret := (some (.object "java/lang/Object"))) (by decide) rfl (Nat.le_of_ble_eq_true rfl) hst ?_
  intro p e s m args below meth c ls F ht hr hin hN hl
  have hl : lv_has ls 2 [(0, .ref a), (1, .int (nI i))] := hl
  have hN0 := hN
  obtain ⟨mc, r, σv, hlen, hN, ha, hr2⟩ := mm_view hN hl0
  have hi : i < L.length := (List.getElem?_eq_some_iff.mp hy).1
  obtain ⟨n, hn1, hn2, hr3⟩ := hr2 (fun e => by rw [e] at hi; simp at hi)
  refine lv_aload_n (pc := 0) F.1 F.2.1 dJx4a65c_elementData_915e3_0 rfl (lv_at hl 0 rfl) ?_
  refine mm_get (pc := 1) F hN (ha) (ci := 8) rfl 1 (by decide) mw_56 rfl dJx4a65c_elementData_915e3_1 ?_
  refine lv_iload_n (pc := 4) F.1 F.2.1 dJx4a65c_elementData_915e3_4 rfl (lv_at hl 1 rfl) ?_
  refine mm_aald (pc := 5) F hN (hr3) rfl rfl (j := i) (rfl) (by omega) (by omega) (hy) dJx4a65c_elementData_915e3_5 ?_
  have hN := hN0
  exact mm_aret (pc := 6) F hr (Or.inl ⟨_, rfl⟩) hN (⟨rfl, rfl⟩) (Nat.le_of_ble_eq_true rfl) (Nat.le_of_ble_eq_true rfl) dJx4a65c_elementData_915e3_6

set_option maxHeartbeats 4000000 in
set_option maxRecDepth 100000 in
theorem c_ALget (l : Launch) (b : Nat) (D : mm_D) (hst : l.stackTraces = false) (o a i y : Nat) (L : List Nat) (σ : mm_S) (hl0 : σ a = mm_lst o L) (hy : L[i]? = some y) : mm_K l b D yJx4a65c_get_915e3 (.code yJx4a65c_get_915e3 cJx4a65c_get_915e3 2 (some (.object "java/lang/Object"))) ({ frames := 2, cells := 0, slots := 0, locals := 60 } : Room) [.ref a, .int (nI i)] σ
    (fun v σ2 => v = some (.ref y) ∧ σ2 = σ)
    (fun _ _ => False) := by
  refine mm_of (cc := cJx4a65c_get_915e3) (nL := 2) (ret := (some (.object "java/lang/Object"))) (by decide) rfl (Nat.le_of_ble_eq_true rfl) hst ?_
  intro p e s m args below meth c ls F ht hr hin hN hl
  have hl : lv_has ls 2 [(0, .ref a), (1, .int (nI i))] := hl
  have hN0 := hN
  obtain ⟨mc, r, σv, hlen, hN, ha, hr2⟩ := mm_view hN hl0
  have hi : i < L.length := (List.getElem?_eq_some_iff.mp hy).1
  refine lv_iload_n (pc := 0) F.1 F.2.1 dJx4a65c_get_915e3_0 rfl (lv_at hl 1 rfl) ?_
  refine lv_aload_n (pc := 1) F.1 F.2.1 dJx4a65c_get_915e3_1 rfl (lv_at hl 0 rfl) ?_
  refine mm_get (pc := 2) F hN (ha) (ci := 8) rfl 2 (by decide) mw_57 rfl dJx4a65c_get_915e3_2 ?_
  have hN := hN0
  refine mm_runS (pc := 5) (As := [.int (nI i), .int (nI L.length)]) (rest := []) F hN (c_checkIndex l b D hst i L.length hi (by omega) σ) mw_361 mw_362 mw_12 mw_363 ⟨pmJ15_checkIndex_7cf53, (Nat.le_of_ble_eq_true rfl), (Nat.le_of_ble_eq_true rfl)⟩ hl.1 rfl (Nat.le_of_ble_eq_true rfl) ⟨(Nat.le_of_ble_eq_true rfl), (Nat.le_of_ble_eq_true rfl)⟩ dJx4a65c_get_915e3_5
    (fun _ _ _ _ _ _ h9 => False.elim h9)
    (fun v9 σ1 H locs hp9 hN => ?_)
  obtain ⟨rfl, h9⟩ := hp9
  rw [h9] at hN
  refine W.eq (g2 := F0 m 8 ls [.int (nI i)]) rfl ?_
  refine W.widen (k := 0) (n := 0) (Nat.le_of_ble_eq_true rfl) (Nat.le_of_ble_eq_true rfl) ?_
  refine lv_pop (pc := 8) F.1 F.2.1 dJx4a65c_get_915e3_8 rfl ?_
  refine lv_aload_n (pc := 9) F.1 F.2.1 dJx4a65c_get_915e3_9 rfl (lv_at hl 0 rfl) ?_
  refine lv_iload_n (pc := 10) F.1 F.2.1 dJx4a65c_get_915e3_10 rfl (lv_at hl 1 rfl) ?_
  refine mm_runV (pc := 11) (As := [.int (nI i)]) (rest := []) F hN (c_ALelem l b D hst o a i y L σ hl0 hy) mw_367 mw_368 mw_369 mw_4 mw_370 ⟨pmJx4a65c_elementData_915e3, (Nat.le_of_ble_eq_true rfl), (Nat.le_of_ble_eq_true rfl)⟩ (mm_recvL F.2.2.2.2.2.1 hN hl0) hl.1 rfl (Nat.le_of_ble_eq_true rfl) ⟨(Nat.le_of_ble_eq_true rfl), (Nat.le_of_ble_eq_true rfl)⟩ dJx4a65c_get_915e3_11
    (fun _ _ _ _ _ _ h9 => False.elim h9)
    (fun v9 σ1 H locs hp9 hN => ?_)
  obtain ⟨rfl, h9⟩ := hp9
  rw [h9] at hN
  refine W.eq (g2 := F0 m 14 ls [.ref y]) rfl ?_
  refine W.widen (k := 0) (n := 0) (Nat.le_of_ble_eq_true rfl) (Nat.le_of_ble_eq_true rfl) ?_
  exact mm_aret (pc := 14) F hr (Or.inl ⟨_, rfl⟩) hN (⟨rfl, rfl⟩) (Nat.le_of_ble_eq_true rfl) (Nat.le_of_ble_eq_true rfl) dJx4a65c_get_915e3_14

set_option maxHeartbeats 4000000 in
set_option maxRecDepth 100000 in
theorem c_newLength (l : Launch) (b : Nat) (D : mm_D) (hst : l.stackTraces = false) (n : Nat) (hn : 10 ≤ n) (hn2 : n ≤ 2000) (σ : mm_S) : mm_K l b D yJ8_newLength_cabcc (.code yJ8_newLength_cabcc cJ8_newLength_cabcc 4 (some .int)) ({ frames := 1, cells := 0, slots := 0, locals := 14 } : Room) [.int (nI n), .int (nI 1), .int (nI (n / 2))] σ
    (fun v σ2 => v = some (.int (nI (n + n / 2))) ∧ σ2 = σ)
    (fun _ _ => False) := by
  refine mm_of (cc := cJ8_newLength_cabcc) (nL := 4) (ret := (some .int)) (by decide) rfl (Nat.le_of_ble_eq_true rfl) hst ?_
  intro p e s m args below meth c ls F ht hr hin hN hl
  have hl : lv_has ls 4 [(0, .int (nI n)), (1, .int (nI 1)), (2, .int (nI (n / 2)))] := hl
  refine lv_iload_n (pc := 0) F.1 F.2.1 dJ8_newLength_cabcc_0 rfl (lv_at hl 0 rfl) ?_
  refine lv_iload_n (pc := 1) F.1 F.2.1 dJ8_newLength_cabcc_1 rfl (lv_at hl 1 rfl) ?_
  refine lv_iload_n (pc := 2) F.1 F.2.1 dJ8_newLength_cabcc_2 rfl (lv_at hl 2 rfl) ?_
  refine va_mmax (pc := 3) F.1 F.2.1 (F.2.2.1.trans hl.1.symm) F.2.2.2.1 (F.2.2.2.2.1 _ mw_265) (F.2.2.2.2.1 _ mw_266) (F.2.2.2.2.1 _ mw_16) (F.2.2.2.2.1 _ mw_267) (Nat.le_of_ble_eq_true rfl) (Nat.le_of_ble_eq_true rfl) (Nat.zero_le _) (Nat.zero_le _) dJ8_newLength_cabcc_3 ?_
  refine W.eq (g2 := F0 m 6 ls [.int (nI ((max 1 (n / 2)))), .int (nI n)]) (congrArg (fun z => F0 m 6 ls (.int z :: [.int (nI n)])) (mm_max (by omega) (by omega))) ?_
  refine mm_iadd (pc := 6) F (z := nI (n + ((max 1 (n / 2))))) (nI_add _ _) dJ8_newLength_cabcc_6 ?_
  refine lv_istore_n (pc := 7) (lv' := [(3, .int (nI (n + ((max 1 (n / 2)))))), (0, .int (nI n)), (1, .int (nI 1)), (2, .int (nI (n / 2)))]) F.1 F.2.1 dJ8_newLength_cabcc_7 rfl hl (by decide) rfl (fun ls hl => ?_)
  refine lv_iconst (pc := 8) (v := nI 0) F.1 F.2.1 dJ8_newLength_cabcc_8 (by decide) ?_
  refine lv_iload_n (pc := 9) F.1 F.2.1 dJ8_newLength_cabcc_9 rfl (lv_at hl 0 rfl) ?_
  refine mm_icmp_ge (pc := 10) F (x := 0) (y := n + ((max 1 (n / 2)))) (tgt := 21) (by omega) (by omega) dJ8_newLength_cabcc_10 (by decide) (fun c10 => ?_) (fun c10 => ?_)
  ·
    omega
  ·
    refine lv_iload_n (pc := 13) F.1 F.2.1 dJ8_newLength_cabcc_13 rfl (lv_at hl 0 rfl) ?_
    refine lv_ldc (pc := 14) (v := nI 2147483639) F.1 F.2.1 F.2.2.2.1 (F.2.2.2.2.1 _ mw_268) dJ8_newLength_cabcc_14 ?_
    refine mm_icmp_gt (pc := 16) F (x := n + ((max 1 (n / 2)))) (y := 2147483639) (tgt := 21) (by omega) (by omega) dJ8_newLength_cabcc_16 (by decide) (fun c16 => ?_) (fun c16 => ?_)
    ·
      omega
    ·
      refine lv_iload_n (pc := 19) F.1 F.2.1 dJ8_newLength_cabcc_19 rfl (lv_at hl 0 rfl) ?_
      exact mm_iret (pc := 20) F hr hN (⟨by rw [show n + max 1 (n / 2) = n + n / 2 by omega], rfl⟩) (Nat.le_of_ble_eq_true rfl) (Nat.le_of_ble_eq_true rfl) dJ8_newLength_cabcc_20

set_option maxHeartbeats 4000000 in
set_option maxRecDepth 100000 in
theorem c_copyOf3 (l : Launch) (b : Nat) (D : mm_D) (hst : l.stackTraces = false) (o r n N : Nat) (L : List Nat) (σ : mm_S) (hra : σ r = mm_arq o 8 n (fun i => L[i]?)) (hLn : L.length ≤ n) (hnN : n ≤ N) (hN9 : N ≤ 150) (hob : ∀ y ∈ L, mm_ob σ y) : mm_K l b D yJ7_copyOf_6403c (.code yJ7_copyOf_6403c cJ7_copyOf_6403c 4 (some (.array (.object "java/lang/Object")))) ({ frames := 1, cells := 1, slots := 150, locals := 31 } : Room) [.ref r, .int (nI N), .ref (D.2.1 100)] σ
    (fun v σ2 => ∃ q, v = some (.ref q) ∧ σ q = none ∧ σ2 = mm_u σ q (mm_arq o 8 N (fun i => L[i]?)))
    (fun _ _ => False) := by
  refine mm_of (cc := cJ7_copyOf_6403c) (nL := 4) (ret := (some (.array (.object "java/lang/Object")))) (by decide) rfl (Nat.le_of_ble_eq_true rfl) hst ?_
  intro p e s m args below meth c ls F ht hr hin hN hl
  have hl : lv_has ls 4 [(0, .ref r), (1, .int (nI N)), (2, .ref (D.2.1 100))] := hl
  refine lv_aload_n (pc := 0) F.1 F.2.1 dJ7_copyOf_6403c_0 rfl (lv_at hl 2 rfl) ?_
  refine mm_ldcM (pc := 1) F F.2.2.2.2.2.1.2.2.2.2.2.2.1 mw_298 dJ7_copyOf_6403c_1 ?_
  refine mm_acmp_ne (pc := 3) F (rx := D.2.1 100) (ry := D.2.1 100) (tgt := 13) dJ7_copyOf_6403c_3 (by decide) (fun c3 => ?_) (fun c3 => ?_)
  ·
    exact absurd rfl c3
  ·
    refine lv_iload_n (pc := 6) F.1 F.2.1 dJ7_copyOf_6403c_6 rfl (lv_at hl 1 rfl) ?_
    refine mm_newq (pc := 7) F hN o (N) rfl (by omega) mw_300 (by decide) (by show 0 + N ≤ 150; omega) dJ7_copyOf_6403c_7 (fun q1 H hq1 hN => ?_)
    refine W.widen (k := 1) (n := N) (by omega) (by omega) ?_
    have hrq : r ≠ q1 := fun e => by rw [e, hq1] at hra; cases hra
    have hr1 : (mm_u σ q1 (mm_arq o 8 N (fun _ => none))) r = mm_arq o 8 n (fun i => L[i]?) := by rw [mm_u_ne hrq]; exact hra
    have hob1 : ∀ i y, (fun i => L[i]?) i = some y → mm_ob (mm_u σ q1 (mm_arq o 8 N (fun _ => none))) y := fun i y hy => by
      obtain ⟨o9, c9, f9, g, g2⟩ := hob y (List.mem_of_getElem? hy)
      exact ⟨o9, c9, f9, by rw [mm_u_ne (fun e => by rw [e, hq1] at g; cases g)]; exact g, g2⟩
    generalize hσ : mm_u σ q1 (mm_arq o 8 N (fun _ => none)) = σ1 at hN hr1 hob1
    refine lv_goto (pc := 10) (tgt := 24) F.1 F.2.1 dJ7_copyOf_6403c_10 (by decide) ?_
    refine lv_astore_n (pc := 24) (lv' := [(3, .ref q1), (0, .ref r), (1, .int (nI N)), (2, .ref (D.2.1 100))]) F.1 F.2.1 dJ7_copyOf_6403c_24 rfl hl (by decide) rfl (fun ls hl => ?_)
    refine lv_aload_n (pc := 25) F.1 F.2.1 dJ7_copyOf_6403c_25 rfl (lv_at hl 1 rfl) ?_
    refine lv_iconst (pc := 26) (v := nI 0) F.1 F.2.1 dJ7_copyOf_6403c_26 (by decide) ?_
    refine lv_aload_n (pc := 27) F.1 F.2.1 dJ7_copyOf_6403c_27 rfl (lv_at hl 0 rfl) ?_
    refine lv_iconst (pc := 28) (v := nI 0) F.1 F.2.1 dJ7_copyOf_6403c_28 (by decide) ?_
    refine lv_aload_n (pc := 29) F.1 F.2.1 dJ7_copyOf_6403c_29 rfl (lv_at hl 1 rfl) ?_
    refine mm_alen (pc := 30) F hN (hr1) rfl dJ7_copyOf_6403c_30 ?_
    refine lv_iload_n (pc := 31) F.1 F.2.1 dJ7_copyOf_6403c_31 rfl (lv_at hl 2 rfl) ?_
    refine va_mmin (pc := 32) F.1 F.2.1 (F.2.2.1.trans hl.1.symm) F.2.2.2.1 (F.2.2.2.2.1 _ mw_301) (F.2.2.2.2.1 _ mw_302) (F.2.2.2.2.1 _ mw_16) (F.2.2.2.2.1 _ mw_303) (Nat.le_of_ble_eq_true rfl) (Nat.le_of_ble_eq_true rfl) (by decide) (by show N ≤ 150; omega) dJ7_copyOf_6403c_32 ?_
    refine W.eq (g2 := F0 m 35 ls [.int (nI ((min n N))), .int (nI 0), .ref q1, .int (nI 0), .ref r]) (congrArg (fun z => F0 m 35 ls (.int z :: [.int (nI 0), .ref q1, .int (nI 0), .ref r])) (mm_min (by omega) (by omega))) ?_
    refine mm_acopy (pc := 35) F hN (hr1) (by rw [← hσ]; exact mm_u_eq) (sp := 0) (dp := 0) (n := min n N) (by omega) (by omega) (by omega) (by omega) (hob1) mw_304 (rfl) (rfl) (rfl) hl.1 (Nat.le_of_ble_eq_true rfl) (by decide +kernel) dJ7_copyOf_6403c_35 (fun H locs hN => ?_)
    have e9 : mm_u σ1 q1 (mm_arq o 8 N (va_cpy (fun i => L[i]?) (fun _ => none) 0 0 (min n N))) = mm_u σ q1 (mm_arq o 8 N (fun i => L[i]?)) := by
      rw [show min n N = n by omega, mm_cpyl L hLn]
      funext z
      by_cases zq : z = q1
      · subst zq; rw [mm_u_eq, mm_u_eq]
      · rw [mm_u_ne zq, mm_u_ne zq, ← hσ, mm_u_ne zq]
    rw [e9] at hN
    refine lv_aload_n (pc := 38) F.1 F.2.1 dJ7_copyOf_6403c_38 rfl (lv_at hl 0 rfl) ?_
    exact mm_aret (pc := 39) F hr (Or.inr ⟨_, rfl⟩) hN (⟨q1, rfl, hq1, rfl⟩) (by decide) (by show N ≤ 150; omega) dJ7_copyOf_6403c_39

set_option maxHeartbeats 4000000 in
set_option maxRecDepth 100000 in
theorem c_copyOf2 (l : Launch) (b : Nat) (D : mm_D) (hst : l.stackTraces = false) (o r n N : Nat) (L : List Nat) (σ : mm_S) (hra : σ r = mm_arq o 8 n (fun i => L[i]?)) (hLn : L.length ≤ n) (hnN : n ≤ N) (hN9 : N ≤ 150) (hob : ∀ y ∈ L, mm_ob σ y) : mm_K l b D yJ7_copyOf_1904c (.code yJ7_copyOf_1904c cJ7_copyOf_1904c 2 (some (.array (.object "java/lang/Object")))) ({ frames := 2, cells := 1, slots := 150, locals := 54 } : Room) [.ref r, .int (nI N)] σ
    (fun v σ2 => ∃ q, v = some (.ref q) ∧ σ q = none ∧ σ2 = mm_u σ q (mm_arq o 8 N (fun i => L[i]?)))
    (fun _ _ => False) := by
  refine mm_of (cc := cJ7_copyOf_1904c) (nL := 2) (ret := (some (.array (.object "java/lang/Object")))) (by decide) rfl (Nat.le_of_ble_eq_true rfl) hst ?_
  intro p e s m args below meth c ls F ht hr hin hN hl
  have hl : lv_has ls 2 [(0, .ref r), (1, .int (nI N))] := hl
  refine lv_aload_n (pc := 0) F.1 F.2.1 dJ7_copyOf_1904c_0 rfl (lv_at hl 0 rfl) ?_
  refine lv_iload_n (pc := 1) F.1 F.2.1 dJ7_copyOf_1904c_1 rfl (lv_at hl 1 rfl) ?_
  refine lv_aload_n (pc := 2) F.1 F.2.1 dJ7_copyOf_1904c_2 rfl (lv_at hl 0 rfl) ?_
  refine va_getC (pc := 3) F.1 F.2.1 (F.2.2.1.trans hl.1.symm) F.2.2.2.1 (F.2.2.2.2.1 _ mw_275) (va_Dc.use F.2.2.2.2.2.1.2.2.2.2.2.2.2.2.1) (F.2.2.2.2.1 _ mw_1214) (F.2.2.2.2.1 _ mw_276) (F.2.2.2.2.1 _ mw_294) F.2.2.2.2.2.1.2.2.2.2.2.2.1 (mm_recvA F.2.2.2.2.2.1 hN (hra)) (Nat.le_of_ble_eq_true rfl) (Nat.le_of_ble_eq_true rfl) dJ7_copyOf_1904c_3 ?_
  refine mm_runS (pc := 6) (As := [.ref r, .int (nI N), .ref (D.2.1 100)]) (rest := []) F hN (c_copyOf3 l b D hst o r n N L σ hra hLn hnN hN9 hob) mw_295 mw_296 mw_23 mw_297 ⟨pmJ7_copyOf_6403c, (Nat.le_of_ble_eq_true rfl), (Nat.le_of_ble_eq_true rfl)⟩ hl.1 rfl (Nat.le_of_ble_eq_true rfl) ⟨(Nat.le_of_ble_eq_true rfl), (Nat.le_of_ble_eq_true rfl)⟩ dJ7_copyOf_1904c_6
    (fun _ _ _ _ _ _ h9 => False.elim h9)
    (fun v9 σ1 H locs hp9 hN => ?_)
  obtain ⟨q, rfl, h1, rfl⟩ := hp9
  refine W.eq (g2 := F0 m 9 ls [.ref q]) rfl ?_
  refine W.widen (k := 1) (n := 150) (Nat.le_of_ble_eq_true rfl) (Nat.le_of_ble_eq_true rfl) ?_
  exact mm_aret (pc := 9) F hr (Or.inr ⟨_, rfl⟩) hN (⟨q, rfl, h1, rfl⟩) (Nat.le_of_ble_eq_true rfl) (Nat.le_of_ble_eq_true rfl) dJ7_copyOf_1904c_9
