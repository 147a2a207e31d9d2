theorem mm_xorN (a b : Nat) : nI a ^^^ nI b = nI (a ^^^ b) := by
  apply Int32.toBitVec_inj.1
  show BitVec.ofNat 32 a ^^^ BitVec.ofNat 32 b = BitVec.ofNat 32 (a ^^^ b)
  apply BitVec.eq_of_getLsbD_eq
  intro i hi
  simp [hi]
/-- the bits of pa that se hasn't -/
def mm_an (pa se : Nat) : Nat := pa &&& (se ^^^ 4294967295)
theorem mm_anI (pa se : Nat) : nI pa &&& (nI se ^^^ (-1)) = nI (mm_an pa se) := by
  rw [show (-1 : Int32) = nI 4294967295 from by decide, mm_xorN, mm_andN]; rfl
theorem mm_an_le (pa se : Nat) : mm_an pa se ≤ pa := Nat.and_le_left
abbrev mm_sr (x : Int32) (k : Nat) : Int32 := (x.toUInt32 >>> ((nI k).toUInt32 &&& Int32.toUInt32 31)).toInt32
def mm_b1 (x : Int32) : Int32 := x - (mm_sr x 1 &&& nI 1431655765)
def mm_b2 (x : Int32) : Int32 := (x &&& nI 858993459) + (mm_sr x 2 &&& nI 858993459)
def mm_b3 (x : Int32) : Int32 := (x + mm_sr x 4) &&& nI 252645135
def mm_b4 (x : Int32) : Int32 := x + mm_sr x 8
def mm_b5 (x : Int32) : Int32 := x + mm_sr x 16
/-- how many of eight bits are set -/
def mm_pc (x : Nat) : Nat := x % 2 + x / 2 % 2 + x / 4 % 2 + x / 8 % 2 + x / 16 % 2 + x / 32 % 2 + x / 64 % 2 + x / 128 % 2
theorem mm_bc : ∀ x, x < 256 → mm_b5 (mm_b4 (mm_b3 (mm_b2 (mm_b1 (nI x))))) &&& nI 63 = nI (mm_pc x) := by decide +kernel
theorem mm_pc_le (x : Nat) : mm_pc x ≤ 8 := by unfold mm_pc; omega
/-- the first of the largest: its place from 1 on (0: none), and its value -/
def mm_bs (g : Nat → Nat) : Nat → Nat × Nat
  | 0 => (0, 0)
  | n + 1 => if (mm_bs g n).2 < g n then (n + 1, g n) else mm_bs g n
theorem mm_bs_le (g : Nat → Nat) (n : Nat) : (mm_bs g n).1 ≤ n := by
  induction n with
  | zero => exact Nat.le_refl _
  | succ n ih =>
    show (if _ then (n + 1, g n) else mm_bs g n).1 ≤ _
    split
    · exact Nat.le_refl _
    · omega
theorem mm_bs_w (g : Nat → Nat) (n c : Nat) (h : ∀ i, i < n → g i ≤ c) : (mm_bs g n).2 ≤ c := by
  induction n with
  | zero => exact Nat.zero_le _
  | succ n ih =>
    have h1 := ih (fun i hi => h i (by omega))
    have h2 := h n (by omega)
    show (if _ then (n + 1, g n) else mm_bs g n).2 ≤ _
    split
    · exact h2
    · exact h1
/-- how many new parts a letter brings -/
def mm_it (f : Nat → Nat → Nat) (se i : Nat) : Nat := if f 2 i = 108 then mm_pc (mm_an (f 5 i) se) else 0
theorem mm_it_le (f : Nat → Nat → Nat) (se i : Nat) : mm_it f se i ≤ 8 := by
  have := mm_pc_le (mm_an (f 5 i) se)
  unfold mm_it
  split <;> omega
/-- the parts that the first k letters of the proof have -/
def mm_hd (f : Nat → Nat → Nat) (n : Nat) : Nat → Nat
  | 0 => 0
  | k + 1 => if (mm_bs (mm_it f (mm_hd f n k)) n).1 = 0 then mm_hd f n k else mm_hd f n k ||| f 5 ((mm_bs (mm_it f (mm_hd f n k)) n).1 - 1)
def mm_bk (f : Nat → Nat → Nat) (n k : Nat) : Nat := (mm_bs (mm_it f (mm_hd f n k)) n).1
def mm_pl (f : Nat → Nat → Nat) (n : Nat) : Nat → List Nat
  | 0 => []
  | k + 1 => if mm_bk f n k = 0 then mm_pl f n k else mm_pl f n k ++ [mm_bk f n k - 1]
theorem mm_pl_stop {f : Nat → Nat → Nat} {n k : Nat} (h : mm_bk f n k = 0) : ∀ j, mm_hd f n (k + j) = mm_hd f n k ∧ mm_bk f n (k + j) = 0 ∧ mm_pl f n (k + j) = mm_pl f n k := by
  intro j
  induction j with
  | zero => exact ⟨rfl, h, rfl⟩
  | succ j ih =>
    obtain ⟨h1, h2, h3⟩ := ih
    have e1 : mm_hd f n (k + (j + 1)) = mm_hd f n k := by
      exact (if_pos (show (mm_bs (mm_it f (mm_hd f n (k + j))) n).1 = 0 from h2)).trans h1
    refine ⟨e1, by rw [mm_bk, e1]; exact h, ?_⟩
    show (if mm_bk f n (k + j) = 0 then mm_pl f n (k + j) else _) = _
    rw [if_pos h2, h3]
theorem mm_pl_len (f : Nat → Nat → Nat) (n k : Nat) : (mm_pl f n k).length ≤ k := by
  induction k with
  | zero => exact Nat.le_refl _
  | succ k ih =>
    show (if _ then mm_pl f n k else mm_pl f n k ++ _).length ≤ _
    split
    · omega
    · rw [List.length_append]; show _ + 1 ≤ _; omega
theorem mm_hd_le {f : Nat → Nat → Nat} {n : Nat} (hf : ∀ i, i < n → f 5 i < 256) (k : Nat) : mm_hd f n k < 256 := by
  induction k with
  | zero => exact Nat.succ_pos _
  | succ k ih =>
    show (if _ then mm_hd f n k else _) < _
    split
    · exact ih
    · have := mm_bs_le (mm_it f (mm_hd f n k)) n
      exact Nat.or_lt_two_pow (n := 8) ih (hf _ (by omega))
set_option maxHeartbeats 4000000 in
set_option maxRecDepth 100000 in
theorem c_bitCount (l : Launch) (b : Nat) (D : mm_D) (hst : l.stackTraces = false) (x : Nat) (hx : x < 256) (σ : mm_S) : mm_K l b D yJ6_bitCount_0f7a4 (.code yJ6_bitCount_0f7a4 cJ6_bitCount_0f7a4 1 (some .int)) ({ frames := 0, cells := 0, slots := 0, locals := 0 } : Room) [.int (nI x)] σ
    (fun v σ2 => v = some (.int (nI (mm_pc x))) ∧ σ2 = σ)
    (fun _ _ => False) := by
  refine mm_of (cc := cJ6_bitCount_0f7a4) (nL := 1) (ret := (some .int)) (by decide) rfl (Nat.le_of_ble_eq_true rfl) hst ?_
  intro p e s m args below meth c ls F ht hr hin hN hl
  have hl : lv_has ls 1 [(0, .int (nI x))] := hl
  refine lv_iload_n (pc := 0) F.1 F.2.1 dJ6_bitCount_0f7a4_0 rfl (lv_at hl 0 rfl) ?_
  refine lv_iload_n (pc := 1) F.1 F.2.1 dJ6_bitCount_0f7a4_1 rfl (lv_at hl 0 rfl) ?_
  refine lv_iconst (pc := 2) (v := nI 1) F.1 F.2.1 dJ6_bitCount_0f7a4_2 (by decide) ?_
  refine lv_iushr (pc := 3) (v := mm_sr (nI x) 1) F.1 F.2.1 dJ6_bitCount_0f7a4_3 rfl ?_
  refine lv_ldcw (pc := 4) (v := nI 1431655765) F.1 F.2.1 F.2.2.2.1 (F.2.2.2.2.1 _ mw_922) dJ6_bitCount_0f7a4_4 ?_
  refine mm_iand (pc := 7) F (z := (mm_sr (nI x) 1) &&& (nI 1431655765)) (rfl) dJ6_bitCount_0f7a4_7 ?_
  refine mm_isub (pc := 8) F (z := (nI x) - ((mm_sr (nI x) 1) &&& (nI 1431655765))) (rfl) dJ6_bitCount_0f7a4_8 ?_
  refine W.eq (g2 := F0 m 9 ls [.int (mm_b1 (nI x))]) rfl ?_
  refine lv_istore_n (pc := 9) (lv' := [(0, .int (mm_b1 (nI x)))]) F.1 F.2.1 dJ6_bitCount_0f7a4_9 rfl hl (by decide) rfl (fun ls hl => ?_)
  refine lv_iload_n (pc := 10) F.1 F.2.1 dJ6_bitCount_0f7a4_10 rfl (lv_at hl 0 rfl) ?_
  refine lv_ldcw (pc := 11) (v := nI 858993459) F.1 F.2.1 F.2.2.2.1 (F.2.2.2.2.1 _ mw_923) dJ6_bitCount_0f7a4_11 ?_
  refine mm_iand (pc := 14) F (z := (mm_b1 (nI x)) &&& (nI 858993459)) (rfl) dJ6_bitCount_0f7a4_14 ?_
  refine lv_iload_n (pc := 15) F.1 F.2.1 dJ6_bitCount_0f7a4_15 rfl (lv_at hl 0 rfl) ?_
  refine lv_iconst (pc := 16) (v := nI 2) F.1 F.2.1 dJ6_bitCount_0f7a4_16 (by decide) ?_
  refine lv_iushr (pc := 17) (v := mm_sr (mm_b1 (nI x)) 2) F.1 F.2.1 dJ6_bitCount_0f7a4_17 rfl ?_
  refine lv_ldcw (pc := 18) (v := nI 858993459) F.1 F.2.1 F.2.2.2.1 (F.2.2.2.2.1 _ mw_923) dJ6_bitCount_0f7a4_18 ?_
  refine mm_iand (pc := 21) F (z := (mm_sr (mm_b1 (nI x)) 2) &&& (nI 858993459)) (rfl) dJ6_bitCount_0f7a4_21 ?_
  refine mm_iadd (pc := 22) F (z := ((mm_b1 (nI x)) &&& (nI 858993459)) + ((mm_sr (mm_b1 (nI x)) 2) &&& (nI 858993459))) (rfl) dJ6_bitCount_0f7a4_22 ?_
  refine W.eq (g2 := F0 m 23 ls [.int (mm_b2 (mm_b1 (nI x)))]) rfl ?_
  refine lv_istore_n (pc := 23) (lv' := [(0, .int (mm_b2 (mm_b1 (nI x))))]) F.1 F.2.1 dJ6_bitCount_0f7a4_23 rfl hl (by decide) rfl (fun ls hl => ?_)
  refine lv_iload_n (pc := 24) F.1 F.2.1 dJ6_bitCount_0f7a4_24 rfl (lv_at hl 0 rfl) ?_
  refine lv_iload_n (pc := 25) F.1 F.2.1 dJ6_bitCount_0f7a4_25 rfl (lv_at hl 0 rfl) ?_
  refine lv_iconst (pc := 26) (v := nI 4) F.1 F.2.1 dJ6_bitCount_0f7a4_26 (by decide) ?_
  refine lv_iushr (pc := 27) (v := mm_sr (mm_b2 (mm_b1 (nI x))) 4) F.1 F.2.1 dJ6_bitCount_0f7a4_27 rfl ?_
  refine mm_iadd (pc := 28) F (z := (mm_b2 (mm_b1 (nI x))) + (mm_sr (mm_b2 (mm_b1 (nI x))) 4)) (rfl) dJ6_bitCount_0f7a4_28 ?_
  refine lv_ldcw (pc := 29) (v := nI 252645135) F.1 F.2.1 F.2.2.2.1 (F.2.2.2.2.1 _ mw_924) dJ6_bitCount_0f7a4_29 ?_
  refine mm_iand (pc := 32) F (z := ((mm_b2 (mm_b1 (nI x))) + (mm_sr (mm_b2 (mm_b1 (nI x))) 4)) &&& (nI 252645135)) (rfl) dJ6_bitCount_0f7a4_32 ?_
  refine W.eq (g2 := F0 m 33 ls [.int (mm_b3 (mm_b2 (mm_b1 (nI x))))]) rfl ?_
  refine lv_istore_n (pc := 33) (lv' := [(0, .int (mm_b3 (mm_b2 (mm_b1 (nI x)))))]) F.1 F.2.1 dJ6_bitCount_0f7a4_33 rfl hl (by decide) rfl (fun ls hl => ?_)
  refine lv_iload_n (pc := 34) F.1 F.2.1 dJ6_bitCount_0f7a4_34 rfl (lv_at hl 0 rfl) ?_
  refine lv_iload_n (pc := 35) F.1 F.2.1 dJ6_bitCount_0f7a4_35 rfl (lv_at hl 0 rfl) ?_
  refine lv_bipush (pc := 36) (v := nI 8) F.1 F.2.1 dJ6_bitCount_0f7a4_36 (by decide) ?_
  refine lv_iushr (pc := 38) (v := mm_sr (mm_b3 (mm_b2 (mm_b1 (nI x)))) 8) F.1 F.2.1 dJ6_bitCount_0f7a4_38 rfl ?_
  refine mm_iadd (pc := 39) F (z := (mm_b3 (mm_b2 (mm_b1 (nI x)))) + (mm_sr (mm_b3 (mm_b2 (mm_b1 (nI x)))) 8)) (rfl) dJ6_bitCount_0f7a4_39 ?_
  refine W.eq (g2 := F0 m 40 ls [.int (mm_b4 (mm_b3 (mm_b2 (mm_b1 (nI x)))))]) rfl ?_
  refine lv_istore_n (pc := 40) (lv' := [(0, .int (mm_b4 (mm_b3 (mm_b2 (mm_b1 (nI x))))))]) F.1 F.2.1 dJ6_bitCount_0f7a4_40 rfl hl (by decide) rfl (fun ls hl => ?_)
  refine lv_iload_n (pc := 41) F.1 F.2.1 dJ6_bitCount_0f7a4_41 rfl (lv_at hl 0 rfl) ?_
  refine lv_iload_n (pc := 42) F.1 F.2.1 dJ6_bitCount_0f7a4_42 rfl (lv_at hl 0 rfl) ?_
  refine lv_bipush (pc := 43) (v := nI 16) F.1 F.2.1 dJ6_bitCount_0f7a4_43 (by decide) ?_
  refine lv_iushr (pc := 45) (v := mm_sr (mm_b4 (mm_b3 (mm_b2 (mm_b1 (nI x))))) 16) F.1 F.2.1 dJ6_bitCount_0f7a4_45 rfl ?_
  refine mm_iadd (pc := 46) F (z := (mm_b4 (mm_b3 (mm_b2 (mm_b1 (nI x))))) + (mm_sr (mm_b4 (mm_b3 (mm_b2 (mm_b1 (nI x))))) 16)) (rfl) dJ6_bitCount_0f7a4_46 ?_
  refine W.eq (g2 := F0 m 47 ls [.int (mm_b5 (mm_b4 (mm_b3 (mm_b2 (mm_b1 (nI x))))))]) rfl ?_
  refine lv_istore_n (pc := 47) (lv' := [(0, .int (mm_b5 (mm_b4 (mm_b3 (mm_b2 (mm_b1 (nI x)))))))]) F.1 F.2.1 dJ6_bitCount_0f7a4_47 rfl hl (by decide) rfl (fun ls hl => ?_)
  refine lv_iload_n (pc := 48) F.1 F.2.1 dJ6_bitCount_0f7a4_48 rfl (lv_at hl 0 rfl) ?_
  refine lv_bipush (pc := 49) (v := nI 63) F.1 F.2.1 dJ6_bitCount_0f7a4_49 (by decide) ?_
  refine mm_iand (pc := 51) F (z := (mm_b5 (mm_b4 (mm_b3 (mm_b2 (mm_b1 (nI x)))))) &&& (nI 63)) (rfl) dJ6_bitCount_0f7a4_51 ?_
  exact mm_iret (pc := 52) F hr hN (⟨congrArg (fun z => some (Value.int z)) (mm_bc x hx), rfl⟩) (Nat.le_of_ble_eq_true rfl) (Nat.le_of_ble_eq_true rfl) dJ6_bitCount_0f7a4_52

set_option maxHeartbeats 4000000 in
set_option maxRecDepth 100000 in
theorem c_mostNew (l : Launch) (b : Nat) (D : mm_D) (hst : l.stackTraces = false) (o r rb eL pL qL : Nat) (L : List Nat) (f : Nat → Nat → Nat) (σ : mm_S) (hR : σ r = mm_obj o 3 [.int (nI rb), .ref eL, .ref pL, .ref qL]) (hL : σ eL = mm_lst o L) (hE : mm_en σ o L f) (se : Nat) (hse : se < 256) : mm_K l b D yX3_letterWithMostNewParts (.code yX3_letterWithMostNewParts cX3_letterWithMostNewParts 7 (some (.object "Mailmerge$Entry"))) ({ frames := 3, cells := 0, slots := 0, locals := 84 } : Room) [.ref r, .int (nI se)] σ
    (fun v σ2 => v = some (if (mm_bs (mm_it f se) L.length).1 = 0 then Value.null else Value.ref (L.getD ((mm_bs (mm_it f se) L.length).1 - 1) 0)) ∧ σ2 = σ)
    (fun _ _ => False) := by
  refine mm_of (cc := cX3_letterWithMostNewParts) (nL := 7) (ret := (some (.object "Mailmerge$Entry"))) (by decide) rfl (Nat.le_of_ble_eq_true rfl) hst ?_
  intro p e s m args below meth c ls F ht hr hin hN hl
  have hl : lv_has ls 7 [(0, .ref r), (1, .int (nI se))] := hl
  have hn := hE.1
  refine lv_null (pc := 0) F.1 F.2.1 dX3_letterWithMostNewParts_0 ?_
  refine lv_astore_nN (pc := 1) (lv' := [(2, .null), (0, .ref r), (1, .int (nI se))]) F.1 F.2.1 dX3_letterWithMostNewParts_1 rfl hl (by decide) rfl (fun ls hl => ?_)
  refine lv_iconst (pc := 2) (v := nI 0) F.1 F.2.1 dX3_letterWithMostNewParts_2 (by decide) ?_
  refine lv_istore_n (pc := 3) (lv' := [(3, .int (nI 0)), (2, .null), (0, .ref r), (1, .int (nI se))]) F.1 F.2.1 dX3_letterWithMostNewParts_3 rfl hl (by decide) rfl (fun ls hl => ?_)
  refine lv_iconst (pc := 4) (v := nI 0) F.1 F.2.1 dX3_letterWithMostNewParts_4 (by decide) ?_
  refine lv_istore (pc := 5) (lv' := [(4, .int (nI 0)), (3, .int (nI 0)), (2, .null), (0, .ref r), (1, .int (nI se))]) F.1 F.2.1 dX3_letterWithMostNewParts_5 hl (by decide) rfl (fun ls hl => ?_)
  have lp7 : ∀ (k7 i : Nat) (bv : Value) (mo : Nat) (ls : Array Slot) (H : Heap) (locs : List Loc), L.length < i + k7 → i ≤ L.length → (bv = (if (mm_bs (mm_it f se) i).1 = 0 then Value.null else Value.ref (L.getD ((mm_bs (mm_it f se) i).1 - 1) 0))) → (mo = (mm_bs (mm_it f se) i).2) → mm_N b D s σ H locs → lv_has ls 7 [(0, .ref r), (1, .int (nI se)), (2, bv), (3, .int (nI mo)), (4, .int (nI i))] →
      W p l e ({ frames := 3, cells := 0, slots := 0, locals := 84 } : Room) s m args below meth c H locs (0) (0) (mm_Q b D (fun v σ2 => v = some (if (mm_bs (mm_it f se) L.length).1 = 0 then Value.null else Value.ref (L.getD ((mm_bs (mm_it f se) L.length).1 - 1) 0)) ∧ σ2 = σ) (fun _ _ => False) below args s ({ frames := 3, cells := 0, slots := 0, locals := 84 } : Room)) (F0 m 7 ls []) := by
    intro k7
    induction k7 with
    | zero => intro i bv mo ls H locs hk7 hi7 hbv hmo hN hl; omega
    | succ k7 ih7 =>
      intro i bv mo ls H locs hk7 hi7 hbv hmo hN hl
      have hmw := mm_bs_w (mm_it f se) i 8 (fun j _ => mm_it_le f se j)
      refine lv_iload (pc := 7) F.1 F.2.1 dX3_letterWithMostNewParts_7 (lv_at hl 4 rfl) ?_
      refine lv_aload_n (pc := 9) F.1 F.2.1 dX3_letterWithMostNewParts_9 rfl (lv_at hl 0 rfl) ?_
      refine mm_get (pc := 10) F hN (hR) (ci := 3) rfl 1 (by decide) mw_598 rfl dX3_letterWithMostNewParts_10 ?_
      refine mm_runV (pc := 13) (As := []) (rest := [.int (nI i)]) F hN (c_ALsize l b D hst o eL L σ hL) mw_667 mw_197 mw_198 mw_4 mw_199 ⟨pmJx4a65c_size_8abf5, (Nat.le_of_ble_eq_true rfl), (Nat.le_of_ble_eq_true rfl)⟩ (mm_recvL F.2.2.2.2.2.1 hN hL) hl.1 rfl (Nat.le_of_ble_eq_true rfl) ⟨(Nat.le_of_ble_eq_true rfl), (Nat.le_of_ble_eq_true rfl)⟩ dX3_letterWithMostNewParts_13
        (fun _ _ _ _ _ _ h9 => False.elim h9)
        (fun v9 σ9 H locs hp9 hN => ?_)
      obtain ⟨rfl, h9⟩ := hp9
      rw [h9] at hN
      refine W.eq (g2 := F0 m 16 ls [.int (nI L.length), .int (nI i)]) rfl ?_
      refine W.widen (k := 0) (n := 0) (Nat.le_of_ble_eq_true rfl) (Nat.le_of_ble_eq_true rfl) ?_
      refine mm_icmp_ge (pc := 16) F (x := i) (y := L.length) (tgt := 73) (by omega) (by omega) dX3_letterWithMostNewParts_16 (by decide) (fun cz16 => ?_) (fun cz16 => ?_)
      ·
        have hi9 : i = L.length := by omega
        subst hi9
        by_cases hz : (mm_bs (mm_it f se) L.length).1 = 0
        ·
          rw [hbv, if_pos hz] at hl
          refine lv_aload_nN (pc := 73) F.1 F.2.1 dX3_letterWithMostNewParts_73 rfl (lv_at hl 2 rfl) ?_
          exact mm_nret (pc := 74) F hr (Or.inl ⟨_, rfl⟩) hN (⟨by rw [if_pos hz], rfl⟩) (Nat.le_of_ble_eq_true rfl) (Nat.le_of_ble_eq_true rfl) dX3_letterWithMostNewParts_74
        ·
          rw [hbv, if_neg hz] at hl
          refine lv_aload_n (pc := 73) F.1 F.2.1 dX3_letterWithMostNewParts_73 rfl (lv_at hl 2 rfl) ?_
          exact mm_aret (pc := 74) F hr (Or.inl ⟨_, rfl⟩) hN (⟨by rw [if_neg hz], rfl⟩) (Nat.le_of_ble_eq_true rfl) (Nat.le_of_ble_eq_true rfl) dX3_letterWithMostNewParts_74
      ·
        obtain ⟨hEi, b2, b3, b4, b5, b6⟩ := hE.2 i (by omega)
        have hpc8 := mm_pc_le (mm_an (f 5 i) se)
        refine lv_aload_n (pc := 19) F.1 F.2.1 dX3_letterWithMostNewParts_19 rfl (lv_at hl 0 rfl) ?_
        refine mm_get (pc := 20) F hN (hR) (ci := 3) rfl 1 (by decide) mw_598 rfl dX3_letterWithMostNewParts_20 ?_
        refine lv_iload (pc := 23) F.1 F.2.1 dX3_letterWithMostNewParts_23 (lv_at hl 4 rfl) ?_
        refine mm_runV (pc := 25) (As := [.int (nI i)]) (rest := []) F hN (c_ALget l b D hst o eL i (L.getD i 0) L σ hL (mm_gd (by omega))) mw_668 mw_358 mw_359 mw_4 mw_360 ⟨pmJx4a65c_get_915e3, (Nat.le_of_ble_eq_true rfl), (Nat.le_of_ble_eq_true rfl)⟩ (mm_recvL F.2.2.2.2.2.1 hN hL) hl.1 rfl (Nat.le_of_ble_eq_true rfl) ⟨(Nat.le_of_ble_eq_true rfl), (Nat.le_of_ble_eq_true rfl)⟩ dX3_letterWithMostNewParts_25
          (fun _ _ _ _ _ _ h9 => False.elim h9)
          (fun v9 σ9 H locs hp9 hN => ?_)
        obtain ⟨rfl, h9⟩ := hp9
        rw [h9] at hN
        refine W.eq (g2 := F0 m 28 ls [.ref ((L.getD i 0))]) rfl ?_
        refine W.widen (k := 0) (n := 0) (Nat.le_of_ble_eq_true rfl) (Nat.le_of_ble_eq_true rfl) ?_
        refine mm_cast (pc := 28) F hN (hEi) (ci := 1) rfl mw_669 dX3_letterWithMostNewParts_28 ?_
        refine lv_astore (pc := 31) (lv' := [(5, .ref ((L.getD i 0))), (0, .ref r), (1, .int (nI se)), (2, bv), (3, .int (nI mo)), (4, .int (nI i))]) F.1 F.2.1 dX3_letterWithMostNewParts_31 hl (by decide) rfl (fun ls hl => ?_)
        refine lv_aload (pc := 33) F.1 F.2.1 dX3_letterWithMostNewParts_33 (lv_at hl 0 rfl) ?_
        refine mm_get (pc := 35) F hN (hEi) (ci := 1) rfl 5 (by decide) mw_636 rfl dX3_letterWithMostNewParts_35 ?_
        refine lv_iload_n (pc := 38) F.1 F.2.1 dX3_letterWithMostNewParts_38 rfl (lv_at hl 2 rfl) ?_
        refine lv_iconst (pc := 39) (v := (-1)) F.1 F.2.1 dX3_letterWithMostNewParts_39 (by decide) ?_
        refine lv_ixor (pc := 40) F.1 F.2.1 dX3_letterWithMostNewParts_40 ?_
        refine mm_iand (pc := 41) F (z := (nI (f 5 i)) &&& ((nI se) ^^^ ((-1)))) (rfl) dX3_letterWithMostNewParts_41 ?_
        refine W.eq (g2 := F0 m 42 ls [.int (nI (mm_an (f 5 i) se))]) (by rw [mm_anI]) ?_
        refine mm_runS (pc := 42) (As := [.int (nI (mm_an (f 5 i) se))]) (rest := []) F hN (c_bitCount l b D hst (mm_an (f 5 i) se) (Nat.lt_of_le_of_lt (mm_an_le _ _) b5) σ) mw_919 mw_920 mw_33 mw_921 ⟨pmJ6_bitCount_0f7a4, (Nat.le_of_ble_eq_true rfl), (Nat.le_of_ble_eq_true rfl)⟩ hl.1 rfl (Nat.le_of_ble_eq_true rfl) ⟨(Nat.le_of_ble_eq_true rfl), (Nat.le_of_ble_eq_true rfl)⟩ dX3_letterWithMostNewParts_42
          (fun _ _ _ _ _ _ h9 => False.elim h9)
          (fun v9 σ9 H locs hp9 hN => ?_)
        obtain ⟨rfl, h9⟩ := hp9
        rw [h9] at hN
        refine W.eq (g2 := F0 m 45 ls [.int (nI (mm_pc (mm_an (f 5 i) se)))]) rfl ?_
        refine W.widen (k := 0) (n := 0) (Nat.le_of_ble_eq_true rfl) (Nat.le_of_ble_eq_true rfl) ?_
        refine lv_istore (pc := 45) (lv' := [(6, .int (nI (mm_pc (mm_an (f 5 i) se)))), (5, .ref ((L.getD i 0))), (0, .ref r), (1, .int (nI se)), (2, bv), (3, .int (nI mo)), (4, .int (nI i))]) F.1 F.2.1 dX3_letterWithMostNewParts_45 hl (by decide) rfl (fun ls hl => ?_)
        refine lv_aload (pc := 47) F.1 F.2.1 dX3_letterWithMostNewParts_47 (lv_at hl 1 rfl) ?_
        refine mm_runV (pc := 49) (As := []) (rest := []) F hN (c_isLet l b D hst o (L.getD i 0) (f 2 i) (f 3 i) (f 4 i) (f 5 i) (f 6 i) _ _ σ hEi b2) mw_659 mw_660 mw_661 mw_30 mw_662 ⟨pmX1_isLetter, (Nat.le_of_ble_eq_true rfl), (Nat.le_of_ble_eq_true rfl)⟩ (mm_recv F.2.2.2.2.2.1 hN hEi rfl) hl.1 rfl (Nat.le_of_ble_eq_true rfl) ⟨(Nat.le_of_ble_eq_true rfl), (Nat.le_of_ble_eq_true rfl)⟩ dX3_letterWithMostNewParts_49
          (fun _ _ _ _ _ _ h9 => False.elim h9)
          (fun v9 σ9 H locs hp9 hN => ?_)
        obtain ⟨rfl, h9⟩ := hp9
        rw [h9] at hN
        refine W.eq (g2 := F0 m 52 ls [.int (nI (if f 2 i = 108 then 1 else 0))]) rfl ?_
        refine W.widen (k := 0) (n := 0) (Nat.le_of_ble_eq_true rfl) (Nat.le_of_ble_eq_true rfl) ?_
        by_cases hb52 : f 2 i = 108
        ·
          refine W.eq (g2 := F0 m 52 ls [.int (nI 1)]) (by rw [if_pos hb52]) ?_
          have hit : mm_it f se i = mm_pc (mm_an (f 5 i) se) := if_pos hb52
          refine mm_if_eq (pc := 52) F (tgt := 67) (by omega) dX3_letterWithMostNewParts_52 (by decide) (fun h9 => absurd h9 (by decide)) (fun cz52 => ?_)
          refine lv_iload (pc := 55) F.1 F.2.1 dX3_letterWithMostNewParts_55 (lv_at hl 0 rfl) ?_
          refine lv_iload_n (pc := 57) F.1 F.2.1 dX3_letterWithMostNewParts_57 rfl (lv_at hl 5 rfl) ?_
          refine mm_icmp_le (pc := 58) F (x := mm_pc (mm_an (f 5 i) se)) (y := mo) (tgt := 67) (by omega) (by omega) dX3_letterWithMostNewParts_58 (by decide) (fun cz58 => ?_) (fun cz58 => ?_)
          ·
            refine lv_iinc (pc := 67) (v := nI (i + 1)) (lv' := [(4, .int (nI (i + 1))), (6, .int (nI (mm_pc (mm_an (f 5 i) se)))), (5, .ref ((L.getD i 0))), (0, .ref r), (1, .int (nI se)), (2, bv), (3, .int (nI mo))]) F.1 F.2.1 dX3_letterWithMostNewParts_67 hl (k := 6) rfl (by rw [← nI_add]; rfl) (by decide) rfl (fun ls hl => ?_)
            refine lv_goto (pc := 70) (tgt := 7) F.1 F.2.1 dX3_letterWithMostNewParts_70 (by decide) ?_
            have hs : mm_bs (mm_it f se) (i + 1) = mm_bs (mm_it f se) i := by show (if _ then _ else _) = _; rw [if_neg (by omega)]
            exact ih7 (i + 1) bv mo ls _ _ (by omega) (by omega) (by rw [hs]; exact hbv) (by rw [hs]; exact hmo) hN (lv_sub hl [3, 4, 5, 6, 0] rfl)
          ·
            refine lv_aload (pc := 61) F.1 F.2.1 dX3_letterWithMostNewParts_61 (lv_at hl 1 rfl) ?_
            refine lv_astore_n (pc := 63) (lv' := [(2, .ref ((L.getD i 0))), (6, .int (nI (mm_pc (mm_an (f 5 i) se)))), (5, .ref ((L.getD i 0))), (0, .ref r), (1, .int (nI se)), (3, .int (nI mo)), (4, .int (nI i))]) F.1 F.2.1 dX3_letterWithMostNewParts_63 rfl hl (by decide) rfl (fun ls hl => ?_)
            refine lv_iload (pc := 64) F.1 F.2.1 dX3_letterWithMostNewParts_64 (lv_at hl 1 rfl) ?_
            refine lv_istore_n (pc := 66) (lv' := [(3, .int (nI (mm_pc (mm_an (f 5 i) se)))), (2, .ref ((L.getD i 0))), (6, .int (nI (mm_pc (mm_an (f 5 i) se)))), (5, .ref ((L.getD i 0))), (0, .ref r), (1, .int (nI se)), (4, .int (nI i))]) F.1 F.2.1 dX3_letterWithMostNewParts_66 rfl hl (by decide) rfl (fun ls hl => ?_)
            refine lv_iinc (pc := 67) (v := nI (i + 1)) (lv' := [(4, .int (nI (i + 1))), (3, .int (nI (mm_pc (mm_an (f 5 i) se)))), (2, .ref ((L.getD i 0))), (6, .int (nI (mm_pc (mm_an (f 5 i) se)))), (5, .ref ((L.getD i 0))), (0, .ref r), (1, .int (nI se))]) F.1 F.2.1 dX3_letterWithMostNewParts_67 hl (k := 6) rfl (by rw [← nI_add]; rfl) (by decide) rfl (fun ls hl => ?_)
            refine lv_goto (pc := 70) (tgt := 7) F.1 F.2.1 dX3_letterWithMostNewParts_70 (by decide) ?_
            have hs : mm_bs (mm_it f se) (i + 1) = (i + 1, mm_it f se i) := by show (if _ then _ else _) = _; rw [if_pos (by omega)]
            exact ih7 (i + 1) (.ref (L.getD i 0)) (mm_pc (mm_an (f 5 i) se)) ls _ _ (by omega) (by omega) (by rw [hs]; rfl) (by rw [hs]; exact hit.symm) hN (lv_sub hl [5, 6, 2, 1, 0] rfl)
        ·
          refine W.eq (g2 := F0 m 52 ls [.int (nI 0)]) (by rw [if_neg hb52]) ?_
          have hit : mm_it f se i = 0 := if_neg hb52
          refine mm_if_eq (pc := 52) F (tgt := 67) (by omega) dX3_letterWithMostNewParts_52 (by decide) (fun cz52 => ?_) (fun h9 => absurd h9 (by decide))
          refine lv_iinc (pc := 67) (v := nI (i + 1)) (lv' := [(4, .int (nI (i + 1))), (6, .int (nI (mm_pc (mm_an (f 5 i) se)))), (5, .ref ((L.getD i 0))), (0, .ref r), (1, .int (nI se)), (2, bv), (3, .int (nI mo))]) F.1 F.2.1 dX3_letterWithMostNewParts_67 hl (k := 6) rfl (by rw [← nI_add]; rfl) (by decide) rfl (fun ls hl => ?_)
          refine lv_goto (pc := 70) (tgt := 7) F.1 F.2.1 dX3_letterWithMostNewParts_70 (by decide) ?_
          have hs : mm_bs (mm_it f se) (i + 1) = mm_bs (mm_it f se) i := by show (if _ then _ else _) = _; rw [if_neg (by omega)]
          exact ih7 (i + 1) bv mo ls _ _ (by omega) (by omega) (by rw [hs]; exact hbv) (by rw [hs]; exact hmo) hN (lv_sub hl [3, 4, 5, 6, 0] rfl)
  exact lp7 (L.length + 1) 0 .null 0 ls _ _ (by omega) (by omega) (rfl) (rfl) hN (lv_sub hl [3, 4, 2, 1, 0] rfl)

