/-! the place of a letter in the posting -/
theorem mm_sm_mono {f g : Nat → Nat} {n : Nat} (h : ∀ i, i < n → f i ≤ g i) : mm_sm f n ≤ mm_sm g n := by
  induction n with
  | zero => exact Nat.le_refl _
  | succ n ih =>
    show mm_sm f n + f n ≤ mm_sm g n + g n
    have := ih (fun i hi => h i (by omega))
    have := h n (by omega)
    omega
theorem mm_sm_lt {f g : Nat → Nat} {n p : Nat} (h : ∀ i, i < n → f i ≤ g i) (hp : p < n) (hs : f p < g p) : mm_sm f n < mm_sm g n := by
  induction n with
  | zero => omega
  | succ n ih =>
    show mm_sm f n + f n < mm_sm g n + g n
    by_cases e : p = n
    · have := mm_sm_mono (n := n) (fun i hi => h i (by omega))
      rw [e] at hs
      omega
    · have := ih (fun i hi => h i (by omega)) (by omega)
      have := h n (by omega)
      omega
theorem mm_ins_getD (x : Nat) : ∀ (L : List Nat) (k j : Nat), k ≤ L.length → (L.insertIdx k x).getD j 0 = if j < k then L.getD j 0 else if j = k then x else L.getD (j - 1) 0
  | L, 0, 0, _ => by
    rw [List.insertIdx_zero]; rfl
  | L, 0, j + 1, _ => by
    rw [List.insertIdx_zero, if_neg (Nat.not_lt_zero _), if_neg (Nat.succ_ne_zero _)]; rfl
  | [], k + 1, j, h => absurd h (by simp)
  | a :: L, k + 1, 0, _ => by
    rw [List.insertIdx_succ_cons, if_pos (Nat.succ_pos _)]; rfl
  | a :: L, k + 1, j + 1, h => by
    rw [List.insertIdx_succ_cons]
    show (L.insertIdx k x).getD j 0 = if j + 1 < k + 1 then L.getD j 0 else if j + 1 = k + 1 then x else (a :: L).getD j 0
    rw [mm_ins_getD x L k j (by rw [List.length_cons] at h; omega)]
    by_cases h1 : j < k
    · rw [if_pos h1, if_pos (by omega)]
    · by_cases h2 : j = k
      · rw [if_neg h1, if_pos h2, if_neg (by omega), if_pos (by omega)]
      · rw [if_neg h1, if_neg h2, if_neg (by omega), if_neg (by omega)]
        obtain ⟨i, rfl⟩ : ∃ i, j = i + 1 := ⟨j - 1, by omega⟩
        rfl
/-- the letters ahead of p -/
def mm_ah (oc rc : Nat → Nat) (n p : Nat) : Nat := mm_sm (fun q => if oc q = 108 ∧ (rc q < rc p ∨ (rc q = rc p ∧ q < p)) then 1 else 0) n
theorem mm_po_at (oc rc : Nat → Nat) (n : Nat) : ∀ j, j < (mm_po oc rc n).length → mm_ah oc rc n ((mm_po oc rc n).getD j 0) = j := by
  induction n with
  | zero => intro j hj; exact absurd hj (Nat.not_lt_zero _)
  | succ n ih =>
    by_cases ho : oc n = 108
    · have hk := mm_po_cnt oc rc (fun p => rc p ≤ rc n) n
      have hk1 : mm_sm (fun i => if rc ((mm_po oc rc n).getD i 0) ≤ rc n then 1 else 0) (mm_po oc rc n).length ≤ (mm_po oc rc n).length := mm_sm1 _
      have e : mm_po oc rc (n + 1) = (mm_po oc rc n).insertIdx (mm_sm (fun i => if rc ((mm_po oc rc n).getD i 0) ≤ rc n then 1 else 0) (mm_po oc rc n).length) n := if_pos ho
      rw [e]
      obtain ⟨k, hkk⟩ : ∃ k, k = mm_sm (fun i => if rc ((mm_po oc rc n).getD i 0) ≤ rc n then 1 else 0) (mm_po oc rc n).length := ⟨_, rfl⟩
      rw [← hkk] at hk hk1 ⊢
      have hpl := mm_po_lt oc rc n
      -- where the letters of codes up to the new one's stand
      have hlow : ∀ i, i < (mm_po oc rc n).length → rc ((mm_po oc rc n).getD i 0) ≤ rc n → i < k := fun i hi hr => by
        have h1 := ih i hi
        obtain ⟨p1, p2⟩ := hpl _ (mm_gmem hi)
        have h2 : mm_ah oc rc n ((mm_po oc rc n).getD i 0) < k := by
          rw [hk]
          refine mm_sm_lt (p := (mm_po oc rc n).getD i 0) (fun q _ => ?_) p1 ?_
          · by_cases c1 : oc q = 108 ∧ (rc q < rc ((mm_po oc rc n).getD i 0) ∨ (rc q = rc ((mm_po oc rc n).getD i 0) ∧ q < (mm_po oc rc n).getD i 0))
            · rw [if_pos c1, if_pos ⟨c1.1, by rcases c1.2 with c | c <;> omega⟩]
              exact Nat.le_refl _
            · rw [if_neg c1]; exact Nat.zero_le _
          · rw [if_neg (fun c => by rcases c.2 with c | c <;> omega), if_pos ⟨p2, hr⟩]
            decide
        omega
      have hhigh : ∀ i, i < (mm_po oc rc n).length → ¬ rc ((mm_po oc rc n).getD i 0) ≤ rc n → k ≤ i := fun i hi hr => by
        have h1 := ih i hi
        have h2 : k ≤ mm_ah oc rc n ((mm_po oc rc n).getD i 0) := by
          rw [hk]
          refine mm_sm_mono (fun q _ => ?_)
          by_cases c1 : oc q = 108 ∧ rc q ≤ rc n
          · rw [if_pos c1, if_pos ⟨c1.1, Or.inl (by have := c1.2; omega)⟩]
            exact Nat.le_refl _
          · rw [if_neg c1]; exact Nat.zero_le _
        omega
      intro j hj
      rw [mm_ins_getD n _ k j hk1]
      rw [List.length_insertIdx, if_pos hk1] at hj
      have hstep : ∀ p, mm_ah oc rc (n + 1) p = mm_ah oc rc n p + (if oc n = 108 ∧ (rc n < rc p ∨ (rc n = rc p ∧ n < p)) then 1 else 0) := fun p => rfl
      by_cases h1 : j < k
      · rw [if_pos h1, hstep]
        have hi : j < (mm_po oc rc n).length := by omega
        obtain ⟨p1, p2⟩ := hpl _ (mm_gmem hi)
        rw [if_neg (fun c => ?_), ih j hi]
        · rfl
        · by_cases hr : rc ((mm_po oc rc n).getD j 0) ≤ rc n
          · rcases c.2 with c | c <;> omega
          · have := hhigh j hi hr
            omega
      · by_cases h2 : j = k
        · rw [if_neg h1, if_pos h2, hstep, if_neg (fun c => by rcases c.2 with c | c <;> omega), h2, hk]
          show mm_sm _ n + 0 = _
          rw [Nat.add_zero]
          refine mm_sm_congr (fun q hq => ?_)
          by_cases c1 : oc q = 108 ∧ rc q ≤ rc n
          · rw [if_pos c1, if_pos ⟨c1.1, by have := c1.2; omega⟩]
          · rw [if_neg c1, if_neg (fun c => c1 ⟨c.1, by rcases c.2 with c | c <;> omega⟩)]
        · have hi : j - 1 < (mm_po oc rc n).length := by omega
          have hr : ¬ rc ((mm_po oc rc n).getD (j - 1) 0) ≤ rc n := fun hr => by
            have := hlow _ hi hr
            omega
          rw [if_neg h1, if_neg h2, hstep, if_pos ⟨ho, Or.inl (by omega)⟩, ih _ hi]
          omega
    · have e : mm_po oc rc (n + 1) = mm_po oc rc n := if_neg ho
      rw [e]
      intro j hj
      have hstep : ∀ p, mm_ah oc rc (n + 1) p = mm_ah oc rc n p + (if oc n = 108 ∧ (rc n < rc p ∨ (rc n = rc p ∧ n < p)) then 1 else 0) := fun p => rfl
      rw [hstep, if_neg (fun c => ho c.1), ih j hj]
      rfl
theorem mm_po_found {oc rc : Nat → Nat} {n p j : Nat} (hp : p < n) (ho : oc p = 108) (ha : mm_ah oc rc n p = j) : j < (mm_po oc rc n).length ∧ (mm_po oc rc n).getD j 0 = p := by
  obtain ⟨i, hi, e⟩ := List.getElem_of_mem (mm_po_mem oc rc n p hp ho)
  have e2 : (mm_po oc rc n).getD i 0 = p := by rw [List.getD_eq_getElem?_getD, List.getElem?_eq_getElem hi, e]; rfl
  have h1 := mm_po_at oc rc n i hi
  rw [e2, ha] at h1
  subst h1
  exact ⟨hi, e2⟩
theorem mm_po_none {oc rc : Nat → Nat} {n j : Nat} (h : ∀ p, p < n → ¬ (oc p = 108 ∧ mm_ah oc rc n p = j)) : ¬ j < (mm_po oc rc n).length := fun hj => by
  obtain ⟨p1, p2⟩ := mm_po_lt oc rc n _ (mm_gmem hj)
  exact h _ p1 ⟨p2, mm_po_at oc rc n j hj⟩
/-! the proof's letters -/
theorem mm_pc_full : ∀ x, x < 256 → 8 ≤ mm_pc x → x = 255 := by decide +kernel
theorem mm_an255 : ∀ x, x < 256 → mm_an x 255 = 0 := by decide +kernel
theorem mm_pc_b (x : Nat) : mm_pc x = (x.testBit 0).toNat + (x.testBit 1).toNat + (x.testBit 2).toNat + (x.testBit 3).toNat + (x.testBit 4).toNat + (x.testBit 5).toNat + (x.testBit 6).toNat + (x.testBit 7).toNat := by
  have h0 : (x.testBit 0).toNat = x % 2 := by rw [Nat.toNat_testBit, Nat.pow_zero, Nat.div_one]
  have h1 : (x.testBit 1).toNat = x / 2 % 2 := Nat.toNat_testBit x 1
  have h2 : (x.testBit 2).toNat = x / 4 % 2 := Nat.toNat_testBit x 2
  have h3 : (x.testBit 3).toNat = x / 8 % 2 := Nat.toNat_testBit x 3
  have h4 : (x.testBit 4).toNat = x / 16 % 2 := Nat.toNat_testBit x 4
  have h5 : (x.testBit 5).toNat = x / 32 % 2 := Nat.toNat_testBit x 5
  have h6 : (x.testBit 6).toNat = x / 64 % 2 := Nat.toNat_testBit x 6
  have h7 : (x.testBit 7).toNat = x / 128 % 2 := Nat.toNat_testBit x 7
  rw [h0, h1, h2, h3, h4, h5, h6, h7, mm_pc]
theorem mm_pc_or (a c : Nat) (h : 0 < mm_pc (mm_an c a)) : mm_pc a + 1 ≤ mm_pc (a ||| c) := by
  have hb : ∀ i, i < 32 → ((a ||| c).testBit i).toNat = (a.testBit i).toNat + ((mm_an c a).testBit i).toNat := by
    intro i hi
    rw [mm_an, Nat.testBit_or, Nat.testBit_and, Nat.testBit_xor, show (4294967295 : Nat).testBit i = true from by rw [show (4294967295 : Nat) = 2 ^ 32 - 1 from rfl, Nat.testBit_two_pow_sub_one, decide_eq_true hi]]
    cases a.testBit i <;> cases c.testBit i <;> rfl
  rw [mm_pc_b] at h
  rw [mm_pc_b a, mm_pc_b (a ||| c), hb 0 (by decide), hb 1 (by decide), hb 2 (by decide), hb 3 (by decide), hb 4 (by decide), hb 5 (by decide), hb 6 (by decide), hb 7 (by decide)]
  omega
theorem mm_bs_pos {g : Nat → Nat} {n : Nat} (h : ¬ (mm_bs g n).1 = 0) : (mm_bs g n).1 ≤ n ∧ 0 < g ((mm_bs g n).1 - 1) := by
  induction n with
  | zero => exact absurd rfl h
  | succ n ih =>
    by_cases c : (mm_bs g n).2 < g n
    · have e : mm_bs g (n + 1) = (n + 1, g n) := if_pos c
      rw [e]
      exact ⟨Nat.le_refl _, Nat.lt_of_le_of_lt (Nat.zero_le _) c⟩
    · have e : mm_bs g (n + 1) = mm_bs g n := if_neg c
      rw [e] at h ⊢
      exact ⟨Nat.le_succ_of_le (ih h).1, (ih h).2⟩
theorem mm_bs_zero {g : Nat → Nat} {n : Nat} (h : ∀ i, i < n → g i = 0) : mm_bs g n = (0, 0) := by
  induction n with
  | zero => rfl
  | succ n ih =>
    have e := ih (fun i hi => h i (by omega))
    show (if (mm_bs g n).2 < g n then (n + 1, g n) else mm_bs g n) = _
    rw [e, if_neg (by rw [h n (by omega)]; exact Nat.lt_irrefl _)]
theorem mm_hd_pc {f : Nat → Nat → Nat} {n : Nat} (hf : ∀ i, i < n → f 5 i < 256) (k : Nat) (h : ∀ i, i < k → ¬ mm_bk f n i = 0) : k ≤ mm_pc (mm_hd f n k) := by
  induction k with
  | zero => exact Nat.zero_le _
  | succ k ih =>
    have h1 := ih (fun i hi => h i (by omega))
    have h2 := h k (by omega)
    have h3 := mm_bs_pos h2
    have e : mm_hd f n (k + 1) = mm_hd f n k ||| f 5 (mm_bk f n k - 1) := if_neg h2
    have h4 : 0 < mm_it f (mm_hd f n k) (mm_bk f n k - 1) := h3.2
    have h5 : 0 < mm_pc (mm_an (f 5 (mm_bk f n k - 1)) (mm_hd f n k)) := by
      unfold mm_it at h4
      split at h4
      · exact h4
      · exact absurd h4 (Nat.lt_irrefl _)
    have h6 := mm_pc_or (mm_hd f n k) _ h5
    rw [e]
    omega
theorem mm_bk8 {f : Nat → Nat → Nat} {n : Nat} (hf : ∀ i, i < n → f 5 i < 256) (h : ∀ i, i < 8 → ¬ mm_bk f n i = 0) : mm_bk f n 8 = 0 := by
  have h1 := mm_pc_full _ (mm_hd_le hf 8) (mm_hd_pc hf 8 h)
  rw [mm_bk, h1, mm_bs_zero]
  intro i hi
  unfold mm_it
  split
  · rw [mm_an255 _ (hf i hi)]; rfl
  · rfl
theorem mm_pl_ext {f : Nat → Nat → Nat} {n : Nat} (k : Nat) (h : ∀ i, i < k → ¬ mm_bk f n i = 0) : (mm_pl f n k).length = k ∧ ∀ i, i < k → (mm_pl f n k).getD i 0 = mm_bk f n i - 1 := by
  induction k with
  | zero => exact ⟨rfl, fun i hi => absurd hi (Nat.not_lt_zero _)⟩
  | succ k ih =>
    obtain ⟨i1, i2⟩ := ih (fun i hi => h i (by omega))
    have e : mm_pl f n (k + 1) = mm_pl f n k ++ [mm_bk f n k - 1] := if_neg (h k (by omega))
    rw [e]
    refine ⟨by rw [List.length_append, i1]; rfl, fun i hi => ?_⟩
    rw [List.getD_eq_getElem?_getD]
    by_cases c : i = k
    · rw [c, List.getElem?_append_right (by rw [i1]; exact Nat.le_refl _), i1, Nat.sub_self]; rfl
    · rw [List.getElem?_append_left (by rw [i1]; omega), ← List.getD_eq_getElem?_getD]
      exact i2 i (by omega)
theorem mm_pl_pre {f : Nat → Nat → Nat} {n : Nat} (k : Nat) : ∀ d i, i < (mm_pl f n k).length → i < (mm_pl f n (k + d)).length ∧ (mm_pl f n (k + d)).getD i 0 = (mm_pl f n k).getD i 0
  | 0, i, hi => ⟨hi, rfl⟩
  | d + 1, i, hi => by
    obtain ⟨h1, h2⟩ := mm_pl_pre k d i hi
    show i < (if mm_bk f n (k + d) = 0 then mm_pl f n (k + d) else mm_pl f n (k + d) ++ [mm_bk f n (k + d) - 1]).length ∧ (if mm_bk f n (k + d) = 0 then mm_pl f n (k + d) else mm_pl f n (k + d) ++ [mm_bk f n (k + d) - 1]).getD i 0 = _
    split
    · exact ⟨h1, h2⟩
    · refine ⟨by rw [List.length_append]; omega, ?_⟩
      rw [← h2, List.getD_eq_getElem?_getD, List.getElem?_append_left h1, ← List.getD_eq_getElem?_getD]
theorem mm_pl_here {f : Nat → Nat → Nat} {n k : Nat} (hk : k < 8) (h : ∀ i, i < k + 1 → ¬ mm_bk f n i = 0) : k < (mm_pl f n 8).length ∧ (mm_pl f n 8).getD k 0 = mm_bk f n k - 1 := by
  obtain ⟨h1, h2⟩ := mm_pl_ext (k + 1) h
  have h3 := mm_pl_pre (f := f) (n := n) (k + 1) (7 - k) k (by omega)
  rw [show k + 1 + (7 - k) = 8 by omega, h2 k (by omega)] at h3
  exact h3
theorem mm_pl_end {f : Nat → Nat → Nat} {n k : Nat} (hk : k ≤ 8) (h : ∀ i, i < k → ¬ mm_bk f n i = 0) (h0 : mm_bk f n k = 0) : (mm_pl f n 8).length = k := by
  have h1 := (mm_pl_stop h0 (8 - k)).2.2
  rw [show k + (8 - k) = 8 by omega] at h1
  rw [h1]
  exact (mm_pl_ext k h).1
set_option maxHeartbeats 4000000 in
set_option maxRecDepth 100000 in
theorem r_postedAt (l : Launch) (b : Nat) (D : mm_D) (hst : l.stackTraces = false) (T : mm_T) (th : Nat) (rd : Nat → Nat → Nat) (σ : mm_S) (hM : mm_M σ T th rd) (hW : mm_WF T) (k : Nat) (zk : k < 2 ^ 32) (j : Nat) (zj : j < 2 ^ 32) : mm_K l b D yX7_postedAt (.code yX7_postedAt cX7_postedAt 7 (some .int)) ({ frames := 6, cells := 0, slots := 0, locals := 160 } : Room) [.ref ((rd 0 0)), .int (nI k), .int (nI j)] σ
    (fun v σ2 => mm_Mt rd σ σ2 T (T) (mm_q_postedAt T k j) v (some (.int (nI ((mm_po (T.oc k) (T.rc k) (T.rp k)).getD j 0)))))
    (fun _ _ => False) := by
  refine mm_of (cc := cX7_postedAt) (nL := 7) (ret := (some .int)) (by decide) rfl (Nat.le_of_ble_eq_true rfl) hst ?_
  intro p e s m args below meth c ls F ht hr hin hN hl
  have hl : lv_has ls 7 [(0, .ref ((rd 0 0))), (1, .int (nI k)), (2, .int (nI j))] := hl
  have wnA := hW.hnA
  have wnP := hW.hnP
  have wnT := hW.hnT
  have wnR := hW.hnR
  have wpa := hW.hpa
  have wbo := hW.hbo
  have wen0 := hW.hen 0
  have wen1 := hW.hen 1
  refine lv_aload_n (pc := 0) F.1 F.2.1 dX7_postedAt_0 rfl (lv_at hl 0 rfl) ?_
  refine lv_iload_n (pc := 1) F.1 F.2.1 dX7_postedAt_1 rfl (lv_at hl 1 rfl) ?_
  refine mm_runV (pc := 2) (As := [.int (nI k)]) (rest := []) F hN (c_isRun l b D hst T th rd σ hM hW k (by omega)) mw_1391 mw_1393 mw_p33 mw_6 mw_1394 ⟨pmX7_isRun, (Nat.le_of_ble_eq_true rfl), (Nat.le_of_ble_eq_true rfl)⟩ (mm_recv F.2.2.2.2.2.1 hN (mm_r0 hM) rfl) hl.1 rfl (Nat.le_of_ble_eq_true rfl) ⟨(Nat.le_of_ble_eq_true rfl), (Nat.le_of_ble_eq_true rfl)⟩ dX7_postedAt_2
    (fun _ _ _ _ _ _ h9 => False.elim h9)
    (fun v9 σ9 H locs hp9 hN => ?_)
  obtain ⟨rfl, h9⟩ := hp9
  rw [h9] at hN
  refine W.eq (g2 := F0 m 5 ls [.int (nI (if k < T.nR then 1 else 0))]) rfl ?_
  refine W.widen (k := 0) (n := 0) (Nat.le_of_ble_eq_true rfl) (Nat.le_of_ble_eq_true rfl) ?_
  by_cases hrk : k < T.nR
  ·
    refine W.eq (g2 := F0 m 5 ls [.int (nI 1)]) (by rw [if_pos hrk]) ?_
    obtain ⟨wr1k, wr2k, wr3k, wr4k⟩ := hW.hru k hrk
    refine mm_if_ne (pc := 5) F (tgt := 14) (by omega) dX7_postedAt_5 (by decide) (fun cz5 => ?_) (fun h9 => absurd h9 (by decide))
    refine lv_iconst (pc := 14) (v := nI 0) F.1 F.2.1 dX7_postedAt_14 (by decide) ?_
    refine lv_istore_n (pc := 15) (lv' := [(3, .int (nI 0)), (0, .ref ((rd 0 0))), (1, .int (nI k)), (2, .int (nI j))]) F.1 F.2.1 dX7_postedAt_15 rfl hl (by decide) rfl (fun ls hl => ?_)
    obtain ⟨wr1, wr2, wr3, wr4⟩ := hW.hru k hrk
    have lp16 : ∀ (k16 u : Nat) (ls : Array Slot) (H : Heap) (locs : List Loc), T.rp k < u + k16 → u ≤ T.rp k → (∀ p9, p9 < u → ¬ (T.oc k p9 = 108 ∧ mm_ah (T.oc k) (T.rc k) (T.rp k) p9 = j)) → mm_N b D s σ H locs → lv_has ls 7 [(0, .ref ((rd 0 0))), (1, .int (nI k)), (2, .int (nI j)), (3, .int (nI u))] →
        W p l e ({ frames := 6, cells := 0, slots := 0, locals := 160 } : Room) s m args below meth c H locs (0) (0) (mm_Q b D (fun v σ2 => mm_Mt rd σ σ2 T (T) (mm_q_postedAt T k j) v (some (.int (nI ((mm_po (T.oc k) (T.rc k) (T.rp k)).getD j 0))))) (fun _ _ => False) below args s ({ frames := 6, cells := 0, slots := 0, locals := 160 } : Room)) (F0 m 16 ls []) := by
      intro k16
      induction k16 with
      | zero => intro u  ls H locs hk16 hi16 hno hN hl; omega
      | succ k16 ih16 =>
        intro u  ls H locs hk16 hi16 hno hN hl
        refine lv_iload_n (pc := 16) F.1 F.2.1 dX7_postedAt_16 rfl (lv_at hl 3 rfl) ?_
        refine lv_aload_n (pc := 17) F.1 F.2.1 dX7_postedAt_17 rfl (lv_at hl 0 rfl) ?_
        refine mm_get (pc := 18) F hN (mm_r0 hM) (ci := 7) rfl 17 (by decide) mw_1196 rfl dX7_postedAt_18 ?_
        refine lv_iload_n (pc := 21) F.1 F.2.1 dX7_postedAt_21 rfl (lv_at hl 1 rfl) ?_
        refine mm_iald (pc := 22) F hN ((show σ (rd 13 0) = mm_ari 1 0 10 (fun b9 => nI (T.rp b9)) from mm_r13 (T := T) hM)) (j := k) (rfl) (by omega) (by decide) dX7_postedAt_22 ?_
        refine mm_icmp_ge (pc := 23) F (x := u) (y := T.rp k) (tgt := 155) (by omega) (by omega) dX7_postedAt_23 (by decide) (fun cz23 => ?_) (fun cz23 => ?_)
        ·
          have hun : u = T.rp k := by omega
          rw [hun] at hno
          have hjn := mm_po_none (oc := T.oc k) (rc := T.rc k) hno
          refine lv_aload_n (pc := 155) F.1 F.2.1 dX7_postedAt_155 rfl (lv_at hl 0 rfl) ?_
          refine lv_iconst (pc := 156) (v := nI 2) F.1 F.2.1 dX7_postedAt_156 (by decide) ?_
          refine mm_runV (pc := 157) (As := [.int (nI 2)]) (rest := []) F hN (r_raises l b D hst T th rd σ hM 2) mw_1399 mw_1401 mw_p34 mw_6 mw_1402 ⟨pmX7_raises, (Nat.le_of_ble_eq_true rfl), (Nat.le_of_ble_eq_true rfl)⟩ (mm_recv F.2.2.2.2.2.1 hN (mm_r0 hM) rfl) hl.1 rfl (Nat.le_of_ble_eq_true rfl) ⟨(Nat.le_of_ble_eq_true rfl), (Nat.le_of_ble_eq_true rfl)⟩ dX7_postedAt_157
            (fun _ _ _ _ _ _ h9 => False.elim h9)
            (fun v9 σ2 H locs hp9 hN => ?_)
          obtain ⟨rfl, hM2, hF2⟩ := hp9
          refine W.eq (g2 := F0 m 160 ls [.int (nI 0)]) rfl ?_
          refine W.widen (k := 0) (n := 0) (Nat.le_of_ble_eq_true rfl) (Nat.le_of_ble_eq_true rfl) ?_
          exact mm_iret (pc := 160) F hr hN (Or.inr ⟨by rw [show mm_q_postedAt T k j = 2 from by show mm_q_postedAt T k j = 2; unfold mm_q_postedAt; (repeat' split) <;> omega]; decide, ⟨_, rfl⟩, by rw [show mm_q_postedAt T k j = 2 from by show mm_q_postedAt T k j = 2; unfold mm_q_postedAt; (repeat' split) <;> omega]; exact hM2, ((mm_Fr.rf).tr hF2)⟩) (Nat.le_of_ble_eq_true rfl) (Nat.le_of_ble_eq_true rfl) dX7_postedAt_160
        ·
          have hu2 : u < T.rp k := by omega
          obtain ⟨wu1, wu2, wu3, wu4, wu5, wu6, wu7⟩ := wr4 u hu2
          refine lv_iconst (pc := 26) (v := nI 0) F.1 F.2.1 dX7_postedAt_26 (by decide) ?_
          refine lv_istore (pc := 27) (lv' := [(4, .int (nI 0)), (0, .ref ((rd 0 0))), (1, .int (nI k)), (2, .int (nI j)), (3, .int (nI u))]) F.1 F.2.1 dX7_postedAt_27 hl (by decide) rfl (fun ls hl => ?_)
          refine lv_iconst (pc := 29) (v := nI 0) F.1 F.2.1 dX7_postedAt_29 (by decide) ?_
          refine lv_istore (pc := 30) (lv' := [(5, .int (nI 0)), (4, .int (nI 0)), (0, .ref ((rd 0 0))), (1, .int (nI k)), (2, .int (nI j)), (3, .int (nI u))]) F.1 F.2.1 dX7_postedAt_30 hl (by decide) rfl (fun ls hl => ?_)
          have lp32 : ∀ (k32 y : Nat) (ls : Array Slot) (H : Heap) (locs : List Loc), T.rp k < y + k32 → y ≤ T.rp k → mm_N b D s σ H locs → lv_has ls 7 [(0, .ref ((rd 0 0))), (1, .int (nI k)), (2, .int (nI j)), (3, .int (nI u)), (4, .int (nI (mm_sm (fun q => if T.oc k q = 108 ∧ (T.rc k q < T.rc k u ∨ (T.rc k q = T.rc k u ∧ q < u)) then 1 else 0) y))), (5, .int (nI y))] →
              W p l e ({ frames := 6, cells := 0, slots := 0, locals := 160 } : Room) s m args below meth c H locs (0) (0) (mm_Q b D (fun v σ2 => mm_Mt rd σ σ2 T (T) (mm_q_postedAt T k j) v (some (.int (nI ((mm_po (T.oc k) (T.rc k) (T.rp k)).getD j 0))))) (fun _ _ => False) below args s ({ frames := 6, cells := 0, slots := 0, locals := 160 } : Room)) (F0 m 32 ls []) := by
            intro k32
            induction k32 with
            | zero => intro y  ls H locs hk32 hi32  hN hl; omega
            | succ k32 ih32 =>
              intro y  ls H locs hk32 hi32  hN hl
              refine lv_iload (pc := 32) F.1 F.2.1 dX7_postedAt_32 (lv_at hl 5 rfl) ?_
              refine lv_aload_n (pc := 34) F.1 F.2.1 dX7_postedAt_34 rfl (lv_at hl 0 rfl) ?_
              refine mm_get (pc := 35) F hN (mm_r0 hM) (ci := 7) rfl 17 (by decide) mw_1196 rfl dX7_postedAt_35 ?_
              refine lv_iload_n (pc := 38) F.1 F.2.1 dX7_postedAt_38 rfl (lv_at hl 1 rfl) ?_
              refine mm_iald (pc := 39) F hN ((show σ (rd 13 0) = mm_ari 1 0 10 (fun b9 => nI (T.rp b9)) from mm_r13 (T := T) hM)) (j := k) (rfl) (by omega) (by decide) dX7_postedAt_39 ?_
              refine mm_icmp_ge (pc := 40) F (x := y) (y := T.rp k) (tgt := 127) (by omega) (by omega) dX7_postedAt_40 (by decide) (fun cz40 => ?_) (fun cz40 => ?_)
              ·
                have hyn : y = T.rp k := by omega
                rw [hyn] at hl
                have hah : mm_ah (T.oc k) (T.rc k) (T.rp k) u ≤ T.rp k := mm_sm1 _
                have hah2 : mm_sm (fun q => if T.oc k q = 108 ∧ (T.rc k q < T.rc k u ∨ (T.rc k q = T.rc k u ∧ q < u)) then 1 else 0) (T.rp k) ≤ T.rp k := mm_sm1 _
                refine lv_aload_n (pc := 127) F.1 F.2.1 dX7_postedAt_127 rfl (lv_at hl 0 rfl) ?_
                refine lv_iload_n (pc := 128) F.1 F.2.1 dX7_postedAt_128 rfl (lv_at hl 1 rfl) ?_
                refine lv_iload_n (pc := 129) F.1 F.2.1 dX7_postedAt_129 rfl (lv_at hl 3 rfl) ?_
                refine mm_runV (pc := 130) (As := [.int (nI k), .int (nI u)]) (rest := []) F hN (c_isLett l b D hst T th rd σ hM hW k u (by omega) (by omega)) mw_1411 mw_1413 mw_p35 mw_6 mw_1414 ⟨pmX7_isLetter, (Nat.le_of_ble_eq_true rfl), (Nat.le_of_ble_eq_true rfl)⟩ (mm_recv F.2.2.2.2.2.1 hN (mm_r0 hM) rfl) hl.1 rfl (Nat.le_of_ble_eq_true rfl) ⟨(Nat.le_of_ble_eq_true rfl), (Nat.le_of_ble_eq_true rfl)⟩ dX7_postedAt_130
                  (fun _ _ _ _ _ _ h9 => False.elim h9)
                  (fun v9 σ9 H locs hp9 hN => ?_)
                obtain ⟨rfl, h9⟩ := hp9
                rw [h9] at hN
                refine W.eq (g2 := F0 m 133 ls [.int (nI (if T.oc k u = 108 then 1 else 0))]) rfl ?_
                refine W.widen (k := 0) (n := 0) (Nat.le_of_ble_eq_true rfl) (Nat.le_of_ble_eq_true rfl) ?_
                by_cases hl9 : T.oc k u = 108
                ·
                  refine W.eq (g2 := F0 m 133 ls [.int (nI 1)]) (by rw [if_pos hl9]) ?_
                  refine mm_if_eq (pc := 133) F (tgt := 149) (by omega) dX7_postedAt_133 (by decide) (fun h9 => absurd h9 (by decide)) (fun cz133 => ?_)
                  refine lv_iload (pc := 136) F.1 F.2.1 dX7_postedAt_136 (lv_at hl 4 rfl) ?_
                  refine lv_iload_n (pc := 138) F.1 F.2.1 dX7_postedAt_138 rfl (lv_at hl 2 rfl) ?_
                  refine mm_icmp_neB (pc := 139) F (x := mm_sm (fun q => if T.oc k q = 108 ∧ (T.rc k q < T.rc k u ∨ (T.rc k q = T.rc k u ∧ q < u)) then 1 else 0) (T.rp k)) (y := j) (tgt := 149) (by omega) (by omega) dX7_postedAt_139 (by decide) (fun cz139 => ?_) (fun cz139 => ?_)
                  ·
                    refine lv_iinc (pc := 149) (v := nI (u + 1)) (lv' := [(3, .int (nI (u + 1))), (0, .ref ((rd 0 0))), (1, .int (nI k)), (2, .int (nI j)), (4, .int (nI (mm_sm (fun q => if T.oc k q = 108 ∧ (T.rc k q < T.rc k u ∨ (T.rc k q = T.rc k u ∧ q < u)) then 1 else 0) (T.rp k)))), (5, .int (nI ((T.rp k))))]) F.1 F.2.1 dX7_postedAt_149 hl (k := 3) rfl (by rw [← nI_add]; rfl) (by decide) rfl (fun ls hl => ?_)
                    refine lv_goto (pc := 152) (tgt := 16) F.1 F.2.1 dX7_postedAt_152 (by decide) ?_
                    exact ih16 (u + 1) ls _ _ (by omega) (by omega) (fun p9 hp9 => by
                        by_cases e9 : p9 = u
                        · rw [e9]; exact fun q => cz139 q.2
                        · exact hno p9 (by omega)) hN (lv_sub hl [1, 2, 3, 0] rfl)
                  ·
                    obtain ⟨hjl, hje⟩ := mm_po_found (oc := T.oc k) (rc := T.rc k) hu2 hl9 cz139
                    refine lv_aload_n (pc := 142) F.1 F.2.1 dX7_postedAt_142 rfl (lv_at hl 0 rfl) ?_
                    refine lv_iconst (pc := 143) (v := nI 0) F.1 F.2.1 dX7_postedAt_143 (by decide) ?_
                    refine mm_put (pc := 144) F hN (mm_r0 hM) (ci := 7) rfl 25 (by decide) mw_1204 rfl (ty := .int) (by decide +kernel) (rfl) (rfl) (Nat.le_of_ble_eq_true rfl) dX7_postedAt_144 (fun H locs hN => ?_)
                    have hN : mm_N b D s (mm_u σ ((rd 0 0)) (mm_obj 1 7 [.ref ((rd 1 0)), .ref ((rd 2 0)), .ref ((rd 3 0)), .int (nI T.nA), .ref ((rd 4 0)), .ref ((rd 5 0)), .ref ((rd 6 0)), .int (nI T.nP), .ref ((rd 7 0)), .ref ((rd 8 0)), .ref ((rd 9 0)), .ref ((rd 10 0)), .ref ((rd 11 0)), .int (nI T.nT), .int (nI T.pa), .ref ((rd 12 0)), .int (nI T.bo), .ref ((rd 13 0)), .ref ((rd 14 0)), .ref ((rd 15 0)), .ref ((rd 16 0)), .ref ((rd 17 0)), .ref ((rd 18 0)), .ref ((rd 19 0)), .int (nI T.nR), .int (nI 0)])) _ _ := hN
                    obtain ⟨σ3, eσ3⟩ : ∃ q, q = mm_u σ ((rd 0 0)) (mm_obj 1 7 [.ref ((rd 1 0)), .ref ((rd 2 0)), .ref ((rd 3 0)), .int (nI T.nA), .ref ((rd 4 0)), .ref ((rd 5 0)), .ref ((rd 6 0)), .int (nI T.nP), .ref ((rd 7 0)), .ref ((rd 8 0)), .ref ((rd 9 0)), .ref ((rd 10 0)), .ref ((rd 11 0)), .int (nI T.nT), .int (nI T.pa), .ref ((rd 12 0)), .int (nI T.bo), .ref ((rd 13 0)), .ref ((rd 14 0)), .ref ((rd 15 0)), .ref ((rd 16 0)), .ref ((rd 17 0)), .ref ((rd 18 0)), .ref ((rd 19 0)), .int (nI T.nR), .int (nI 0)]) := ⟨_, rfl⟩
                    rw [← eσ3] at hN
                    have hM3 : mm_M σ3 T 0 rd := by rw [eσ3]; exact mm_Mo hM (fun _ _ => rfl) rfl
                    have hF3 : mm_Fr 1 σ σ3 := by rw [eσ3]; exact (mm_Fr.rf).tr (mm_Fr.u (mm_r0 hM))
                    refine lv_iload_n (pc := 147) F.1 F.2.1 dX7_postedAt_147 rfl (lv_at hl 3 rfl) ?_
                    exact mm_iret (pc := 148) F hr hN (Or.inl ⟨by show mm_q_postedAt T k j = 0; unfold mm_q_postedAt; (repeat' split) <;> omega, by rw [hje], hM3, hF3⟩) (Nat.le_of_ble_eq_true rfl) (Nat.le_of_ble_eq_true rfl) dX7_postedAt_148
                ·
                  refine W.eq (g2 := F0 m 133 ls [.int (nI 0)]) (by rw [if_neg hl9]) ?_
                  refine mm_if_eq (pc := 133) F (tgt := 149) (by omega) dX7_postedAt_133 (by decide) (fun cz133 => ?_) (fun h9 => absurd h9 (by decide))
                  refine lv_iinc (pc := 149) (v := nI (u + 1)) (lv' := [(3, .int (nI (u + 1))), (0, .ref ((rd 0 0))), (1, .int (nI k)), (2, .int (nI j)), (4, .int (nI (mm_sm (fun q => if T.oc k q = 108 ∧ (T.rc k q < T.rc k u ∨ (T.rc k q = T.rc k u ∧ q < u)) then 1 else 0) (T.rp k)))), (5, .int (nI ((T.rp k))))]) F.1 F.2.1 dX7_postedAt_149 hl (k := 3) rfl (by rw [← nI_add]; rfl) (by decide) rfl (fun ls hl => ?_)
                  refine lv_goto (pc := 152) (tgt := 16) F.1 F.2.1 dX7_postedAt_152 (by decide) ?_
                  exact ih16 (u + 1) ls _ _ (by omega) (by omega) (fun p9 hp9 => by
                      by_cases e9 : p9 = u
                      · rw [e9]; exact fun q => hl9 q.1
                      · exact hno p9 (by omega)) hN (lv_sub hl [1, 2, 3, 0] rfl)
              ·
                obtain ⟨wy1, wy2, wy3, wy4, wy5, wy6, wy7⟩ := wr4 y (by omega)
                refine lv_aload_n (pc := 43) F.1 F.2.1 dX7_postedAt_43 rfl (lv_at hl 0 rfl) ?_
                refine mm_get (pc := 44) F hN (mm_r0 hM) (ci := 7) rfl 20 (by decide) mw_1199 rfl dX7_postedAt_44 ?_
                refine lv_iload_n (pc := 47) F.1 F.2.1 dX7_postedAt_47 rfl (lv_at hl 1 rfl) ?_
                refine mm_aald (pc := 48) F hN ((show σ (rd 16 0) = mm_arq 1 5 10 (fun i => if i < 10 then some (rd 16 (i + 1)) else none) from mm_rq16 (T := T) hM)) rfl rfl (j := k) (rfl) (by omega) (by decide) (if_pos (by omega)) dX7_postedAt_48 ?_
                refine lv_iload (pc := 49) F.1 F.2.1 dX7_postedAt_49 (lv_at hl 5 rfl) ?_
                refine mm_iald (pc := 51) F hN ((show σ (rd 16 (k + 1)) = mm_ari 1 0 24 (fun b9 => nI (T.rc k b9)) from mm_rr16 (T := T) hM (i := k) (by omega))) (j := y) (rfl) (by omega) (by decide) dX7_postedAt_51 ?_
                refine lv_aload_n (pc := 52) F.1 F.2.1 dX7_postedAt_52 rfl (lv_at hl 0 rfl) ?_
                refine mm_get (pc := 53) F hN (mm_r0 hM) (ci := 7) rfl 20 (by decide) mw_1199 rfl dX7_postedAt_53 ?_
                refine lv_iload_n (pc := 56) F.1 F.2.1 dX7_postedAt_56 rfl (lv_at hl 1 rfl) ?_
                refine mm_aald (pc := 57) F hN ((show σ (rd 16 0) = mm_arq 1 5 10 (fun i => if i < 10 then some (rd 16 (i + 1)) else none) from mm_rq16 (T := T) hM)) rfl rfl (j := k) (rfl) (by omega) (by decide) (if_pos (by omega)) dX7_postedAt_57 ?_
                refine lv_iload_n (pc := 58) F.1 F.2.1 dX7_postedAt_58 rfl (lv_at hl 3 rfl) ?_
                refine mm_iald (pc := 59) F hN ((show σ (rd 16 (k + 1)) = mm_ari 1 0 24 (fun b9 => nI (T.rc k b9)) from mm_rr16 (T := T) hM (i := k) (by omega))) (j := u) (rfl) (by omega) (by decide) dX7_postedAt_59 ?_
                refine mm_icmp_lt (pc := 60) F (x := T.rc k y) (y := T.rc k u) (tgt := 89) (by omega) (by omega) dX7_postedAt_60 (by decide) (fun cz60 => ?_) (fun cz60 => ?_)
                ·
                  refine lv_iconst (pc := 89) (v := nI 1) F.1 F.2.1 dX7_postedAt_89 (by decide) ?_
                  refine lv_goto (pc := 90) (tgt := 94) F.1 F.2.1 dX7_postedAt_90 (by decide) ?_
                  refine lv_istore (pc := 94) (lv' := [(6, .int (nI 1)), (0, .ref ((rd 0 0))), (1, .int (nI k)), (2, .int (nI j)), (3, .int (nI u)), (4, .int (nI (mm_sm (fun q => if T.oc k q = 108 ∧ (T.rc k q < T.rc k u ∨ (T.rc k q = T.rc k u ∧ q < u)) then 1 else 0) y))), (5, .int (nI y))]) F.1 F.2.1 dX7_postedAt_94 hl (by decide) rfl (fun ls hl => ?_)
                  refine lv_iload (pc := 96) F.1 F.2.1 dX7_postedAt_96 (lv_at hl 5 rfl) ?_
                  refine lv_aload_n (pc := 98) F.1 F.2.1 dX7_postedAt_98 rfl (lv_at hl 1 rfl) ?_
                  refine lv_iload_n (pc := 99) F.1 F.2.1 dX7_postedAt_99 rfl (lv_at hl 2 rfl) ?_
                  refine lv_iload (pc := 100) F.1 F.2.1 dX7_postedAt_100 (lv_at hl 6 rfl) ?_
                  refine mm_runV (pc := 102) (As := [.int (nI k), .int (nI y)]) (rest := [.int (nI (mm_sm (fun q => if T.oc k q = 108 ∧ (T.rc k q < T.rc k u ∨ (T.rc k q = T.rc k u ∧ q < u)) then 1 else 0) y))]) F hN (c_isLett l b D hst T th rd σ hM hW k y (by omega) (by omega)) mw_1411 mw_1413 mw_p35 mw_6 mw_1414 ⟨pmX7_isLetter, (Nat.le_of_ble_eq_true rfl), (Nat.le_of_ble_eq_true rfl)⟩ (mm_recv F.2.2.2.2.2.1 hN (mm_r0 hM) rfl) hl.1 rfl (Nat.le_of_ble_eq_true rfl) ⟨(Nat.le_of_ble_eq_true rfl), (Nat.le_of_ble_eq_true rfl)⟩ dX7_postedAt_102
                    (fun _ _ _ _ _ _ h9 => False.elim h9)
                    (fun v9 σ9 H locs hp9 hN => ?_)
                  obtain ⟨rfl, h9⟩ := hp9
                  rw [h9] at hN
                  refine W.eq (g2 := F0 m 105 ls [.int (nI (if T.oc k y = 108 then 1 else 0)), .int (nI (mm_sm (fun q => if T.oc k q = 108 ∧ (T.rc k q < T.rc k u ∨ (T.rc k q = T.rc k u ∧ q < u)) then 1 else 0) y))]) rfl ?_
                  refine W.widen (k := 0) (n := 0) (Nat.le_of_ble_eq_true rfl) (Nat.le_of_ble_eq_true rfl) ?_
                  by_cases hl9 : T.oc k y = 108
                  ·
                    refine W.eq (g2 := F0 m 105 ls [.int (nI 1), .int (nI (mm_sm (fun q => if T.oc k q = 108 ∧ (T.rc k q < T.rc k u ∨ (T.rc k q = T.rc k u ∧ q < u)) then 1 else 0) y))]) (by rw [if_pos hl9]) ?_
                    refine mm_if_eq (pc := 105) F (tgt := 117) (by omega) dX7_postedAt_105 (by decide) (fun h9 => absurd h9 (by decide)) (fun cz105 => ?_)
                    refine lv_iload (pc := 108) F.1 F.2.1 dX7_postedAt_108 (lv_at hl 0 rfl) ?_
                    refine mm_if_eq (pc := 110) F (tgt := 117) (by omega) dX7_postedAt_110 (by decide) (fun h9 => absurd h9 (by decide)) (fun cz110 => ?_)
                    refine lv_iconst (pc := 113) (v := nI 1) F.1 F.2.1 dX7_postedAt_113 (by decide) ?_
                    refine lv_goto (pc := 114) (tgt := 118) F.1 F.2.1 dX7_postedAt_114 (by decide) ?_
                    refine mm_iadd (pc := 118) F (z := nI ((mm_sm (fun q => if T.oc k q = 108 ∧ (T.rc k q < T.rc k u ∨ (T.rc k q = T.rc k u ∧ q < u)) then 1 else 0) y) + 1)) (nI_add _ _) dX7_postedAt_118 ?_
                    refine W.eq (g2 := F0 m 119 ls [.int (nI (mm_sm (fun q => if T.oc k q = 108 ∧ (T.rc k q < T.rc k u ∨ (T.rc k q = T.rc k u ∧ q < u)) then 1 else 0) (y + 1)))]) (congrArg (fun q => F0 m 119 ls [Value.int (nI q)]) (congrArg (mm_sm (fun q => if T.oc k q = 108 ∧ (T.rc k q < T.rc k u ∨ (T.rc k q = T.rc k u ∧ q < u)) then 1 else 0) y + ·) ((if_pos ⟨hl9, Or.inl cz60⟩).symm))) ?_
                    refine lv_istore (pc := 119) (lv' := [(4, .int (nI (mm_sm (fun q => if T.oc k q = 108 ∧ (T.rc k q < T.rc k u ∨ (T.rc k q = T.rc k u ∧ q < u)) then 1 else 0) (y + 1)))), (6, .int (nI 1)), (0, .ref ((rd 0 0))), (1, .int (nI k)), (2, .int (nI j)), (3, .int (nI u)), (5, .int (nI y))]) F.1 F.2.1 dX7_postedAt_119 hl (by decide) rfl (fun ls hl => ?_)
                    refine lv_iinc (pc := 121) (v := nI (y + 1)) (lv' := [(5, .int (nI (y + 1))), (4, .int (nI (mm_sm (fun q => if T.oc k q = 108 ∧ (T.rc k q < T.rc k u ∨ (T.rc k q = T.rc k u ∧ q < u)) then 1 else 0) (y + 1)))), (6, .int (nI 1)), (0, .ref ((rd 0 0))), (1, .int (nI k)), (2, .int (nI j)), (3, .int (nI u))]) F.1 F.2.1 dX7_postedAt_121 hl (k := 6) rfl (by rw [← nI_add]; rfl) (by decide) rfl (fun ls hl => ?_)
                    refine lv_goto (pc := 124) (tgt := 32) F.1 F.2.1 dX7_postedAt_124 (by decide) ?_
                    exact ih32 (y + 1) ls _ _ (by omega) (by omega) hN (lv_sub hl [3, 4, 5, 6, 1, 0] rfl)
                  ·
                    refine W.eq (g2 := F0 m 105 ls [.int (nI 0), .int (nI (mm_sm (fun q => if T.oc k q = 108 ∧ (T.rc k q < T.rc k u ∨ (T.rc k q = T.rc k u ∧ q < u)) then 1 else 0) y))]) (by rw [if_neg hl9]) ?_
                    refine mm_if_eq (pc := 105) F (tgt := 117) (by omega) dX7_postedAt_105 (by decide) (fun cz105 => ?_) (fun h9 => absurd h9 (by decide))
                    refine lv_iconst (pc := 117) (v := nI 0) F.1 F.2.1 dX7_postedAt_117 (by decide) ?_
                    refine mm_iadd (pc := 118) F (z := nI ((mm_sm (fun q => if T.oc k q = 108 ∧ (T.rc k q < T.rc k u ∨ (T.rc k q = T.rc k u ∧ q < u)) then 1 else 0) y) + 0)) (nI_add _ _) dX7_postedAt_118 ?_
                    refine W.eq (g2 := F0 m 119 ls [.int (nI (mm_sm (fun q => if T.oc k q = 108 ∧ (T.rc k q < T.rc k u ∨ (T.rc k q = T.rc k u ∧ q < u)) then 1 else 0) (y + 1)))]) (congrArg (fun q => F0 m 119 ls [Value.int (nI q)]) (congrArg (mm_sm (fun q => if T.oc k q = 108 ∧ (T.rc k q < T.rc k u ∨ (T.rc k q = T.rc k u ∧ q < u)) then 1 else 0) y + ·) ((if_neg (fun q => hl9 q.1)).symm))) ?_
                    refine lv_istore (pc := 119) (lv' := [(4, .int (nI (mm_sm (fun q => if T.oc k q = 108 ∧ (T.rc k q < T.rc k u ∨ (T.rc k q = T.rc k u ∧ q < u)) then 1 else 0) (y + 1)))), (6, .int (nI 1)), (0, .ref ((rd 0 0))), (1, .int (nI k)), (2, .int (nI j)), (3, .int (nI u)), (5, .int (nI y))]) F.1 F.2.1 dX7_postedAt_119 hl (by decide) rfl (fun ls hl => ?_)
                    refine lv_iinc (pc := 121) (v := nI (y + 1)) (lv' := [(5, .int (nI (y + 1))), (4, .int (nI (mm_sm (fun q => if T.oc k q = 108 ∧ (T.rc k q < T.rc k u ∨ (T.rc k q = T.rc k u ∧ q < u)) then 1 else 0) (y + 1)))), (6, .int (nI 1)), (0, .ref ((rd 0 0))), (1, .int (nI k)), (2, .int (nI j)), (3, .int (nI u))]) F.1 F.2.1 dX7_postedAt_121 hl (k := 6) rfl (by rw [← nI_add]; rfl) (by decide) rfl (fun ls hl => ?_)
                    refine lv_goto (pc := 124) (tgt := 32) F.1 F.2.1 dX7_postedAt_124 (by decide) ?_
                    exact ih32 (y + 1) ls _ _ (by omega) (by omega) hN (lv_sub hl [3, 4, 5, 6, 1, 0] rfl)
                ·
                  refine lv_aload_n (pc := 63) F.1 F.2.1 dX7_postedAt_63 rfl (lv_at hl 0 rfl) ?_
                  refine mm_get (pc := 64) F hN (mm_r0 hM) (ci := 7) rfl 20 (by decide) mw_1199 rfl dX7_postedAt_64 ?_
                  refine lv_iload_n (pc := 67) F.1 F.2.1 dX7_postedAt_67 rfl (lv_at hl 1 rfl) ?_
                  refine mm_aald (pc := 68) F hN ((show σ (rd 16 0) = mm_arq 1 5 10 (fun i => if i < 10 then some (rd 16 (i + 1)) else none) from mm_rq16 (T := T) hM)) rfl rfl (j := k) (rfl) (by omega) (by decide) (if_pos (by omega)) dX7_postedAt_68 ?_
                  refine lv_iload (pc := 69) F.1 F.2.1 dX7_postedAt_69 (lv_at hl 5 rfl) ?_
                  refine mm_iald (pc := 71) F hN ((show σ (rd 16 (k + 1)) = mm_ari 1 0 24 (fun b9 => nI (T.rc k b9)) from mm_rr16 (T := T) hM (i := k) (by omega))) (j := y) (rfl) (by omega) (by decide) dX7_postedAt_71 ?_
                  refine lv_aload_n (pc := 72) F.1 F.2.1 dX7_postedAt_72 rfl (lv_at hl 0 rfl) ?_
                  refine mm_get (pc := 73) F hN (mm_r0 hM) (ci := 7) rfl 20 (by decide) mw_1199 rfl dX7_postedAt_73 ?_
                  refine lv_iload_n (pc := 76) F.1 F.2.1 dX7_postedAt_76 rfl (lv_at hl 1 rfl) ?_
                  refine mm_aald (pc := 77) F hN ((show σ (rd 16 0) = mm_arq 1 5 10 (fun i => if i < 10 then some (rd 16 (i + 1)) else none) from mm_rq16 (T := T) hM)) rfl rfl (j := k) (rfl) (by omega) (by decide) (if_pos (by omega)) dX7_postedAt_77 ?_
                  refine lv_iload_n (pc := 78) F.1 F.2.1 dX7_postedAt_78 rfl (lv_at hl 3 rfl) ?_
                  refine mm_iald (pc := 79) F hN ((show σ (rd 16 (k + 1)) = mm_ari 1 0 24 (fun b9 => nI (T.rc k b9)) from mm_rr16 (T := T) hM (i := k) (by omega))) (j := u) (rfl) (by omega) (by decide) dX7_postedAt_79 ?_
                  refine mm_icmp_ne (pc := 80) F (x := T.rc k y) (y := T.rc k u) (tgt := 93) (by omega) (by omega) dX7_postedAt_80 (by decide) (fun cz80 => ?_) (fun cz80 => ?_)
                  ·
                    refine lv_iconst (pc := 93) (v := nI 0) F.1 F.2.1 dX7_postedAt_93 (by decide) ?_
                    refine lv_istore (pc := 94) (lv' := [(6, .int (nI 0)), (0, .ref ((rd 0 0))), (1, .int (nI k)), (2, .int (nI j)), (3, .int (nI u)), (4, .int (nI (mm_sm (fun q => if T.oc k q = 108 ∧ (T.rc k q < T.rc k u ∨ (T.rc k q = T.rc k u ∧ q < u)) then 1 else 0) y))), (5, .int (nI y))]) F.1 F.2.1 dX7_postedAt_94 hl (by decide) rfl (fun ls hl => ?_)
                    refine lv_iload (pc := 96) F.1 F.2.1 dX7_postedAt_96 (lv_at hl 5 rfl) ?_
                    refine lv_aload_n (pc := 98) F.1 F.2.1 dX7_postedAt_98 rfl (lv_at hl 1 rfl) ?_
                    refine lv_iload_n (pc := 99) F.1 F.2.1 dX7_postedAt_99 rfl (lv_at hl 2 rfl) ?_
                    refine lv_iload (pc := 100) F.1 F.2.1 dX7_postedAt_100 (lv_at hl 6 rfl) ?_
                    refine mm_runV (pc := 102) (As := [.int (nI k), .int (nI y)]) (rest := [.int (nI (mm_sm (fun q => if T.oc k q = 108 ∧ (T.rc k q < T.rc k u ∨ (T.rc k q = T.rc k u ∧ q < u)) then 1 else 0) y))]) F hN (c_isLett l b D hst T th rd σ hM hW k y (by omega) (by omega)) mw_1411 mw_1413 mw_p35 mw_6 mw_1414 ⟨pmX7_isLetter, (Nat.le_of_ble_eq_true rfl), (Nat.le_of_ble_eq_true rfl)⟩ (mm_recv F.2.2.2.2.2.1 hN (mm_r0 hM) rfl) hl.1 rfl (Nat.le_of_ble_eq_true rfl) ⟨(Nat.le_of_ble_eq_true rfl), (Nat.le_of_ble_eq_true rfl)⟩ dX7_postedAt_102
                      (fun _ _ _ _ _ _ h9 => False.elim h9)
                      (fun v9 σ9 H locs hp9 hN => ?_)
                    obtain ⟨rfl, h9⟩ := hp9
                    rw [h9] at hN
                    refine W.eq (g2 := F0 m 105 ls [.int (nI (if T.oc k y = 108 then 1 else 0)), .int (nI (mm_sm (fun q => if T.oc k q = 108 ∧ (T.rc k q < T.rc k u ∨ (T.rc k q = T.rc k u ∧ q < u)) then 1 else 0) y))]) rfl ?_
                    refine W.widen (k := 0) (n := 0) (Nat.le_of_ble_eq_true rfl) (Nat.le_of_ble_eq_true rfl) ?_
                    by_cases hl9 : T.oc k y = 108
                    ·
                      refine W.eq (g2 := F0 m 105 ls [.int (nI 1), .int (nI (mm_sm (fun q => if T.oc k q = 108 ∧ (T.rc k q < T.rc k u ∨ (T.rc k q = T.rc k u ∧ q < u)) then 1 else 0) y))]) (by rw [if_pos hl9]) ?_
                      refine mm_if_eq (pc := 105) F (tgt := 117) (by omega) dX7_postedAt_105 (by decide) (fun h9 => absurd h9 (by decide)) (fun cz105 => ?_)
                      refine lv_iload (pc := 108) F.1 F.2.1 dX7_postedAt_108 (lv_at hl 0 rfl) ?_
                      refine mm_if_eq (pc := 110) F (tgt := 117) (by omega) dX7_postedAt_110 (by decide) (fun cz110 => ?_) (fun h9 => absurd h9 (by decide))
                      refine lv_iconst (pc := 117) (v := nI 0) F.1 F.2.1 dX7_postedAt_117 (by decide) ?_
                      refine mm_iadd (pc := 118) F (z := nI ((mm_sm (fun q => if T.oc k q = 108 ∧ (T.rc k q < T.rc k u ∨ (T.rc k q = T.rc k u ∧ q < u)) then 1 else 0) y) + 0)) (nI_add _ _) dX7_postedAt_118 ?_
                      refine W.eq (g2 := F0 m 119 ls [.int (nI (mm_sm (fun q => if T.oc k q = 108 ∧ (T.rc k q < T.rc k u ∨ (T.rc k q = T.rc k u ∧ q < u)) then 1 else 0) (y + 1)))]) (congrArg (fun q => F0 m 119 ls [Value.int (nI q)]) (congrArg (mm_sm (fun q => if T.oc k q = 108 ∧ (T.rc k q < T.rc k u ∨ (T.rc k q = T.rc k u ∧ q < u)) then 1 else 0) y + ·) ((if_neg (fun q => by rcases q.2 with q | q <;> omega)).symm))) ?_
                      refine lv_istore (pc := 119) (lv' := [(4, .int (nI (mm_sm (fun q => if T.oc k q = 108 ∧ (T.rc k q < T.rc k u ∨ (T.rc k q = T.rc k u ∧ q < u)) then 1 else 0) (y + 1)))), (6, .int (nI 0)), (0, .ref ((rd 0 0))), (1, .int (nI k)), (2, .int (nI j)), (3, .int (nI u)), (5, .int (nI y))]) F.1 F.2.1 dX7_postedAt_119 hl (by decide) rfl (fun ls hl => ?_)
                      refine lv_iinc (pc := 121) (v := nI (y + 1)) (lv' := [(5, .int (nI (y + 1))), (4, .int (nI (mm_sm (fun q => if T.oc k q = 108 ∧ (T.rc k q < T.rc k u ∨ (T.rc k q = T.rc k u ∧ q < u)) then 1 else 0) (y + 1)))), (6, .int (nI 0)), (0, .ref ((rd 0 0))), (1, .int (nI k)), (2, .int (nI j)), (3, .int (nI u))]) F.1 F.2.1 dX7_postedAt_121 hl (k := 6) rfl (by rw [← nI_add]; rfl) (by decide) rfl (fun ls hl => ?_)
                      refine lv_goto (pc := 124) (tgt := 32) F.1 F.2.1 dX7_postedAt_124 (by decide) ?_
                      exact ih32 (y + 1) ls _ _ (by omega) (by omega) hN (lv_sub hl [3, 4, 5, 6, 1, 0] rfl)
                    ·
                      refine W.eq (g2 := F0 m 105 ls [.int (nI 0), .int (nI (mm_sm (fun q => if T.oc k q = 108 ∧ (T.rc k q < T.rc k u ∨ (T.rc k q = T.rc k u ∧ q < u)) then 1 else 0) y))]) (by rw [if_neg hl9]) ?_
                      refine mm_if_eq (pc := 105) F (tgt := 117) (by omega) dX7_postedAt_105 (by decide) (fun cz105 => ?_) (fun h9 => absurd h9 (by decide))
                      refine lv_iconst (pc := 117) (v := nI 0) F.1 F.2.1 dX7_postedAt_117 (by decide) ?_
                      refine mm_iadd (pc := 118) F (z := nI ((mm_sm (fun q => if T.oc k q = 108 ∧ (T.rc k q < T.rc k u ∨ (T.rc k q = T.rc k u ∧ q < u)) then 1 else 0) y) + 0)) (nI_add _ _) dX7_postedAt_118 ?_
                      refine W.eq (g2 := F0 m 119 ls [.int (nI (mm_sm (fun q => if T.oc k q = 108 ∧ (T.rc k q < T.rc k u ∨ (T.rc k q = T.rc k u ∧ q < u)) then 1 else 0) (y + 1)))]) (congrArg (fun q => F0 m 119 ls [Value.int (nI q)]) (congrArg (mm_sm (fun q => if T.oc k q = 108 ∧ (T.rc k q < T.rc k u ∨ (T.rc k q = T.rc k u ∧ q < u)) then 1 else 0) y + ·) ((if_neg (fun q => hl9 q.1)).symm))) ?_
                      refine lv_istore (pc := 119) (lv' := [(4, .int (nI (mm_sm (fun q => if T.oc k q = 108 ∧ (T.rc k q < T.rc k u ∨ (T.rc k q = T.rc k u ∧ q < u)) then 1 else 0) (y + 1)))), (6, .int (nI 0)), (0, .ref ((rd 0 0))), (1, .int (nI k)), (2, .int (nI j)), (3, .int (nI u)), (5, .int (nI y))]) F.1 F.2.1 dX7_postedAt_119 hl (by decide) rfl (fun ls hl => ?_)
                      refine lv_iinc (pc := 121) (v := nI (y + 1)) (lv' := [(5, .int (nI (y + 1))), (4, .int (nI (mm_sm (fun q => if T.oc k q = 108 ∧ (T.rc k q < T.rc k u ∨ (T.rc k q = T.rc k u ∧ q < u)) then 1 else 0) (y + 1)))), (6, .int (nI 0)), (0, .ref ((rd 0 0))), (1, .int (nI k)), (2, .int (nI j)), (3, .int (nI u))]) F.1 F.2.1 dX7_postedAt_121 hl (k := 6) rfl (by rw [← nI_add]; rfl) (by decide) rfl (fun ls hl => ?_)
                      refine lv_goto (pc := 124) (tgt := 32) F.1 F.2.1 dX7_postedAt_124 (by decide) ?_
                      exact ih32 (y + 1) ls _ _ (by omega) (by omega) hN (lv_sub hl [3, 4, 5, 6, 1, 0] rfl)
                  ·
                    refine lv_iload (pc := 83) F.1 F.2.1 dX7_postedAt_83 (lv_at hl 5 rfl) ?_
                    refine lv_iload_n (pc := 85) F.1 F.2.1 dX7_postedAt_85 rfl (lv_at hl 3 rfl) ?_
                    refine mm_icmp_ge (pc := 86) F (x := y) (y := u) (tgt := 93) (by omega) (by omega) dX7_postedAt_86 (by decide) (fun cz86 => ?_) (fun cz86 => ?_)
                    ·
                      refine lv_iconst (pc := 93) (v := nI 0) F.1 F.2.1 dX7_postedAt_93 (by decide) ?_
                      refine lv_istore (pc := 94) (lv' := [(6, .int (nI 0)), (0, .ref ((rd 0 0))), (1, .int (nI k)), (2, .int (nI j)), (3, .int (nI u)), (4, .int (nI (mm_sm (fun q => if T.oc k q = 108 ∧ (T.rc k q < T.rc k u ∨ (T.rc k q = T.rc k u ∧ q < u)) then 1 else 0) y))), (5, .int (nI y))]) F.1 F.2.1 dX7_postedAt_94 hl (by decide) rfl (fun ls hl => ?_)
                      refine lv_iload (pc := 96) F.1 F.2.1 dX7_postedAt_96 (lv_at hl 5 rfl) ?_
                      refine lv_aload_n (pc := 98) F.1 F.2.1 dX7_postedAt_98 rfl (lv_at hl 1 rfl) ?_
                      refine lv_iload_n (pc := 99) F.1 F.2.1 dX7_postedAt_99 rfl (lv_at hl 2 rfl) ?_
                      refine lv_iload (pc := 100) F.1 F.2.1 dX7_postedAt_100 (lv_at hl 6 rfl) ?_
                      refine mm_runV (pc := 102) (As := [.int (nI k), .int (nI y)]) (rest := [.int (nI (mm_sm (fun q => if T.oc k q = 108 ∧ (T.rc k q < T.rc k u ∨ (T.rc k q = T.rc k u ∧ q < u)) then 1 else 0) y))]) F hN (c_isLett l b D hst T th rd σ hM hW k y (by omega) (by omega)) mw_1411 mw_1413 mw_p35 mw_6 mw_1414 ⟨pmX7_isLetter, (Nat.le_of_ble_eq_true rfl), (Nat.le_of_ble_eq_true rfl)⟩ (mm_recv F.2.2.2.2.2.1 hN (mm_r0 hM) rfl) hl.1 rfl (Nat.le_of_ble_eq_true rfl) ⟨(Nat.le_of_ble_eq_true rfl), (Nat.le_of_ble_eq_true rfl)⟩ dX7_postedAt_102
                        (fun _ _ _ _ _ _ h9 => False.elim h9)
                        (fun v9 σ9 H locs hp9 hN => ?_)
                      obtain ⟨rfl, h9⟩ := hp9
                      rw [h9] at hN
                      refine W.eq (g2 := F0 m 105 ls [.int (nI (if T.oc k y = 108 then 1 else 0)), .int (nI (mm_sm (fun q => if T.oc k q = 108 ∧ (T.rc k q < T.rc k u ∨ (T.rc k q = T.rc k u ∧ q < u)) then 1 else 0) y))]) rfl ?_
                      refine W.widen (k := 0) (n := 0) (Nat.le_of_ble_eq_true rfl) (Nat.le_of_ble_eq_true rfl) ?_
                      by_cases hl9 : T.oc k y = 108
                      ·
                        refine W.eq (g2 := F0 m 105 ls [.int (nI 1), .int (nI (mm_sm (fun q => if T.oc k q = 108 ∧ (T.rc k q < T.rc k u ∨ (T.rc k q = T.rc k u ∧ q < u)) then 1 else 0) y))]) (by rw [if_pos hl9]) ?_
                        refine mm_if_eq (pc := 105) F (tgt := 117) (by omega) dX7_postedAt_105 (by decide) (fun h9 => absurd h9 (by decide)) (fun cz105 => ?_)
                        refine lv_iload (pc := 108) F.1 F.2.1 dX7_postedAt_108 (lv_at hl 0 rfl) ?_
                        refine mm_if_eq (pc := 110) F (tgt := 117) (by omega) dX7_postedAt_110 (by decide) (fun cz110 => ?_) (fun h9 => absurd h9 (by decide))
                        refine lv_iconst (pc := 117) (v := nI 0) F.1 F.2.1 dX7_postedAt_117 (by decide) ?_
                        refine mm_iadd (pc := 118) F (z := nI ((mm_sm (fun q => if T.oc k q = 108 ∧ (T.rc k q < T.rc k u ∨ (T.rc k q = T.rc k u ∧ q < u)) then 1 else 0) y) + 0)) (nI_add _ _) dX7_postedAt_118 ?_
                        refine W.eq (g2 := F0 m 119 ls [.int (nI (mm_sm (fun q => if T.oc k q = 108 ∧ (T.rc k q < T.rc k u ∨ (T.rc k q = T.rc k u ∧ q < u)) then 1 else 0) (y + 1)))]) (congrArg (fun q => F0 m 119 ls [Value.int (nI q)]) (congrArg (mm_sm (fun q => if T.oc k q = 108 ∧ (T.rc k q < T.rc k u ∨ (T.rc k q = T.rc k u ∧ q < u)) then 1 else 0) y + ·) ((if_neg (fun q => by rcases q.2 with q | q <;> omega)).symm))) ?_
                        refine lv_istore (pc := 119) (lv' := [(4, .int (nI (mm_sm (fun q => if T.oc k q = 108 ∧ (T.rc k q < T.rc k u ∨ (T.rc k q = T.rc k u ∧ q < u)) then 1 else 0) (y + 1)))), (6, .int (nI 0)), (0, .ref ((rd 0 0))), (1, .int (nI k)), (2, .int (nI j)), (3, .int (nI u)), (5, .int (nI y))]) F.1 F.2.1 dX7_postedAt_119 hl (by decide) rfl (fun ls hl => ?_)
                        refine lv_iinc (pc := 121) (v := nI (y + 1)) (lv' := [(5, .int (nI (y + 1))), (4, .int (nI (mm_sm (fun q => if T.oc k q = 108 ∧ (T.rc k q < T.rc k u ∨ (T.rc k q = T.rc k u ∧ q < u)) then 1 else 0) (y + 1)))), (6, .int (nI 0)), (0, .ref ((rd 0 0))), (1, .int (nI k)), (2, .int (nI j)), (3, .int (nI u))]) F.1 F.2.1 dX7_postedAt_121 hl (k := 6) rfl (by rw [← nI_add]; rfl) (by decide) rfl (fun ls hl => ?_)
                        refine lv_goto (pc := 124) (tgt := 32) F.1 F.2.1 dX7_postedAt_124 (by decide) ?_
                        exact ih32 (y + 1) ls _ _ (by omega) (by omega) hN (lv_sub hl [3, 4, 5, 6, 1, 0] rfl)
                      ·
                        refine W.eq (g2 := F0 m 105 ls [.int (nI 0), .int (nI (mm_sm (fun q => if T.oc k q = 108 ∧ (T.rc k q < T.rc k u ∨ (T.rc k q = T.rc k u ∧ q < u)) then 1 else 0) y))]) (by rw [if_neg hl9]) ?_
                        refine mm_if_eq (pc := 105) F (tgt := 117) (by omega) dX7_postedAt_105 (by decide) (fun cz105 => ?_) (fun h9 => absurd h9 (by decide))
                        refine lv_iconst (pc := 117) (v := nI 0) F.1 F.2.1 dX7_postedAt_117 (by decide) ?_
                        refine mm_iadd (pc := 118) F (z := nI ((mm_sm (fun q => if T.oc k q = 108 ∧ (T.rc k q < T.rc k u ∨ (T.rc k q = T.rc k u ∧ q < u)) then 1 else 0) y) + 0)) (nI_add _ _) dX7_postedAt_118 ?_
                        refine W.eq (g2 := F0 m 119 ls [.int (nI (mm_sm (fun q => if T.oc k q = 108 ∧ (T.rc k q < T.rc k u ∨ (T.rc k q = T.rc k u ∧ q < u)) then 1 else 0) (y + 1)))]) (congrArg (fun q => F0 m 119 ls [Value.int (nI q)]) (congrArg (mm_sm (fun q => if T.oc k q = 108 ∧ (T.rc k q < T.rc k u ∨ (T.rc k q = T.rc k u ∧ q < u)) then 1 else 0) y + ·) ((if_neg (fun q => hl9 q.1)).symm))) ?_
                        refine lv_istore (pc := 119) (lv' := [(4, .int (nI (mm_sm (fun q => if T.oc k q = 108 ∧ (T.rc k q < T.rc k u ∨ (T.rc k q = T.rc k u ∧ q < u)) then 1 else 0) (y + 1)))), (6, .int (nI 0)), (0, .ref ((rd 0 0))), (1, .int (nI k)), (2, .int (nI j)), (3, .int (nI u)), (5, .int (nI y))]) F.1 F.2.1 dX7_postedAt_119 hl (by decide) rfl (fun ls hl => ?_)
                        refine lv_iinc (pc := 121) (v := nI (y + 1)) (lv' := [(5, .int (nI (y + 1))), (4, .int (nI (mm_sm (fun q => if T.oc k q = 108 ∧ (T.rc k q < T.rc k u ∨ (T.rc k q = T.rc k u ∧ q < u)) then 1 else 0) (y + 1)))), (6, .int (nI 0)), (0, .ref ((rd 0 0))), (1, .int (nI k)), (2, .int (nI j)), (3, .int (nI u))]) F.1 F.2.1 dX7_postedAt_121 hl (k := 6) rfl (by rw [← nI_add]; rfl) (by decide) rfl (fun ls hl => ?_)
                        refine lv_goto (pc := 124) (tgt := 32) F.1 F.2.1 dX7_postedAt_124 (by decide) ?_
                        exact ih32 (y + 1) ls _ _ (by omega) (by omega) hN (lv_sub hl [3, 4, 5, 6, 1, 0] rfl)
                    ·
                      refine lv_iconst (pc := 89) (v := nI 1) F.1 F.2.1 dX7_postedAt_89 (by decide) ?_
                      refine lv_goto (pc := 90) (tgt := 94) F.1 F.2.1 dX7_postedAt_90 (by decide) ?_
                      refine lv_istore (pc := 94) (lv' := [(6, .int (nI 1)), (0, .ref ((rd 0 0))), (1, .int (nI k)), (2, .int (nI j)), (3, .int (nI u)), (4, .int (nI (mm_sm (fun q => if T.oc k q = 108 ∧ (T.rc k q < T.rc k u ∨ (T.rc k q = T.rc k u ∧ q < u)) then 1 else 0) y))), (5, .int (nI y))]) F.1 F.2.1 dX7_postedAt_94 hl (by decide) rfl (fun ls hl => ?_)
                      refine lv_iload (pc := 96) F.1 F.2.1 dX7_postedAt_96 (lv_at hl 5 rfl) ?_
                      refine lv_aload_n (pc := 98) F.1 F.2.1 dX7_postedAt_98 rfl (lv_at hl 1 rfl) ?_
                      refine lv_iload_n (pc := 99) F.1 F.2.1 dX7_postedAt_99 rfl (lv_at hl 2 rfl) ?_
                      refine lv_iload (pc := 100) F.1 F.2.1 dX7_postedAt_100 (lv_at hl 6 rfl) ?_
                      refine mm_runV (pc := 102) (As := [.int (nI k), .int (nI y)]) (rest := [.int (nI (mm_sm (fun q => if T.oc k q = 108 ∧ (T.rc k q < T.rc k u ∨ (T.rc k q = T.rc k u ∧ q < u)) then 1 else 0) y))]) F hN (c_isLett l b D hst T th rd σ hM hW k y (by omega) (by omega)) mw_1411 mw_1413 mw_p35 mw_6 mw_1414 ⟨pmX7_isLetter, (Nat.le_of_ble_eq_true rfl), (Nat.le_of_ble_eq_true rfl)⟩ (mm_recv F.2.2.2.2.2.1 hN (mm_r0 hM) rfl) hl.1 rfl (Nat.le_of_ble_eq_true rfl) ⟨(Nat.le_of_ble_eq_true rfl), (Nat.le_of_ble_eq_true rfl)⟩ dX7_postedAt_102
                        (fun _ _ _ _ _ _ h9 => False.elim h9)
                        (fun v9 σ9 H locs hp9 hN => ?_)
                      obtain ⟨rfl, h9⟩ := hp9
                      rw [h9] at hN
                      refine W.eq (g2 := F0 m 105 ls [.int (nI (if T.oc k y = 108 then 1 else 0)), .int (nI (mm_sm (fun q => if T.oc k q = 108 ∧ (T.rc k q < T.rc k u ∨ (T.rc k q = T.rc k u ∧ q < u)) then 1 else 0) y))]) rfl ?_
                      refine W.widen (k := 0) (n := 0) (Nat.le_of_ble_eq_true rfl) (Nat.le_of_ble_eq_true rfl) ?_
                      by_cases hl9 : T.oc k y = 108
                      ·
                        refine W.eq (g2 := F0 m 105 ls [.int (nI 1), .int (nI (mm_sm (fun q => if T.oc k q = 108 ∧ (T.rc k q < T.rc k u ∨ (T.rc k q = T.rc k u ∧ q < u)) then 1 else 0) y))]) (by rw [if_pos hl9]) ?_
                        refine mm_if_eq (pc := 105) F (tgt := 117) (by omega) dX7_postedAt_105 (by decide) (fun h9 => absurd h9 (by decide)) (fun cz105 => ?_)
                        refine lv_iload (pc := 108) F.1 F.2.1 dX7_postedAt_108 (lv_at hl 0 rfl) ?_
                        refine mm_if_eq (pc := 110) F (tgt := 117) (by omega) dX7_postedAt_110 (by decide) (fun h9 => absurd h9 (by decide)) (fun cz110 => ?_)
                        refine lv_iconst (pc := 113) (v := nI 1) F.1 F.2.1 dX7_postedAt_113 (by decide) ?_
                        refine lv_goto (pc := 114) (tgt := 118) F.1 F.2.1 dX7_postedAt_114 (by decide) ?_
                        refine mm_iadd (pc := 118) F (z := nI ((mm_sm (fun q => if T.oc k q = 108 ∧ (T.rc k q < T.rc k u ∨ (T.rc k q = T.rc k u ∧ q < u)) then 1 else 0) y) + 1)) (nI_add _ _) dX7_postedAt_118 ?_
                        refine W.eq (g2 := F0 m 119 ls [.int (nI (mm_sm (fun q => if T.oc k q = 108 ∧ (T.rc k q < T.rc k u ∨ (T.rc k q = T.rc k u ∧ q < u)) then 1 else 0) (y + 1)))]) (congrArg (fun q => F0 m 119 ls [Value.int (nI q)]) (congrArg (mm_sm (fun q => if T.oc k q = 108 ∧ (T.rc k q < T.rc k u ∨ (T.rc k q = T.rc k u ∧ q < u)) then 1 else 0) y + ·) ((if_pos ⟨hl9, Or.inr ⟨cz80, by omega⟩⟩).symm))) ?_
                        refine lv_istore (pc := 119) (lv' := [(4, .int (nI (mm_sm (fun q => if T.oc k q = 108 ∧ (T.rc k q < T.rc k u ∨ (T.rc k q = T.rc k u ∧ q < u)) then 1 else 0) (y + 1)))), (6, .int (nI 1)), (0, .ref ((rd 0 0))), (1, .int (nI k)), (2, .int (nI j)), (3, .int (nI u)), (5, .int (nI y))]) F.1 F.2.1 dX7_postedAt_119 hl (by decide) rfl (fun ls hl => ?_)
                        refine lv_iinc (pc := 121) (v := nI (y + 1)) (lv' := [(5, .int (nI (y + 1))), (4, .int (nI (mm_sm (fun q => if T.oc k q = 108 ∧ (T.rc k q < T.rc k u ∨ (T.rc k q = T.rc k u ∧ q < u)) then 1 else 0) (y + 1)))), (6, .int (nI 1)), (0, .ref ((rd 0 0))), (1, .int (nI k)), (2, .int (nI j)), (3, .int (nI u))]) F.1 F.2.1 dX7_postedAt_121 hl (k := 6) rfl (by rw [← nI_add]; rfl) (by decide) rfl (fun ls hl => ?_)
                        refine lv_goto (pc := 124) (tgt := 32) F.1 F.2.1 dX7_postedAt_124 (by decide) ?_
                        exact ih32 (y + 1) ls _ _ (by omega) (by omega) hN (lv_sub hl [3, 4, 5, 6, 1, 0] rfl)
                      ·
                        refine W.eq (g2 := F0 m 105 ls [.int (nI 0), .int (nI (mm_sm (fun q => if T.oc k q = 108 ∧ (T.rc k q < T.rc k u ∨ (T.rc k q = T.rc k u ∧ q < u)) then 1 else 0) y))]) (by rw [if_neg hl9]) ?_
                        refine mm_if_eq (pc := 105) F (tgt := 117) (by omega) dX7_postedAt_105 (by decide) (fun cz105 => ?_) (fun h9 => absurd h9 (by decide))
                        refine lv_iconst (pc := 117) (v := nI 0) F.1 F.2.1 dX7_postedAt_117 (by decide) ?_
                        refine mm_iadd (pc := 118) F (z := nI ((mm_sm (fun q => if T.oc k q = 108 ∧ (T.rc k q < T.rc k u ∨ (T.rc k q = T.rc k u ∧ q < u)) then 1 else 0) y) + 0)) (nI_add _ _) dX7_postedAt_118 ?_
                        refine W.eq (g2 := F0 m 119 ls [.int (nI (mm_sm (fun q => if T.oc k q = 108 ∧ (T.rc k q < T.rc k u ∨ (T.rc k q = T.rc k u ∧ q < u)) then 1 else 0) (y + 1)))]) (congrArg (fun q => F0 m 119 ls [Value.int (nI q)]) (congrArg (mm_sm (fun q => if T.oc k q = 108 ∧ (T.rc k q < T.rc k u ∨ (T.rc k q = T.rc k u ∧ q < u)) then 1 else 0) y + ·) ((if_neg (fun q => hl9 q.1)).symm))) ?_
                        refine lv_istore (pc := 119) (lv' := [(4, .int (nI (mm_sm (fun q => if T.oc k q = 108 ∧ (T.rc k q < T.rc k u ∨ (T.rc k q = T.rc k u ∧ q < u)) then 1 else 0) (y + 1)))), (6, .int (nI 1)), (0, .ref ((rd 0 0))), (1, .int (nI k)), (2, .int (nI j)), (3, .int (nI u)), (5, .int (nI y))]) F.1 F.2.1 dX7_postedAt_119 hl (by decide) rfl (fun ls hl => ?_)
                        refine lv_iinc (pc := 121) (v := nI (y + 1)) (lv' := [(5, .int (nI (y + 1))), (4, .int (nI (mm_sm (fun q => if T.oc k q = 108 ∧ (T.rc k q < T.rc k u ∨ (T.rc k q = T.rc k u ∧ q < u)) then 1 else 0) (y + 1)))), (6, .int (nI 1)), (0, .ref ((rd 0 0))), (1, .int (nI k)), (2, .int (nI j)), (3, .int (nI u))]) F.1 F.2.1 dX7_postedAt_121 hl (k := 6) rfl (by rw [← nI_add]; rfl) (by decide) rfl (fun ls hl => ?_)
                        refine lv_goto (pc := 124) (tgt := 32) F.1 F.2.1 dX7_postedAt_124 (by decide) ?_
                        exact ih32 (y + 1) ls _ _ (by omega) (by omega) hN (lv_sub hl [3, 4, 5, 6, 1, 0] rfl)
          exact lp32 ((T.rp k) + 1) 0 ls _ _ (by omega) (by omega) hN (lv_sub hl [2, 3, 4, 5, 1, 0] rfl)
    exact lp16 ((T.rp k) + 1) 0 ls _ _ (by omega) (by omega) (fun p9 hp9 => absurd hp9 (Nat.not_lt_zero _)) hN (lv_sub hl [1, 2, 3, 0] rfl)
  ·
    refine W.eq (g2 := F0 m 5 ls [.int (nI 0)]) (by rw [if_neg hrk]) ?_
    refine mm_if_ne (pc := 5) F (tgt := 14) (by omega) dX7_postedAt_5 (by decide) (fun h9 => absurd h9 (by decide)) (fun cz5 => ?_)
    refine lv_aload_n (pc := 8) F.1 F.2.1 dX7_postedAt_8 rfl (lv_at hl 0 rfl) ?_
    refine lv_iconst (pc := 9) (v := nI 1) F.1 F.2.1 dX7_postedAt_9 (by decide) ?_
    refine mm_runV (pc := 10) (As := [.int (nI 1)]) (rest := []) F hN (r_raises l b D hst T th rd σ hM 1) mw_1399 mw_1401 mw_p34 mw_6 mw_1402 ⟨pmX7_raises, (Nat.le_of_ble_eq_true rfl), (Nat.le_of_ble_eq_true rfl)⟩ (mm_recv F.2.2.2.2.2.1 hN (mm_r0 hM) rfl) hl.1 rfl (Nat.le_of_ble_eq_true rfl) ⟨(Nat.le_of_ble_eq_true rfl), (Nat.le_of_ble_eq_true rfl)⟩ dX7_postedAt_10
      (fun _ _ _ _ _ _ h9 => False.elim h9)
      (fun v9 σ4 H locs hp9 hN => ?_)
    obtain ⟨rfl, hM4, hF4⟩ := hp9
    refine W.eq (g2 := F0 m 13 ls [.int (nI 0)]) rfl ?_
    refine W.widen (k := 0) (n := 0) (Nat.le_of_ble_eq_true rfl) (Nat.le_of_ble_eq_true rfl) ?_
    exact mm_iret (pc := 13) F hr hN (Or.inr ⟨by rw [show mm_q_postedAt T k j = 1 from by show mm_q_postedAt T k j = 1; unfold mm_q_postedAt; (repeat' split) <;> omega]; decide, ⟨_, rfl⟩, by rw [show mm_q_postedAt T k j = 1 from by show mm_q_postedAt T k j = 1; unfold mm_q_postedAt; (repeat' split) <;> omega]; exact hM4, ((mm_Fr.rf).tr hF4)⟩) (Nat.le_of_ble_eq_true rfl) (Nat.le_of_ble_eq_true rfl) dX7_postedAt_13

set_option maxHeartbeats 4000000 in
set_option maxRecDepth 100000 in
theorem r_proofAt (l : Launch) (b : Nat) (D : mm_D) (hst : l.stackTraces = false) (T : mm_T) (th : Nat) (rd : Nat → Nat → Nat) (σ : mm_S) (hM : mm_M σ T th rd) (hW : mm_WF T) (k : Nat) (zk : k < 2 ^ 32) (j : Nat) (zj : j < 2 ^ 32) : mm_K l b D yX7_proofAt (.code yX7_proofAt cX7_proofAt 9 (some .int)) ({ frames := 6, cells := 0, slots := 0, locals := 160 } : Room) [.ref ((rd 0 0)), .int (nI k), .int (nI j)] σ
    (fun v σ2 => mm_Mt rd σ σ2 T (T) (mm_q_proofAt T k j) v (some (.int (nI ((mm_pl (mm_fr T k) (T.rp k) 8).getD j 0)))))
    (fun _ _ => False) := by
  refine mm_of (cc := cX7_proofAt) (nL := 9) (ret := (some .int)) (by decide) rfl (Nat.le_of_ble_eq_true rfl) hst ?_
  intro p e s m args below meth c ls F ht hr hin hN hl
  have hl : lv_has ls 9 [(0, .ref ((rd 0 0))), (1, .int (nI k)), (2, .int (nI j))] := hl
  have wnA := hW.hnA
  have wnP := hW.hnP
  have wnT := hW.hnT
  have wnR := hW.hnR
  have wpa := hW.hpa
  have wbo := hW.hbo
  have wen0 := hW.hen 0
  have wen1 := hW.hen 1
  refine lv_aload_n (pc := 0) F.1 F.2.1 dX7_proofAt_0 rfl (lv_at hl 0 rfl) ?_
  refine lv_iload_n (pc := 1) F.1 F.2.1 dX7_proofAt_1 rfl (lv_at hl 1 rfl) ?_
  refine mm_runV (pc := 2) (As := [.int (nI k)]) (rest := []) F hN (c_isRun l b D hst T th rd σ hM hW k (by omega)) mw_1391 mw_1393 mw_p33 mw_6 mw_1394 ⟨pmX7_isRun, (Nat.le_of_ble_eq_true rfl), (Nat.le_of_ble_eq_true rfl)⟩ (mm_recv F.2.2.2.2.2.1 hN (mm_r0 hM) rfl) hl.1 rfl (Nat.le_of_ble_eq_true rfl) ⟨(Nat.le_of_ble_eq_true rfl), (Nat.le_of_ble_eq_true rfl)⟩ dX7_proofAt_2
    (fun _ _ _ _ _ _ h9 => False.elim h9)
    (fun v9 σ9 H locs hp9 hN => ?_)
  obtain ⟨rfl, h9⟩ := hp9
  rw [h9] at hN
  refine W.eq (g2 := F0 m 5 ls [.int (nI (if k < T.nR then 1 else 0))]) rfl ?_
  refine W.widen (k := 0) (n := 0) (Nat.le_of_ble_eq_true rfl) (Nat.le_of_ble_eq_true rfl) ?_
  by_cases hrk : k < T.nR
  ·
    refine W.eq (g2 := F0 m 5 ls [.int (nI 1)]) (by rw [if_pos hrk]) ?_
    obtain ⟨wr1k, wr2k, wr3k, wr4k⟩ := hW.hru k hrk
    refine mm_if_ne (pc := 5) F (tgt := 14) (by omega) dX7_proofAt_5 (by decide) (fun cz5 => ?_) (fun h9 => absurd h9 (by decide))
    refine lv_iconst (pc := 14) (v := nI 0) F.1 F.2.1 dX7_proofAt_14 (by decide) ?_
    refine lv_istore_n (pc := 15) (lv' := [(3, .int (nI 0)), (0, .ref ((rd 0 0))), (1, .int (nI k)), (2, .int (nI j))]) F.1 F.2.1 dX7_proofAt_15 rfl hl (by decide) rfl (fun ls hl => ?_)
    refine lv_iconst (pc := 16) (v := nI 0) F.1 F.2.1 dX7_proofAt_16 (by decide) ?_
    refine lv_istore (pc := 17) (lv' := [(4, .int (nI 0)), (3, .int (nI 0)), (0, .ref ((rd 0 0))), (1, .int (nI k)), (2, .int (nI j))]) F.1 F.2.1 dX7_proofAt_17 hl (by decide) rfl (fun ls hl => ?_)
    refine lv_iconst (pc := 19) (v := nI 0) F.1 F.2.1 dX7_proofAt_19 (by decide) ?_
    refine lv_istore (pc := 20) (lv' := [(5, .int (nI 0)), (4, .int (nI 0)), (3, .int (nI 0)), (0, .ref ((rd 0 0))), (1, .int (nI k)), (2, .int (nI j))]) F.1 F.2.1 dX7_proofAt_20 hl (by decide) rfl (fun ls hl => ?_)
    obtain ⟨wr1, wr2, wr3, wr4⟩ := hW.hru k hrk
    have hf5 : ∀ i, i < T.rp k → (mm_fr T k) 5 i < 256 := fun i hi => (wr4 i hi).2.2.2.1
    have lp22 : ∀ (k22 v : Nat) (be : Int32) (ls : Array Slot) (H : Heap) (locs : List Loc), 9 < v + k22 → v ≤ 9 → ((be ≠ -1 ∧ v ≤ 8 ∧ ∀ i9, i9 < v → ¬ mm_bk (mm_fr T k) (T.rp k) i9 = 0 ∧ j ≠ i9) ∨ (be = -1 ∧ 1 ≤ v ∧ mm_bk (mm_fr T k) (T.rp k) (v - 1) = 0 ∧ ∀ i9, i9 < v - 1 → ¬ mm_bk (mm_fr T k) (T.rp k) i9 = 0 ∧ j ≠ i9)) → mm_N b D s σ H locs → lv_has ls 9 [(0, .ref ((rd 0 0))), (1, .int (nI k)), (2, .int (nI j)), (3, .int (nI (mm_hd (mm_fr T k) (T.rp k) v))), (4, .int (nI v)), (5, .int be)] →
        W p l e ({ frames := 6, cells := 0, slots := 0, locals := 160 } : Room) s m args below meth c H locs (0) (0) (mm_Q b D (fun v σ2 => mm_Mt rd σ σ2 T (T) (mm_q_proofAt T k j) v (some (.int (nI ((mm_pl (mm_fr T k) (T.rp k) 8).getD j 0))))) (fun _ _ => False) below args s ({ frames := 6, cells := 0, slots := 0, locals := 160 } : Room)) (F0 m 22 ls []) := by
      intro k22
      induction k22 with
      | zero => intro v be ls H locs hk22 hi22 hbe hN hl; omega
      | succ k22 ih22 =>
        intro v be ls H locs hk22 hi22 hbe hN hl
        refine lv_iload (pc := 22) F.1 F.2.1 dX7_proofAt_22 (lv_at hl 5 rfl) ?_
        refine lv_iconst (pc := 24) (v := (-1)) F.1 F.2.1 dX7_proofAt_24 (by decide) ?_
        refine lv_icmp_eq (pc := 25) (tgt := 159) F.1 F.2.1 dX7_proofAt_25 (by decide) (fun cz25 => ?_) (fun cz25 => ?_)
        ·
          obtain ⟨-, hv1, hz0, hnz⟩ := hbe.resolve_left (fun q => q.1 cz25)
          have hv9 : v - 1 ≤ 8 := by omega
          have hlen := mm_pl_end hv9 (fun i9 h9 => (hnz i9 h9).1) hz0
          have hjn : ¬ j < (mm_pl (mm_fr T k) (T.rp k) 8).length := fun q => by rw [hlen] at q; exact (hnz j q).2 rfl
          refine lv_aload_n (pc := 159) F.1 F.2.1 dX7_proofAt_159 rfl (lv_at hl 0 rfl) ?_
          refine lv_iconst (pc := 160) (v := nI 2) F.1 F.2.1 dX7_proofAt_160 (by decide) ?_
          refine mm_runV (pc := 161) (As := [.int (nI 2)]) (rest := []) F hN (r_raises l b D hst T th rd σ hM 2) mw_1399 mw_1401 mw_p34 mw_6 mw_1402 ⟨pmX7_raises, (Nat.le_of_ble_eq_true rfl), (Nat.le_of_ble_eq_true rfl)⟩ (mm_recv F.2.2.2.2.2.1 hN (mm_r0 hM) rfl) hl.1 rfl (Nat.le_of_ble_eq_true rfl) ⟨(Nat.le_of_ble_eq_true rfl), (Nat.le_of_ble_eq_true rfl)⟩ dX7_proofAt_161
            (fun _ _ _ _ _ _ h9 => False.elim h9)
            (fun v9 σ2 H locs hp9 hN => ?_)
          obtain ⟨rfl, hM2, hF2⟩ := hp9
          refine W.eq (g2 := F0 m 164 ls [.int (nI 0)]) rfl ?_
          refine W.widen (k := 0) (n := 0) (Nat.le_of_ble_eq_true rfl) (Nat.le_of_ble_eq_true rfl) ?_
          exact mm_iret (pc := 164) F hr hN (Or.inr ⟨by rw [show mm_q_proofAt T k j = 2 from by show mm_q_proofAt T k j = 2; unfold mm_q_proofAt; (repeat' split) <;> omega]; decide, ⟨_, rfl⟩, by rw [show mm_q_proofAt T k j = 2 from by show mm_q_proofAt T k j = 2; unfold mm_q_proofAt; (repeat' split) <;> omega]; exact hM2, ((mm_Fr.rf).tr hF2)⟩) (Nat.le_of_ble_eq_true rfl) (Nat.le_of_ble_eq_true rfl) dX7_proofAt_164
        ·
          obtain ⟨-, hv8, hnz⟩ : be ≠ -1 ∧ v ≤ 8 ∧ ∀ i9, i9 < v → ¬ mm_bk (mm_fr T k) (T.rp k) i9 = 0 ∧ j ≠ i9 := hbe.resolve_right (fun q => cz25 q.1)
          have hhd := mm_hd_le hf5 v
          refine lv_iconst (pc := 28) (v := (-1)) F.1 F.2.1 dX7_proofAt_28 (by decide) ?_
          refine lv_istore (pc := 29) (lv' := [(5, .int ((-1))), (0, .ref ((rd 0 0))), (1, .int (nI k)), (2, .int (nI j)), (3, .int (nI (mm_hd (mm_fr T k) (T.rp k) v))), (4, .int (nI v))]) F.1 F.2.1 dX7_proofAt_29 hl (by decide) rfl (fun ls hl => ?_)
          refine lv_iconst (pc := 31) (v := nI 0) F.1 F.2.1 dX7_proofAt_31 (by decide) ?_
          refine lv_istore (pc := 32) (lv' := [(6, .int (nI 0)), (5, .int ((-1))), (0, .ref ((rd 0 0))), (1, .int (nI k)), (2, .int (nI j)), (3, .int (nI (mm_hd (mm_fr T k) (T.rp k) v))), (4, .int (nI v))]) F.1 F.2.1 dX7_proofAt_32 hl (by decide) rfl (fun ls hl => ?_)
          refine lv_iconst (pc := 34) (v := nI 0) F.1 F.2.1 dX7_proofAt_34 (by decide) ?_
          refine lv_istore (pc := 35) (lv' := [(7, .int (nI 0)), (6, .int (nI 0)), (5, .int ((-1))), (0, .ref ((rd 0 0))), (1, .int (nI k)), (2, .int (nI j)), (3, .int (nI (mm_hd (mm_fr T k) (T.rp k) v))), (4, .int (nI v))]) F.1 F.2.1 dX7_proofAt_35 hl (by decide) rfl (fun ls hl => ?_)
          have lp37 : ∀ (k37 y : Nat) (b2 : Int32) (ls : Array Slot) (H : Heap) (locs : List Loc), T.rp k < y + k37 → y ≤ T.rp k → (b2 = if (mm_bs (mm_it (mm_fr T k) (mm_hd (mm_fr T k) (T.rp k) v)) y).1 = 0 then -1 else nI ((mm_bs (mm_it (mm_fr T k) (mm_hd (mm_fr T k) (T.rp k) v)) y).1 - 1)) → mm_N b D s σ H locs → lv_has ls 9 [(0, .ref ((rd 0 0))), (1, .int (nI k)), (2, .int (nI j)), (3, .int (nI (mm_hd (mm_fr T k) (T.rp k) v))), (4, .int (nI v)), (5, .int b2), (6, .int (nI ((mm_bs (mm_it (mm_fr T k) (mm_hd (mm_fr T k) (T.rp k) v)) y).2))), (7, .int (nI y))] →
              W p l e ({ frames := 6, cells := 0, slots := 0, locals := 160 } : Room) s m args below meth c H locs (0) (0) (mm_Q b D (fun v σ2 => mm_Mt rd σ σ2 T (T) (mm_q_proofAt T k j) v (some (.int (nI ((mm_pl (mm_fr T k) (T.rp k) 8).getD j 0))))) (fun _ _ => False) below args s ({ frames := 6, cells := 0, slots := 0, locals := 160 } : Room)) (F0 m 37 ls []) := by
            intro k37
            induction k37 with
            | zero => intro y b2 ls H locs hk37 hi37 hb2 hN hl; omega
            | succ k37 ih37 =>
              intro y b2 ls H locs hk37 hi37 hb2 hN hl
              have hbw := mm_bs_w (mm_it (mm_fr T k) (mm_hd (mm_fr T k) (T.rp k) v)) y 8 (fun i _ => mm_it_le _ _ _)
              refine lv_iload (pc := 37) F.1 F.2.1 dX7_proofAt_37 (lv_at hl 7 rfl) ?_
              refine lv_aload_n (pc := 39) F.1 F.2.1 dX7_proofAt_39 rfl (lv_at hl 0 rfl) ?_
              refine mm_get (pc := 40) F hN (mm_r0 hM) (ci := 7) rfl 17 (by decide) mw_1196 rfl dX7_proofAt_40 ?_
              refine lv_iload_n (pc := 43) F.1 F.2.1 dX7_proofAt_43 rfl (lv_at hl 1 rfl) ?_
              refine mm_iald (pc := 44) F hN ((show σ (rd 13 0) = mm_ari 1 0 10 (fun b9 => nI (T.rp b9)) from mm_r13 (T := T) hM)) (j := k) (rfl) (by omega) (by decide) dX7_proofAt_44 ?_
              refine mm_icmp_ge (pc := 45) F (x := y) (y := T.rp k) (tgt := 111) (by omega) (by omega) dX7_proofAt_45 (by decide) (fun cz45 => ?_) (fun cz45 => ?_)
              ·
                have hyn : y = T.rp k := by omega
                rw [hyn] at hb2
                have hb2 : b2 = if mm_bk (mm_fr T k) (T.rp k) v = 0 then -1 else nI (mm_bk (mm_fr T k) (T.rp k) v - 1) := hb2
                have hbl : mm_bk (mm_fr T k) (T.rp k) v ≤ T.rp k := mm_bs_le _ _
                refine lv_iload (pc := 111) F.1 F.2.1 dX7_proofAt_111 (lv_at hl 5 rfl) ?_
                refine lv_iconst (pc := 113) (v := (-1)) F.1 F.2.1 dX7_proofAt_113 (by decide) ?_
                refine lv_icmp_eq (pc := 114) (tgt := 131) F.1 F.2.1 dX7_proofAt_114 (by decide) (fun cz114 => ?_) (fun cz114 => ?_)
                ·
                  have hz9 : mm_bk (mm_fr T k) (T.rp k) v = 0 := by
                    by_cases h9 : mm_bk (mm_fr T k) (T.rp k) v = 0
                    · exact h9
                    · rw [if_neg h9] at hb2
                      rw [hb2] at cz114
                      have h8 : mm_bk (mm_fr T k) (T.rp k) v - 1 < 2 ^ 31 := by omega
                      have h7 := (mm_eqB (x := mm_bk (mm_fr T k) (T.rp k) v - 1) (y := 4294967295) (by omega) (by decide)).mp cz114
                      omega
                  refine lv_iload_n (pc := 131) F.1 F.2.1 dX7_proofAt_131 rfl (lv_at hl 3 rfl) ?_
                  refine lv_iload (pc := 132) F.1 F.2.1 dX7_proofAt_132 (lv_at hl 5 rfl) ?_
                  refine lv_iconst (pc := 134) (v := (-1)) F.1 F.2.1 dX7_proofAt_134 (by decide) ?_
                  refine lv_icmp_ne (pc := 135) (tgt := 142) F.1 F.2.1 dX7_proofAt_135 (by decide) (fun cz135 => ?_) (fun cz135 => ?_)
                  ·
                    exact absurd cz114 cz135
                  ·
                    refine lv_iconst (pc := 138) (v := nI 0) F.1 F.2.1 dX7_proofAt_138 (by decide) ?_
                    refine lv_goto (pc := 139) (tgt := 151) F.1 F.2.1 dX7_proofAt_139 (by decide) ?_
                    refine mm_ior (pc := 151) F (z := nI ((mm_hd (mm_fr T k) (T.rp k) v) ||| 0)) (mm_orN _ _) dX7_proofAt_151 ?_
                    refine W.eq (g2 := F0 m 152 ls [.int (nI (mm_hd (mm_fr T k) (T.rp k) (v + 1)))]) (congrArg (fun q => F0 m 152 ls [Value.int (nI q)]) ((Nat.or_zero _).trans (show mm_hd (mm_fr T k) (T.rp k) v = mm_hd (mm_fr T k) (T.rp k) (v + 1) from (if_pos hz9).symm))) ?_
                    refine lv_istore_n (pc := 152) (lv' := [(3, .int (nI (mm_hd (mm_fr T k) (T.rp k) (v + 1)))), (0, .ref ((rd 0 0))), (1, .int (nI k)), (2, .int (nI j)), (4, .int (nI v)), (5, .int b2), (6, .int (nI ((mm_bs (mm_it (mm_fr T k) (mm_hd (mm_fr T k) (T.rp k) v)) y).2))), (7, .int (nI y))]) F.1 F.2.1 dX7_proofAt_152 rfl hl (by decide) rfl (fun ls hl => ?_)
                    refine lv_iinc (pc := 153) (v := nI (v + 1)) (lv' := [(4, .int (nI (v + 1))), (3, .int (nI (mm_hd (mm_fr T k) (T.rp k) (v + 1)))), (0, .ref ((rd 0 0))), (1, .int (nI k)), (2, .int (nI j)), (5, .int b2), (6, .int (nI ((mm_bs (mm_it (mm_fr T k) (mm_hd (mm_fr T k) (T.rp k) v)) y).2))), (7, .int (nI y))]) F.1 F.2.1 dX7_proofAt_153 hl (k := 4) rfl (by rw [← nI_add]; rfl) (by decide) rfl (fun ls hl => ?_)
                    refine lv_goto (pc := 156) (tgt := 22) F.1 F.2.1 dX7_proofAt_156 (by decide) ?_
                    exact ih22 (v + 1) b2 ls _ _ (by omega) (by omega) (Or.inr ⟨cz114, by omega, by rw [Nat.add_sub_cancel]; exact hz9, fun i9 h9 => hnz i9 (by omega)⟩) hN (lv_sub hl [2, 3, 4, 1, 0, 5] rfl)
                ·
                  have hz9 : ¬ mm_bk (mm_fr T k) (T.rp k) v = 0 := fun h9 => by rw [if_pos h9] at hb2; exact cz114 hb2
                  rw [if_neg hz9] at hb2
                  have hv7 : v < 8 := by
                    by_cases h9 : v = 8
                    · rw [h9] at hz9 hnz; exact absurd (mm_bk8 hf5 (fun i9 h => (hnz i9 h).1)) hz9
                    · omega
                  obtain ⟨wz1, wz2, wz3, wz4, wz5, wz6, wz7⟩ := wr4 (mm_bk (mm_fr T k) (T.rp k) v - 1) (by omega)
                  rw [hb2] at hl
                  refine lv_iload (pc := 117) F.1 F.2.1 dX7_proofAt_117 (lv_at hl 4 rfl) ?_
                  refine lv_iload_n (pc := 119) F.1 F.2.1 dX7_proofAt_119 rfl (lv_at hl 2 rfl) ?_
                  refine mm_icmp_neB (pc := 120) F (x := v) (y := j) (tgt := 131) (by omega) (by omega) dX7_proofAt_120 (by decide) (fun cz120 => ?_) (fun cz120 => ?_)
                  ·
                    refine lv_iload_n (pc := 131) F.1 F.2.1 dX7_proofAt_131 rfl (lv_at hl 3 rfl) ?_
                    refine lv_iload (pc := 132) F.1 F.2.1 dX7_proofAt_132 (lv_at hl 5 rfl) ?_
                    refine lv_iconst (pc := 134) (v := (-1)) F.1 F.2.1 dX7_proofAt_134 (by decide) ?_
                    refine lv_icmp_ne (pc := 135) (tgt := 142) F.1 F.2.1 dX7_proofAt_135 (by decide) (fun cz135 => ?_) (fun cz135 => ?_)
                    ·
                      refine lv_aload_n (pc := 142) F.1 F.2.1 dX7_proofAt_142 rfl (lv_at hl 0 rfl) ?_
                      refine mm_get (pc := 143) F hN (mm_r0 hM) (ci := 7) rfl 21 (by decide) mw_1200 rfl dX7_proofAt_143 ?_
                      refine lv_iload_n (pc := 146) F.1 F.2.1 dX7_proofAt_146 rfl (lv_at hl 1 rfl) ?_
                      refine mm_aald (pc := 147) F hN ((show σ (rd 17 0) = mm_arq 1 5 10 (fun i => if i < 10 then some (rd 17 (i + 1)) else none) from mm_rq17 (T := T) hM)) rfl rfl (j := k) (rfl) (by omega) (by decide) (if_pos (by omega)) dX7_proofAt_147 ?_
                      refine lv_iload (pc := 148) F.1 F.2.1 dX7_proofAt_148 (lv_at hl 5 rfl) ?_
                      refine mm_iald (pc := 150) F hN ((show σ (rd 17 (k + 1)) = mm_ari 1 0 24 (fun b9 => nI (T.rt k b9)) from mm_rr17 (T := T) hM (i := k) (by omega))) (j := mm_bk (mm_fr T k) (T.rp k) v - 1) (rfl) (by omega) (by decide) dX7_proofAt_150 ?_
                      refine mm_ior (pc := 151) F (z := nI ((mm_hd (mm_fr T k) (T.rp k) v) ||| (T.rt k (mm_bk (mm_fr T k) (T.rp k) v - 1)))) (mm_orN _ _) dX7_proofAt_151 ?_
                      refine W.eq (g2 := F0 m 152 ls [.int (nI (mm_hd (mm_fr T k) (T.rp k) (v + 1)))]) (congrArg (fun q => F0 m 152 ls [Value.int (nI q)]) (show mm_hd (mm_fr T k) (T.rp k) v ||| (mm_fr T k) 5 (mm_bk (mm_fr T k) (T.rp k) v - 1) = mm_hd (mm_fr T k) (T.rp k) (v + 1) from (if_neg hz9).symm)) ?_
                      refine lv_istore_n (pc := 152) (lv' := [(3, .int (nI (mm_hd (mm_fr T k) (T.rp k) (v + 1)))), (0, .ref ((rd 0 0))), (1, .int (nI k)), (2, .int (nI j)), (4, .int (nI v)), (5, .int (nI (mm_bk (mm_fr T k) (T.rp k) v - 1))), (6, .int (nI ((mm_bs (mm_it (mm_fr T k) (mm_hd (mm_fr T k) (T.rp k) v)) y).2))), (7, .int (nI y))]) F.1 F.2.1 dX7_proofAt_152 rfl hl (by decide) rfl (fun ls hl => ?_)
                      refine lv_iinc (pc := 153) (v := nI (v + 1)) (lv' := [(4, .int (nI (v + 1))), (3, .int (nI (mm_hd (mm_fr T k) (T.rp k) (v + 1)))), (0, .ref ((rd 0 0))), (1, .int (nI k)), (2, .int (nI j)), (5, .int (nI (mm_bk (mm_fr T k) (T.rp k) v - 1))), (6, .int (nI ((mm_bs (mm_it (mm_fr T k) (mm_hd (mm_fr T k) (T.rp k) v)) y).2))), (7, .int (nI y))]) F.1 F.2.1 dX7_proofAt_153 hl (k := 4) rfl (by rw [← nI_add]; rfl) (by decide) rfl (fun ls hl => ?_)
                      refine lv_goto (pc := 156) (tgt := 22) F.1 F.2.1 dX7_proofAt_156 (by decide) ?_
                      exact ih22 (v + 1) (nI (mm_bk (mm_fr T k) (T.rp k) v - 1)) ls _ _ (by omega) (by omega) (Or.inl ⟨fun e9 => by have h7 := (mm_eqB (x := mm_bk (mm_fr T k) (T.rp k) v - 1) (y := 4294967295) (by omega) (by decide)).mp e9; omega, by omega, fun i9 h9 => by
                          by_cases e9 : i9 = v
                          · rw [e9]; exact ⟨hz9, fun e8 => cz120 e8.symm⟩
                          · exact hnz i9 (by omega)⟩) hN (lv_sub hl [2, 3, 4, 1, 0, 5] rfl)
                    ·
                      have h7 := (mm_eqB (x := mm_bk (mm_fr T k) (T.rp k) v - 1) (y := 4294967295) (by omega) (by decide)).mp cz135; omega
                  ·
                    obtain ⟨hjl, hje⟩ := mm_pl_here (f := mm_fr T k) (n := T.rp k) hv7 (fun i9 h9 => by
                      by_cases e9 : i9 = v
                      · rw [e9]; exact hz9
                      · exact (hnz i9 (by omega)).1)
                    have hje : (mm_pl (mm_fr T k) (T.rp k) 8).getD j 0 = mm_bk (mm_fr T k) (T.rp k) v - 1 := by rw [← cz120]; exact hje
                    rw [cz120] at hjl
                    refine lv_aload_n (pc := 123) F.1 F.2.1 dX7_proofAt_123 rfl (lv_at hl 0 rfl) ?_
                    refine lv_iconst (pc := 124) (v := nI 0) F.1 F.2.1 dX7_proofAt_124 (by decide) ?_
                    refine mm_put (pc := 125) F hN (mm_r0 hM) (ci := 7) rfl 25 (by decide) mw_1204 rfl (ty := .int) (by decide +kernel) (rfl) (rfl) (Nat.le_of_ble_eq_true rfl) dX7_proofAt_125 (fun H locs hN => ?_)
                    have hN : mm_N b D s (mm_u σ ((rd 0 0)) (mm_obj 1 7 [.ref ((rd 1 0)), .ref ((rd 2 0)), .ref ((rd 3 0)), .int (nI T.nA), .ref ((rd 4 0)), .ref ((rd 5 0)), .ref ((rd 6 0)), .int (nI T.nP), .ref ((rd 7 0)), .ref ((rd 8 0)), .ref ((rd 9 0)), .ref ((rd 10 0)), .ref ((rd 11 0)), .int (nI T.nT), .int (nI T.pa), .ref ((rd 12 0)), .int (nI T.bo), .ref ((rd 13 0)), .ref ((rd 14 0)), .ref ((rd 15 0)), .ref ((rd 16 0)), .ref ((rd 17 0)), .ref ((rd 18 0)), .ref ((rd 19 0)), .int (nI T.nR), .int (nI 0)])) _ _ := hN
                    obtain ⟨σ3, eσ3⟩ : ∃ q, q = mm_u σ ((rd 0 0)) (mm_obj 1 7 [.ref ((rd 1 0)), .ref ((rd 2 0)), .ref ((rd 3 0)), .int (nI T.nA), .ref ((rd 4 0)), .ref ((rd 5 0)), .ref ((rd 6 0)), .int (nI T.nP), .ref ((rd 7 0)), .ref ((rd 8 0)), .ref ((rd 9 0)), .ref ((rd 10 0)), .ref ((rd 11 0)), .int (nI T.nT), .int (nI T.pa), .ref ((rd 12 0)), .int (nI T.bo), .ref ((rd 13 0)), .ref ((rd 14 0)), .ref ((rd 15 0)), .ref ((rd 16 0)), .ref ((rd 17 0)), .ref ((rd 18 0)), .ref ((rd 19 0)), .int (nI T.nR), .int (nI 0)]) := ⟨_, rfl⟩
                    rw [← eσ3] at hN
                    have hM3 : mm_M σ3 T 0 rd := by rw [eσ3]; exact mm_Mo hM (fun _ _ => rfl) rfl
                    have hF3 : mm_Fr 1 σ σ3 := by rw [eσ3]; exact (mm_Fr.rf).tr (mm_Fr.u (mm_r0 hM))
                    refine lv_iload (pc := 128) F.1 F.2.1 dX7_proofAt_128 (lv_at hl 5 rfl) ?_
                    exact mm_iret (pc := 130) F hr hN (Or.inl ⟨by show mm_q_proofAt T k j = 0; unfold mm_q_proofAt; (repeat' split) <;> omega, by rw [hje], hM3, hF3⟩) (Nat.le_of_ble_eq_true rfl) (Nat.le_of_ble_eq_true rfl) dX7_proofAt_130
              ·
                obtain ⟨wy1, wy2, wy3, wy4, wy5, wy6, wy7⟩ := wr4 y (by omega)
                refine lv_aload_n (pc := 48) F.1 F.2.1 dX7_proofAt_48 rfl (lv_at hl 0 rfl) ?_
                refine lv_iload_n (pc := 49) F.1 F.2.1 dX7_proofAt_49 rfl (lv_at hl 1 rfl) ?_
                refine lv_iload (pc := 50) F.1 F.2.1 dX7_proofAt_50 (lv_at hl 7 rfl) ?_
                refine mm_runV (pc := 52) (As := [.int (nI k), .int (nI y)]) (rest := []) F hN (c_isLett l b D hst T th rd σ hM hW k y (by omega) (by omega)) mw_1411 mw_1413 mw_p35 mw_6 mw_1414 ⟨pmX7_isLetter, (Nat.le_of_ble_eq_true rfl), (Nat.le_of_ble_eq_true rfl)⟩ (mm_recv F.2.2.2.2.2.1 hN (mm_r0 hM) rfl) hl.1 rfl (Nat.le_of_ble_eq_true rfl) ⟨(Nat.le_of_ble_eq_true rfl), (Nat.le_of_ble_eq_true rfl)⟩ dX7_proofAt_52
                  (fun _ _ _ _ _ _ h9 => False.elim h9)
                  (fun v9 σ9 H locs hp9 hN => ?_)
                obtain ⟨rfl, h9⟩ := hp9
                rw [h9] at hN
                refine W.eq (g2 := F0 m 55 ls [.int (nI (if T.oc k y = 108 then 1 else 0))]) rfl ?_
                refine W.widen (k := 0) (n := 0) (Nat.le_of_ble_eq_true rfl) (Nat.le_of_ble_eq_true rfl) ?_
                by_cases hl9 : T.oc k y = 108
                ·
                  refine W.eq (g2 := F0 m 55 ls [.int (nI 1)]) (by rw [if_pos hl9]) ?_
                  refine mm_if_eq (pc := 55) F (tgt := 77) (by omega) dX7_proofAt_55 (by decide) (fun h9 => absurd h9 (by decide)) (fun cz55 => ?_)
                  refine lv_aload_n (pc := 58) F.1 F.2.1 dX7_proofAt_58 rfl (lv_at hl 0 rfl) ?_
                  refine mm_get (pc := 59) F hN (mm_r0 hM) (ci := 7) rfl 21 (by decide) mw_1200 rfl dX7_proofAt_59 ?_
                  refine lv_iload_n (pc := 62) F.1 F.2.1 dX7_proofAt_62 rfl (lv_at hl 1 rfl) ?_
                  refine mm_aald (pc := 63) F hN ((show σ (rd 17 0) = mm_arq 1 5 10 (fun i => if i < 10 then some (rd 17 (i + 1)) else none) from mm_rq17 (T := T) hM)) rfl rfl (j := k) (rfl) (by omega) (by decide) (if_pos (by omega)) dX7_proofAt_63 ?_
                  refine lv_iload (pc := 64) F.1 F.2.1 dX7_proofAt_64 (lv_at hl 7 rfl) ?_
                  refine mm_iald (pc := 66) F hN ((show σ (rd 17 (k + 1)) = mm_ari 1 0 24 (fun b9 => nI (T.rt k b9)) from mm_rr17 (T := T) hM (i := k) (by omega))) (j := y) (rfl) (by omega) (by decide) dX7_proofAt_66 ?_
                  refine lv_iload_n (pc := 67) F.1 F.2.1 dX7_proofAt_67 rfl (lv_at hl 3 rfl) ?_
                  refine lv_iconst (pc := 68) (v := (-1)) F.1 F.2.1 dX7_proofAt_68 (by decide) ?_
                  refine lv_ixor (pc := 69) F.1 F.2.1 dX7_proofAt_69 ?_
                  refine mm_iand (pc := 70) F (z := (nI (T.rt k y)) &&& ((nI (mm_hd (mm_fr T k) (T.rp k) v)) ^^^ ((-1)))) (rfl) dX7_proofAt_70 ?_
                  refine W.eq (g2 := F0 m 71 ls [.int (nI (mm_an (T.rt k y) (mm_hd (mm_fr T k) (T.rp k) v)))]) (congrArg (fun q => F0 m 71 ls [Value.int q]) (mm_anI _ _)) ?_
                  refine mm_runS (pc := 71) (As := [.int (nI (mm_an (T.rt k y) (mm_hd (mm_fr T k) (T.rp k) v)))]) (rest := []) F hN (c_bitCount l b D hst (mm_an (T.rt k y) (mm_hd (mm_fr T k) (T.rp k) v)) (Nat.lt_of_le_of_lt (mm_an_le _ _) wy4) σ) mw_1435 mw_979 mw_31 mw_980 ⟨pmJ6_bitCount_0f7a4, (Nat.le_of_ble_eq_true rfl), (Nat.le_of_ble_eq_true rfl)⟩ hl.1 rfl (Nat.le_of_ble_eq_true rfl) ⟨(Nat.le_of_ble_eq_true rfl), (Nat.le_of_ble_eq_true rfl)⟩ dX7_proofAt_71
                    (fun _ _ _ _ _ _ h9 => False.elim h9)
                    (fun v9 σ9 H locs hp9 hN => ?_)
                  obtain ⟨rfl, h9⟩ := hp9
                  rw [h9] at hN
                  refine W.eq (g2 := F0 m 74 ls [.int (nI (mm_pc (mm_an (T.rt k y) (mm_hd (mm_fr T k) (T.rp k) v))))]) rfl ?_
                  refine W.widen (k := 0) (n := 0) (Nat.le_of_ble_eq_true rfl) (Nat.le_of_ble_eq_true rfl) ?_
                  refine lv_goto (pc := 74) (tgt := 78) F.1 F.2.1 dX7_proofAt_74 (by decide) ?_
                  refine W.eq (g2 := F0 m 78 ls [.int (nI ((mm_it (mm_fr T k) (mm_hd (mm_fr T k) (T.rp k) v)) y))]) (congrArg (fun q => F0 m 78 ls [Value.int (nI q)]) (show _ = (if T.oc k y = 108 then mm_pc (mm_an (T.rt k y) (mm_hd (mm_fr T k) (T.rp k) v)) else 0) from (if_pos hl9).symm)) ?_
                  have hit9 := mm_it_le (mm_fr T k) (mm_hd (mm_fr T k) (T.rp k) v) y
                  refine lv_istore (pc := 78) (lv' := [(8, .int (nI ((mm_it (mm_fr T k) (mm_hd (mm_fr T k) (T.rp k) v)) y))), (0, .ref ((rd 0 0))), (1, .int (nI k)), (2, .int (nI j)), (3, .int (nI (mm_hd (mm_fr T k) (T.rp k) v))), (4, .int (nI v)), (5, .int b2), (6, .int (nI ((mm_bs (mm_it (mm_fr T k) (mm_hd (mm_fr T k) (T.rp k) v)) y).2))), (7, .int (nI y))]) F.1 F.2.1 dX7_proofAt_78 hl (by decide) rfl (fun ls hl => ?_)
                  refine lv_iload (pc := 80) F.1 F.2.1 dX7_proofAt_80 (lv_at hl 0 rfl) ?_
                  refine lv_iload (pc := 82) F.1 F.2.1 dX7_proofAt_82 (lv_at hl 7 rfl) ?_
                  refine mm_icmp_le (pc := 84) F (x := (mm_it (mm_fr T k) (mm_hd (mm_fr T k) (T.rp k) v)) y) (y := (mm_bs (mm_it (mm_fr T k) (mm_hd (mm_fr T k) (T.rp k) v)) y).2) (tgt := 92) (by omega) (by omega) dX7_proofAt_84 (by decide) (fun cz84 => ?_) (fun cz84 => ?_)
                  ·
                    refine lv_iload (pc := 92) F.1 F.2.1 dX7_proofAt_92 (lv_at hl 6 rfl) ?_
                    refine lv_istore (pc := 94) (lv' := [(5, .int b2), (8, .int (nI ((mm_it (mm_fr T k) (mm_hd (mm_fr T k) (T.rp k) v)) y))), (0, .ref ((rd 0 0))), (1, .int (nI k)), (2, .int (nI j)), (3, .int (nI (mm_hd (mm_fr T k) (T.rp k) v))), (4, .int (nI v)), (6, .int (nI ((mm_bs (mm_it (mm_fr T k) (mm_hd (mm_fr T k) (T.rp k) v)) y).2))), (7, .int (nI y))]) F.1 F.2.1 dX7_proofAt_94 hl (by decide) rfl (fun ls hl => ?_)
                    refine lv_iload (pc := 96) F.1 F.2.1 dX7_proofAt_96 (lv_at hl 7 rfl) ?_
                    refine lv_iload (pc := 98) F.1 F.2.1 dX7_proofAt_98 (lv_at hl 1 rfl) ?_
                    refine va_mmax (pc := 100) F.1 F.2.1 (F.2.2.1.trans hl.1.symm) F.2.2.2.1 (F.2.2.2.2.1 _ mw_1436) (F.2.2.2.2.1 _ mw_377) (F.2.2.2.2.1 _ mw_14) (F.2.2.2.2.1 _ mw_378) (Nat.le_of_ble_eq_true rfl) (Nat.le_of_ble_eq_true rfl) (Nat.zero_le _) (Nat.zero_le _) dX7_proofAt_100 ?_
                    refine W.eq (g2 := F0 m 103 ls [.int (nI ((max ((mm_bs (mm_it (mm_fr T k) (mm_hd (mm_fr T k) (T.rp k) v)) y).2) ((mm_it (mm_fr T k) (mm_hd (mm_fr T k) (T.rp k) v)) y))))]) (congrArg (fun z => F0 m 103 ls (.int z :: [])) (mm_max (by omega) (by omega))) ?_
                    refine lv_istore (pc := 103) (lv' := [(6, .int (nI ((max ((mm_bs (mm_it (mm_fr T k) (mm_hd (mm_fr T k) (T.rp k) v)) y).2) ((mm_it (mm_fr T k) (mm_hd (mm_fr T k) (T.rp k) v)) y))))), (5, .int b2), (8, .int (nI ((mm_it (mm_fr T k) (mm_hd (mm_fr T k) (T.rp k) v)) y))), (0, .ref ((rd 0 0))), (1, .int (nI k)), (2, .int (nI j)), (3, .int (nI (mm_hd (mm_fr T k) (T.rp k) v))), (4, .int (nI v)), (7, .int (nI y))]) F.1 F.2.1 dX7_proofAt_103 hl (by decide) rfl (fun ls hl => ?_)
                    refine lv_iinc (pc := 105) (v := nI (y + 1)) (lv' := [(7, .int (nI (y + 1))), (6, .int (nI ((max ((mm_bs (mm_it (mm_fr T k) (mm_hd (mm_fr T k) (T.rp k) v)) y).2) ((mm_it (mm_fr T k) (mm_hd (mm_fr T k) (T.rp k) v)) y))))), (5, .int b2), (8, .int (nI ((mm_it (mm_fr T k) (mm_hd (mm_fr T k) (T.rp k) v)) y))), (0, .ref ((rd 0 0))), (1, .int (nI k)), (2, .int (nI j)), (3, .int (nI (mm_hd (mm_fr T k) (T.rp k) v))), (4, .int (nI v))]) F.1 F.2.1 dX7_proofAt_105 hl (k := 8) rfl (by rw [← nI_add]; rfl) (by decide) rfl (fun ls hl => ?_)
                    refine lv_goto (pc := 108) (tgt := 37) F.1 F.2.1 dX7_proofAt_108 (by decide) ?_
                    have hs9 : (mm_bs (mm_it (mm_fr T k) (mm_hd (mm_fr T k) (T.rp k) v)) (y + 1)) = (mm_bs (mm_it (mm_fr T k) (mm_hd (mm_fr T k) (T.rp k) v)) y) := if_neg (by omega)
                    have e6 : max ((mm_bs (mm_it (mm_fr T k) (mm_hd (mm_fr T k) (T.rp k) v)) y).2) ((mm_it (mm_fr T k) (mm_hd (mm_fr T k) (T.rp k) v)) y) = (mm_bs (mm_it (mm_fr T k) (mm_hd (mm_fr T k) (T.rp k) v)) (y + 1)).2 := by rw [hs9]; exact Nat.max_eq_left (by omega)
                    rw [e6] at hl
                    exact ih37 (y + 1) b2 ls _ _ (by omega) (by omega) (by rw [hs9]; exact hb2) hN (lv_sub hl [4, 5, 6, 7, 8, 2, 1, 0] rfl)
                  ·
                    refine lv_iload (pc := 87) F.1 F.2.1 dX7_proofAt_87 (lv_at hl 8 rfl) ?_
                    refine lv_goto (pc := 89) (tgt := 94) F.1 F.2.1 dX7_proofAt_89 (by decide) ?_
                    refine lv_istore (pc := 94) (lv' := [(5, .int (nI y)), (8, .int (nI ((mm_it (mm_fr T k) (mm_hd (mm_fr T k) (T.rp k) v)) y))), (0, .ref ((rd 0 0))), (1, .int (nI k)), (2, .int (nI j)), (3, .int (nI (mm_hd (mm_fr T k) (T.rp k) v))), (4, .int (nI v)), (6, .int (nI ((mm_bs (mm_it (mm_fr T k) (mm_hd (mm_fr T k) (T.rp k) v)) y).2))), (7, .int (nI y))]) F.1 F.2.1 dX7_proofAt_94 hl (by decide) rfl (fun ls hl => ?_)
                    refine lv_iload (pc := 96) F.1 F.2.1 dX7_proofAt_96 (lv_at hl 7 rfl) ?_
                    refine lv_iload (pc := 98) F.1 F.2.1 dX7_proofAt_98 (lv_at hl 1 rfl) ?_
                    refine va_mmax (pc := 100) F.1 F.2.1 (F.2.2.1.trans hl.1.symm) F.2.2.2.1 (F.2.2.2.2.1 _ mw_1436) (F.2.2.2.2.1 _ mw_377) (F.2.2.2.2.1 _ mw_14) (F.2.2.2.2.1 _ mw_378) (Nat.le_of_ble_eq_true rfl) (Nat.le_of_ble_eq_true rfl) (Nat.zero_le _) (Nat.zero_le _) dX7_proofAt_100 ?_
                    refine W.eq (g2 := F0 m 103 ls [.int (nI ((max ((mm_bs (mm_it (mm_fr T k) (mm_hd (mm_fr T k) (T.rp k) v)) y).2) ((mm_it (mm_fr T k) (mm_hd (mm_fr T k) (T.rp k) v)) y))))]) (congrArg (fun z => F0 m 103 ls (.int z :: [])) (mm_max (by omega) (by omega))) ?_
                    refine lv_istore (pc := 103) (lv' := [(6, .int (nI ((max ((mm_bs (mm_it (mm_fr T k) (mm_hd (mm_fr T k) (T.rp k) v)) y).2) ((mm_it (mm_fr T k) (mm_hd (mm_fr T k) (T.rp k) v)) y))))), (5, .int (nI y)), (8, .int (nI ((mm_it (mm_fr T k) (mm_hd (mm_fr T k) (T.rp k) v)) y))), (0, .ref ((rd 0 0))), (1, .int (nI k)), (2, .int (nI j)), (3, .int (nI (mm_hd (mm_fr T k) (T.rp k) v))), (4, .int (nI v)), (7, .int (nI y))]) F.1 F.2.1 dX7_proofAt_103 hl (by decide) rfl (fun ls hl => ?_)
                    refine lv_iinc (pc := 105) (v := nI (y + 1)) (lv' := [(7, .int (nI (y + 1))), (6, .int (nI ((max ((mm_bs (mm_it (mm_fr T k) (mm_hd (mm_fr T k) (T.rp k) v)) y).2) ((mm_it (mm_fr T k) (mm_hd (mm_fr T k) (T.rp k) v)) y))))), (5, .int (nI y)), (8, .int (nI ((mm_it (mm_fr T k) (mm_hd (mm_fr T k) (T.rp k) v)) y))), (0, .ref ((rd 0 0))), (1, .int (nI k)), (2, .int (nI j)), (3, .int (nI (mm_hd (mm_fr T k) (T.rp k) v))), (4, .int (nI v))]) F.1 F.2.1 dX7_proofAt_105 hl (k := 8) rfl (by rw [← nI_add]; rfl) (by decide) rfl (fun ls hl => ?_)
                    refine lv_goto (pc := 108) (tgt := 37) F.1 F.2.1 dX7_proofAt_108 (by decide) ?_
                    have hs9 : (mm_bs (mm_it (mm_fr T k) (mm_hd (mm_fr T k) (T.rp k) v)) (y + 1)) = (y + 1, (mm_it (mm_fr T k) (mm_hd (mm_fr T k) (T.rp k) v)) y) := if_pos (by omega)
                    have e6 : max ((mm_bs (mm_it (mm_fr T k) (mm_hd (mm_fr T k) (T.rp k) v)) y).2) ((mm_it (mm_fr T k) (mm_hd (mm_fr T k) (T.rp k) v)) y) = (mm_bs (mm_it (mm_fr T k) (mm_hd (mm_fr T k) (T.rp k) v)) (y + 1)).2 := by rw [hs9]; exact Nat.max_eq_right (by omega)
                    rw [e6] at hl
                    exact ih37 (y + 1) (nI y) ls _ _ (by omega) (by omega) (by rw [hs9]; rfl) hN (lv_sub hl [4, 5, 6, 7, 8, 2, 1, 0] rfl)
                ·
                  refine W.eq (g2 := F0 m 55 ls [.int (nI 0)]) (by rw [if_neg hl9]) ?_
                  refine mm_if_eq (pc := 55) F (tgt := 77) (by omega) dX7_proofAt_55 (by decide) (fun cz55 => ?_) (fun h9 => absurd h9 (by decide))
                  refine lv_iconst (pc := 77) (v := nI 0) F.1 F.2.1 dX7_proofAt_77 (by decide) ?_
                  refine W.eq (g2 := F0 m 78 ls [.int (nI ((mm_it (mm_fr T k) (mm_hd (mm_fr T k) (T.rp k) v)) y))]) (congrArg (fun q => F0 m 78 ls [Value.int (nI q)]) (show _ = (if T.oc k y = 108 then mm_pc (mm_an (T.rt k y) (mm_hd (mm_fr T k) (T.rp k) v)) else 0) from (if_neg hl9).symm)) ?_
                  have hit9 := mm_it_le (mm_fr T k) (mm_hd (mm_fr T k) (T.rp k) v) y
                  refine lv_istore (pc := 78) (lv' := [(8, .int (nI ((mm_it (mm_fr T k) (mm_hd (mm_fr T k) (T.rp k) v)) y))), (0, .ref ((rd 0 0))), (1, .int (nI k)), (2, .int (nI j)), (3, .int (nI (mm_hd (mm_fr T k) (T.rp k) v))), (4, .int (nI v)), (5, .int b2), (6, .int (nI ((mm_bs (mm_it (mm_fr T k) (mm_hd (mm_fr T k) (T.rp k) v)) y).2))), (7, .int (nI y))]) F.1 F.2.1 dX7_proofAt_78 hl (by decide) rfl (fun ls hl => ?_)
                  refine lv_iload (pc := 80) F.1 F.2.1 dX7_proofAt_80 (lv_at hl 0 rfl) ?_
                  refine lv_iload (pc := 82) F.1 F.2.1 dX7_proofAt_82 (lv_at hl 7 rfl) ?_
                  refine mm_icmp_le (pc := 84) F (x := (mm_it (mm_fr T k) (mm_hd (mm_fr T k) (T.rp k) v)) y) (y := (mm_bs (mm_it (mm_fr T k) (mm_hd (mm_fr T k) (T.rp k) v)) y).2) (tgt := 92) (by omega) (by omega) dX7_proofAt_84 (by decide) (fun cz84 => ?_) (fun cz84 => ?_)
                  ·
                    refine lv_iload (pc := 92) F.1 F.2.1 dX7_proofAt_92 (lv_at hl 6 rfl) ?_
                    refine lv_istore (pc := 94) (lv' := [(5, .int b2), (8, .int (nI ((mm_it (mm_fr T k) (mm_hd (mm_fr T k) (T.rp k) v)) y))), (0, .ref ((rd 0 0))), (1, .int (nI k)), (2, .int (nI j)), (3, .int (nI (mm_hd (mm_fr T k) (T.rp k) v))), (4, .int (nI v)), (6, .int (nI ((mm_bs (mm_it (mm_fr T k) (mm_hd (mm_fr T k) (T.rp k) v)) y).2))), (7, .int (nI y))]) F.1 F.2.1 dX7_proofAt_94 hl (by decide) rfl (fun ls hl => ?_)
                    refine lv_iload (pc := 96) F.1 F.2.1 dX7_proofAt_96 (lv_at hl 7 rfl) ?_
                    refine lv_iload (pc := 98) F.1 F.2.1 dX7_proofAt_98 (lv_at hl 1 rfl) ?_
                    refine va_mmax (pc := 100) F.1 F.2.1 (F.2.2.1.trans hl.1.symm) F.2.2.2.1 (F.2.2.2.2.1 _ mw_1436) (F.2.2.2.2.1 _ mw_377) (F.2.2.2.2.1 _ mw_14) (F.2.2.2.2.1 _ mw_378) (Nat.le_of_ble_eq_true rfl) (Nat.le_of_ble_eq_true rfl) (Nat.zero_le _) (Nat.zero_le _) dX7_proofAt_100 ?_
                    refine W.eq (g2 := F0 m 103 ls [.int (nI ((max ((mm_bs (mm_it (mm_fr T k) (mm_hd (mm_fr T k) (T.rp k) v)) y).2) ((mm_it (mm_fr T k) (mm_hd (mm_fr T k) (T.rp k) v)) y))))]) (congrArg (fun z => F0 m 103 ls (.int z :: [])) (mm_max (by omega) (by omega))) ?_
                    refine lv_istore (pc := 103) (lv' := [(6, .int (nI ((max ((mm_bs (mm_it (mm_fr T k) (mm_hd (mm_fr T k) (T.rp k) v)) y).2) ((mm_it (mm_fr T k) (mm_hd (mm_fr T k) (T.rp k) v)) y))))), (5, .int b2), (8, .int (nI ((mm_it (mm_fr T k) (mm_hd (mm_fr T k) (T.rp k) v)) y))), (0, .ref ((rd 0 0))), (1, .int (nI k)), (2, .int (nI j)), (3, .int (nI (mm_hd (mm_fr T k) (T.rp k) v))), (4, .int (nI v)), (7, .int (nI y))]) F.1 F.2.1 dX7_proofAt_103 hl (by decide) rfl (fun ls hl => ?_)
                    refine lv_iinc (pc := 105) (v := nI (y + 1)) (lv' := [(7, .int (nI (y + 1))), (6, .int (nI ((max ((mm_bs (mm_it (mm_fr T k) (mm_hd (mm_fr T k) (T.rp k) v)) y).2) ((mm_it (mm_fr T k) (mm_hd (mm_fr T k) (T.rp k) v)) y))))), (5, .int b2), (8, .int (nI ((mm_it (mm_fr T k) (mm_hd (mm_fr T k) (T.rp k) v)) y))), (0, .ref ((rd 0 0))), (1, .int (nI k)), (2, .int (nI j)), (3, .int (nI (mm_hd (mm_fr T k) (T.rp k) v))), (4, .int (nI v))]) F.1 F.2.1 dX7_proofAt_105 hl (k := 8) rfl (by rw [← nI_add]; rfl) (by decide) rfl (fun ls hl => ?_)
                    refine lv_goto (pc := 108) (tgt := 37) F.1 F.2.1 dX7_proofAt_108 (by decide) ?_
                    have hs9 : (mm_bs (mm_it (mm_fr T k) (mm_hd (mm_fr T k) (T.rp k) v)) (y + 1)) = (mm_bs (mm_it (mm_fr T k) (mm_hd (mm_fr T k) (T.rp k) v)) y) := if_neg (by omega)
                    have e6 : max ((mm_bs (mm_it (mm_fr T k) (mm_hd (mm_fr T k) (T.rp k) v)) y).2) ((mm_it (mm_fr T k) (mm_hd (mm_fr T k) (T.rp k) v)) y) = (mm_bs (mm_it (mm_fr T k) (mm_hd (mm_fr T k) (T.rp k) v)) (y + 1)).2 := by rw [hs9]; exact Nat.max_eq_left (by omega)
                    rw [e6] at hl
                    exact ih37 (y + 1) b2 ls _ _ (by omega) (by omega) (by rw [hs9]; exact hb2) hN (lv_sub hl [4, 5, 6, 7, 8, 2, 1, 0] rfl)
                  ·
                    refine lv_iload (pc := 87) F.1 F.2.1 dX7_proofAt_87 (lv_at hl 8 rfl) ?_
                    refine lv_goto (pc := 89) (tgt := 94) F.1 F.2.1 dX7_proofAt_89 (by decide) ?_
                    refine lv_istore (pc := 94) (lv' := [(5, .int (nI y)), (8, .int (nI ((mm_it (mm_fr T k) (mm_hd (mm_fr T k) (T.rp k) v)) y))), (0, .ref ((rd 0 0))), (1, .int (nI k)), (2, .int (nI j)), (3, .int (nI (mm_hd (mm_fr T k) (T.rp k) v))), (4, .int (nI v)), (6, .int (nI ((mm_bs (mm_it (mm_fr T k) (mm_hd (mm_fr T k) (T.rp k) v)) y).2))), (7, .int (nI y))]) F.1 F.2.1 dX7_proofAt_94 hl (by decide) rfl (fun ls hl => ?_)
                    refine lv_iload (pc := 96) F.1 F.2.1 dX7_proofAt_96 (lv_at hl 7 rfl) ?_
                    refine lv_iload (pc := 98) F.1 F.2.1 dX7_proofAt_98 (lv_at hl 1 rfl) ?_
                    refine va_mmax (pc := 100) F.1 F.2.1 (F.2.2.1.trans hl.1.symm) F.2.2.2.1 (F.2.2.2.2.1 _ mw_1436) (F.2.2.2.2.1 _ mw_377) (F.2.2.2.2.1 _ mw_14) (F.2.2.2.2.1 _ mw_378) (Nat.le_of_ble_eq_true rfl) (Nat.le_of_ble_eq_true rfl) (Nat.zero_le _) (Nat.zero_le _) dX7_proofAt_100 ?_
                    refine W.eq (g2 := F0 m 103 ls [.int (nI ((max ((mm_bs (mm_it (mm_fr T k) (mm_hd (mm_fr T k) (T.rp k) v)) y).2) ((mm_it (mm_fr T k) (mm_hd (mm_fr T k) (T.rp k) v)) y))))]) (congrArg (fun z => F0 m 103 ls (.int z :: [])) (mm_max (by omega) (by omega))) ?_
                    refine lv_istore (pc := 103) (lv' := [(6, .int (nI ((max ((mm_bs (mm_it (mm_fr T k) (mm_hd (mm_fr T k) (T.rp k) v)) y).2) ((mm_it (mm_fr T k) (mm_hd (mm_fr T k) (T.rp k) v)) y))))), (5, .int (nI y)), (8, .int (nI ((mm_it (mm_fr T k) (mm_hd (mm_fr T k) (T.rp k) v)) y))), (0, .ref ((rd 0 0))), (1, .int (nI k)), (2, .int (nI j)), (3, .int (nI (mm_hd (mm_fr T k) (T.rp k) v))), (4, .int (nI v)), (7, .int (nI y))]) F.1 F.2.1 dX7_proofAt_103 hl (by decide) rfl (fun ls hl => ?_)
                    refine lv_iinc (pc := 105) (v := nI (y + 1)) (lv' := [(7, .int (nI (y + 1))), (6, .int (nI ((max ((mm_bs (mm_it (mm_fr T k) (mm_hd (mm_fr T k) (T.rp k) v)) y).2) ((mm_it (mm_fr T k) (mm_hd (mm_fr T k) (T.rp k) v)) y))))), (5, .int (nI y)), (8, .int (nI ((mm_it (mm_fr T k) (mm_hd (mm_fr T k) (T.rp k) v)) y))), (0, .ref ((rd 0 0))), (1, .int (nI k)), (2, .int (nI j)), (3, .int (nI (mm_hd (mm_fr T k) (T.rp k) v))), (4, .int (nI v))]) F.1 F.2.1 dX7_proofAt_105 hl (k := 8) rfl (by rw [← nI_add]; rfl) (by decide) rfl (fun ls hl => ?_)
                    refine lv_goto (pc := 108) (tgt := 37) F.1 F.2.1 dX7_proofAt_108 (by decide) ?_
                    have hs9 : (mm_bs (mm_it (mm_fr T k) (mm_hd (mm_fr T k) (T.rp k) v)) (y + 1)) = (y + 1, (mm_it (mm_fr T k) (mm_hd (mm_fr T k) (T.rp k) v)) y) := if_pos (by omega)
                    have e6 : max ((mm_bs (mm_it (mm_fr T k) (mm_hd (mm_fr T k) (T.rp k) v)) y).2) ((mm_it (mm_fr T k) (mm_hd (mm_fr T k) (T.rp k) v)) y) = (mm_bs (mm_it (mm_fr T k) (mm_hd (mm_fr T k) (T.rp k) v)) (y + 1)).2 := by rw [hs9]; exact Nat.max_eq_right (by omega)
                    rw [e6] at hl
                    exact ih37 (y + 1) (nI y) ls _ _ (by omega) (by omega) (by rw [hs9]; rfl) hN (lv_sub hl [4, 5, 6, 7, 8, 2, 1, 0] rfl)
          exact lp37 ((T.rp k) + 1) 0 ((-1)) ls _ _ (by omega) (by omega) (rfl) hN (lv_sub hl [3, 4, 5, 6, 7, 2, 1, 0] rfl)
    exact lp22 (9 + 1) 0 ((nI 0)) ls _ _ (by omega) (by omega) (Or.inl ⟨by decide, by decide, fun i9 h => absurd h (Nat.not_lt_zero _)⟩) hN (lv_sub hl [3, 4, 5, 2, 1, 0] rfl)
  ·
    refine W.eq (g2 := F0 m 5 ls [.int (nI 0)]) (by rw [if_neg hrk]) ?_
    refine mm_if_ne (pc := 5) F (tgt := 14) (by omega) dX7_proofAt_5 (by decide) (fun h9 => absurd h9 (by decide)) (fun cz5 => ?_)
    refine lv_aload_n (pc := 8) F.1 F.2.1 dX7_proofAt_8 rfl (lv_at hl 0 rfl) ?_
    refine lv_iconst (pc := 9) (v := nI 1) F.1 F.2.1 dX7_proofAt_9 (by decide) ?_
    refine mm_runV (pc := 10) (As := [.int (nI 1)]) (rest := []) F hN (r_raises l b D hst T th rd σ hM 1) mw_1399 mw_1401 mw_p34 mw_6 mw_1402 ⟨pmX7_raises, (Nat.le_of_ble_eq_true rfl), (Nat.le_of_ble_eq_true rfl)⟩ (mm_recv F.2.2.2.2.2.1 hN (mm_r0 hM) rfl) hl.1 rfl (Nat.le_of_ble_eq_true rfl) ⟨(Nat.le_of_ble_eq_true rfl), (Nat.le_of_ble_eq_true rfl)⟩ dX7_proofAt_10
      (fun _ _ _ _ _ _ h9 => False.elim h9)
      (fun v9 σ4 H locs hp9 hN => ?_)
    obtain ⟨rfl, hM4, hF4⟩ := hp9
    refine W.eq (g2 := F0 m 13 ls [.int (nI 0)]) rfl ?_
    refine W.widen (k := 0) (n := 0) (Nat.le_of_ble_eq_true rfl) (Nat.le_of_ble_eq_true rfl) ?_
    exact mm_iret (pc := 13) F hr hN (Or.inr ⟨by rw [show mm_q_proofAt T k j = 1 from by show mm_q_proofAt T k j = 1; unfold mm_q_proofAt; (repeat' split) <;> omega]; decide, ⟨_, rfl⟩, by rw [show mm_q_proofAt T k j = 1 from by show mm_q_proofAt T k j = 1; unfold mm_q_proofAt; (repeat' split) <;> omega]; exact hM4, ((mm_Fr.rf).tr hF4)⟩) (Nat.le_of_ble_eq_true rfl) (Nat.le_of_ble_eq_true rfl) dX7_proofAt_13

