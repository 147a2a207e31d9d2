/-! sums -/
theorem lq_sm_cut {P : Nat → Prop} [DecidablePred P] {g : Nat → Nat} {r n : Nat} (h : r ≤ n) : mm_sm (fun p => if p < r ∧ P p then g p else 0) n = mm_sm (fun p => if P p then g p else 0) r := by
  induction n with
  | zero =>
    have : r = 0 := by omega
    subst this
    rfl
  | succ n ih =>
    by_cases e : r = n + 1
    · subst e
      refine mm_sm_congr (fun p hp => ?_)
      by_cases hP : P p
      · rw [if_pos ⟨hp, hP⟩, if_pos hP]
      · rw [if_neg (fun q => hP q.2), if_neg hP]
    · show mm_sm _ n + (if n < r ∧ P n then g n else 0) = _
      rw [if_neg (fun q => by have := q.1; omega), ih (by omega)]
      rfl
theorem lq_sm_add (f g : Nat → Nat) (n : Nat) : mm_sm (fun i => f i + g i) n = mm_sm f n + mm_sm g n := by
  induction n with
  | zero => rfl
  | succ n ih =>
    show mm_sm (fun i => f i + g i) n + (f n + g n) = (mm_sm f n + f n) + (mm_sm g n + g n)
    rw [ih]
    omega
theorem lq_sm_z (n : Nat) : mm_sm (fun _ => 0) n = 0 := by
  induction n with
  | zero => rfl
  | succ n ih =>
    show mm_sm (fun _ => 0) n + 0 = 0
    rw [ih]
theorem lq_sm_swap (h : Nat → Nat → Nat) (k n : Nat) : mm_sm (fun te => mm_sm (h te) n) k = mm_sm (fun p => mm_sm (fun te => h te p) k) n := by
  induction k with
  | zero => exact (lq_sm_z n).symm
  | succ k ih =>
    show mm_sm (fun te => mm_sm (h te) n) k + mm_sm (h k) n = mm_sm (fun p => mm_sm (fun te => h te p) k + h k p) n
    rw [ih, lq_sm_add]
theorem lq_sm_one {P : Prop} [Decidable P] {d : Nat} (k : Nat) : mm_sm (fun te => if P ∧ d = te then 1 else 0) k = if P ∧ d < k then 1 else 0 := by
  induction k with
  | zero =>
    rw [if_neg (fun q => absurd q.2 (Nat.not_lt_zero _))]
    rfl
  | succ k ih =>
    show mm_sm (fun te => if P ∧ d = te then 1 else 0) k + (if P ∧ d = k then 1 else 0) = _
    rw [ih]
    by_cases hP : P
    · by_cases h1 : d < k
      · rw [if_pos ⟨hP, h1⟩, if_neg (fun q => by have := q.2; omega), if_pos ⟨hP, by omega⟩]
      · by_cases h2 : d = k
        · rw [if_neg (fun q => h1 q.2), if_pos ⟨hP, h2⟩, if_pos ⟨hP, by omega⟩]
        · rw [if_neg (fun q => h1 q.2), if_neg (fun q => h2 q.2), if_neg (fun q => by have := q.2; omega)]
    · rw [if_neg (fun q => hP q.1), if_neg (fun q => hP q.1), if_neg (fun q => hP q.1)]
theorem lq_sm_mono {f g : Nat → Nat} {n : Nat} (h : ∀ i, i < n → f i ≤ g i) : mm_sm f n ≤ mm_sm g n := by
  induction n with
  | zero => exact Nat.le_refl _
  | succ n ih =>
    have h1 := ih (fun i hi => h i (by omega))
    have h2 := h n (by omega)
    show mm_sm f n + f n ≤ mm_sm g n + g n
    omega
theorem lq_routes {T : mm_T} (hW : mm_WF T) {r : Nat} (hr : r < T.nR) : mm_sm (fun te => mm_sm (fun p => if T.oc r p = 108 ∧ T.rc r p / 10 = te then 1 else 0) (T.rp r)) 10 = mm_nl T r := by
  rw [lq_sm_swap (fun te p => if T.oc r p = 108 ∧ T.rc r p / 10 = te then 1 else 0)]
  refine mm_sm_congr (fun p hp => ?_)
  show mm_sm (fun te => if T.oc r p = 108 ∧ T.rc r p / 10 = te then 1 else 0) 10 = _
  rw [lq_sm_one]
  have := ((hW.hru r hr).2.2.2 p hp).2.1
  by_cases h : T.oc r p = 108
  · rw [if_pos ⟨h, by omega⟩, if_pos h]
  · rw [if_neg (fun q => h q.1), if_neg h]
/-! outcomes -/
theorem lq_oc115 {T : mm_T} {t hh p : Nat} : mm_oc T t hh p = 115 ↔ ¬ T.re p = 45 := by
  have h1 : T.re p = 45 → mm_obs T t hh p ≠ 115 := by
    intro h
    unfold mm_obs
    rw [if_neg (fun q => q h)]
    repeat' split
    all_goals decide
  have h2 : ¬ T.re p = 45 → mm_obs T t hh p = 115 := fun h => by
    unfold mm_obs
    exact if_pos h
  unfold mm_oc
  by_cases h : T.re p = 45
  · refine ⟨fun q => ?_, fun q => absurd h q⟩
    have h3 := h1 h
    revert q
    split
    · exact fun q => absurd q h3
    · split
      · exact fun q => absurd q (by decide)
      · exact fun q => absurd q (by decide)
  · rw [h2 h, if_pos (by decide)]
    exact ⟨fun _ => h, fun _ => rfl⟩
theorem lq_oc104 {T : mm_T} {t p : Nat} : ¬ mm_oc T t 0 p = 104 := by
  have h1 : mm_obs T t 0 p ≠ 104 := by
    unfold mm_obs
    split
    · decide
    · split
      · decide
      · split
        · decide
        · rw [if_neg (fun q => q.1 rfl)]
          decide
  unfold mm_oc
  split
  · exact h1
  · split <;> decide
/-! the posted letters -/
theorem lq_po_nd (oc rc : Nat → Nat) (n : Nat) : (mm_po oc rc n).Nodup := by
  induction n with
  | zero => exact List.nodup_nil
  | succ n ih =>
    rw [show mm_po oc rc (n + 1) = if oc n = 108 then (mm_po oc rc n).insertIdx (mm_sm (fun i => if rc ((mm_po oc rc n).getD i 0) ≤ rc n then 1 else 0) (mm_po oc rc n).length) n else mm_po oc rc n from rfl]
    split
    · exact (List.perm_insertIdx n _ (mm_sm1 _)).nodup_iff.mpr (List.nodup_cons.mpr ⟨fun h => absurd (mm_po_lt oc rc n n h).1 (Nat.lt_irrefl _), ih⟩)
    · exact ih
theorem lq_nd_ne {L : List Nat} (h : L.Nodup) {i j : Nat} (hij : i < j) (hj : j < L.length) : L.getD i 0 ≠ L.getD j 0 := by
  have h1 := List.pairwise_iff_getElem.mp (List.nodup_iff_pairwise_ne.mp h) i j (by omega) hj hij
  rw [List.getD_eq_getElem?_getD, List.getElem?_eq_getElem (show i < L.length by omega), List.getD_eq_getElem?_getD, List.getElem?_eq_getElem hj]
  exact h1
/-- who stands among the first k of a row -/
def lq_in (L : List Nat) (k j : Nat) : Nat := if mm_ex (fun i => decide (L.getD i 0 = j)) k = true then 1 else 0
theorem lq_in_new {L : List Nat} (h : L.Nodup) {k : Nat} (hk : k < L.length) : lq_in L k (L.getD k 0) = 0 := by
  refine if_neg (fun q => ?_)
  obtain ⟨i, h1, h2⟩ := mm_ex_iff.mp q
  exact lq_nd_ne h h1 hk (decide_eq_true_iff.mp h2)
theorem lq_in_succ {L : List Nat} {k : Nat} : va_up (fun j => nI (lq_in L k j)) (L.getD k 0) (nI 1) = fun j => nI (lq_in L (k + 1) j) := by
  funext j
  by_cases e : j = L.getD k 0
  · subst e
    rw [va_up_self]
    refine congrArg nI (if_pos (mm_ex_of (i := k) (Nat.lt_succ_self k) (decide_eq_true rfl))).symm
  · rw [va_up_ne _ _ e]
    refine congrArg nI ?_
    unfold lq_in
    rw [show mm_ex (fun i => decide (L.getD i 0 = j)) (k + 1) = mm_ex (fun i => decide (L.getD i 0 = j)) k from by
      show (mm_ex _ k || decide (L.getD k 0 = j)) = _
      rw [decide_eq_false (fun q => e q.symm), Bool.or_false]]
theorem lq_in_zero {L : List Nat} {j : Nat} : lq_in L 0 j = 0 := rfl
theorem lq_in_all {oc rc : Nat → Nat} {n j : Nat} (hj : j < n) (ho : oc j = 108) : lq_in (mm_po oc rc n) (mm_po oc rc n).length j = 1 := by
  obtain ⟨i, hi, e⟩ := List.getElem_of_mem (mm_po_mem oc rc n j hj ho)
  refine if_pos (mm_ex_of (i := i) hi (decide_eq_true ?_))
  rw [List.getD_eq_getElem?_getD, List.getElem?_eq_getElem hi]
  exact e
/-! the proof -/
theorem lq_bs (g : Nat → Nat) (n : Nat) : ((mm_bs g n).1 = 0 → (mm_bs g n).2 = 0 ∧ ∀ i, i < n → g i = 0) ∧ (¬ (mm_bs g n).1 = 0 → (mm_bs g n).1 - 1 < n ∧ g ((mm_bs g n).1 - 1) = (mm_bs g n).2 ∧ 0 < (mm_bs g n).2) := by
  induction n with
  | zero => exact ⟨fun _ => ⟨rfl, fun i hi => absurd hi (Nat.not_lt_zero _)⟩, fun q => absurd rfl q⟩
  | succ n ih =>
    obtain ⟨i1, i2⟩ := ih
    by_cases h : (mm_bs g n).2 < g n
    · rw [show mm_bs g (n + 1) = (n + 1, g n) from if_pos h]
      exact ⟨fun q => absurd q (Nat.succ_ne_zero n), fun _ => ⟨Nat.lt_succ_self n, rfl, by show 0 < g n; omega⟩⟩
    · rw [show mm_bs g (n + 1) = mm_bs g n from if_neg h]
      refine ⟨fun q => ?_, fun q => ?_⟩
      · obtain ⟨j1, j2⟩ := i1 q
        refine ⟨j1, fun i hi => ?_⟩
        by_cases e : i = n
        · subst e; omega
        · exact j2 i (by omega)
      · obtain ⟨j1, j2, j3⟩ := i2 q
        exact ⟨by omega, j2, j3⟩
theorem lq_an0 {pa se : Nat} (h : pa ||| se = se) : mm_an pa se = 0 ∨ 2 ^ 32 ≤ pa := by
  by_cases hp : pa < 2 ^ 32
  · left
    unfold mm_an
    apply Nat.eq_of_testBit_eq
    intro i
    rw [Nat.testBit_and, Nat.testBit_xor, Nat.zero_testBit]
    by_cases hb : pa.testBit i = true
    · have h1 : se.testBit i = true := by
        rw [← h, Nat.testBit_or, hb]; rfl
      have hi : i < 32 := by
        refine Nat.lt_of_not_le (fun q => ?_)
        rw [Nat.testBit_lt_two_pow (Nat.lt_of_lt_of_le hp (Nat.pow_le_pow_right (by decide) q))] at hb
        cases hb
      have h2 : (4294967295 : Nat).testBit i = true := by
        rw [show (4294967295 : Nat) = 2 ^ 32 - 1 from rfl, Nat.testBit_two_pow_sub_one]
        exact decide_eq_true hi
      rw [h1, h2, hb]; rfl
    · rw [Bool.not_eq_true] at hb
      rw [hb, Bool.false_and]
  · right; omega
theorem lq_hd_sub {f : Nat → Nat → Nat} {n : Nat} (k : Nat) : ∀ p ∈ mm_pl f n k, f 5 p ||| mm_hd f n k = mm_hd f n k := by
  induction k with
  | zero => intro p hp; cases hp
  | succ k ih =>
    intro p hp
    rw [show mm_pl f n (k + 1) = if mm_bk f n k = 0 then mm_pl f n k else mm_pl f n k ++ [mm_bk f n k - 1] from rfl] at hp
    rw [show mm_hd f n (k + 1) = if mm_bk f n k = 0 then mm_hd f n k else mm_hd f n k ||| f 5 (mm_bk f n k - 1) from rfl]
    by_cases h : mm_bk f n k = 0
    · rw [if_pos h] at hp ⊢
      exact ih p hp
    · rw [if_neg h] at hp ⊢
      rcases List.mem_append.mp hp with h1 | h1
      · rw [← Nat.or_assoc, ih p h1]
      · rw [List.mem_singleton.mp h1, Nat.or_comm, Nat.or_assoc, Nat.or_self]
theorem lq_pl {f : Nat → Nat → Nat} {n : Nat} (hf : ∀ i, i < n → f 5 i < 256) (k : Nat) : (∀ p ∈ mm_pl f n k, p < n ∧ f 2 p = 108) ∧ (mm_pl f n k).Nodup := by
  induction k with
  | zero => exact ⟨fun p hp => (by cases hp), List.nodup_nil⟩
  | succ k ih =>
    obtain ⟨i1, i2⟩ := ih
    rw [show mm_pl f n (k + 1) = if mm_bk f n k = 0 then mm_pl f n k else mm_pl f n k ++ [mm_bk f n k - 1] from rfl]
    by_cases h : mm_bk f n k = 0
    · rw [if_pos h]
      exact ⟨i1, i2⟩
    · rw [if_neg h]
      obtain ⟨g1, g2, g3⟩ := (lq_bs (mm_it f (mm_hd f n k)) n).2 h
      have g4 : 0 < mm_it f (mm_hd f n k) (mm_bk f n k - 1) := by
        show 0 < mm_it f (mm_hd f n k) ((mm_bs (mm_it f (mm_hd f n k)) n).1 - 1)
        rw [g2]; exact g3
      have g1 : mm_bk f n k - 1 < n := g1
      have g5 : f 2 (mm_bk f n k - 1) = 108 := by
        unfold mm_it at g4
        by_cases e : f 2 (mm_bk f n k - 1) = 108
        · exact e
        · rw [if_neg e] at g4; exact absurd g4 (Nat.lt_irrefl _)
      refine ⟨fun p hp => ?_, ?_⟩
      · rcases List.mem_append.mp hp with h1 | h1
        · exact i1 p h1
        · rw [List.mem_singleton.mp h1]
          exact ⟨g1, g5⟩
      · refine List.nodup_append.mpr ⟨i2, List.nodup_cons.mpr ⟨List.not_mem_nil, List.nodup_nil⟩, ?_⟩
        intro a ha c hc e
        rw [List.mem_singleton] at hc
        subst hc
        subst e
        unfold mm_it at g4
        rw [if_pos g5] at g4
        have g6 := hf _ g1
        rcases lq_an0 (lq_hd_sub k _ ha) with h0 | h0
        · rw [h0] at g4
          exact absurd g4 (by decide)
        · omega
theorem lq_pc256 : ∀ x, x < 256 → ¬ x = 0 → 0 < mm_pc x := by decide +kernel
theorem lq_pc_pos {x : Nat} (h : x < 256) (h0 : ¬ x = 0) : 0 < mm_pc x := lq_pc256 x h h0
theorem lq_an_z (x : Nat) (h : x < 256) : mm_an x 0 = x := by
  unfold mm_an
  rw [Nat.zero_xor, show (4294967295 : Nat) = 2 ^ 32 - 1 from rfl, Nat.and_two_pow_sub_one_eq_mod]
  omega
theorem lq_pl_ne {f : Nat → Nat → Nat} {n : Nat} {p : Nat} (hp : p < n) (ho : f 2 p = 108) (h5 : f 5 p < 256) (h0 : ¬ f 5 p = 0) : ¬ (mm_pl f n 8).length = 0 := by
  have hb : ¬ mm_bk f n 0 = 0 := fun h => by
    have h1 := ((lq_bs (mm_it f (mm_hd f n 0)) n).1 h).2 p hp
    unfold mm_it at h1
    rw [if_pos ho, show mm_hd f n 0 = 0 from rfl, lq_an_z _ h5] at h1
    have := lq_pc_pos h5 h0
    omega
  have h1 : 1 ≤ (mm_pl f n 1).length := by
    rw [show mm_pl f n 1 = if mm_bk f n 0 = 0 then mm_pl f n 0 else mm_pl f n 0 ++ [mm_bk f n 0 - 1] from rfl, if_neg hb, List.length_append]
    show 1 ≤ _ + 1
    omega
  have hm : ∀ k, (mm_pl f n k).length ≤ (mm_pl f n (k + 1)).length := fun k => by
    rw [show mm_pl f n (k + 1) = if mm_bk f n k = 0 then mm_pl f n k else mm_pl f n k ++ [mm_bk f n k - 1] from rfl]
    split
    · exact Nat.le_refl _
    · rw [List.length_append]; omega
  have g1 : (mm_pl f n 1).length ≤ (mm_pl f n 2).length := hm 1
  have g2 : (mm_pl f n 2).length ≤ (mm_pl f n 3).length := hm 2
  have g3 : (mm_pl f n 3).length ≤ (mm_pl f n 4).length := hm 3
  have g4 : (mm_pl f n 4).length ≤ (mm_pl f n 5).length := hm 4
  have g5 : (mm_pl f n 5).length ≤ (mm_pl f n 6).length := hm 5
  have g6 : (mm_pl f n 6).length ≤ (mm_pl f n 7).length := hm 6
  have g7 : (mm_pl f n 7).length ≤ (mm_pl f n 8).length := hm 7
  omega
/-- what more holds: nobody's address is gone, every letter has parts -/
def lq_I (T : mm_T) : Prop := (∀ p, p < T.nP → T.go (T.ho p) = 0) ∧ ∀ r, r < T.nR → ∀ p, p < T.rp r → T.oc r p = 108 → ¬ T.rt r p = 0
section
variable {T : mm_T} {r : Nat}
theorem lq_proof (hW : mm_WF T) (hI : lq_I T) (hr : r < T.nR) : (mm_pl (mm_fr T r) (T.rp r) 8).length ≤ 8 ∧ (mm_pl (mm_fr T r) (T.rp r) 8).length ≤ mm_nl T r ∧ ((mm_pl (mm_fr T r) (T.rp r) 8).length = 0 ↔ mm_nl T r = 0) ∧ ∀ j, j < (mm_pl (mm_fr T r) (T.rp r) 8).length → (mm_pl (mm_fr T r) (T.rp r) 8).getD j 0 < T.rp r ∧ T.oc r ((mm_pl (mm_fr T r) (T.rp r) 8).getD j 0) = 108 := by
  have h5 : ∀ i, i < T.rp r → mm_fr T r 5 i < 256 := fun i hi => ((hW.hru r hr).2.2.2 i hi).2.2.2.1
  obtain ⟨h1, h2⟩ := lq_pl (f := mm_fr T r) h5 8
  have h3 : (mm_pl (mm_fr T r) (T.rp r) 8).length ≤ mm_nl T r := by
    show _ ≤ mm_sm (fun p => if T.oc r p = 108 then 1 else 0) (T.rp r)
    rw [← mm_po_num (T.oc r) (T.rc r)]
    exact List.Nodup.length_le_of_subset h2 (fun p hp => mm_po_mem (T.oc r) (T.rc r) (T.rp r) p (h1 p hp).1 (h1 p hp).2)
  refine ⟨mm_pl_len _ _ 8, h3, ⟨fun h => ?_, fun h => by omega⟩, fun j hj => h1 _ (mm_gmem hj)⟩
  refine Classical.byContradiction (fun hn => ?_)
  have hex : ∃ p, p < T.rp r ∧ T.oc r p = 108 := by
    refine Classical.byContradiction (fun hno => hn ?_)
    have : mm_nl T r = mm_sm (fun _ => 0) (T.rp r) := mm_sm_congr (fun p hp => if_neg (fun q => hno ⟨p, hp, q⟩))
    rw [this, lq_sm_z]
  obtain ⟨p, hp, ho⟩ := hex
  exact lq_pl_ne (f := mm_fr T r) hp ho (h5 p hp) (hI.2 r hr p hp ho) h
theorem lq_po_l : (mm_po (T.oc r) (T.rc r) (T.rp r)).length = mm_nl T r := mm_po_num (T.oc r) (T.rc r) (T.rp r)
end
theorem lq_nl_le {T : mm_T} (hW : mm_WF T) {r : Nat} (hr : r < T.nR) : mm_nl T r ≤ 24 := by
  have h1 : mm_nl T r ≤ T.rp r := mm_sm1 (P := fun p => T.oc r p = 108) (T.rp r)
  have h2 := (hW.hru r hr).1
  have h3 := hW.hnP
  omega
theorem lq_ps_le {T : mm_T} (hW : mm_WF T) {r p : Nat} (hr : r < T.nR) (hp : p < T.rp r) (ho : T.oc r p = 108) : T.ps r p ≤ 160 := by
  rw [((hW.hru r hr).2.2.2 p hp).2.2.2.2.2.2 ho]
  exact mm_cf_le _ _ _
/-! parts of a letter with pages -/
theorem lq_parts {li ne fo : Nat → Nat} {x : Nat} : ∀ k, ¬ (mm_lyF li ne fo x k).1 = 0 → ¬ mm_ptF ne fo x k = 0
  | 0, h => absurd rfl h
  | k + 1, h => by
    by_cases hc : mm_cd (ne k) (fo k) x = true
    · rw [show mm_ptF ne fo x (k + 1) = mm_ptF ne fo x k ||| 2 ^ k from if_pos hc]
      have h1 : 2 ^ k ≤ mm_ptF ne fo x k ||| 2 ^ k := Nat.right_le_or
      have h2 : 0 < 2 ^ k := Nat.two_pow_pos k
      omega
    · rw [show mm_ptF ne fo x (k + 1) = mm_ptF ne fo x k from if_neg hc]
      rw [show mm_lyF li ne fo x (k + 1) = mm_lyF li ne fo x k from if_neg hc] at h
      exact lq_parts k h
theorem lq_obs45 {T : mm_T} {t hh p : Nat} (h : mm_obs T t hh p = 45) : ¬ mm_pgs T t (T.fl p) = 0 := by
  intro e
  unfold mm_obs at h
  revert h
  split
  · exact fun q => absurd q (by decide)
  · split
    · exact fun q => absurd q (by decide)
    · exact fun q => absurd q (by decide)
