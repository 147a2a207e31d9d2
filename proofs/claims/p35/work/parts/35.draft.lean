theorem mm_ex_iff {P : Nat → Bool} {n : Nat} : mm_ex P n = true ↔ ∃ i, i < n ∧ P i = true := by
  refine ⟨fun h => ?_, fun ⟨i, h1, h2⟩ => mm_ex_of h1 h2⟩
  induction n with
  | zero => cases h
  | succ n ih =>
    rw [show mm_ex P (n + 1) = (mm_ex P n || P n) from rfl, Bool.or_eq_true] at h
    rcases h with h | h
    · obtain ⟨i, h1, h2⟩ := ih h
      exact ⟨i, Nat.lt_succ_of_lt h1, h2⟩
    · exact ⟨n, Nat.lt_succ_self n, h⟩
theorem mm_ex_eq {P Q : Nat → Bool} {n m : Nat} (h : (∃ i, i < n ∧ P i = true) ↔ ∃ i, i < m ∧ Q i = true) : mm_ex P n = mm_ex Q m := by
  rw [Bool.eq_iff_iff, mm_ex_iff, mm_ex_iff]
  exact h
theorem mm_po_mem (oc rc : Nat → Nat) (n : Nat) : ∀ p, p < n → oc p = 108 → p ∈ mm_po oc rc n := by
  induction n with
  | zero => intro p hp; omega
  | succ n ih =>
    intro p hp ho
    rw [show mm_po oc rc (n + 1) = if oc n = 108 then (mm_po oc rc n).insertIdx (mm_sm (fun i => if rc ((mm_po oc rc n).getD i 0) ≤ rc n then 1 else 0) (mm_po oc rc n).length) n else mm_po oc rc n from rfl]
    by_cases e : p = n
    · subst e
      rw [if_pos ho]
      exact (List.mem_insertIdx (mm_sm1 _)).mpr (Or.inl rfl)
    · have h1 := ih p (by omega) ho
      split
      · exact (List.mem_insertIdx (mm_sm1 _)).mpr (Or.inr h1)
      · exact h1
theorem mm_po_ex (oc rc : Nat → Nat) (P : Nat → Bool) (n : Nat) : mm_ex (fun i => P ((mm_po oc rc n).getD i 0)) (mm_po oc rc n).length = mm_ex (fun p => decide (oc p = 108) && P p) n := by
  refine mm_ex_eq ⟨fun ⟨i, h1, h2⟩ => ?_, fun ⟨p, h1, h2⟩ => ?_⟩
  · obtain ⟨g1, g2⟩ := mm_po_lt oc rc n _ (mm_gmem h1)
    exact ⟨_, g1, by rw [decide_eq_true g2, h2]; rfl⟩
  · rw [Bool.and_eq_true, decide_eq_true_iff] at h2
    obtain ⟨i, hi, e⟩ := List.getElem_of_mem (mm_po_mem oc rc n p h1 h2.1)
    refine ⟨i, hi, ?_⟩
    show P ((mm_po oc rc n).getD i 0) = true
    rw [List.getD_eq_getElem?_getD, List.getElem?_eq_getElem hi, e]
    exact h2.2
/-- whether the strikes of the address a end as a run begins -/
def mm_ends (T : mm_T) (a : Nat) : Bool := decide (0 < T.nR) && mm_ex (fun p => decide (T.oc (T.nR - 1) p = 108 ∧ T.bk (T.nR - 1) p = 0 ∧ T.ho p = a)) (T.rp (T.nR - 1))
def mm_sec (T : mm_T) (t p : Nat) : Bool := mm_ex (fun q => decide (T.ho q = T.ho p ∧ T.re q = 45 ∧ 0 < mm_pgs T t (T.fl q))) p
/-- what keeps a person from a letter, the stock aside -/
def mm_obs (T : mm_T) (t hh p : Nat) : Nat := if T.re p ≠ 45 then 115 else if ¬ (nI (T.sk (T.ho p)) < nI 2) ∧ mm_ends T (T.ho p) = false then 98 else if mm_pgs T t (T.fl p) = 0 then 101 else if hh ≠ 0 ∧ mm_sec T t p = true then 104 else 45
abbrev mm_fit (l : Nat × Nat × Nat) (pg : Nat) : Prop := pg ≤ l.1 ∧ 1 ≤ (if 3 < pg then l.2.2 else l.2.1)
def mm_tk (l : Nat × Nat × Nat) (pg : Nat) : Nat × Nat × Nat := (l.1 - pg, if 3 < pg then l.2.1 else l.2.1 - 1, if 3 < pg then l.2.2 - 1 else l.2.2)
/-- the stock that is left before the person p -/
def mm_lf (T : mm_T) (t hh : Nat) : Nat → Nat × Nat × Nat
  | 0 => (T.pa, T.en 0, T.en 1)
  | p + 1 => if mm_obs T t hh p = 45 ∧ mm_fit (mm_lf T t hh p) (mm_pgs T t (T.fl p)) then mm_tk (mm_lf T t hh p) (mm_pgs T t (T.fl p)) else mm_lf T t hh p
def mm_oc (T : mm_T) (t hh p : Nat) : Nat := if mm_obs T t hh p ≠ 45 then mm_obs T t hh p else if mm_fit (mm_lf T t hh p) (mm_pgs T t (T.fl p)) then 108 else 112
theorem mm_lf_le {T : mm_T} (hW : mm_WF T) (t hh p : Nat) : (mm_lf T t hh p).1 ≤ 5000 ∧ (mm_lf T t hh p).2.1 ≤ 5000 ∧ (mm_lf T t hh p).2.2 ≤ 5000 := by
  induction p with
  | zero => exact ⟨hW.hpa, hW.hen 0, hW.hen 1⟩
  | succ p ih =>
    obtain ⟨h1, h2, h3⟩ := ih
    rw [mm_lf]
    split
    · refine ⟨by show _ - _ ≤ _; omega, ?_, ?_⟩
      · exact Nat.le_trans (show (mm_tk _ _).2.1 ≤ (mm_lf T t hh p).2.1 by
          unfold mm_tk
          dsimp only
          split
          · exact Nat.le_refl _
          · exact Nat.sub_le _ _) h2
      · exact Nat.le_trans (show (mm_tk _ _).2.2 ≤ (mm_lf T t hh p).2.2 by
          unfold mm_tk
          dsimp only
          split
          · exact Nat.sub_le _ _
          · exact Nat.le_refl _) h3
    · exact ⟨h1, h2, h3⟩
