/-- an address gets letters: its strikes are few, or they end -/
def mm_good2 (T : mm_T) (a : Nat) : Prop := nI (T.sk a) < nI 2 ∨ mm_ends T a = true
def mm_srv (T : mm_T) (t a i : Nat) : Bool := mm_ex (fun q => decide (T.ho q = a ∧ T.re q = 45 ∧ (nI (T.sk a) < nI 2 ∨ mm_ends T a = true) ∧ 0 < mm_pgs T t (T.fl q))) i
/-- the drafts before the person i -/
def mm_dI (T : mm_T) (t hh i : Nat) (z : mm_Z) : Prop :=
  (∀ a, a < T.nA → z 1 a = (if mm_ends T a = true then 0 else T.sk a)) ∧ (∀ a, a < T.nA → z 2 a = (if mm_srv T t a i = true then 1 else 0)) ∧
  z 0 0 = (mm_lf T t hh i).1 ∧ z 0 1 = (mm_lf T t hh i).2.1 ∧ z 0 2 = (mm_lf T t hh i).2.2
theorem mm_srv1 {T : mm_T} {t a i : Nat} : mm_srv T t a (i + 1) = (mm_srv T t a i || decide (T.ho i = a ∧ T.re i = 45 ∧ (nI (T.sk a) < nI 2 ∨ mm_ends T a = true) ∧ 0 < mm_pgs T t (T.fl i))) := rfl
theorem mm_srv_sec {T : mm_T} {t i : Nat} (hg : nI (T.sk (T.ho i)) < nI 2 ∨ mm_ends T (T.ho i) = true) : mm_srv T t (T.ho i) i = mm_sec T t i := by
  refine mm_ex_eq ⟨fun ⟨q, h1, h2⟩ => ?_, fun ⟨q, h1, h2⟩ => ?_⟩
  · obtain ⟨g1, g2, -, g4⟩ := decide_eq_true_iff.mp h2
    exact ⟨q, h1, decide_eq_true ⟨g1, g2, g4⟩⟩
  · obtain ⟨g1, g2, g4⟩ := decide_eq_true_iff.mp h2
    exact ⟨q, h1, decide_eq_true ⟨g1, g2, hg, g4⟩⟩
theorem mm_dr2 {T : mm_T} {a x : Nat} (h : x = (if mm_ends T a = true then 0 else T.sk a)) : (nI x < nI 2) ↔ (nI (T.sk a) < nI 2 ∨ mm_ends T a = true) := by
  by_cases e : mm_ends T a = true
  · rw [if_pos e] at h
    subst h
    exact ⟨fun _ => Or.inr e, fun _ => by decide⟩
  · rw [if_neg e] at h
    subst h
    exact ⟨Or.inl, fun q => q.elim id (fun g => absurd g e)⟩
