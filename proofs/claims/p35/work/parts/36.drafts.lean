/-- one draft is written -/
def mm_zw (z : mm_Z) (k i v : Nat) : mm_Z := fun a c => if a = k ∧ c = i then v else z a c
theorem mm_zw_at {z : mm_Z} {k i v : Nat} : mm_zw z k i v k i = v := if_pos ⟨rfl, rfl⟩
theorem mm_zw_ne {z : mm_Z} {k i v a c : Nat} (h : ¬ (a = k ∧ c = i)) : mm_zw z k i v a c = z a c := if_neg h
theorem mm_ctz {T : mm_T} {z z' : mm_Z} {ad : Nat → Nat → Nat → Nat} : ∀ k i j, mm_lv T k i j → (k = 0 → i = 7 → z' 0 0 = z 0 0 ∧ z' 0 1 = z 0 1 ∧ z' 0 2 = z 0 2) → (k = 1 → z' 1 i = z 1 i ∧ z' 2 i = z 2 i) → (k = 2 → z' 3 i = z 3 i) → mm_ct T z' ad k i j = mm_ct T z ad k i j
  | 0, 0, j, hl, h0, h1, h2 => rfl
  | 0, 1, j, hl, h0, h1, h2 => rfl
  | 0, 2, j, hl, h0, h1, h2 => rfl
  | 0, 3, j, hl, h0, h1, h2 => rfl
  | 0, 4, j, hl, h0, h1, h2 => rfl
  | 0, 5, j, hl, h0, h1, h2 => rfl
  | 0, 6, j, hl, h0, h1, h2 => rfl
  | 0, 7, j, hl, h0, h1, h2 => by
    obtain ⟨e0, e1, e2⟩ := h0 rfl rfl
    show mm_O 4 [.int (nI (z' 0 0)), .int (nI (z' 0 1)), .int (nI (z' 0 2))] = _
    rw [e0, e1, e2] <;> rfl
  | 0, i + 8, j, hl, h0, h1, h2 => absurd hl.1 (by omega)
  | 1, i, j, hl, h0, h1, h2 => by
    obtain ⟨e0, e1⟩ := h1 rfl
    show mm_O 0 [.int (nI i), .int (nI (T.co i)), .int (nI (T.sk i)), .int (nI (T.go i)), .int (nI (z' 1 i)), .int (nI (z' 2 i))] = _
    rw [e0, e1] <;> rfl
  | 2, i, j, hl, h0, h1, h2 => by
    show mm_O 2 [.ref (ad 1 (T.ho i) 0), .int (nI (T.fl i)), .int (nI (T.re i)), .int (nI (z' 3 i))] = _
    rw [h2 rfl] <;> rfl
  | 3, i, j, hl, h0, h1, h2 => rfl
  | 4, i, j, hl, h0, h1, h2 => rfl
  | 5, i, j, hl, h0, h1, h2 => rfl
  | 6, i, j, hl, h0, h1, h2 => rfl
  | 7, i, j, hl, h0, h1, h2 => rfl
  | n + 8, i, j, hl, h0, h1, h2 => False.elim hl
section
variable {σ : mm_S} {T : mm_T} {z : mm_Z} {ad : Nat → Nat → Nat → Nat} {i v w : Nat}
theorem mm_Xz1 (h : mm_X σ T z ad) (hi : i < T.nA) : mm_X (mm_u σ (ad 1 i 0) (mm_obj 0 0 [.int (nI i), .int (nI (T.co i)), .int (nI (T.sk i)), .int (nI (T.go i)), .int (nI v), .int (nI w)])) T (mm_zw (mm_zw z 1 i v) 2 i w) ad :=
  mm_X_set h (k := 1) (i := i) (j := 0) ⟨hi, rfl⟩ rfl (fun k' i' j' hl hn => mm_ctz k' i' j' hl (fun e _ => by
      subst e
      exact ⟨rfl, rfl, rfl⟩) (fun e => by
      subst e
      have hi' : i' ≠ i := fun e => hn ⟨rfl, e, hl.2⟩
      rw [mm_zw_ne (fun e => absurd e.1 (by decide)), mm_zw_ne (fun e => hi' e.2), mm_zw_ne (fun e => hi' e.2), mm_zw_ne (fun e => absurd e.1 (by decide))]
      exact ⟨rfl, rfl⟩) (fun e => by
      subst e
      rw [mm_zw_ne (fun e => absurd e.1 (by decide)), mm_zw_ne (fun e => absurd e.1 (by decide))]))
    (by
      show _ = mm_O 0 [.int (nI i), .int (nI (T.co i)), .int (nI (T.sk i)), .int (nI (T.go i)), .int (nI (mm_zw (mm_zw z 1 i v) 2 i w 1 i)), .int (nI (mm_zw (mm_zw z 1 i v) 2 i w 2 i))]
      rw [mm_zw_at, mm_zw_ne (fun e => absurd e.1 (by decide)), mm_zw_at])
theorem mm_Xz3 (h : mm_X σ T z ad) (hi : i < T.nP) : mm_X (mm_u σ (ad 2 i 0) (mm_obj 0 2 [.ref (ad 1 (T.ho i) 0), .int (nI (T.fl i)), .int (nI (T.re i)), .int (nI v)])) T (mm_zw z 3 i v) ad :=
  mm_X_set h (k := 2) (i := i) (j := 0) ⟨hi, rfl⟩ rfl (fun k' i' j' hl hn => mm_ctz k' i' j' hl (fun e _ => by
      subst e
      exact ⟨rfl, rfl, rfl⟩) (fun e => by
      subst e
      exact ⟨rfl, rfl⟩) (fun e => by
      subst e
      exact mm_zw_ne (fun e => hn ⟨rfl, e.2, hl.2⟩)))
    (by
      show _ = mm_O 2 [.ref (ad 1 (T.ho i) 0), .int (nI (T.fl i)), .int (nI (T.re i)), .int (nI (mm_zw z 3 i v 3 i))]
      rw [mm_zw_at])
/-- the stock in the middle of a preview -/
def mm_zl (z : mm_Z) (a c e : Nat) : mm_Z := fun k i => if k = 0 then (if i = 0 then a else if i = 1 then c else e) else z k i
theorem mm_Xz0 (h : mm_X σ T z ad) {a c e : Nat} : mm_X (mm_u σ (ad 0 7 0) (mm_obj 0 4 [.int (nI a), .int (nI c), .int (nI e)])) T (mm_zl z a c e) ad :=
  mm_X_set h (k := 0) (i := 7) (j := 0) ⟨by decide, rfl⟩ rfl (fun k' i' j' hl hn => mm_ctz k' i' j' hl (fun e1 e2 => by
      subst e1; subst e2
      exact absurd ⟨rfl, rfl, hl.2⟩ hn) (fun e => by
      subst e
      exact ⟨rfl, rfl⟩) (fun e => by
      subst e
      rfl)) rfl
end
