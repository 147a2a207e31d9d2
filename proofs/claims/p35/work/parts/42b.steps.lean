/-! the steps that keep a run -/
section
variable {σ : mm_S} {T : mm_T} {z : mm_Z} {ad : Nat → Nat → Nat → Nat}
theorem mm_X_kp {j : Nat} (hX : mm_X σ (T.w 2 (mm_ke T j)) z ad) (hj : j < T.nA) (h : z 1 j = (if mm_ends T j = true then 0 else T.sk j)) : mm_X (mm_u σ (ad 1 j 0) (mm_obj 0 0 [.int (nI j), .int (nI (T.co j)), .int (nI (z 1 j)), .int (nI (T.go j)), .int (nI (z 1 j)), .int (nI (z 2 j))])) (T.w 2 (mm_ke T (j + 1))) z ad := by
  have hX9 := mm_X_set hX (k := 1) (i := j) (j := 0) ⟨hj, rfl⟩ (T' := (T.w 2 (mm_ke T j)).w 2 (mm_u2 (mm_ke T j) j 0 (z 1 j))) (z' := z) rfl mm_w2 (x := mm_O 0 [.int (nI j), .int (nI (T.co j)), .int (nI (z 1 j)), .int (nI (T.go j)), .int (nI (z 1 j)), .int (nI (z 2 j))]) (by show _ = mm_O 0 [.int (nI j), .int (nI (T.co j)), .int (nI (mm_u2 (mm_ke T j) j 0 (z 1 j) j 0)), .int (nI (T.go j)), .int (nI (z 1 j)), .int (nI (z 2 j))]; rw [mm_u2_at])
  rw [mm_ww, mm_ke1 h] at hX9
  exact hX9
theorem mm_X_stk {a c e : Nat} (hX : mm_X σ T z ad) : mm_X (mm_u σ (ad 0 5 0) (mm_obj 0 4 [.int (nI a), .int (nI c), .int (nI e)])) (mm_tq2 T a c e) z ad :=
  mm_X_set hX (k := 0) (i := 5) (j := 0) ⟨by decide, rfl⟩ (T' := mm_tq2 T a c e) (z' := z) rfl mm_v5b (x := mm_O 4 [.int (nI a), .int (nI c), .int (nI e)]) rfl
theorem mm_X_us {t v : Nat} (hX : mm_X σ T z ad) (ht : t < T.nT) : mm_X (mm_u σ (ad 3 t 0) (mm_obj 0 5 [.ref (ad 4 t 0), .ref (ad 4 t 1), .ref (ad 4 t 2), .int (nI (T.pc t)), .int (nI v)])) (T.w 11 (mm_u2 (T 11) t 0 v)) z ad :=
  mm_X_set hX (k := 3) (i := t) (j := 0) ⟨ht, rfl⟩ (T' := T.w 11 (mm_u2 (T 11) t 0 v)) (z' := z) rfl mm_w11 (x := mm_O 5 [.ref (ad 4 t 0), .ref (ad 4 t 1), .ref (ad 4 t 2), .int (nI (T.pc t)), .int (nI v)]) (by show _ = mm_O 5 [.ref (ad 4 t 0), .ref (ad 4 t 1), .ref (ad 4 t 2), .int (nI (T.pc t)), .int (nI (mm_u2 (T 11) t 0 v t 0))]; rw [mm_u2_at])
theorem mm_tqA_eq {t hh a c e : Nat} (h1 : a = (mm_lf T t hh T.nP).1) (h2 : c = (mm_lf T t hh T.nP).2.1) (h3 : e = (mm_lf T t hh T.nP).2.2) : (mm_tq2 (mm_tq1 T) a c e).w 11 (mm_u2 ((mm_tq2 (mm_tq1 T) a c e) 11) t 0 1) = mm_tqA T t hh := by
  rw [mm_tqA, h1, h2, h3]
  rfl
/-- what a call that writes elsewhere finds: the fields that stay -/
theorem mm_tqA_L4 {t hh : Nat} (hX : mm_X σ (mm_tqA T t hh) z ad) : σ (ad 0 4 0) = mm_lst 0 ((List.range T.nR).map (fun q => ad 5 q 0)) := by
  have h9 := mm_XL4 hX
  exact h9
theorem mm_tqA_0 {t hh : Nat} (hX : mm_X σ (mm_tqA T t hh) z ad) : σ (ad 0 0 0) = mm_obj 0 6 [.ref ((ad 0 1 0)), .ref ((ad 0 2 0)), .ref ((ad 0 3 0)), .ref ((ad 0 4 0)), .ref ((ad 0 5 0)), .ref ((ad 0 6 0)), .ref ((ad 0 7 0)), .int (nI T.bo)] := by
  have h9 := mm_X0 hX
  exact h9
theorem mm_tq_3 {a c e t : Nat} (hX : mm_X σ (mm_tq2 (mm_tq1 T) a c e) z ad) (ht : t < T.nT) : σ (ad 3 t 0) = mm_obj 0 5 [.ref ((ad 4 t 0)), .ref ((ad 4 t 1)), .ref ((ad 4 t 2)), .int (nI (T.pc t)), .int (nI (T.us t))] := by
  have h9 := mm_XT hX (i := t) ht
  exact h9
theorem mm_tq1_0 {f : Nat → Nat → Nat} (hX : mm_X σ (T.w 2 f) z ad) : σ (ad 0 0 0) = mm_obj 0 6 [.ref ((ad 0 1 0)), .ref ((ad 0 2 0)), .ref ((ad 0 3 0)), .ref ((ad 0 4 0)), .ref ((ad 0 5 0)), .ref ((ad 0 6 0)), .ref ((ad 0 7 0)), .int (nI T.bo)] := by
  have h9 := mm_X0 hX
  exact h9
theorem mm_tq1_5 {f : Nat → Nat → Nat} (hX : mm_X σ (T.w 2 f) z ad) : σ (ad 0 5 0) = mm_obj 0 4 [.int (nI T.pa), .int (nI (T.en 0)), .int (nI (T.en 1))] := by
  have h9 := mm_X5 hX
  exact h9
theorem mm_tq1_7 {f : Nat → Nat → Nat} (hX : mm_X σ (T.w 2 f) z ad) : σ (ad 0 7 0) = mm_obj 0 4 [.int (nI z.l0), .int (nI z.l1), .int (nI z.l2)] := by
  have h9 := mm_X7 hX
  exact h9
theorem mm_tq1_L1 {f : Nat → Nat → Nat} (hX : mm_X σ (T.w 2 f) z ad) : σ (ad 0 1 0) = mm_lst 0 ((List.range T.nA).map (fun q => ad 1 q 0)) := by
  have h9 := mm_XL1 hX
  exact h9
theorem mm_tq1_A {f : Nat → Nat → Nat} {j : Nat} (hX : mm_X σ (T.w 2 f) z ad) (hj : j < T.nA) : σ (ad 1 j 0) = mm_obj 0 0 [.int (nI j), .int (nI (T.co j)), .int (nI (f j 0)), .int (nI (T.go j)), .int (nI (z 1 j)), .int (nI (z 2 j))] := by
  have h9 := mm_XA hX (i := j) hj
  exact h9
end
