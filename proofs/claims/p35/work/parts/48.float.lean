/-! numbers with a point: a quotient is at most what it should be -/
theorem lq_near {x d N : Nat} (hd : 0 < d) (h : x ≤ d * N) : FP.Core.nearest x d ≤ N := by
  have h1 : x / d ≤ N := Nat.div_le_of_le_mul h
  have h2 := Nat.div_add_mod x d
  have h3 := Nat.mod_lt x hd
  unfold FP.Core.nearest
  by_cases e : x / d = N
  · rw [e] at h2
    have h4 : x % d = 0 := by omega
    rw [if_pos (by rw [h4]; omega)]
    exact h1
  · split
    · exact h1
    · split
      · omega
      · have := Nat.mod_lt (x / d) (show 0 < 2 by decide)
        omega
theorem lq_lead {c d P : Nat} (hc : c.log2 = P) (hd : d.log2 = P) : ∃ l : Nat, l ≤ 1 ∧ FP.Core.leading c d = -(l : Int) := by
  have h : FP.Core.leading c d = if d * 2 ^ ((c.log2 : Int) - (d.log2 : Int)).toNat ≤ c * 2 ^ (-((c.log2 : Int) - (d.log2 : Int))).toNat then (c.log2 : Int) - (d.log2 : Int) else (c.log2 : Int) - (d.log2 : Int) - 1 := rfl
  rw [h, hc, hd]
  by_cases e : d * 2 ^ ((P : Int) - (P : Int)).toNat ≤ c * 2 ^ (-((P : Int) - (P : Int))).toNat
  · rw [if_pos e]
    exact ⟨0, by decide, by omega⟩
  · rw [if_neg e]
    exact ⟨1, by decide, by omega⟩
theorem lq_rr32 {c d t : Nat} (hc : c.log2 = 23) (hd : d.log2 = 23) (h0 : ¬ c = 0) (hd0 : 0 < d) (ht : t ≤ 20) (h : c ≤ d * 2 ^ t) : FP.Core.encode FP.Core.b32 (FP.Core.roundRatio FP.Core.b32 false c d (-(t : Int))) ≤ 1065353216 := by
  obtain ⟨l, hl, hL⟩ := lq_lead hc hd
  have hQ : FP.Core.quantum FP.Core.b32 c d (-(t : Int)) = -(l : Int) - t - 23 := by
    unfold FP.Core.quantum
    rw [hL]
    show max (-149 : Int) (-(l : Int) + -(t : Int) - ((24 : Int) - 1)) = _
    rw [Int.max_eq_right (by omega)]
    omega
  have hun : FP.Core.unitsNum c (-(t : Int)) (-(l : Int) - t - 23) = c * 2 ^ (l + 23) := by
    unfold FP.Core.unitsNum
    rw [show (-(t : Int) - (-(l : Int) - t - 23)).toNat = l + 23 from by omega]
  have hud : FP.Core.unitsDen d (-(t : Int)) (-(l : Int) - t - 23) = d := by
    unfold FP.Core.unitsDen
    rw [show (-(l : Int) - t - 23 - -(t : Int)).toNat = 0 from by omega]
    exact Nat.mul_one d
  unfold FP.Core.roundRatio
  rw [if_neg h0]
  unfold FP.Core.roundAt
  rw [hQ, hun, hud]
  have hC := lq_near (x := c * 2 ^ (l + 23)) (N := 2 ^ (t + (l + 23))) hd0 (by
    rw [Nat.pow_add 2 t, ← Nat.mul_assoc]
    exact Nat.mul_le_mul_right _ h)
  generalize FP.Core.nearest (c * 2 ^ (l + 23)) d = C at hC
  have hb : ∀ (C : Nat) (q : Int), q ≤ 104 → FP.Core.bound FP.Core.b32 false C q = .fin false C q := fun C q hq => if_pos hq
  have he : ∀ (C : Nat) (q : Int), FP.Core.encode FP.Core.b32 (.fin false C q) = if C < 8388608 then (0 * 256 + 0) * 8388608 + C else (0 * 256 + ((q - (-149)).toNat + 1)) * 8388608 + (C - 8388608) := fun C q => rfl
  have hs : FP.Core.settle FP.Core.b32 false C (-(l : Int) - t - 23) = if C < 16777216 then FP.Core.bound FP.Core.b32 false C (-(l : Int) - t - 23) else FP.Core.bound FP.Core.b32 false 8388608 (-(l : Int) - t - 23 + 1) := rfl
  rw [hs]
  by_cases h1 : t + l = 0
  · have ht0 : t = 0 := by omega
    have hl0 : l = 0 := by omega
    subst ht0
    subst hl0
    have hC : C ≤ 8388608 := hC
    rw [if_pos (by omega), hb _ _ (by omega), he]
    split <;> omega
  · split
    · rw [hb _ _ (by omega), he]
      split <;> omega
    · rw [hb _ _ (by omega), he, if_neg (by decide)]
      omega
theorem lq_rr64 {c d t : Nat} (hc : c.log2 = 52) (hd : d.log2 = 52) (h0 : ¬ c = 0) (hd0 : 0 < d) (ht : t ≤ 60) (h : c ≤ d * 2 ^ t) : FP.Core.encode FP.Core.b64 (FP.Core.roundRatio FP.Core.b64 false c d (3 - (t : Int))) ≤ 4620693217682128896 := by
  obtain ⟨l, hl, hL⟩ := lq_lead hc hd
  have hQ : FP.Core.quantum FP.Core.b64 c d (3 - (t : Int)) = -(l : Int) - t - 49 := by
    unfold FP.Core.quantum
    rw [hL]
    show max (-1074 : Int) (-(l : Int) + (3 - (t : Int)) - ((53 : Int) - 1)) = _
    rw [Int.max_eq_right (by omega)]
    omega
  have hun : FP.Core.unitsNum c (3 - (t : Int)) (-(l : Int) - t - 49) = c * 2 ^ (l + 52) := by
    unfold FP.Core.unitsNum
    rw [show (3 - (t : Int) - (-(l : Int) - t - 49)).toNat = l + 52 from by omega]
  have hud : FP.Core.unitsDen d (3 - (t : Int)) (-(l : Int) - t - 49) = d := by
    unfold FP.Core.unitsDen
    rw [show (-(l : Int) - t - 49 - (3 - (t : Int))).toNat = 0 from by omega]
    exact Nat.mul_one d
  unfold FP.Core.roundRatio
  rw [if_neg h0]
  unfold FP.Core.roundAt
  rw [hQ, hun, hud]
  have hC := lq_near (x := c * 2 ^ (l + 52)) (N := 2 ^ (t + (l + 52))) hd0 (by
    rw [Nat.pow_add 2 t, ← Nat.mul_assoc]
    exact Nat.mul_le_mul_right _ h)
  generalize FP.Core.nearest (c * 2 ^ (l + 52)) d = C at hC
  have hb : ∀ (C : Nat) (q : Int), q ≤ 971 → FP.Core.bound FP.Core.b64 false C q = .fin false C q := fun C q hq => if_pos hq
  have he : ∀ (C : Nat) (q : Int), FP.Core.encode FP.Core.b64 (.fin false C q) = if C < 4503599627370496 then (0 * 2048 + 0) * 4503599627370496 + C else (0 * 2048 + ((q - (-1074)).toNat + 1)) * 4503599627370496 + (C - 4503599627370496) := fun C q => rfl
  have hs : FP.Core.settle FP.Core.b64 false C (-(l : Int) - t - 49) = if C < 9007199254740992 then FP.Core.bound FP.Core.b64 false C (-(l : Int) - t - 49) else FP.Core.bound FP.Core.b64 false 4503599627370496 (-(l : Int) - t - 49 + 1) := rfl
  rw [hs]
  by_cases h1 : t + l = 0
  · have ht0 : t = 0 := by omega
    have hl0 : l = 0 := by omega
    subst ht0
    subst hl0
    have hC : C ≤ 4503599627370496 := hC
    rw [if_pos (by omega), hb _ _ (by omega), he]
    split <;> omega
  · split
    · rw [hb _ _ (by omega), he]
      split <;> omega
    · rw [hb _ _ (by omega), he, if_neg (by decide)]
      omega
set_option maxRecDepth 100000 in
theorem lq_f240 : ∀ n, n < 241 → ¬ n = 0 → FP.Core.decode FP.Core.b32 (FP.i2f (nI n)).toNat = .fin false (n * 2 ^ (23 - n.log2)) ((n.log2 : Int) - 23) ∧ (n * 2 ^ (23 - n.log2)).log2 = 23 := by decide +kernel
set_option maxRecDepth 100000 in
theorem lq_d2k : ∀ n, n < 1921 → ¬ n = 0 → FP.Core.decode FP.Core.b64 (FP.i2d (nI n)).toNat = .fin false (n * 2 ^ (52 - n.log2)) ((n.log2 : Int) - 52) ∧ (n * 2 ^ (52 - n.log2)).log2 = 52 := by decide +kernel
theorem lq_pw {a n : Nat} (h : ¬ a = 0) : ¬ a * 2 ^ n = 0 := by
  have h1 := Nat.two_pow_pos n
  have h2 : 0 < a * 2 ^ n := Nat.mul_pos (by omega) h1
  omega
theorem lq_div32 {a c : Nat} (ha : a ≤ c) (hc : c < 241) (h0 : ¬ c = 0) : (FP.fdiv (FP.i2f (nI a)) (FP.i2f (nI c))).toNat ≤ 1065353216 := by
  have key : FP.Core.encode FP.Core.b32 (FP.Core.quotient FP.Core.b32 (FP.Core.decode FP.Core.b32 (FP.i2f (nI a)).toNat) (FP.Core.decode FP.Core.b32 (FP.i2f (nI c)).toNat)) ≤ 1065353216 := by
    obtain ⟨c1, c2⟩ := lq_f240 c hc h0
    have hk : c.log2 < 8 := (Nat.log2_lt h0).mpr (by omega)
    rw [c1]
    by_cases e : a = 0
    · subst e
      rw [show FP.Core.decode FP.Core.b32 (FP.i2f (nI 0)).toNat = .fin false 0 (-149) from by decide +kernel]
      show FP.Core.encode FP.Core.b32 (if c * 2 ^ (23 - c.log2) = 0 then (if 0 = 0 then .nan else .inf (false != false)) else FP.Core.roundRatio FP.Core.b32 (false != false) 0 (c * 2 ^ (23 - c.log2)) (-149 - ((c.log2 : Int) - 23))) ≤ _
      rw [if_neg (lq_pw h0)]
      show FP.Core.encode FP.Core.b32 (.fin false 0 (-149)) ≤ _
      decide +kernel
    · obtain ⟨a1, a2⟩ := lq_f240 a (by omega) e
      rw [a1]
      have hak : a.log2 ≤ c.log2 := (Nat.le_log2 h0).mpr (Nat.le_trans (Nat.log2_self_le e) ha)
      show FP.Core.encode FP.Core.b32 (if c * 2 ^ (23 - c.log2) = 0 then (if a * 2 ^ (23 - a.log2) = 0 then .nan else .inf (false != false)) else FP.Core.roundRatio FP.Core.b32 false (a * 2 ^ (23 - a.log2)) (c * 2 ^ (23 - c.log2)) ((a.log2 : Int) - 23 - ((c.log2 : Int) - 23))) ≤ _
      rw [if_neg (lq_pw h0), show (a.log2 : Int) - 23 - ((c.log2 : Int) - 23) = -((c.log2 - a.log2 : Nat) : Int) from by omega]
      refine lq_rr32 a2 c2 (lq_pw e) (Nat.pos_of_ne_zero (lq_pw h0)) (by omega) ?_
      rw [Nat.mul_assoc, ← Nat.pow_add, show 23 - c.log2 + (c.log2 - a.log2) = 23 - a.log2 from by omega]
      exact Nat.mul_le_mul_right _ ha
  show (UInt32.ofNat (FP.Core.encode FP.Core.b32 (FP.Core.quotient FP.Core.b32 (FP.Core.decode FP.Core.b32 (FP.i2f (nI a)).toNat) (FP.Core.decode FP.Core.b32 (FP.i2f (nI c)).toNat)))).toNat ≤ _
  rw [UInt32.toNat_ofNat']
  exact Nat.le_trans (Nat.mod_le _ _) key
theorem lq_div64 {a c : Nat} (ha : a ≤ 8 * c) (hc : c < 241) (h0 : ¬ c = 0) : (FP.ddiv (FP.i2d (nI a)) (FP.i2d (nI c))).toNat ≤ 4620693217682128896 := by
  have key : FP.Core.encode FP.Core.b64 (FP.Core.quotient FP.Core.b64 (FP.Core.decode FP.Core.b64 (FP.i2d (nI a)).toNat) (FP.Core.decode FP.Core.b64 (FP.i2d (nI c)).toNat)) ≤ 4620693217682128896 := by
    obtain ⟨c1, c2⟩ := lq_d2k c (by omega) h0
    have hk : c.log2 < 8 := (Nat.log2_lt h0).mpr (by omega)
    rw [c1]
    by_cases e : a = 0
    · subst e
      rw [show FP.Core.decode FP.Core.b64 (FP.i2d (nI 0)).toNat = .fin false 0 (-1074) from by decide +kernel]
      show FP.Core.encode FP.Core.b64 (if c * 2 ^ (52 - c.log2) = 0 then (if 0 = 0 then .nan else .inf (false != false)) else FP.Core.roundRatio FP.Core.b64 (false != false) 0 (c * 2 ^ (52 - c.log2)) (-1074 - ((c.log2 : Int) - 52))) ≤ _
      rw [if_neg (lq_pw h0)]
      show FP.Core.encode FP.Core.b64 (.fin false 0 (-1074)) ≤ _
      decide +kernel
    · obtain ⟨a1, a2⟩ := lq_d2k a (by omega) e
      rw [a1]
      have hc2 : c < 2 ^ (c.log2 + 1) := Nat.lt_log2_self
      have hak : a.log2 < c.log2 + 4 := (Nat.log2_lt e).mpr (by
        rw [show c.log2 + 4 = c.log2 + 1 + 3 from rfl, Nat.pow_add 2 (c.log2 + 1) 3]
        omega)
      show FP.Core.encode FP.Core.b64 (if c * 2 ^ (52 - c.log2) = 0 then (if a * 2 ^ (52 - a.log2) = 0 then .nan else .inf (false != false)) else FP.Core.roundRatio FP.Core.b64 false (a * 2 ^ (52 - a.log2)) (c * 2 ^ (52 - c.log2)) ((a.log2 : Int) - 52 - ((c.log2 : Int) - 52))) ≤ _
      rw [if_neg (lq_pw h0), show (a.log2 : Int) - 52 - ((c.log2 : Int) - 52) = 3 - ((3 + c.log2 - a.log2 : Nat) : Int) from by omega]
      refine lq_rr64 a2 c2 (lq_pw e) (Nat.pos_of_ne_zero (lq_pw h0)) (by omega) ?_
      rw [Nat.mul_assoc, ← Nat.pow_add, show 52 - c.log2 + (3 + c.log2 - a.log2) = 3 + (52 - a.log2) from by omega, Nat.pow_add 2 3, ← Nat.mul_assoc]
      exact Nat.mul_le_mul_right _ (by omega)
  show (UInt64.ofNat (FP.Core.encode FP.Core.b64 (FP.Core.quotient FP.Core.b64 (FP.Core.decode FP.Core.b64 (FP.i2d (nI a)).toNat) (FP.Core.decode FP.Core.b64 (FP.i2d (nI c)).toNat)))).toNat ≤ _
  rw [UInt64.toNat_ofNat']
  exact Nat.le_trans (Nat.mod_le _ _) key
/-! what such bits stand for -/
theorem lq_dec32 {n : Nat} (h : n ≤ 1065353216) : ∃ (c : Nat) (q : Int), FP.Core.decode FP.Core.b32 n = .fin false c q ∧ ((c = 8388608 ∧ q = -23) ∨ (c < 16777216 ∧ q ≤ -24)) := by
  by_cases e : n = 1065353216
  · subst e
    exact ⟨8388608, -23, by decide +kernel, Or.inl ⟨rfl, rfl⟩⟩
  · have hS : FP.Core.fieldS FP.Core.b32 n = false := by
      show (n / 8388608 / 256 % 2 == 1) = false
      rw [show n / 8388608 / 256 % 2 = 0 from by omega]
      rfl
    have hD : FP.Core.decode FP.Core.b32 n = if n / 8388608 % 256 = 255 then (if n % 8388608 = 0 then .inf (FP.Core.fieldS FP.Core.b32 n) else .nan) else if n / 8388608 % 256 = 0 then .fin (FP.Core.fieldS FP.Core.b32 n) (n % 8388608) (-149) else .fin (FP.Core.fieldS FP.Core.b32 n) (8388608 + n % 8388608) (-149 + (((n / 8388608 % 256 : Nat) : Int) - 1)) := rfl
    rw [hD, hS, if_neg (by omega)]
    by_cases e0 : n / 8388608 % 256 = 0
    · rw [if_pos e0]
      exact ⟨_, _, rfl, Or.inr ⟨by omega, by omega⟩⟩
    · rw [if_neg e0]
      exact ⟨_, _, rfl, Or.inr ⟨by omega, by omega⟩⟩
theorem lq_dec64 {n : Nat} (h : n ≤ 4620693217682128896) : ∃ (c : Nat) (q : Int), FP.Core.decode FP.Core.b64 n = .fin false c q ∧ ((c = 4503599627370496 ∧ q = -49) ∨ (c < 9007199254740992 ∧ q ≤ -50)) := by
  by_cases e : n = 4620693217682128896
  · subst e
    exact ⟨4503599627370496, -49, by decide +kernel, Or.inl ⟨rfl, rfl⟩⟩
  · have hS : FP.Core.fieldS FP.Core.b64 n = false := by
      show (n / 4503599627370496 / 2048 % 2 == 1) = false
      rw [show n / 4503599627370496 / 2048 % 2 = 0 from by omega]
      rfl
    have hD : FP.Core.decode FP.Core.b64 n = if n / 4503599627370496 % 2048 = 2047 then (if n % 4503599627370496 = 0 then .inf (FP.Core.fieldS FP.Core.b64 n) else .nan) else if n / 4503599627370496 % 2048 = 0 then .fin (FP.Core.fieldS FP.Core.b64 n) (n % 4503599627370496) (-1074) else .fin (FP.Core.fieldS FP.Core.b64 n) (4503599627370496 + n % 4503599627370496) (-1074 + (((n / 4503599627370496 % 2048 : Nat) : Int) - 1)) := rfl
    rw [hD, hS, if_neg (by omega)]
    by_cases e0 : n / 4503599627370496 % 2048 = 0
    · rw [if_pos e0]
      exact ⟨_, _, rfl, Or.inr ⟨by omega, by omega⟩⟩
    · rw [if_neg e0]
      exact ⟨_, _, rfl, Or.inr ⟨by omega, by omega⟩⟩
theorem lq_cmp_le {i j : Int} (h : i ≤ j) : compare i j = .lt ∨ compare i j = .eq := by
  show (if i < j then Ordering.lt else if i = j then .eq else .gt) = .lt ∨ (if i < j then Ordering.lt else if i = j then .eq else .gt) = .eq
  by_cases e : i < j
  · rw [if_pos e]; exact Or.inl rfl
  · rw [if_neg e, if_pos (by omega)]; exact Or.inr rfl
theorem lq_cmp_gt {i j : Int} (h : j < i) : compare i j = .gt := by
  show (if i < j then Ordering.lt else if i = j then .eq else .gt) = .gt
  rw [if_neg (by omega), if_neg (by omega)]
theorem lq_two {X k : Nat} (h : 1 ≤ k) : X * 2 ≤ X * 2 ^ k := Nat.mul_le_mul_left _ (by
  have := Nat.pow_le_pow_right (n := 2) (by decide) h
  omega)
theorem lq_le32 {x : UInt32} (h : x.toNat ≤ 1065353216) : ¬ 0 < Op.cmpValue (FP.fcmp x FP.fconst1) .g := by
  obtain ⟨c, q, h1, h2⟩ := lq_dec32 h
  have h3 : FP.fcmp x FP.fconst1 = FP.Core.order (FP.Core.decode FP.Core.b32 x.toNat) (FP.Core.decode FP.Core.b32 1065353216) := rfl
  rw [h3, h1, show FP.Core.decode FP.Core.b32 1065353216 = .fin false 8388608 (-23) from by decide +kernel]
  have h4 : FP.Core.order (.fin false c q) (.fin false 8388608 (-23)) = some (compare (((c * 2 ^ (q - min q (-23)).toNat : Nat)) : Int) (((8388608 * 2 ^ (-23 - min q (-23)).toNat : Nat)) : Int)) := rfl
  rw [h4]
  have h5 : c * 2 ^ (q - min q (-23)).toNat ≤ 8388608 * 2 ^ (-23 - min q (-23)).toNat := by
    rcases h2 with ⟨rfl, rfl⟩ | ⟨g1, g2⟩
    · exact Nat.le_refl _
    · rw [Int.min_eq_left (by omega), show (q - q).toNat = 0 from by omega]
      have := lq_two (X := 8388608) (k := (-23 - q).toNat) (by omega)
      omega
  rcases lq_cmp_le (Int.ofNat_le.mpr h5) with e | e <;> rw [e] <;> decide
theorem lq_le64 {x : UInt64} (h : x.toNat ≤ 4620693217682128896) : ¬ 0 < Op.cmpValue (FP.dcmp x 4620693217682128896) .g := by
  obtain ⟨c, q, h1, h2⟩ := lq_dec64 h
  have h3 : FP.dcmp x 4620693217682128896 = FP.Core.order (FP.Core.decode FP.Core.b64 x.toNat) (FP.Core.decode FP.Core.b64 4620693217682128896) := rfl
  rw [h3, h1, show FP.Core.decode FP.Core.b64 4620693217682128896 = .fin false 4503599627370496 (-49) from by decide +kernel]
  have h4 : FP.Core.order (.fin false c q) (.fin false 4503599627370496 (-49)) = some (compare (((c * 2 ^ (q - min q (-49)).toNat : Nat)) : Int) (((4503599627370496 * 2 ^ (-49 - min q (-49)).toNat : Nat)) : Int)) := rfl
  rw [h4]
  have h5 : c * 2 ^ (q - min q (-49)).toNat ≤ 4503599627370496 * 2 ^ (-49 - min q (-49)).toNat := by
    rcases h2 with ⟨rfl, rfl⟩ | ⟨g1, g2⟩
    · exact Nat.le_refl _
    · rw [Int.min_eq_left (by omega), show (q - q).toNat = 0 from by omega]
      have := lq_two (X := 4503599627370496) (k := (-49 - q).toNat) (by omega)
      omega
  rcases lq_cmp_le (Int.ofNat_le.mpr h5) with e | e <;> rw [e] <;> decide
theorem lq_ne32 {x : UInt32} (h : x.toNat ≤ 1065353216) : ¬ Op.cmpValue (FP.fcmp x 3212836864) .l = 0 := by
  obtain ⟨c, q, h1, -⟩ := lq_dec32 h
  have h3 : FP.fcmp x 3212836864 = FP.Core.order (FP.Core.decode FP.Core.b32 x.toNat) (FP.Core.decode FP.Core.b32 3212836864) := rfl
  rw [h3, h1, show FP.Core.decode FP.Core.b32 3212836864 = .fin true 8388608 (-23) from by decide +kernel]
  have h4 : FP.Core.order (.fin false c q) (.fin true 8388608 (-23)) = some (compare (((c * 2 ^ (q - min q (-23)).toNat : Nat)) : Int) (-((8388608 * 2 ^ (-23 - min q (-23)).toNat : Nat) : Int))) := rfl
  have h5 : 0 < 8388608 * 2 ^ (-23 - min q (-23)).toNat := Nat.mul_pos (by decide) (Nat.two_pow_pos _)
  rw [h4, lq_cmp_gt (by omega)]
  decide
theorem lq_ne64 {x : UInt64} (h : x.toNat ≤ 4620693217682128896) : ¬ Op.cmpValue (FP.dcmp x 13830554455654793216) .l = 0 := by
  obtain ⟨c, q, h1, -⟩ := lq_dec64 h
  have h3 : FP.dcmp x 13830554455654793216 = FP.Core.order (FP.Core.decode FP.Core.b64 x.toNat) (FP.Core.decode FP.Core.b64 13830554455654793216) := rfl
  rw [h3, h1, show FP.Core.decode FP.Core.b64 13830554455654793216 = .fin true 4503599627370496 (-52) from by decide +kernel]
  have h4 : FP.Core.order (.fin false c q) (.fin true 4503599627370496 (-52)) = some (compare (((c * 2 ^ (q - min q (-52)).toNat : Nat)) : Int) (-((4503599627370496 * 2 ^ (-52 - min q (-52)).toNat : Nat) : Int))) := rfl
  have h5 : 0 < 4503599627370496 * 2 ^ (-52 - min q (-52)).toNat := Nat.mul_pos (by decide) (Nat.two_pow_pos _)
  rw [h4, lq_cmp_gt (by omega)]
  decide
/-! the two figures -/
def lq_me (T : mm_T) : UInt64 := if mm_q_meanPages T = 0 then FP.ddiv (FP.i2d (nI (mm_sm (mm_s0 T) T.nR))) (FP.i2d (nI (mm_sm (mm_nl T) T.nR))) else 13830554455654793216
def lq_sh (T : mm_T) : UInt32 := if mm_q_returnShare T = 0 then FP.fdiv (FP.i2f (nI (mm_sm (mm_nb9 T) T.nR))) (FP.i2f (nI (mm_sm (mm_nl T) T.nR))) else 3212836864
theorem lq_nbl {T : mm_T} (hW : mm_WF T) : mm_sm (mm_nb9 T) T.nR ≤ mm_sm (mm_nl T) T.nR :=
  lq_sm_mono (fun r hr => lq_sm_mono (fun p hp => by
    have := ((hW.hru r hr).2.2.2 p hp).2.2.2.2.1
    show (if T.oc r p = 108 then T.bk r p else 0) ≤ (if T.oc r p = 108 then 1 else 0)
    split <;> omega))
theorem lq_sm_mul (k : Nat) (f : Nat → Nat) (n : Nat) : mm_sm (fun i => k * f i) n = k * mm_sm f n := by
  induction n with
  | zero => rfl
  | succ n ih =>
    show mm_sm (fun i => k * f i) n + k * f n = k * (mm_sm f n + f n)
    rw [ih, Nat.mul_add]
theorem lq_s0l {T : mm_T} (hW : mm_WF T) : mm_sm (mm_s0 T) T.nR ≤ 8 * mm_sm (mm_nl T) T.nR := by
  rw [← lq_sm_mul]
  refine lq_sm_mono (fun r hr => ?_)
  show _ ≤ 8 * mm_sm (fun p => if T.oc r p = 108 then 1 else 0) (T.rp r)
  rw [← lq_sm_mul]
  refine lq_sm_mono (fun p hp => ?_)
  have := ((hW.hru r hr).2.2.2 p hp).2.2.1
  show (if T.oc r p = 108 then T.pg r p else 0) ≤ 8 * (if T.oc r p = 108 then 1 else 0)
  split <;> omega
theorem lq_shb {T : mm_T} (hW : mm_WF T) (hq : mm_q_returnShare T = 0) : (lq_sh T).toNat ≤ 1065353216 := by
  have h0 : ¬ mm_sm (mm_nl T) T.nR = 0 := fun e => by
    unfold mm_q_returnShare at hq
    rw [if_pos e] at hq
    cases hq
  rw [show lq_sh T = FP.fdiv (FP.i2f (nI (mm_sm (mm_nb9 T) T.nR))) (FP.i2f (nI (mm_sm (mm_nl T) T.nR))) from if_pos hq]
  have := mm_nlw hW (Nat.le_refl T.nR)
  exact lq_div32 (lq_nbl hW) (by omega) h0
theorem lq_meb {T : mm_T} (hW : mm_WF T) (hq : mm_q_meanPages T = 0) : (lq_me T).toNat ≤ 4620693217682128896 := by
  have h0 : ¬ mm_sm (mm_nl T) T.nR = 0 := fun e => by
    unfold mm_q_meanPages at hq
    rw [if_pos e] at hq
    cases hq
  rw [show lq_me T = FP.ddiv (FP.i2d (nI (mm_sm (mm_s0 T) T.nR))) (FP.i2d (nI (mm_sm (mm_nl T) T.nR))) from if_pos hq]
  have := mm_nlw hW (Nat.le_refl T.nR)
  exact lq_div64 (lq_s0l hW) (by omega) h0
theorem lq_share_le {T : mm_T} (hW : mm_WF T) : ¬ 0 < Op.cmpValue (FP.fcmp (lq_sh T) FP.fconst1) .g := by
  by_cases hq : mm_q_returnShare T = 0
  · exact lq_le32 (lq_shb hW hq)
  · rw [show lq_sh T = 3212836864 from if_neg hq]
    decide +kernel
theorem lq_mean_le {T : mm_T} (hW : mm_WF T) : ¬ 0 < Op.cmpValue (FP.dcmp (lq_me T) 4620693217682128896) .g := by
  by_cases hq : mm_q_meanPages T = 0
  · exact lq_le64 (lq_meb hW hq)
  · rw [show lq_me T = 13830554455654793216 from if_neg hq]
    decide +kernel
theorem lq_sh_no {T : mm_T} (hW : mm_WF T) : Op.cmpValue (FP.fcmp (lq_sh T) 3212836864) .l = 0 ↔ mm_sm (mm_nl T) T.nR = 0 := by
  by_cases h0 : mm_sm (mm_nl T) T.nR = 0
  · have hq : ¬ mm_q_returnShare T = 0 := by
      unfold mm_q_returnShare
      rw [if_pos h0]
      decide
    rw [show lq_sh T = 3212836864 from if_neg hq]
    exact ⟨fun _ => h0, fun _ => by decide +kernel⟩
  · have hq : mm_q_returnShare T = 0 := by
      unfold mm_q_returnShare
      rw [if_neg h0]
    exact ⟨fun q => absurd q (lq_ne32 (lq_shb hW hq)), fun q => absurd q h0⟩
theorem lq_me_no {T : mm_T} (hW : mm_WF T) : Op.cmpValue (FP.dcmp (lq_me T) 13830554455654793216) .l = 0 ↔ mm_sm (mm_nl T) T.nR = 0 := by
  by_cases h0 : mm_sm (mm_nl T) T.nR = 0
  · have hq : ¬ mm_q_meanPages T = 0 := by
      unfold mm_q_meanPages
      rw [if_pos h0]
      decide
    rw [show lq_me T = 13830554455654793216 from if_neg hq]
    exact ⟨fun _ => h0, fun _ => by decide +kernel⟩
  · have hq : mm_q_meanPages T = 0 := by
      unfold mm_q_meanPages
      rw [if_neg h0]
    exact ⟨fun q => absurd q (lq_ne64 (lq_meb hW hq)), fun q => absurd q h0⟩
