def mm_t_addPart (T : mm_T) (t ln ne fo : Nat) : mm_T := (((T.w 7 (mm_u2 (T 7) t (T.pc t) ln)).w 8 (mm_u2 (T 8) t (T.pc t) ne)).w 9 (mm_u2 (T 9) t (T.pc t) fo)).w 10 (mm_u2 (T 10) t 0 (T.pc t + 1))
theorem mm_lyF_cg {li ne fo li' ne' fo' : Nat → Nat} {x : Nat} : ∀ k, (∀ j, j < k → li' j = li j ∧ ne' j = ne j ∧ fo' j = fo j) → mm_lyF li' ne' fo' x k = mm_lyF li ne fo x k
  | 0, _ => rfl
  | k + 1, h => by
    obtain ⟨h1, h2, h3⟩ := h k (Nat.lt_succ_self k)
    rw [mm_lyF, mm_lyF, mm_lyF_cg k (fun j hj => h j (Nat.lt_succ_of_lt hj)), h1, h2, h3]
theorem mm_ptF_cg {ne fo ne' fo' : Nat → Nat} {x : Nat} : ∀ k, (∀ j, j < k → ne' j = ne j ∧ fo' j = fo j) → mm_ptF ne' fo' x k = mm_ptF ne fo x k
  | 0, _ => rfl
  | k + 1, h => by
    obtain ⟨h2, h3⟩ := h k (Nat.lt_succ_self k)
    rw [mm_ptF, mm_ptF, mm_ptF_cg k (fun j hj => h j (Nat.lt_succ_of_lt hj)), h2, h3]
theorem mm_lyF_le {li ne fo : Nat → Nat} {x : Nat} : ∀ k, (∀ j, j < k → li j ≤ 40) → (mm_lyF li ne fo x k).1 ≤ k ∧ (mm_lyF li ne fo x k).2 ≤ 40
  | 0, _ => ⟨Nat.le_refl _, Nat.zero_le _⟩
  | k + 1, h => by
    obtain ⟨h1, h2⟩ := mm_lyF_le (ne := ne) (fo := fo) (x := x) k (fun j hj => h j (Nat.lt_succ_of_lt hj))
    have h3 := h k (Nat.lt_succ_self k)
    rw [mm_lyF]
    split
    · split
      · exact ⟨by show _ + 1 ≤ _; omega, h3⟩
      · exact ⟨by show _ ≤ _; omega, by show _ + _ ≤ 40; omega⟩
    · exact ⟨by omega, h2⟩
theorem mm_u2_row {f : Nat → Nat → Nat} {i j v a : Nat} (h : a ≠ i) : mm_u2 f i j v a = f a := by
  funext q
  exact if_neg (fun e => h e.1)
theorem mm_u2_col {f : Nat → Nat → Nat} {i j v q : Nat} (h : q ≠ j) : mm_u2 f i j v i q = f i q := if_neg (fun e => h e.2)
theorem mm_c0_cg {T T' : mm_T} {z : mm_Z} {ad : Nat → Nat → Nat → Nat} {i : Nat} (h0 : T' 0 = T 0) (h12 : T' 12 = T 12) : mm_c0 T' z ad i = mm_c0 T z ad i := by
  simp only [mm_c0, mm_T.nA, mm_T.nP, mm_T.nT, mm_T.nR, mm_T.pa, mm_T.bo, mm_T.en, mm_T.b0, mm_T.b1, mm_T.b2, h0, h12]
section
variable {T : mm_T} {z : mm_Z} {ad : Nat → Nat → Nat → Nat} {t ln ne fo : Nat}
theorem mm_pP (x : Nat) : (if x < 8 then mm_pgs (mm_t_addPart T t ln ne fo) t x else 0) = (mm_W 8 (mm_cd ne fo) (fun x => if x < 8 then mm_pgs T t x else 0) (mm_lnP (fun x => if x < 8 then mm_pgs T t x else 0) (fun x => if x < 8 then (mm_ly T t x (T.pc t)).2 else 0) ln)) x := by
  have e : mm_pgs (mm_t_addPart T t ln ne fo) t x = (mm_lyF (mm_u2 (T 7) t (T.pc t) ln t) (mm_u2 (T 8) t (T.pc t) ne t) (mm_u2 (T 9) t (T.pc t) fo t) x (T.pc t + 1)).1 := by
    show (mm_lyF (mm_u2 (T 7) t (T.pc t) ln t) (mm_u2 (T 8) t (T.pc t) ne t) (mm_u2 (T 9) t (T.pc t) fo t) x (mm_u2 (T 10) t 0 (T.pc t + 1) t 0)).1 = _
    rw [mm_u2_at]
  rw [e, mm_lyF, mm_u2_at, mm_u2_at, mm_u2_at, mm_lyF_cg (li := T 7 t) (ne := T 8 t) (fo := T 9 t) (T.pc t) (fun j hj => ⟨mm_u2_col (Nat.ne_of_lt hj), mm_u2_col (Nat.ne_of_lt hj), mm_u2_col (Nat.ne_of_lt hj)⟩)]
  by_cases h : x < 8
  · rw [if_pos h]
    by_cases c : mm_cd ne fo x = true
    · rw [if_pos c, show (mm_W 8 (mm_cd ne fo) (fun x => if x < 8 then mm_pgs T t x else 0) (mm_lnP (fun x => if x < 8 then mm_pgs T t x else 0) (fun x => if x < 8 then (mm_ly T t x (T.pc t)).2 else 0) ln)) x = mm_lnP (fun x => if x < 8 then mm_pgs T t x else 0) (fun x => if x < 8 then (mm_ly T t x (T.pc t)).2 else 0) ln x from if_pos ⟨h, c⟩, mm_lnP, if_pos h, if_pos h]
      show (if (mm_ly T t x (T.pc t)).1 = 0 ∨ 40 < (mm_ly T t x (T.pc t)).2 + ln then _ else _ : Nat × Nat).1 = if (mm_ly T t x (T.pc t)).1 = 0 ∨ 40 < (mm_ly T t x (T.pc t)).2 + ln then _ else _
      by_cases g : (mm_ly T t x (T.pc t)).1 = 0 ∨ 40 < (mm_ly T t x (T.pc t)).2 + ln
      · rw [if_pos g, if_pos g]; rfl
      · rw [if_neg g, if_neg g]; rfl
    · rw [if_neg c, mm_W, if_neg (fun q => c q.2), if_pos h] <;> rfl
  · rw [if_neg h, mm_W, if_neg (fun q => h q.1), if_neg h]
theorem mm_pQ (x : Nat) : (if x < 8 then (mm_ly (mm_t_addPart T t ln ne fo) t x ((mm_t_addPart T t ln ne fo).pc t)).2 else 0) = (mm_W 8 (mm_cd ne fo) (fun x => if x < 8 then (mm_ly T t x (T.pc t)).2 else 0) (mm_lnQ (fun x => if x < 8 then mm_pgs T t x else 0) (fun x => if x < 8 then (mm_ly T t x (T.pc t)).2 else 0) ln)) x := by
  have e : (mm_ly (mm_t_addPart T t ln ne fo) t x ((mm_t_addPart T t ln ne fo).pc t)).2 = (mm_lyF (mm_u2 (T 7) t (T.pc t) ln t) (mm_u2 (T 8) t (T.pc t) ne t) (mm_u2 (T 9) t (T.pc t) fo t) x (T.pc t + 1)).2 := by
    show (mm_lyF (mm_u2 (T 7) t (T.pc t) ln t) (mm_u2 (T 8) t (T.pc t) ne t) (mm_u2 (T 9) t (T.pc t) fo t) x (mm_u2 (T 10) t 0 (T.pc t + 1) t 0)).2 = _
    rw [mm_u2_at]
  rw [e, mm_lyF, mm_u2_at, mm_u2_at, mm_u2_at, mm_lyF_cg (li := T 7 t) (ne := T 8 t) (fo := T 9 t) (T.pc t) (fun j hj => ⟨mm_u2_col (Nat.ne_of_lt hj), mm_u2_col (Nat.ne_of_lt hj), mm_u2_col (Nat.ne_of_lt hj)⟩)]
  by_cases h : x < 8
  · rw [if_pos h]
    by_cases c : mm_cd ne fo x = true
    · rw [if_pos c, show (mm_W 8 (mm_cd ne fo) (fun x => if x < 8 then (mm_ly T t x (T.pc t)).2 else 0) (mm_lnQ (fun x => if x < 8 then mm_pgs T t x else 0) (fun x => if x < 8 then (mm_ly T t x (T.pc t)).2 else 0) ln)) x = mm_lnQ (fun x => if x < 8 then mm_pgs T t x else 0) (fun x => if x < 8 then (mm_ly T t x (T.pc t)).2 else 0) ln x from if_pos ⟨h, c⟩, mm_lnQ, if_pos h, if_pos h]
      show (if (mm_ly T t x (T.pc t)).1 = 0 ∨ 40 < (mm_ly T t x (T.pc t)).2 + ln then _ else _ : Nat × Nat).2 = if (mm_ly T t x (T.pc t)).1 = 0 ∨ 40 < (mm_ly T t x (T.pc t)).2 + ln then _ else _
      by_cases g : (mm_ly T t x (T.pc t)).1 = 0 ∨ 40 < (mm_ly T t x (T.pc t)).2 + ln
      · rw [if_pos g, if_pos g]
      · rw [if_neg g, if_neg g]
    · rw [if_neg c, mm_W, if_neg (fun q => c q.2), if_pos h] <;> rfl
  · rw [if_neg h, mm_W, if_neg (fun q => h q.1), if_neg h]
theorem mm_pA (x : Nat) : (if x < 8 then mm_pts (mm_t_addPart T t ln ne fo) t x else 0) = (mm_W 8 (mm_cd ne fo) (fun x => if x < 8 then mm_pts T t x else 0) (mm_lnA (fun x => if x < 8 then mm_pts T t x else 0) (T.pc t))) x := by
  have e : mm_pts (mm_t_addPart T t ln ne fo) t x = mm_ptF (mm_u2 (T 8) t (T.pc t) ne t) (mm_u2 (T 9) t (T.pc t) fo t) x (T.pc t + 1) := by
    show mm_ptF (mm_u2 (T 8) t (T.pc t) ne t) (mm_u2 (T 9) t (T.pc t) fo t) x (mm_u2 (T 10) t 0 (T.pc t + 1) t 0) = _
    rw [mm_u2_at]
  rw [e, mm_ptF, mm_u2_at, mm_u2_at, mm_ptF_cg (ne := T 8 t) (fo := T 9 t) (T.pc t) (fun j hj => ⟨mm_u2_col (Nat.ne_of_lt hj), mm_u2_col (Nat.ne_of_lt hj)⟩)]
  by_cases h : x < 8
  · rw [if_pos h]
    by_cases c : mm_cd ne fo x = true
    · rw [if_pos c, mm_W, if_pos ⟨h, c⟩, mm_lnA, if_pos h]; rfl
    · rw [if_neg c, mm_W, if_neg (fun q => c q.2), if_pos h] <;> rfl
  · rw [if_neg h, mm_W, if_neg (fun q => h q.1), if_neg h]
theorem mm_ctU : ∀ k i j, mm_lv T k i j → ¬ (k = 3 ∧ i = t) → ¬ (k = 4 ∧ i = t) → mm_ct (mm_t_addPart T t ln ne fo) z ad k i j = mm_ct T z ad k i j
  | 0, i, j, hl, hn, hm => mm_c0_cg (by simp only [mm_t_addPart]; rw [mm_T.wo (by decide), mm_T.wo (by decide), mm_T.wo (by decide), mm_T.wo (by decide)]) (by simp only [mm_t_addPart]; rw [mm_T.wo (by decide), mm_T.wo (by decide), mm_T.wo (by decide), mm_T.wo (by decide)])
  | 1, i, j, hl, hn, hm => rfl
  | 2, i, j, hl, hn, hm => rfl
  | 3, i, j, hl, hn, hm => by
    have hi : i ≠ t := fun e => hn ⟨rfl, e⟩
    show mm_O 5 [.ref (ad 4 i 0), .ref (ad 4 i 1), .ref (ad 4 i 2), .int (nI (mm_u2 (T 10) t 0 (T.pc t + 1) i 0)), .int (nI (T.us i))] = _
    rw [mm_u2_row hi] <;> rfl
  | 4, i, j, hl, hn, hm => by
    have hi : i ≠ t := fun e => hm ⟨rfl, e⟩
    have h7 : mm_T.li (mm_t_addPart T t ln ne fo) i = mm_T.li T i := mm_u2_row hi
    have h8 : mm_T.ne (mm_t_addPart T t ln ne fo) i = mm_T.ne T i := mm_u2_row hi
    have h9 : mm_T.fo (mm_t_addPart T t ln ne fo) i = mm_T.fo T i := mm_u2_row hi
    have h10 : mm_T.pc (mm_t_addPart T t ln ne fo) i = mm_T.pc T i := congrFun (mm_u2_row hi) 0
    show mm_c4 (mm_t_addPart T t ln ne fo) i j = mm_c4 T i j
    simp only [mm_c4, mm_pts, mm_pgs, mm_ly, mm_pt, h7, h8, h9, h10]
  | 5, i, j, hl, hn, hm => rfl
  | 6, i, j, hl, hn, hm => rfl
  | 7, i, j, hl, hn, hm => rfl
  | n + 8, i, j, hl, hn, hm => False.elim hl
end
