/-! the reference: its memory -/
def mm_kd (k : Nat) : Nat := match k with
  | 3 => 4
  | 6 => 3
  | 11 => 4
  | 14 => 3
  | 19 => 4
  | _ => 0
def mm_kq (k : Nat) : Nat := match k with
  | 14 => 6
  | 19 => 7
  | _ => 5
def mm_sz1 (k : Nat) : Nat := match k with
  | 1 => 12
  | 2 => 12
  | 3 => 12
  | 4 => 24
  | 5 => 24
  | 6 => 24
  | 7 => 4
  | 8 => 4
  | 9 => 4
  | 10 => 4
  | 11 => 4
  | 12 => 2
  | 13 => 10
  | 14 => 10
  | 15 => 10
  | 16 => 10
  | 17 => 10
  | 18 => 10
  | 19 => 10
  | _ => 0
def mm_iz (k : Nat) : Nat := match k with
  | 7 => 8
  | 8 => 8
  | 9 => 8
  | 14 => 24
  | 15 => 24
  | 16 => 24
  | 17 => 24
  | 18 => 24
  | 19 => 24
  | _ => 0
def mm_dm (k : Nat) : Nat := match k with
  | 1 => 1
  | 2 => 1
  | 3 => 1
  | 4 => 1
  | 5 => 1
  | 6 => 1
  | 10 => 1
  | 11 => 1
  | 12 => 1
  | 13 => 1
  | 7 => 2
  | 8 => 2
  | 9 => 2
  | 14 => 2
  | 15 => 2
  | 16 => 2
  | 17 => 2
  | 18 => 2
  | 19 => 2
  | _ => 0
def mm_fM (T : mm_T) (th : Nat) (rd : Nat → Nat → Nat) : List Value := [.ref (rd 1 0), .ref (rd 2 0), .ref (rd 3 0), .int (nI T.nA), .ref (rd 4 0), .ref (rd 5 0), .ref (rd 6 0), .int (nI T.nP), .ref (rd 7 0), .ref (rd 8 0), .ref (rd 9 0), .ref (rd 10 0), .ref (rd 11 0), .int (nI T.nT), .int (nI T.pa), .ref (rd 12 0), .int (nI T.bo), .ref (rd 13 0), .ref (rd 14 0), .ref (rd 15 0), .ref (rd 16 0), .ref (rd 17 0), .ref (rd 18 0), .ref (rd 19 0), .int (nI T.nR), .int (nI th)]
def mm_lr (k i : Nat) : Prop := (k = 0 ∧ i = 0) ∨ (mm_dm k = 1 ∧ i = 0) ∨ (mm_dm k = 2 ∧ i ≤ mm_sz1 k)
def mm_M (σ : mm_S) (T : mm_T) (th : Nat) (rd : Nat → Nat → Nat) : Prop :=
  σ (rd 0 0) = mm_obj 1 7 (mm_fM T th rd) ∧ (∀ k, mm_dm k = 1 → σ (rd k 0) = mm_ari 1 (mm_kd k) (mm_sz1 k) (fun i => nI (T k i 0))) ∧
  (∀ k, mm_dm k = 2 → σ (rd k 0) = mm_arq 1 (mm_kq k) (mm_sz1 k) (fun i => if i < mm_sz1 k then some (rd k (i + 1)) else none)) ∧
  (∀ k i, mm_dm k = 2 → i < mm_sz1 k → σ (rd k (i + 1)) = mm_ari 1 (mm_kd k) (mm_iz k) (fun j => nI (T k i j))) ∧
  (∀ k i k' i', mm_lr k i → mm_lr k' i' → rd k i = rd k' i' → k = k' ∧ i = i')
section
variable {σ : mm_S} {T T' : mm_T} {th : Nat} {rd : Nat → Nat → Nat}
theorem mm_r0 (h : mm_M σ T th rd) : σ (rd 0 0) = mm_obj 1 7 [.ref (rd 1 0), .ref (rd 2 0), .ref (rd 3 0), .int (nI T.nA), .ref (rd 4 0), .ref (rd 5 0), .ref (rd 6 0), .int (nI T.nP), .ref (rd 7 0), .ref (rd 8 0), .ref (rd 9 0), .ref (rd 10 0), .ref (rd 11 0), .int (nI T.nT), .int (nI T.pa), .ref (rd 12 0), .int (nI T.bo), .ref (rd 13 0), .ref (rd 14 0), .ref (rd 15 0), .ref (rd 16 0), .ref (rd 17 0), .ref (rd 18 0), .ref (rd 19 0), .int (nI T.nR), .int (nI th)] := h.1
theorem mm_r1 (h : mm_M σ T th rd) : σ (rd 1 0) = mm_ari 1 0 12 (fun i => nI (T.co i)) := h.2.1 1 rfl
theorem mm_r2 (h : mm_M σ T th rd) : σ (rd 2 0) = mm_ari 1 0 12 (fun i => nI (T.sk i)) := h.2.1 2 rfl
theorem mm_r3 (h : mm_M σ T th rd) : σ (rd 3 0) = mm_ari 1 4 12 (fun i => nI (T.go i)) := h.2.1 3 rfl
theorem mm_r4 (h : mm_M σ T th rd) : σ (rd 4 0) = mm_ari 1 0 24 (fun i => nI (T.ho i)) := h.2.1 4 rfl
theorem mm_r5 (h : mm_M σ T th rd) : σ (rd 5 0) = mm_ari 1 0 24 (fun i => nI (T.fl i)) := h.2.1 5 rfl
theorem mm_r6 (h : mm_M σ T th rd) : σ (rd 6 0) = mm_ari 1 3 24 (fun i => nI (T.re i)) := h.2.1 6 rfl
theorem mm_r10 (h : mm_M σ T th rd) : σ (rd 10 0) = mm_ari 1 0 4 (fun i => nI (T.pc i)) := h.2.1 10 rfl
theorem mm_r11 (h : mm_M σ T th rd) : σ (rd 11 0) = mm_ari 1 4 4 (fun i => nI (T.us i)) := h.2.1 11 rfl
theorem mm_r12 (h : mm_M σ T th rd) : σ (rd 12 0) = mm_ari 1 0 2 (fun i => nI (T.en i)) := h.2.1 12 rfl
theorem mm_r13 (h : mm_M σ T th rd) : σ (rd 13 0) = mm_ari 1 0 10 (fun i => nI (T.rp i)) := h.2.1 13 rfl
theorem mm_rq7 (h : mm_M σ T th rd) : σ (rd 7 0) = mm_arq 1 5 4 (fun i => if i < 4 then some (rd 7 (i + 1)) else none) := h.2.2.1 7 rfl
theorem mm_rr7 (h : mm_M σ T th rd) {i : Nat} (hi : i < 4) : σ (rd 7 (i + 1)) = mm_ari 1 0 8 (fun j => nI (T.li i j)) := h.2.2.2.1 7 i rfl hi
theorem mm_rq8 (h : mm_M σ T th rd) : σ (rd 8 0) = mm_arq 1 5 4 (fun i => if i < 4 then some (rd 8 (i + 1)) else none) := h.2.2.1 8 rfl
theorem mm_rr8 (h : mm_M σ T th rd) {i : Nat} (hi : i < 4) : σ (rd 8 (i + 1)) = mm_ari 1 0 8 (fun j => nI (T.ne i j)) := h.2.2.2.1 8 i rfl hi
theorem mm_rq9 (h : mm_M σ T th rd) : σ (rd 9 0) = mm_arq 1 5 4 (fun i => if i < 4 then some (rd 9 (i + 1)) else none) := h.2.2.1 9 rfl
theorem mm_rr9 (h : mm_M σ T th rd) {i : Nat} (hi : i < 4) : σ (rd 9 (i + 1)) = mm_ari 1 0 8 (fun j => nI (T.fo i j)) := h.2.2.2.1 9 i rfl hi
theorem mm_rq14 (h : mm_M σ T th rd) : σ (rd 14 0) = mm_arq 1 6 10 (fun i => if i < 10 then some (rd 14 (i + 1)) else none) := h.2.2.1 14 rfl
theorem mm_rr14 (h : mm_M σ T th rd) {i : Nat} (hi : i < 10) : σ (rd 14 (i + 1)) = mm_ari 1 3 24 (fun j => nI (T.oc i j)) := h.2.2.2.1 14 i rfl hi
theorem mm_rq15 (h : mm_M σ T th rd) : σ (rd 15 0) = mm_arq 1 5 10 (fun i => if i < 10 then some (rd 15 (i + 1)) else none) := h.2.2.1 15 rfl
theorem mm_rr15 (h : mm_M σ T th rd) {i : Nat} (hi : i < 10) : σ (rd 15 (i + 1)) = mm_ari 1 0 24 (fun j => nI (T.pg i j)) := h.2.2.2.1 15 i rfl hi
theorem mm_rq16 (h : mm_M σ T th rd) : σ (rd 16 0) = mm_arq 1 5 10 (fun i => if i < 10 then some (rd 16 (i + 1)) else none) := h.2.2.1 16 rfl
theorem mm_rr16 (h : mm_M σ T th rd) {i : Nat} (hi : i < 10) : σ (rd 16 (i + 1)) = mm_ari 1 0 24 (fun j => nI (T.rc i j)) := h.2.2.2.1 16 i rfl hi
theorem mm_rq17 (h : mm_M σ T th rd) : σ (rd 17 0) = mm_arq 1 5 10 (fun i => if i < 10 then some (rd 17 (i + 1)) else none) := h.2.2.1 17 rfl
theorem mm_rr17 (h : mm_M σ T th rd) {i : Nat} (hi : i < 10) : σ (rd 17 (i + 1)) = mm_ari 1 0 24 (fun j => nI (T.rt i j)) := h.2.2.2.1 17 i rfl hi
theorem mm_rq18 (h : mm_M σ T th rd) : σ (rd 18 0) = mm_arq 1 5 10 (fun i => if i < 10 then some (rd 18 (i + 1)) else none) := h.2.2.1 18 rfl
theorem mm_rr18 (h : mm_M σ T th rd) {i : Nat} (hi : i < 10) : σ (rd 18 (i + 1)) = mm_ari 1 0 24 (fun j => nI (T.ps i j)) := h.2.2.2.1 18 i rfl hi
theorem mm_rq19 (h : mm_M σ T th rd) : σ (rd 19 0) = mm_arq 1 7 10 (fun i => if i < 10 then some (rd 19 (i + 1)) else none) := h.2.2.1 19 rfl
theorem mm_rr19 (h : mm_M σ T th rd) {i : Nat} (hi : i < 10) : σ (rd 19 (i + 1)) = mm_ari 1 4 24 (fun j => nI (T.bk i j)) := h.2.2.2.1 19 i rfl hi
theorem mm_M_ne (h : mm_M σ T th rd) {k i k' i' : Nat} (h1 : mm_lr k i) (h2 : mm_lr k' i') (hn : ¬ (k = k' ∧ i = i')) : rd k i ≠ rd k' i' := fun e => hn (h.2.2.2.2 _ _ _ _ h1 h2 e)
theorem mm_l0 : mm_lr 0 0 := Or.inl ⟨rfl, rfl⟩
theorem mm_l1 {k : Nat} (h : mm_dm k = 1) : mm_lr k 0 := Or.inr (Or.inl ⟨h, rfl⟩)
theorem mm_l2 {k : Nat} (h : mm_dm k = 2) : mm_lr k 0 := Or.inr (Or.inr ⟨h, Nat.zero_le _⟩)
theorem mm_l2i {k i : Nat} (h : mm_dm k = 2) (hi : i < mm_sz1 k) : mm_lr k (i + 1) := Or.inr (Or.inr ⟨h, hi⟩)
theorem mm_dm0 {k : Nat} (h : mm_dm k = 1 ∨ mm_dm k = 2) : k ≠ 0 := fun e => by subst e; rcases h with h | h <;> exact absurd h (by decide)
/-- the object's own fields are written -/
theorem mm_Mo (h : mm_M σ T th rd) {th' : Nat} (hT : ∀ k, k ≠ 0 → T' k = T k) {fs : List Value} (hf : fs = mm_fM T' th' rd) : mm_M (mm_u σ (rd 0 0) (mm_obj 1 7 fs)) T' th' rd := by
  obtain ⟨h0, h1, h2, h3, h4⟩ := h
  refine ⟨by rw [mm_u_eq, hf], fun k hk => ?_, fun k hk => ?_, fun k i hk hi => ?_, h4⟩
  · rw [mm_u_ne (mm_M_ne ⟨h0, h1, h2, h3, h4⟩ (mm_l1 hk) mm_l0 (fun e => mm_dm0 (Or.inl hk) e.1)), hT k (mm_dm0 (Or.inl hk))]
    exact h1 k hk
  · rw [mm_u_ne (mm_M_ne ⟨h0, h1, h2, h3, h4⟩ (mm_l2 hk) mm_l0 (fun e => mm_dm0 (Or.inr hk) e.1))]
    exact h2 k hk
  · rw [mm_u_ne (mm_M_ne ⟨h0, h1, h2, h3, h4⟩ (mm_l2i hk hi) mm_l0 (fun e => mm_dm0 (Or.inr hk) e.1)), hT k (mm_dm0 (Or.inr hk))]
    exact h3 k i hk hi
/-- an array of one dimension is written -/
theorem mm_Mw1 (h : mm_M σ T th rd) {k : Nat} (hk : mm_dm k = 1) {g : Nat → Nat → Nat} {f : Nat → Int32} (hf : f = fun i => nI (g i 0)) : mm_M (mm_u σ (rd k 0) (mm_ari 1 (mm_kd k) (mm_sz1 k) f)) (T.w k g) th rd := by
  have hh := h
  obtain ⟨h0, h1, h2, h3, h4⟩ := h
  have k0 := mm_dm0 (Or.inl hk)
  have e0 : (T.w k g) 0 = T 0 := mm_T.wo (Ne.symm k0)
  refine ⟨?_, fun q hq => ?_, fun q hq => ?_, fun q i hq hi => ?_, h4⟩
  · rw [mm_u_ne (mm_M_ne hh mm_l0 (mm_l1 hk) (fun e => k0 e.1.symm)), h0, mm_fM, mm_fM]
    show _ = mm_obj 1 7 _
    rw [mm_T.nA, mm_T.nA, mm_T.nP, mm_T.nP, mm_T.nT, mm_T.nT, mm_T.pa, mm_T.pa, mm_T.bo, mm_T.bo, mm_T.nR, mm_T.nR, e0]
  · by_cases e : q = k
    · rw [e, mm_u_eq, hf, mm_T.wi]
    · rw [mm_u_ne (mm_M_ne hh (mm_l1 hq) (mm_l1 hk) (fun z => e z.1)), mm_T.wo e]
      exact h1 q hq
  · rw [mm_u_ne (mm_M_ne hh (mm_l2 hq) (mm_l1 hk) (fun z => by rw [z.1, hk] at hq; cases hq))]
    exact h2 q hq
  · rw [mm_u_ne (mm_M_ne hh (mm_l2i hq hi) (mm_l1 hk) (fun z => by cases z.2)), mm_T.wo (fun e => by rw [e, hk] at hq; cases hq)]
    exact h3 q i hq hi
/-- a row of an array of two dimensions is written -/
theorem mm_Mw2 (h : mm_M σ T th rd) {k i : Nat} (hk : mm_dm k = 2) (hi : i < mm_sz1 k) {g : Nat → Nat → Nat} (hg : ∀ a, a ≠ i → g a = T k a) {f : Nat → Int32} (hf : f = fun j => nI (g i j)) : mm_M (mm_u σ (rd k (i + 1)) (mm_ari 1 (mm_kd k) (mm_iz k) f)) (T.w k g) th rd := by
  have hh := h
  obtain ⟨h0, h1, h2, h3, h4⟩ := h
  have k0 := mm_dm0 (Or.inr hk)
  have e0 : (T.w k g) 0 = T 0 := mm_T.wo (Ne.symm k0)
  refine ⟨?_, fun q hq => ?_, fun q hq => ?_, fun q a hq ha => ?_, h4⟩
  · rw [mm_u_ne (mm_M_ne hh mm_l0 (mm_l2i hk hi) (fun e => k0 e.1.symm)), h0, mm_fM, mm_fM]
    show _ = mm_obj 1 7 _
    rw [mm_T.nA, mm_T.nA, mm_T.nP, mm_T.nP, mm_T.nT, mm_T.nT, mm_T.pa, mm_T.pa, mm_T.bo, mm_T.bo, mm_T.nR, mm_T.nR, e0]
  · rw [mm_u_ne (mm_M_ne hh (mm_l1 hq) (mm_l2i hk hi) (fun z => by cases z.2)), mm_T.wo (fun e => by rw [e, hk] at hq; cases hq)]
    exact h1 q hq
  · rw [mm_u_ne (mm_M_ne hh (mm_l2 hq) (mm_l2i hk hi) (fun z => by cases z.2))]
    exact h2 q hq
  · by_cases e : q = k ∧ a = i
    · rw [e.1, e.2, mm_u_eq, hf, mm_T.wi]
    · rw [mm_u_ne (mm_M_ne hh (mm_l2i hq ha) (mm_l2i hk hi) (fun z => e ⟨z.1, by have := z.2; omega⟩))]
      by_cases eq : q = k
      · subst eq
        rw [mm_T.wi, hg a (fun z => e ⟨rfl, z⟩)]
        exact h3 q a hq ha
      · rw [mm_T.wo eq]
        exact h3 q a hq ha
theorem mm_va1 {g : Nat → Nat → Nat} {j v : Nat} : va_up (fun i => nI (g i 0)) j (nI v) = fun i => nI (mm_u2 g j 0 v i 0) := by
  rw [mm_upn (fun i => g i 0)]
  funext i
  show nI (if i = j then v else g i 0) = nI (if i = j ∧ 0 = 0 then v else g i 0)
  by_cases e : i = j
  · rw [if_pos e, if_pos ⟨e, rfl⟩]
  · rw [if_neg e, if_neg (fun q => e q.1)]
theorem mm_va2 {g : Nat → Nat → Nat} {i j v : Nat} : va_up (fun q => nI (g i q)) j (nI v) = fun q => nI (mm_u2 g i j v i q) := by
  rw [mm_upn (fun q => g i q)]
  funext q
  show nI (if q = j then v else g i q) = nI (if i = i ∧ q = j then v else g i q)
  by_cases e : q = j
  · rw [if_pos e, if_pos ⟨rfl, e⟩]
  · rw [if_neg e, if_neg (fun q => e q.2)]
theorem mm_M_kept {σ' : mm_S} (h : mm_M σ T th rd) (hF : mm_Fr 0 σ σ') : mm_M σ' T th rd :=
  ⟨hF _ 1 _ (by decide) h.1, fun k hk => hF _ 1 _ (by decide) (h.2.1 k hk), fun k hk => hF _ 1 _ (by decide) (h.2.2.1 k hk), fun k i hk hi => hF _ 1 _ (by decide) (h.2.2.2.1 k i hk hi), h.2.2.2.2⟩
end
/-- what a call of the reference leaves -/
def mm_Mt (rd : Nat → Nat → Nat) (σ σ2 : mm_S) (T T' : mm_T) (q : Nat) (v ans : Option Value) : Prop :=
  (q = 0 ∧ v = ans ∧ mm_M σ2 T' 0 rd ∧ mm_Fr 1 σ σ2) ∨ (0 < q ∧ (∃ w : Int32, v = some (.int w)) ∧ mm_M σ2 T q rd ∧ mm_Fr 1 σ σ2)
/-- tests of ranges -/
theorem mm_inC {a lo hi : Nat} (ha : a < 2 ^ 32) (hl : lo < 2 ^ 31) (hh : hi < 2 ^ 31) : (nI lo ≤ nI a ∧ nI a ≤ nI hi) ↔ (lo ≤ a ∧ a ≤ hi) := by
  rw [mm_geB ha hl, mm_leB ha hh]
  omega
theorem mm_inN {a n : Nat} (ha : a < 2 ^ 32) (hn : n ≤ 1000) : (nI 0 ≤ nI a ∧ nI a ≤ nI n - nI 1) ↔ a < n := by
  by_cases h : n = 0
  · subst h
    rw [show nI 0 - nI 1 = (-1 : Int32) from by decide]
    refine ⟨fun q => ?_, fun q => by omega⟩
    have h1 := Int32.le_trans q.1 q.2
    exact absurd h1 (by decide)
  · rw [pk_sub (by omega : 1 ≤ n), mm_inC ha (by decide) (by omega)]
    omega
