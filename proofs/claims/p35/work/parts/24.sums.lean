theorem mm_sm_take (L : List Nat) (g : Nat → Nat) (k : Nat) (hk : k ≤ L.length) : mm_sm (fun i => g (L.getD i 0)) k = ((L.take k).map g).sum := by
  induction k with
  | zero => rfl
  | succ k ih =>
    show mm_sm _ k + g (L.getD k 0) = _
    rw [ih (by omega), List.take_succ, mm_gd (by omega)]
    simp
theorem mm_sm_list (L : List Nat) (g : Nat → Nat) : mm_sm (fun i => g (L.getD i 0)) L.length = (L.map g).sum := by
  rw [mm_sm_take L g _ (Nat.le_refl _), List.take_length]
theorem mm_sum_ins (g : Nat → Nat) (x : Nat) : ∀ (L : List Nat) (i : Nat), i ≤ L.length → ((L.insertIdx i x).map g).sum = (L.map g).sum + g x
  | L, 0, _ => by
    rw [List.insertIdx_zero, List.map_cons, List.sum_cons]
    omega
  | [], i + 1, h => absurd h (by simp)
  | a :: L, i + 1, h => by
    rw [List.insertIdx_succ_cons, List.map_cons, List.sum_cons, List.map_cons, List.sum_cons, mm_sum_ins g x L i (by rw [List.length_cons] at h; omega)]
    omega
theorem mm_po_sum (oc rc g : Nat → Nat) (n : Nat) : mm_sm (fun i => g ((mm_po oc rc n).getD i 0)) (mm_po oc rc n).length = mm_sm (fun p => if oc p = 108 then g p else 0) n := by
  rw [mm_sm_list]
  induction n with
  | zero => rfl
  | succ n ih =>
    show ((if oc n = 108 then (mm_po oc rc n).insertIdx _ n else mm_po oc rc n).map g).sum = mm_sm _ n + (if oc n = 108 then g n else 0)
    by_cases h : oc n = 108
    · rw [if_pos h, if_pos h, mm_sum_ins g n _ _ (mm_sm1 _), ih]
    · rw [if_neg h, if_neg h, ih]; omega
theorem mm_po_cnt (oc rc : Nat → Nat) (P : Nat → Prop) [DecidablePred P] (n : Nat) : mm_sm (fun i => if P ((mm_po oc rc n).getD i 0) then 1 else 0) (mm_po oc rc n).length = mm_sm (fun p => if oc p = 108 ∧ P p then 1 else 0) n := by
  rw [mm_po_sum oc rc (fun p => if P p then 1 else 0)]
  refine mm_sm_congr (fun i _ => ?_)
  by_cases h : oc i = 108
  · by_cases h2 : P i
    · rw [if_pos h, if_pos h2, if_pos ⟨h, h2⟩]
    · rw [if_pos h, if_neg h2, if_neg (fun q => h2 q.2)]
  · rw [if_neg h, if_neg (fun q => h q.1)]
theorem mm_po_num (oc rc : Nat → Nat) (n : Nat) : (mm_po oc rc n).length = mm_sm (fun p => if oc p = 108 then 1 else 0) n := by
  have h := mm_po_sum oc rc (fun _ => 1) n
  rw [← h]
  have : ∀ k : Nat, mm_sm (fun _ => 1) k = k := fun k => by
    induction k with
    | zero => rfl
    | succ k ih => show mm_sm _ k + 1 = _; rw [ih]
  rw [this]
/-- an entry's fields, the person's address among them -/
def mm_fa (T : mm_T) (ad : Nat → Nat → Nat → Nat) (r : Nat) : Nat → Nat → Nat := fun k p => match k with
  | 0 => p
  | 1 => ad 2 p 0
  | 2 => T.oc r p
  | 3 => T.rc r p
  | 4 => T.pg r p
  | 5 => T.rt r p
  | _ => T.bk r p
section
variable {σ : mm_S} {T : mm_T} {z : mm_Z} {ad : Nat → Nat → Nat → Nat} {r : Nat}
theorem mm_gdm {M : List Nat} {g : Nat → Nat} {i : Nat} (h : i < M.length) : (M.map g).getD i 0 = g (M.getD i 0) := by
  rw [List.getD_eq_getElem?_getD, mm_mg h]; rfl
theorem mm_gmem {M : List Nat} {i : Nat} (h : i < M.length) : M.getD i 0 ∈ M := List.mem_of_getElem? (mm_gd h)
/-- a list of entries of a run -/
theorem mm_X_en (hX : mm_X σ T z ad) (hW : mm_WF T) (hr : r < T.nR) {M : List Nat} (hM : ∀ p ∈ M, p < T.rp r) (hn : M.length ≤ 24) : mm_en σ 0 (M.map (fun p => ad 7 r p)) (fun k i => mm_fa T ad r k (M.getD i 0)) := by
  refine ⟨by rw [List.length_map]; exact hn, fun i hi => ?_⟩
  rw [List.length_map] at hi
  have hp := hM _ (mm_gmem hi)
  obtain ⟨-, -, -, w⟩ := hW.hru r hr
  obtain ⟨w1, w2, w3, w4, w5, -⟩ := w _ hp
  rw [mm_gdm hi]
  exact ⟨mm_XN hX hr hp, w1, w2, Nat.lt_of_le_of_lt w3 (by decide), w4, w5⟩
theorem mm_X_po (hX : mm_X σ T z ad) (hW : mm_WF T) (hr : r < T.nR) : mm_en σ 0 ((mm_po (T.oc r) (T.rc r) (T.rp r)).map (fun p => ad 7 r p)) (fun k i => mm_fa T ad r k ((mm_po (T.oc r) (T.rc r) (T.rp r)).getD i 0)) :=
  mm_X_en hX hW hr (fun p hp => (mm_po_lt _ _ _ p hp).1) (by have := mm_po_len (T.oc r) (T.rc r) (T.rp r); have := (hW.hru r hr).1; have := hW.hnP; omega)
end
/-- what a call leaves: the class's objects hold T', the others' are as they were -/
def mm_Xt (σ σ2 : mm_S) (T' : mm_T) (x0 : Nat) : Prop := ∃ (z : mm_Z) (ad : Nat → Nat → Nat → Nat), mm_X σ2 T' z ad ∧ ad 0 0 0 = x0 ∧ mm_Fr 0 σ σ2
theorem mm_Xt.rf {σ σ2 : mm_S} {T : mm_T} {z : mm_Z} {ad : Nat → Nat → Nat → Nat} (h : mm_X σ T z ad) (e : σ2 = σ) : mm_Xt σ σ2 T (ad 0 0 0) := ⟨z, ad, e ▸ h, rfl, e ▸ mm_Fr.rf⟩
theorem mm_pl_lt {f : Nat → Nat → Nat} {n : Nat} (k : Nat) : ∀ p ∈ mm_pl f n k, p < n := by
  induction k with
  | zero => intro p hp; cases hp
  | succ k ih =>
    intro p hp
    rw [show mm_pl f n (k + 1) = if mm_bk f n k = 0 then mm_pl f n k else mm_pl f n k ++ [mm_bk f n k - 1] from rfl] at hp
    split at hp
    · exact ih p hp
    · rename_i h
      rcases List.mem_append.mp hp with h1 | h1
      · exact ih p h1
      · rw [List.mem_singleton.mp h1]
        have : mm_bk f n k ≤ n := mm_bs_le _ _
        omega
