/-! the state that the class and the reference share -/
def mm_T : Type := Nat → Nat → Nat → Nat
abbrev mm_T.nA (T : mm_T) : Nat := T 0 0 0
abbrev mm_T.nP (T : mm_T) : Nat := T 0 1 0
abbrev mm_T.nT (T : mm_T) : Nat := T 0 2 0
abbrev mm_T.nR (T : mm_T) : Nat := T 0 3 0
abbrev mm_T.pa (T : mm_T) : Nat := T 0 4 0
abbrev mm_T.bo (T : mm_T) : Nat := T 0 5 0
abbrev mm_T.b0 (T : mm_T) : Nat := T 0 6 0
abbrev mm_T.b1 (T : mm_T) : Nat := T 0 7 0
abbrev mm_T.b2 (T : mm_T) : Nat := T 0 8 0
abbrev mm_T.co (T : mm_T) (i : Nat) : Nat := T 1 i 0
abbrev mm_T.sk (T : mm_T) (i : Nat) : Nat := T 2 i 0
abbrev mm_T.go (T : mm_T) (i : Nat) : Nat := T 3 i 0
abbrev mm_T.ho (T : mm_T) (i : Nat) : Nat := T 4 i 0
abbrev mm_T.fl (T : mm_T) (i : Nat) : Nat := T 5 i 0
abbrev mm_T.re (T : mm_T) (i : Nat) : Nat := T 6 i 0
abbrev mm_T.pc (T : mm_T) (i : Nat) : Nat := T 10 i 0
abbrev mm_T.us (T : mm_T) (i : Nat) : Nat := T 11 i 0
abbrev mm_T.rp (T : mm_T) (i : Nat) : Nat := T 13 i 0
abbrev mm_T.rb (T : mm_T) (i : Nat) : Nat := T 20 i 0
abbrev mm_T.en (T : mm_T) (i : Nat) : Nat := T 12 i 0
abbrev mm_T.li (T : mm_T) (i j : Nat) : Nat := T 7 i j
abbrev mm_T.ne (T : mm_T) (i j : Nat) : Nat := T 8 i j
abbrev mm_T.fo (T : mm_T) (i j : Nat) : Nat := T 9 i j
abbrev mm_T.oc (T : mm_T) (i j : Nat) : Nat := T 14 i j
abbrev mm_T.pg (T : mm_T) (i j : Nat) : Nat := T 15 i j
abbrev mm_T.rc (T : mm_T) (i j : Nat) : Nat := T 16 i j
abbrev mm_T.rt (T : mm_T) (i j : Nat) : Nat := T 17 i j
abbrev mm_T.ps (T : mm_T) (i j : Nat) : Nat := T 18 i j
abbrev mm_T.bk (T : mm_T) (i j : Nat) : Nat := T 19 i j
/-- one field is written anew -/
def mm_T.w (T : mm_T) (k : Nat) (f : Nat → Nat → Nat) : mm_T := fun q => if q = k then f else T q
theorem mm_T.wi {T : mm_T} {k : Nat} {f : Nat → Nat → Nat} : T.w k f k = f := if_pos rfl
theorem mm_T.wo {T : mm_T} {k q : Nat} {f : Nat → Nat → Nat} (h : q ≠ k) : T.w k f q = T q := if_neg h
/-- one place is written -/
def mm_u1 (f : Nat → Nat → Nat) (i v : Nat) : Nat → Nat → Nat := fun a j => if a = i then v else f a j
def mm_u2 (f : Nat → Nat → Nat) (i j v : Nat) : Nat → Nat → Nat := fun a q => if a = i ∧ q = j then v else f a q
/-- the class's drafts -/
def mm_Z : Type := Nat → Nat → Nat
abbrev mm_Z.l0 (z : mm_Z) : Nat := z 0 0
abbrev mm_Z.l1 (z : mm_Z) : Nat := z 0 1
abbrev mm_Z.l2 (z : mm_Z) : Nat := z 0 2
abbrev mm_Z.sk (z : mm_Z) (i : Nat) : Nat := z 1 i
abbrev mm_Z.sv (z : mm_Z) (i : Nat) : Nat := z 2 i
abbrev mm_Z.oc (z : mm_Z) (i : Nat) : Nat := z 3 i
def mm_Z.w (z : mm_Z) (k : Nat) (f : Nat → Nat) : mm_Z := fun q => if q = k then f else z q
/-- a template's letter for the flags x, of the first k parts: pages, lines on the last -/
def mm_lyF (li ne fo : Nat → Nat) (x : Nat) : Nat → Nat × Nat
  | 0 => (0, 0)
  | k + 1 => if mm_cd (ne k) (fo k) x = true then (if (mm_lyF li ne fo x k).1 = 0 ∨ 40 < (mm_lyF li ne fo x k).2 + li k then ((mm_lyF li ne fo x k).1 + 1, li k) else ((mm_lyF li ne fo x k).1, (mm_lyF li ne fo x k).2 + li k)) else mm_lyF li ne fo x k
def mm_ptF (ne fo : Nat → Nat) (x : Nat) : Nat → Nat
  | 0 => 0
  | k + 1 => if mm_cd (ne k) (fo k) x = true then mm_ptF ne fo x k ||| 2 ^ k else mm_ptF ne fo x k
abbrev mm_ly (T : mm_T) (t x k : Nat) : Nat × Nat := mm_lyF (T.li t) (T.ne t) (T.fo t) x k
abbrev mm_pt (T : mm_T) (t x k : Nat) : Nat := mm_ptF (T.ne t) (T.fo t) x k
/-- the pages and the parts of a letter -/
def mm_pgs (T : mm_T) (t x : Nat) : Nat := (mm_ly T t x (T.pc t)).1
def mm_pts (T : mm_T) (t x : Nat) : Nat := mm_pt T t x (T.pc t)
/-- a run's entries, the owner of the persons left out -/
def mm_fe (oc rc pg rt bk : Nat → Nat) : Nat → Nat → Nat := fun k p => match k with
  | 0 => p
  | 1 => 0
  | 2 => oc p
  | 3 => rc p
  | 4 => pg p
  | 5 => rt p
  | _ => bk p
abbrev mm_fr (T : mm_T) (r : Nat) : Nat → Nat → Nat := mm_fe (T.oc r) (T.rc r) (T.pg r) (T.rt r) (fun _ => 0)
/-- the letters as they are posted -/
def mm_po (oc rc : Nat → Nat) : Nat → List Nat
  | 0 => []
  | n + 1 => if oc n = 108 then (mm_po oc rc n).insertIdx (mm_sm (fun i => if rc ((mm_po oc rc n).getD i 0) ≤ rc n then 1 else 0) (mm_po oc rc n).length) n else mm_po oc rc n
theorem mm_po_len (oc rc : Nat → Nat) (n : Nat) : (mm_po oc rc n).length ≤ n := by
  induction n with
  | zero => exact Nat.le_refl _
  | succ n ih =>
    show (if oc n = 108 then _ else _ : List Nat).length ≤ _
    split
    · rw [List.length_insertIdx]
      split <;> omega
    · omega
theorem mm_po_lt (oc rc : Nat → Nat) (n : Nat) : ∀ p ∈ mm_po oc rc n, p < n ∧ oc p = 108 := by
  induction n with
  | zero => intro p hp; cases hp
  | succ n ih =>
    intro p hp
    rw [show mm_po oc rc (n + 1) = if oc n = 108 then (mm_po oc rc n).insertIdx (mm_sm (fun i => if rc ((mm_po oc rc n).getD i 0) ≤ rc n then 1 else 0) (mm_po oc rc n).length) n else mm_po oc rc n from rfl] at hp
    split at hp
    · rename_i h
      rcases (List.mem_insertIdx (mm_sm1 _)).mp hp with rfl | h1
      · exact ⟨Nat.lt_succ_self _, h⟩
      · exact ⟨Nat.lt_succ_of_lt (ih p h1).1, (ih p h1).2⟩
    · exact ⟨Nat.lt_succ_of_lt (ih p hp).1, (ih p hp).2⟩
/-- what is there: kind, place, second place -/
def mm_lv (T : mm_T) (k i j : Nat) : Prop := match k with
  | 0 => i < 8 ∧ j = 0
  | 1 => i < T.nA ∧ j = 0
  | 2 => i < T.nP ∧ j = 0
  | 3 => i < T.nT ∧ j = 0
  | 4 => i < T.nT ∧ j < 3
  | 5 => i < T.nR ∧ j = 0
  | 6 => i < T.nR ∧ j < 3
  | 7 => i < T.nR ∧ j < T.rp i
  | _ => False
abbrev mm_O (ci : Nat) (fs : List Value) : mm_e := .inr (.inl (ci, fs))
abbrev mm_A8 (f : Nat → Nat) : mm_e := .inl (0, 8, .inl (fun i => nI (f i)))
abbrev mm_L (L : List Nat) : mm_e := .inr (.inr L)
def mm_c0 (T : mm_T) (z : mm_Z) (ad : Nat → Nat → Nat → Nat) (i : Nat) : mm_e := match i with
  | 0 => mm_O 6 [.ref (ad 0 1 0), .ref (ad 0 2 0), .ref (ad 0 3 0), .ref (ad 0 4 0), .ref (ad 0 5 0), .ref (ad 0 6 0), .ref (ad 0 7 0), .int (nI T.bo)]
  | 1 => mm_L ((List.range T.nA).map (fun q => ad 1 q 0))
  | 2 => mm_L ((List.range T.nP).map (fun q => ad 2 q 0))
  | 3 => mm_L ((List.range T.nT).map (fun q => ad 3 q 0))
  | 4 => mm_L ((List.range T.nR).map (fun q => ad 5 q 0))
  | 5 => mm_O 4 [.int (nI T.pa), .int (nI (T.en 0)), .int (nI (T.en 1))]
  | 6 => mm_O 4 [.int (nI T.b0), .int (nI T.b1), .int (nI T.b2)]
  | _ => mm_O 4 [.int (nI z.l0), .int (nI z.l1), .int (nI z.l2)]
def mm_c4 (T : mm_T) (i j : Nat) : mm_e := match j with
  | 0 => mm_A8 (fun x => if x < 8 then mm_pts T i x else 0)
  | 1 => mm_A8 (fun x => if x < 8 then mm_pgs T i x else 0)
  | _ => mm_A8 (fun x => if x < 8 then (mm_ly T i x (T.pc i)).2 else 0)
def mm_c6 (T : mm_T) (ad : Nat → Nat → Nat → Nat) (i j : Nat) : mm_e := match j with
  | 0 => mm_L ((List.range (T.rp i)).map (fun p => ad 7 i p))
  | 1 => mm_L ((mm_po (T.oc i) (T.rc i) (T.rp i)).map (fun p => ad 7 i p))
  | _ => mm_L ((mm_pl (mm_fr T i) (T.rp i) 8).map (fun p => ad 7 i p))
/-- what lies there -/
def mm_ct (T : mm_T) (z : mm_Z) (ad : Nat → Nat → Nat → Nat) (k i j : Nat) : mm_e := match k with
  | 0 => mm_c0 T z ad i
  | 1 => mm_O 0 [.int (nI i), .int (nI (T.co i)), .int (nI (T.sk i)), .int (nI (T.go i)), .int (nI (z.sk i)), .int (nI (z.sv i))]
  | 2 => mm_O 2 [.ref (ad 1 (T.ho i) 0), .int (nI (T.fl i)), .int (nI (T.re i)), .int (nI (z.oc i))]
  | 3 => mm_O 5 [.ref (ad 4 i 0), .ref (ad 4 i 1), .ref (ad 4 i 2), .int (nI (T.pc i)), .int (nI (T.us i))]
  | 4 => mm_c4 T i j
  | 5 => mm_O 3 [.int (nI (T.rb i)), .ref (ad 6 i 0), .ref (ad 6 i 1), .ref (ad 6 i 2)]
  | 6 => mm_c6 T ad i j
  | _ => mm_O 1 [.int (nI j), .ref (ad 2 j 0), .int (nI (T.oc i j)), .int (nI (T.rc i j)), .int (nI (T.pg i j)), .int (nI (T.rt i j)), .int (nI (T.bk i j))]
/-- the class's objects -/
def mm_X (σ : mm_S) (T : mm_T) (z : mm_Z) (ad : Nat → Nat → Nat → Nat) : Prop :=
  (∀ k i j, mm_lv T k i j → σ (ad k i j) = some (0, mm_ct T z ad k i j)) ∧ ∀ k i j k' i' j', mm_lv T k i j → mm_lv T k' i' j' → ad k i j = ad k' i' j' → k = k' ∧ i = i' ∧ j = j'
theorem mm_X_ne {σ : mm_S} {T : mm_T} {z : mm_Z} {ad : Nat → Nat → Nat → Nat} (h : mm_X σ T z ad) {k i j k' i' j' : Nat} (h1 : mm_lv T k i j) (h2 : mm_lv T k' i' j') (hn : ¬ (k = k' ∧ i = i' ∧ j = j')) : ad k i j ≠ ad k' i' j' := fun e => hn (h.2 _ _ _ _ _ _ h1 h2 e)
/-- one object is written -/
theorem mm_X_set {σ : mm_S} {T T' : mm_T} {z z' : mm_Z} {ad : Nat → Nat → Nat → Nat} (h : mm_X σ T z ad) {k i j : Nat} (hl : mm_lv T k i j) (hv : mm_lv T' = mm_lv T)
    (hc : ∀ k' i' j', mm_lv T k' i' j' → ¬ (k' = k ∧ i' = i ∧ j' = j) → mm_ct T' z' ad k' i' j' = mm_ct T z ad k' i' j') {x : mm_e} (hx : x = mm_ct T' z' ad k i j) : mm_X (mm_u σ (ad k i j) (some (0, x))) T' z' ad := by
  refine ⟨fun k' i' j' h' => ?_, fun k1 i1 j1 k2 i2 j2 h1 h2 => h.2 _ _ _ _ _ _ (hv ▸ h1) (hv ▸ h2)⟩
  have h' : mm_lv T k' i' j' := hv ▸ h'
  by_cases e : k' = k ∧ i' = i ∧ j' = j
  · obtain ⟨rfl, rfl, rfl⟩ := e
    rw [mm_u_eq, hx]
  · rw [mm_u_ne (mm_X_ne h h' hl e), hc k' i' j' h' e]
    exact h.1 _ _ _ h'
/-- the class's objects stay as they are -/
theorem mm_X_kept {σ σ' : mm_S} {T : mm_T} {z : mm_Z} {ad : Nat → Nat → Nat → Nat} (h : mm_X σ T z ad) (hk : ∀ a e, σ a = some (0, e) → σ' a = some (0, e)) : mm_X σ' T z ad :=
  ⟨fun k i j hl => hk _ _ (h.1 k i j hl), h.2⟩
/-- what the others own stays as it is -/
def mm_Fr (o : Nat) (σ σ' : mm_S) : Prop := ∀ a q e, q ≠ o → σ a = some (q, e) → σ' a = some (q, e)
theorem mm_Fr.rf {o : Nat} {σ : mm_S} : mm_Fr o σ σ := fun _ _ _ _ h => h
theorem mm_Fr.tr {o : Nat} {σ σ1 σ2 : mm_S} (h1 : mm_Fr o σ σ1) (h2 : mm_Fr o σ1 σ2) : mm_Fr o σ σ2 := fun a q e hq h => h2 a q e hq (h1 a q e hq h)
theorem mm_Fr.u {o a : Nat} {e : mm_e} {σ : mm_S} {x : Option (Nat × mm_e)} (h : σ a = some (o, e)) : mm_Fr o σ (mm_u σ a x) := fun b q e' hq hb => by
  rw [mm_u_ne (fun e9 => by rw [e9, h] at hb; cases hb; exact hq rfl)]; exact hb
theorem mm_Fr.new {o a : Nat} {σ : mm_S} {x : Option (Nat × mm_e)} (h : σ a = none) : mm_Fr o σ (mm_u σ a x) := fun b q e' hq hb => by
  rw [mm_u_ne (fun e9 => by rw [e9, h] at hb; cases hb)]; exact hb
theorem mm_rg {n i : Nat} {g : Nat → Nat} (h : i < n) : ((List.range n).map g)[i]? = some (g i) := by
  rw [List.getElem?_map, List.getElem?_range h]; rfl
theorem mm_rgl {n : Nat} {g : Nat → Nat} : ((List.range n).map g).length = n := by rw [List.length_map, List.length_range]
/-- what holds of the numbers -/
def mm_WF (T : mm_T) : Prop :=
  (T.nA ≤ 12) ∧
  (T.nP ≤ 24) ∧
  (T.nT ≤ 4) ∧
  (T.nR ≤ 10) ∧
  (T.pa ≤ 5000) ∧
  (∀ k, T.en k ≤ 5000) ∧
  (1 ≤ T.bo ∧ T.bo ≤ 24) ∧
  (∀ i, i < T.nA → T.co i < 100 ∧ T.go i < 2) ∧
  (∀ i, i < T.nP → T.ho i < T.nA ∧ T.fl i < 8 ∧ T.re i < 65536) ∧
  (∀ t, t < T.nT → T.pc t ≤ 8 ∧ T.us t < 2 ∧ ∀ k, k < T.pc t → 1 ≤ T.li t k ∧ T.li t k ≤ 40 ∧ T.ne t k < 8 ∧ T.fo t k < 8) ∧
  (∀ r, r < T.nR → T.rp r ≤ T.nP ∧ 1 ≤ T.rb r ∧ T.rb r ≤ 24 ∧ ∀ p, p < T.rp r → T.oc r p < 65536 ∧ T.rc r p < 100 ∧ T.pg r p ≤ 8 ∧ T.rt r p < 256 ∧ T.bk r p < 2 ∧ (T.bk r p = 1 → T.oc r p = 108) ∧
    (T.oc r p = 108 → T.ps r p = mm_cf (mm_sm (fun q => if T.oc r q = 108 ∧ T.rc r q / 10 = T.rc r p / 10 then 1 else 0) (T.rp r)) (T.rb r) (T.pg r p))) ∧
  (T.b0 = T.pa + mm_sm (fun r => mm_sm (fun p => if T.oc r p = 108 then T.pg r p else 0) (T.rp r)) T.nR) ∧
  (T.b1 = T.en 0 + mm_sm (fun r => mm_sm (fun p => if T.oc r p = 108 ∧ T.pg r p ≤ 3 then 1 else 0) (T.rp r)) T.nR) ∧
  (T.b2 = T.en 1 + mm_sm (fun r => mm_sm (fun p => if T.oc r p = 108 ∧ 3 < T.pg r p then 1 else 0) (T.rp r)) T.nR) ∧
  (∀ i, T.nA ≤ i → T.sk i = 0 ∧ T.go i = 0) ∧
  (∀ t, T.nT ≤ t → T.pc t = 0 ∧ T.us t = 0)
theorem mm_WF.hnA {T : mm_T} (h : mm_WF T) : T.nA ≤ 12 := h.1
theorem mm_WF.hnP {T : mm_T} (h : mm_WF T) : T.nP ≤ 24 := h.2.1
theorem mm_WF.hnT {T : mm_T} (h : mm_WF T) : T.nT ≤ 4 := h.2.2.1
theorem mm_WF.hnR {T : mm_T} (h : mm_WF T) : T.nR ≤ 10 := h.2.2.2.1
theorem mm_WF.hpa {T : mm_T} (h : mm_WF T) : T.pa ≤ 5000 := h.2.2.2.2.1
theorem mm_WF.hen {T : mm_T} (h : mm_WF T) : ∀ k, T.en k ≤ 5000 := h.2.2.2.2.2.1
theorem mm_WF.hbo {T : mm_T} (h : mm_WF T) : 1 ≤ T.bo ∧ T.bo ≤ 24 := h.2.2.2.2.2.2.1
theorem mm_WF.had {T : mm_T} (h : mm_WF T) : ∀ i, i < T.nA → T.co i < 100 ∧ T.go i < 2 := h.2.2.2.2.2.2.2.1
theorem mm_WF.hpe {T : mm_T} (h : mm_WF T) : ∀ i, i < T.nP → T.ho i < T.nA ∧ T.fl i < 8 ∧ T.re i < 65536 := h.2.2.2.2.2.2.2.2.1
theorem mm_WF.htp {T : mm_T} (h : mm_WF T) : ∀ t, t < T.nT → T.pc t ≤ 8 ∧ T.us t < 2 ∧ ∀ k, k < T.pc t → 1 ≤ T.li t k ∧ T.li t k ≤ 40 ∧ T.ne t k < 8 ∧ T.fo t k < 8 := h.2.2.2.2.2.2.2.2.2.1
theorem mm_WF.hru {T : mm_T} (h : mm_WF T) : ∀ r, r < T.nR → T.rp r ≤ T.nP ∧ 1 ≤ T.rb r ∧ T.rb r ≤ 24 ∧ ∀ p, p < T.rp r → T.oc r p < 65536 ∧ T.rc r p < 100 ∧ T.pg r p ≤ 8 ∧ T.rt r p < 256 ∧ T.bk r p < 2 ∧ (T.bk r p = 1 → T.oc r p = 108) ∧
    (T.oc r p = 108 → T.ps r p = mm_cf (mm_sm (fun q => if T.oc r q = 108 ∧ T.rc r q / 10 = T.rc r p / 10 then 1 else 0) (T.rp r)) (T.rb r) (T.pg r p)) := h.2.2.2.2.2.2.2.2.2.2.1
theorem mm_WF.hb0 {T : mm_T} (h : mm_WF T) : T.b0 = T.pa + mm_sm (fun r => mm_sm (fun p => if T.oc r p = 108 then T.pg r p else 0) (T.rp r)) T.nR := h.2.2.2.2.2.2.2.2.2.2.2.1
theorem mm_WF.hb1 {T : mm_T} (h : mm_WF T) : T.b1 = T.en 0 + mm_sm (fun r => mm_sm (fun p => if T.oc r p = 108 ∧ T.pg r p ≤ 3 then 1 else 0) (T.rp r)) T.nR := h.2.2.2.2.2.2.2.2.2.2.2.2.1
theorem mm_WF.hb2 {T : mm_T} (h : mm_WF T) : T.b2 = T.en 1 + mm_sm (fun r => mm_sm (fun p => if T.oc r p = 108 ∧ 3 < T.pg r p then 1 else 0) (T.rp r)) T.nR := h.2.2.2.2.2.2.2.2.2.2.2.2.2.1
theorem mm_WF.hza {T : mm_T} (h : mm_WF T) : ∀ i, T.nA ≤ i → T.sk i = 0 ∧ T.go i = 0 := h.2.2.2.2.2.2.2.2.2.2.2.2.2.2.1
theorem mm_WF.hzt {T : mm_T} (h : mm_WF T) : ∀ t, T.nT ≤ t → T.pc t = 0 ∧ T.us t = 0 := h.2.2.2.2.2.2.2.2.2.2.2.2.2.2.2
