/-! a list of the ghost heap opened to its cells, and closed again -/
theorem mm_open {b : Nat} {D : mm_D} {σ : mm_S} {H : Heap} (h : mm_H b D σ H) {a o : Nat} {L : List Nat} (hl : σ a = mm_lst o L) : ∃ (mc : Int32) (r : Nat), L.length ≤ 1000 ∧ (∀ y ∈ L, mm_ob σ y) ∧
    ((r = D.2.2 ∧ L = [] ∧ mm_H b D (mm_u σ a (mm_obj o 8 [.int mc, .ref r, .int (nI L.length)])) H) ∨ (σ r = none ∧ r ≠ a ∧ b ≤ r ∧ ∃ n : Nat, 10 ≤ n ∧ n ≤ 2000 ∧ L.length ≤ n ∧ mm_H b D (mm_u (mm_u σ a (mm_obj o 8 [.int mc, .ref r, .int (nI L.length)])) r (mm_arq o 8 n (fun i => L[i]?))) H)) := by
  obtain ⟨hb, ow, h⟩ := h
  obtain ⟨h1, h2, mc, r, h3, h4, h5, h6⟩ := h a o _ hl
  have hobj : ∀ {x : Option (Nat × mm_e)} (y : Nat), mm_ob σ y → mm_ob (mm_u σ a x) y := fun {x} y hy => by
    obtain ⟨o9, c9, f9, g, g2⟩ := hy
    have e : y ≠ a := fun e => by rw [e, hl] at g; cases g
    exact ⟨o9, c9, f9, by rw [mm_u_ne e]; exact g, g2⟩
  have key : ∀ (σ' : mm_S) (ow' : Nat → Option Nat), (∀ y, mm_ob σ y → mm_ob σ' y) → (∀ (a2 o2 : Nat) (e2 : mm_e), σ a2 = some (o2, e2) → a2 ≠ a → (∀ r2, ow r2 = some a2 → ow' r2 = some a2) → mm_at b D σ ow a2 e2 H → mm_at b D σ' ow' a2 e2 H) := by
    intro σ' ow' hob a2 o2 e2 _ _ how hat
    rcases e2 with ⟨k, x⟩ | ⟨ci, fs⟩ | L2
    · exact hat
    · exact hat
    · obtain ⟨m2, r2, g1, g2, g3, g4⟩ := hat
      refine ⟨m2, r2, g1, g2, fun y hy => hob y (g3 y hy), ?_⟩
      rcases g4 with g4 | ⟨g4, g5, g6⟩
      · exact Or.inl g4
      · exact Or.inr ⟨g4, how r2 g5, g6⟩
  refine ⟨mc, r, h4, h5, ?_⟩
  rcases h6 with ⟨e1, e2⟩ | ⟨e1, e2, n, e3, e4, e5, e6⟩
  · refine Or.inl ⟨e1, e2, hb, ow, fun a2 o2 x2 hx => ?_⟩
    by_cases ha : a2 = a
    · subst ha
      rw [mm_u_eq] at hx
      cases hx
      exact ⟨h1, h2, h3⟩
    · rw [mm_u_ne ha] at hx
      obtain ⟨g1, g2, g3⟩ := h a2 o2 x2 hx
      exact ⟨g1, g2, key _ ow hobj a2 o2 x2 hx ha (fun _ q => q) g3⟩
  · have hr : σ r = none := by
      cases hz : σ r with
      | none => rfl
      | some z =>
        have := (h r z.1 z.2 hz).2.1
        rw [e2] at this
        cases this
    have hra : r ≠ a := fun e => by rw [e, hl] at hr; cases hr
    refine Or.inr ⟨hr, hra, e1, n, e3, e4, e5, hb, fun z => if z = r then none else ow z, fun a2 o2 x2 hx => ?_⟩
    by_cases har : a2 = r
    · subst har
      rw [mm_u_eq] at hx
      cases hx
      exact ⟨e1, by simp, e6⟩
    · rw [mm_u_ne har] at hx
      by_cases ha : a2 = a
      · subst ha
        rw [mm_u_eq] at hx
        cases hx
        exact ⟨h1, by simp [h2], h3⟩
      · rw [mm_u_ne ha] at hx
        obtain ⟨g1, g2, g3⟩ := h a2 o2 x2 hx
        refine ⟨g1, by simp [g2], key _ _ (fun y hy => ?_) a2 o2 x2 hx ha (fun r2 q => ?_) g3⟩
        · obtain ⟨o9, c9, f9, q, q2⟩ := hobj (x := mm_obj o 8 [.int mc, .ref r, .int (nI L.length)]) y hy
          have ey : y ≠ r := fun e => by
            obtain ⟨o8, c8, f8, w, -⟩ := hy
            rw [e, hr] at w
            cases w
          exact ⟨o9, c9, f9, by rw [mm_u_ne ey]; exact q, q2⟩
        · have : r2 ≠ r := fun e => by
            rw [e, e2] at q
            exact ha (Option.some.inj q).symm
          simp [this, q]
theorem mm_close {b : Nat} {D : mm_D} {σ : mm_S} {H : Heap} (h : mm_H b D σ H) {a o o' r n : Nat} {mc : Int32} {L : List Nat} (ha : σ a = mm_obj o 8 [.int mc, .ref r, .int (nI L.length)]) (hr : σ r = mm_arq o' 8 n (fun i => L[i]?)) (h1 : 10 ≤ n) (h2 : n ≤ 2000) (h3 : L.length ≤ n) (h4 : L.length ≤ 1000) (hob : ∀ y ∈ L, mm_ob σ y) : mm_H b D (mm_u (mm_u σ a (mm_lst o L)) r none) H := by
  have hra : r ≠ a := fun e => by rw [e, ha] at hr; cases hr
  have hob' : ∀ y, mm_ob σ y → mm_ob (mm_u (mm_u σ a (mm_lst o L)) r none) y := fun y hy => by
    obtain ⟨o9, c9, f9, g, g2⟩ := hy
    have e1 : y ≠ a := fun e => by
      rw [e, ha] at g
      cases g
      exact absurd g2 (by decide)
    have e2 : y ≠ r := fun e => by rw [e, hr] at g; cases g
    exact ⟨o9, c9, f9, by rw [mm_u_ne e2, mm_u_ne e1]; exact g, g2⟩
  obtain ⟨hb, ow, h⟩ := h
  obtain ⟨a1, a2, a3⟩ := h a o _ ha
  obtain ⟨r1, r2, r3⟩ := h r o' _ hr
  refine ⟨hb, fun z => if z = r then some a else ow z, fun q o2 e2 hq => ?_⟩
  have hqr : q ≠ r := fun e => by
    rw [e, mm_u_eq] at hq
    cases hq
  rw [mm_u_ne hqr] at hq
  by_cases hqa : q = a
  · subst hqa
    rw [mm_u_eq] at hq
    cases hq
    exact ⟨a1, by simp [hqr, a2], mc, r, a3, h4, fun y hy => hob' y (hob y hy), Or.inr ⟨r1, by simp, n, h1, h2, h3, r3⟩⟩
  · rw [mm_u_ne hqa] at hq
    obtain ⟨g1, g2, g3⟩ := h q o2 e2 hq
    refine ⟨g1, by simp [hqr, g2], ?_⟩
    rcases e2 with ⟨k, x⟩ | ⟨ci, fs⟩ | L2
    · exact g3
    · exact g3
    · obtain ⟨m2, s2, w1, w2, w3, w4⟩ := g3
      refine ⟨m2, s2, w1, w2, fun y hy => hob' y (w3 y hy), ?_⟩
      rcases w4 with w4 | ⟨w4, w5, w6⟩
      · exact Or.inl w4
      · have : s2 ≠ r := fun e => by
          rw [e, r2] at w5
          cases w5
        exact Or.inr ⟨w4, by simp [this, w5], w6⟩
theorem mm_close0 {b : Nat} {D : mm_D} {σ : mm_S} {H : Heap} (h : mm_H b D σ H) {a o : Nat} {mc : Int32} (ha : σ a = mm_obj o 8 [.int mc, .ref D.2.2, .int 0]) : mm_H b D (mm_u σ a (mm_lst o [])) H := by
  have hob' : ∀ y, mm_ob σ y → mm_ob (mm_u σ a (mm_lst o [])) y := fun y hy => by
    obtain ⟨o9, c9, f9, g, g2⟩ := hy
    have e1 : y ≠ a := fun e => by
      rw [e, ha] at g
      cases g
      exact absurd g2 (by decide)
    exact ⟨o9, c9, f9, by rw [mm_u_ne e1]; exact g, g2⟩
  obtain ⟨hb, ow, h⟩ := h
  refine ⟨hb, ow, fun q o2 e2 hq => ?_⟩
  by_cases hqa : q = a
  · subst hqa
    rw [mm_u_eq] at hq
    cases hq
    obtain ⟨a1, a2, a3⟩ := h q o _ ha
    exact ⟨a1, a2, mc, D.2.2, a3, Nat.zero_le _, fun y hy => absurd hy List.not_mem_nil, Or.inl ⟨rfl, rfl⟩⟩
  · rw [mm_u_ne hqa] at hq
    obtain ⟨g1, g2, g3⟩ := h q o2 e2 hq
    refine ⟨g1, g2, ?_⟩
    rcases e2 with ⟨k, x⟩ | ⟨ci, fs⟩ | L2
    · exact g3
    · exact g3
    · obtain ⟨m2, s2, w1, w2, w3, w4⟩ := g3
      exact ⟨m2, s2, w1, w2, fun y hy => hob' y (w3 y hy), w4⟩
section MMX
variable {p : Program} {l : Launch} {e : Env} {R : Room} {s : State} {m : MethodId} {args : Array Value} {below : List Frame} {meth : Method} {c : Code} {H : Heap} {locs : List Loc} {cells slots : Nat} {Q : State → Prop}
variable {cc : ByteArray} {pc : Nat} {ls : Array Slot} {rest : List Value} {b : Nat} {D : mm_D} {σ : mm_S} {own : String} {nL a o : Nat}
/-- a change of the ghost heap alone -/
theorem mm_N_to {σ' : mm_S} (hN : mm_N b D s σ H locs) (h : mm_H b D σ' H) : mm_N b D s σ' H locs := ⟨h, hN.2⟩
theorem mm_gets (F : mm_F p l s m args meth c b D own cc nL) (hN : mm_N b D s σ H locs) {index : Nat} (hlink : Cond.fieldLink own index RJx4a65c "DEFAULTCAPACITY_EMPTY_ELEMENTDATA" "[Ljava/lang/Object;" ∈ mm_aW) (hdg : decode cc pc = .ok (.getstatic index, 3))
    (kk : W p l e R s m args below meth c H locs cells slots Q (F0 m (pc + 3) ls (.ref D.2.2 :: rest))) : W p l e R s m args below meth c H locs cells slots Q (F0 m pc ls rest) :=
  va_gets F.1 F.2.1 F.2.2.2.2.2.1.2.2.2.2.2.1.1 hN.2 F.2.2.2.1 (F.2.2.2.2.1 _ hlink) (fun _ h => h) hdg kk
/-- the length of the empty row that a new list has -/
theorem mm_alen0 (F : mm_F p l s m args meth c b D own cc nL) (hN : mm_N b D s σ H locs) (hdg : decode cc pc = .ok (.arraylength, 1))
    (kk : W p l e R s m args below meth c H locs cells slots Q (F0 m (pc + 1) ls (.int (nI 0) :: rest))) : W p l e R s m args below meth c H locs cells slots Q (F0 m pc ls (.ref D.2.2 :: rest)) := by
  obtain ⟨cell, h1, h2, h3, h4, h5, h6, h7⟩ := F.2.2.2.2.2.1.2.2.2.2.2.1.2
  exact W.alen (n := nI 0) F.1 F.2.1 (by rw [hN.2.2.1 _ (Array.getElem?_eq_some_iff.mp h1).1 h7]; exact h1) h2 h5 rfl rfl hdg kk
theorem mm_newq (F : mm_F p l s m args meth c b D own cc nL) (hN : mm_N b D s σ H locs) (o N : Nat) {n : Int32} (hn : n = nI N) (hNb : N ≤ 100000) {index : Nat} (hlink : Cond.classLink own index "java/lang/Object" ∈ mm_aW) (hcells : cells + 1 ≤ R.cells) (hslots : slots + N ≤ R.slots) (hdg : decode cc pc = .ok (.anewarray index, 3))
    (kk : ∀ (q : Nat) (H1 : Heap), σ q = none → mm_N b D s (mm_u σ q (mm_arq o 8 N (fun _ => none))) H1 locs → W p l e R s m args below meth c H1 locs (cells + 1) (slots + N) Q (F0 m (pc + 3) ls (.ref q :: rest))) : W p l e R s m args below meth c H locs cells slots Q (F0 m pc ls (.int n :: rest)) := by
  obtain ⟨hx0, hb, -, hown, hts, hE, -⟩ := F
  subst hn
  refine W.anew hx0 hb hown (hts _ hlink) (va_AO.use hE.2.2.2.2.2.2.2.1) rfl hdg rfl (nI_pos (by omega)) (by rw [nI_clamp (by omega)]; omega) hcells (by rw [nI_clamp (by omega)]; exact hslots) fun cA kA comp f1 f2 f3 f4 => ?_
  rw [nI_clamp (by omega)]
  have hRA := (hE.1.2 8 _ rfl).2
  obtain ⟨-, -, -, -, -, h4⟩ := hRA
  first
    | (cases h4.symm.trans f1)
    | (cases h4.symm.trans f2)
    | (cases h4.symm.trans f3)
    | (cases h4.symm.trans f4)
  generalize hH1 : H.push ({ cls := D.2.1 8, slots := Array.replicate N .null, vm := .none } : Cell) = H1
  have z1 : H1.size = H.size + 1 := by rw [← hH1, Array.size_push]
  have e1 : H1[H.size]? = some (arrV (D.2.1 8) N (fun _ => .null)) := by rw [← hH1, Array.getElem?_push_size, ← arrV_new]
  have o1 : ∀ q, q < H.size → H1[q]? = H[q]? := fun q hq => by rw [← hH1, Array.getElem?_push, if_neg (Nat.ne_of_lt hq)]
  exact kk H.size H1 (mm_H_new hN.1 (Nat.le_refl _)) ⟨mm_H_add hN.1 z1 o1 (fun ow => e1), ⟨Nat.le_trans hN.2.1 (by omega), fun x h1 h2 => (o1 x (Nat.lt_of_lt_of_le h1 hN.2.1)).trans (hN.2.2.1 x h1 h2), hN.2.2.2⟩⟩
end MMX
