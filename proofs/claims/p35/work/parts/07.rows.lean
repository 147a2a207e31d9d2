theorem usX0 : ∀ w ∈ u_ws RX0 TX0 6, w ∈ mm_aW := by
  intro w hw
  obtain ⟨k, hk, rfl⟩ := List.mem_map.mp hw
  have hk := List.mem_range.mp hk
  match k, hk with
  | 0, _ => exact mw_233
  | 1, _ => exact mw_235
  | 2, _ => exact mw_237
  | 3, _ => exact mw_239
  | 4, _ => exact mw_241
  | 5, _ => exact mw_243
  | k + 6, h => exact absurd h (by omega)
theorem usX1 : ∀ w ∈ u_ws RX1 TX1 7, w ∈ mm_aW := by
  intro w hw
  obtain ⟨k, hk, rfl⟩ := List.mem_map.mp hw
  have hk := List.mem_range.mp hk
  match k, hk with
  | 0, _ => exact mw_639
  | 1, _ => exact mw_641
  | 2, _ => exact mw_643
  | 3, _ => exact mw_645
  | 4, _ => exact mw_647
  | 5, _ => exact mw_649
  | 6, _ => exact mw_651
  | k + 7, h => exact absurd h (by omega)
theorem usX2 : ∀ w ∈ u_ws RX2 TX2 4, w ∈ mm_aW := by
  intro w hw
  obtain ⟨k, hk, rfl⟩ := List.mem_map.mp hw
  have hk := List.mem_range.mp hk
  match k, hk with
  | 0, _ => exact mw_412
  | 1, _ => exact mw_414
  | 2, _ => exact mw_416
  | 3, _ => exact mw_418
  | k + 4, h => exact absurd h (by omega)
theorem usX3 : ∀ w ∈ u_ws RX3 TX3 4, w ∈ mm_aW := by
  intro w hw
  obtain ⟨k, hk, rfl⟩ := List.mem_map.mp hw
  have hk := List.mem_range.mp hk
  match k, hk with
  | 0, _ => exact mw_604
  | 1, _ => exact mw_606
  | 2, _ => exact mw_608
  | 3, _ => exact mw_610
  | k + 4, h => exact absurd h (by omega)
theorem usX4 : ∀ w ∈ u_ws RX4 TX4 3, w ∈ mm_aW := by
  intro w hw
  obtain ⟨k, hk, rfl⟩ := List.mem_map.mp hw
  have hk := List.mem_range.mp hk
  match k, hk with
  | 0, _ => exact mw_78
  | 1, _ => exact mw_80
  | 2, _ => exact mw_82
  | k + 3, h => exact absurd h (by omega)
theorem usX5 : ∀ w ∈ u_ws RX5 TX5 5, w ∈ mm_aW := by
  intro w hw
  obtain ⟨k, hk, rfl⟩ := List.mem_map.mp hw
  have hk := List.mem_range.mp hk
  match k, hk with
  | 0, _ => exact mw_473
  | 1, _ => exact mw_475
  | 2, _ => exact mw_477
  | 3, _ => exact mw_479
  | 4, _ => exact mw_481
  | k + 5, h => exact absurd h (by omega)
theorem usX6 : ∀ w ∈ u_ws RX6 TX6 8, w ∈ mm_aW := by
  intro w hw
  obtain ⟨k, hk, rfl⟩ := List.mem_map.mp hw
  have hk := List.mem_range.mp hk
  match k, hk with
  | 0, _ => exact mw_93
  | 1, _ => exact mw_95
  | 2, _ => exact mw_97
  | 3, _ => exact mw_99
  | 4, _ => exact mw_101
  | 5, _ => exact mw_103
  | 6, _ => exact mw_105
  | 7, _ => exact mw_107
  | k + 8, h => exact absurd h (by omega)
theorem usX7 : ∀ w ∈ u_ws RX0 TX0 6, w ∈ mm_aW := usX0
theorem usJx4a65c : ∀ w ∈ u_ws RJx4a65c TJx4a65c 3, w ∈ mm_aW := by
  intro w hw
  obtain ⟨k, hk, rfl⟩ := List.mem_map.mp hw
  have hk := List.mem_range.mp hk
  match k, hk with
  | 0, _ => exact mw_65
  | 1, _ => exact mw_61
  | 2, _ => exact mw_63
  | k + 3, h => exact absurd h (by omega)
theorem mm_cls {ci : Nat} {C : String} {T : u_T} {N : Nat} (h : mm_cl[ci]? = some (C, T, N)) : (∀ w ∈ u_ws C T N, w ∈ mm_aW) ∧ (∃ ty : Nat → FieldType, ∀ k, k < N → parseFieldDescriptor (T k).2.2.1 = some (ty k)) ∧ (∀ a, a < N → ∀ b, b < N → a ≠ b → (T a).2.1 ≠ (T b).2.1) := by
  match ci, h with
  | 0, h => cases h; exact ⟨usX0, ⟨tyX0, tyX0_ok⟩, nmX0⟩
  | 1, h => cases h; exact ⟨usX1, ⟨tyX1, tyX1_ok⟩, nmX1⟩
  | 2, h => cases h; exact ⟨usX2, ⟨tyX2, tyX2_ok⟩, nmX2⟩
  | 3, h => cases h; exact ⟨usX3, ⟨tyX3, tyX3_ok⟩, nmX3⟩
  | 4, h => cases h; exact ⟨usX4, ⟨tyX4, tyX4_ok⟩, nmX4⟩
  | 5, h => cases h; exact ⟨usX5, ⟨tyX5, tyX5_ok⟩, nmX5⟩
  | 6, h => cases h; exact ⟨usX6, ⟨tyX6, tyX6_ok⟩, nmX6⟩
  | 7, h => cases h; exact ⟨usX0, ⟨tyX0, tyX0_ok⟩, nmX0⟩
  | 8, h => cases h; exact ⟨usJx4a65c, ⟨tyJx4a65c, tyJx4a65c_ok⟩, nmJx4a65c⟩
  | ci + 9, h => simp [mm_cl] at h
theorem mm_one {D : va_G} {q : Nat × va_E} {H : Heap} (h : va_at D mm_cl q H) : va_P D mm_cl [q] H := by
  intro k x hx
  match k, hx with
  | 0, hx => cases hx; exact h
  | k + 1, hx => simp at hx
theorem mm_obj_ob {σ : mm_S} {a o ci : Nat} {fs : List Value} (he : σ a = mm_obj o ci fs) {o' : Nat} {fs' : List Value} : mm_ob σ a → ∃ (o2 ci2 : Nat) (fs2 : List Value), mm_obj o' ci fs' = mm_obj o2 ci2 fs2 ∧ ci2 < 8 := by
  rintro ⟨o9, c9, f9, g, h⟩
  rw [he] at g
  cases g
  exact ⟨_, _, _, rfl, h⟩
theorem mm_arr_ob {σ : mm_S} {a o k : Nat} {x : vp_A} (he : σ a = mm_arr o k x) {P : Prop} : mm_ob σ a → P := by
  rintro ⟨o9, c9, f9, g, h⟩
  rw [he] at g
  cases g
section MM
variable {p : Program} {l : Launch} {e : Env} {R : Room} {s : State} {m : MethodId} {args : Array Value} {below : List Frame} {meth : Method} {c : Code} {H : Heap} {locs : List Loc} {cells slots : Nat} {Q : State → Prop}
variable {cc : ByteArray} {pc : Nat} {ls : Array Slot} {rest : List Value} {b : Nat} {D : mm_D} {σ : mm_S} {own : String} {nL a o : Nat}
theorem mm_getS (F : mm_F p l s m args meth c b D own cc nL) (hN : mm_N b D s σ H locs) {ci : Nat} {fs : List Value} (he : σ a = mm_obj o ci fs) {C ref : String} {T : u_T} {N : Nat} (hc : mm_cl[ci]? = some (C, T, N)) (k : Nat) (hk : k < N) {index : Nat} (hlink : Cond.fieldLink own index ref (T k).2.1 (T k).2.2.1 ∈ mm_aW) (hsame : ∀ x, s.fieldFound? (T k).1 (T k).2.1 (T k).2.2.1 = some x → s.fieldFound? ref (T k).2.1 (T k).2.2.1 = some x) {v : Value} (hv : fs[k]? = some v) (hdg : decode cc pc = .ok (.getfield index, 3))
    (kk : W p l e R s m args below meth c H locs cells slots Q (F0 m (pc + 3) ls (v :: rest))) : W p l e R s m args below meth c H locs cells slots Q (F0 m pc ls (.ref a :: rest)) := by
  obtain ⟨hx, hb, -, hown, hts, hE, -⟩ := F
  exact va_get hx hb hts (mm_cls hc).1 hown hE.1 (mm_one (mm_H_obj hN.1 he)) 0 rfl hc k hk (hts _ hlink) hsame hv hdg kk
theorem mm_get (F : mm_F p l s m args meth c b D own cc nL) (hN : mm_N b D s σ H locs) {ci : Nat} {fs : List Value} (he : σ a = mm_obj o ci fs) {C : String} {T : u_T} {N : Nat} (hc : mm_cl[ci]? = some (C, T, N)) (k : Nat) (hk : k < N) {index : Nat} (hlink : Cond.fieldLink own index (T k).1 (T k).2.1 (T k).2.2.1 ∈ mm_aW) {v : Value} (hv : fs[k]? = some v) (hdg : decode cc pc = .ok (.getfield index, 3))
    (kk : W p l e R s m args below meth c H locs cells slots Q (F0 m (pc + 3) ls (v :: rest))) : W p l e R s m args below meth c H locs cells slots Q (F0 m pc ls (.ref a :: rest)) :=
  mm_getS F hN he hc k hk hlink (fun _ h => h) hv hdg kk
theorem mm_putAt {s : State} {args : Array Value} {own : String} (hts : ∀ w ∈ mm_aW, w.before args s = true) (hE : mm_E b D s) (hN : mm_N b D s σ H locs) {ci : Nat} {fs : List Value} (he : σ a = mm_obj o ci fs) {C : String} {T : u_T} {N : Nat} (hc : mm_cl[ci]? = some (C, T, N)) (k : Nat) (hk : k < N) {v : Value} (hl : k < fs.length) {H1 : Heap} {cell : Cell} (q1 : H[a]? = some cell) (q2 : cell.cls = D.1.1 ci) (q3 : cell.vm = .none) (q4 : ∀ j, j < N → cell.slots[D.1.2 ci j]? = some (vp_V fs j))
    (e1 : H1[a]? = some (cell.setSlot (D.1.2 ci k) v)) (e2 : H1.size = H.size) (e3 : ∀ q, q ≠ a → H1[q]? = H[q]?) : mm_N b D s (mm_u σ a (mm_obj o ci (fs.set k v))) H1 (locs ++ [⟨a, D.1.2 ci k⟩]) := by
  obtain ⟨hin, ⟨ty0, hty⟩, hnm⟩ := mm_cls hc
  have hap := va_apart (own := own) hts hin ty0 hty hnm hE.1 hc
  exact ⟨mm_H_set hN.1 he e2 e3 (mm_obj_ob he) (fun ow => ⟨_, hc, t_OB.to (V := updV (vp_V fs) k v) ⟨_, e1, q2, q3, t_set q4 hap hk v⟩ (fun j _ => vp_updV_set hl v j)⟩), hN.2.put e2 e3 (mm_H_b hN.1 he)⟩
theorem mm_putS (F : mm_F p l s m args meth c b D own cc nL) (hN : mm_N b D s σ H locs) {ci : Nat} {fs : List Value} (he : σ a = mm_obj o ci fs) {C ref : String} {T : u_T} {N : Nat} (hc : mm_cl[ci]? = some (C, T, N)) (k : Nat) (hk : k < N) {index : Nat} (hlink : Cond.fieldLink own index ref (T k).2.1 (T k).2.2.1 ∈ mm_aW) (hsame : ∀ x, s.fieldFound? (T k).1 (T k).2.1 (T k).2.2.1 = some x → s.fieldFound? ref (T k).2.1 (T k).2.2.1 = some x) (hfin : (T k).2.2.2 = false) {ty : FieldType} {v : Value} (hd : parseFieldDescriptor (T k).2.2.1 = some ty) (hn : narrow ty v = v) (hfit : fits ty v = true) (hl : k < fs.length) (hdg : decode cc pc = .ok (.putfield index, 3))
    (kk : ∀ (H1 : Heap) (locs1 : List Loc), mm_N b D s (mm_u σ a (mm_obj o ci (fs.set k v))) H1 locs1 → W p l e R s m args below meth c H1 locs1 cells slots Q (F0 m (pc + 3) ls rest)) : W p l e R s m args below meth c H locs cells slots Q (F0 m pc ls (v :: .ref a :: rest)) := by
  obtain ⟨hx, hb, -, hown, hts, hE, -⟩ := F
  have hin := (mm_cls hc).1
  obtain ⟨r, h1, cell, q1, q2, q3, q4⟩ := mm_H_obj hN.1 he
  have hr : r = (C, T, N) := Option.some.inj (h1.symm.trans hc)
  subst hr
  obtain ⟨hS, hfc, kC, hkC, hkind⟩ := hE.1.1 ci _ hc
  obtain ⟨cf, kf, fi, f, hi, hsl⟩ := hS k hk
  have hlay := hts _ (hin _ (u_in_lay hk))
  unfold u_lay at hlay
  rw [if_neg (by rw [hfin]; decide)] at hlay
  have hst := (u_facts hfc hkC (u_lays hts hin hk) hi).1
  have h6 := u_store hfc hkC hkind hlay hi hd hn hfit
  refine W.putK hx hb (f := f) ⟨hown, hts _ hlink, ⟨_, _, _, hsame _ hi⟩, hst⟩ (by rw [q2]; exact h6) q1 q3 (by rw [hsl]; exact k2_hasslot (q4 k hk)) rfl rfl hdg fun H' e1 e2 e3 => ?_
  rw [hsl] at e1 ⊢
  exact kk H' _ (mm_putAt (own := own) hts hE hN he hc k hk hl q1 q2 q3 q4 e1 e2 e3)
theorem mm_put (F : mm_F p l s m args meth c b D own cc nL) (hN : mm_N b D s σ H locs) {ci : Nat} {fs : List Value} (he : σ a = mm_obj o ci fs) {C : String} {T : u_T} {N : Nat} (hc : mm_cl[ci]? = some (C, T, N)) (k : Nat) (hk : k < N) {index : Nat} (hlink : Cond.fieldLink own index (T k).1 (T k).2.1 (T k).2.2.1 ∈ mm_aW) (hfin : (T k).2.2.2 = false) {ty : FieldType} {v : Value} (hd : parseFieldDescriptor (T k).2.2.1 = some ty) (hn : narrow ty v = v) (hfit : fits ty v = true) (hl : k < fs.length) (hdg : decode cc pc = .ok (.putfield index, 3))
    (kk : ∀ (H1 : Heap) (locs1 : List Loc), mm_N b D s (mm_u σ a (mm_obj o ci (fs.set k v))) H1 locs1 → W p l e R s m args below meth c H1 locs1 cells slots Q (F0 m (pc + 3) ls rest)) : W p l e R s m args below meth c H locs cells slots Q (F0 m pc ls (v :: .ref a :: rest)) :=
  mm_putS F hN he hc k hk hlink (fun _ h => h) hfin hd hn hfit hl hdg kk
/-- a final field, in a constructor -/
theorem mm_putF (F : mm_F p l s m args meth c b D own cc nL) (hN : mm_N b D s σ H locs) {ci : Nat} {fs : List Value} (he : σ a = mm_obj o ci fs) {C : String} {T : u_T} {N : Nat} (hc : mm_cl[ci]? = some (C, T, N)) (k : Nat) (hk : k < N) {index : Nat} (hlink : Cond.fieldLink own index (T k).1 (T k).2.1 (T k).2.2.1 ∈ mm_aW) (hfin : (T k).2.2.2 = true) (hin2 : meth.name = "<init>") (hdecl : (T k).1 = own) {ty : FieldType} {v : Value} (hd : parseFieldDescriptor (T k).2.2.1 = some ty) (hn : narrow ty v = v) (hfit : fits ty v = true) (hl : k < fs.length) (hdg : decode cc pc = .ok (.putfield index, 3))
    (kk : ∀ (H1 : Heap) (locs1 : List Loc), mm_N b D s (mm_u σ a (mm_obj o ci (fs.set k v))) H1 locs1 → W p l e R s m args below meth c H1 locs1 cells slots Q (F0 m (pc + 3) ls rest)) : W p l e R s m args below meth c H locs cells slots Q (F0 m pc ls (v :: .ref a :: rest)) := by
  obtain ⟨hx, hb, -, hown, hts, hE, -⟩ := F
  have hin := (mm_cls hc).1
  obtain ⟨r, h1, cell, q1, q2, q3, q4⟩ := mm_H_obj hN.1 he
  have hr : r = (C, T, N) := Option.some.inj (h1.symm.trans hc)
  subst hr
  obtain ⟨hS, hfc, kC, hkC, hkind⟩ := hE.1.1 ci _ hc
  obtain ⟨cf, kf, fi, f, hi, hsl⟩ := hS k hk
  have hlay := hts _ (hin _ (u_in_lay hk))
  unfold u_lay at hlay
  rw [if_pos hfin] at hlay
  have hst := (u_facts hfc hkC (u_lays hts hin hk) hi).1
  have hcf : m.cls = cf := by
    obtain ⟨_, _, c', _, _, _, -, -, hf', -, -, -, hown2, -⟩ := Cond.laysFinal_spec hlay
    have e1 : c' = cf := by have := hi.symm.trans hf'; simp at this; exact this.1.symm
    rw [hdecl] at hown2
    rw [← e1]; exact Option.some.inj (hown.symm.trans hown2)
  have h6 := u_fits hfc hkC hkind (Or.inr hlay) hi hd hn hfit
  refine W.putFinK hx hb hown (hts _ hlink) hi hst hcf hin2 (by rw [q2]; exact h6) q1 q3 (by rw [hsl]; exact k2_hasslot (q4 k hk)) rfl rfl hdg fun H' e1 e2 e3 => ?_
  rw [hsl] at e1 ⊢
  exact kk H' _ (mm_putAt (own := own) hts hE hN he hc k hk hl q1 q2 q3 q4 e1 e2 e3)
theorem mm_new (F : mm_F p l s m args meth c b D own cc nL) (hN : mm_N b D s σ H locs) (o : Nat) {ci : Nat} {fs : List Value} {C : String} {T : u_T} {N : Nat} (hc : mm_cl[ci]? = some (C, T, N)) (ty : Nat → FieldType) (hty : ∀ k, k < N → parseFieldDescriptor (T k).2.2.1 = some (ty k)) (hfs : ∀ j, j < N → defaultValue (ty j) = vp_V fs j) {index : Nat} (hlink : Cond.classLink own index C ∈ mm_aW) (hinst : Cond.instantiable C N ∈ mm_aW) (hini : Cond.initialized C ∈ mm_aW) (hcells : cells + 1 ≤ R.cells) (hslots : slots + N ≤ R.slots) (hdg : decode cc pc = .ok (.new index, 3))
    (kk : ∀ (q : Nat) (H1 : Heap), σ q = none → mm_N b D s (mm_u σ q (mm_obj o ci fs)) H1 locs → W p l e R s m args below meth c H1 locs (cells + 1) (slots + N) Q (F0 m (pc + 3) ls (.ref q :: rest))) : W p l e R s m args below meth c H locs cells slots Q (F0 m pc ls rest) := by
  obtain ⟨hx, hb, -, hown, hts, hE, -⟩ := F
  have hKn := hE.1.1 ci _ hc
  refine W.newcK hx hb hown (hts _ hlink) (hts _ hinst) (hts _ hini) rfl hdg hcells hslots hKn.2.1 rfl fun H1 kC hkC e1 z1 o1 => ?_
  exact kk H.size H1 (mm_H_new hN.1 (Nat.le_refl _)) ⟨mm_H_add hN.1 z1 o1 (fun ow => ⟨_, hc, (u_born ty hts (mm_cls hc).1 hKn hkC e1 hty).to hfs⟩), ⟨Nat.le_trans hN.2.1 (by omega), fun x h1 h2 => (o1 x (Nat.lt_of_lt_of_le h1 hN.2.1)).trans (hN.2.2.1 x h1 h2), hN.2.2.2⟩⟩
theorem mm_recv (hE : mm_E b D s) (hN : mm_N b D s σ H locs) {ci : Nat} {fs : List Value} (he : σ a = mm_obj o ci fs) {C : String} {T : u_T} {N : Nat} (hc : mm_cl[ci]? = some (C, T, N)) : ∃ cell : Cell, H[a]? = some cell ∧ cell.vm.isStatics = false ∧ s.vm.findClass C = some cell.cls :=
  va_recv (q := (C, T, N)) hE.1 (mm_one (mm_H_obj hN.1 he)) hc (q0 := 0) rfl
theorem mm_recvL (hE : mm_E b D s) (hN : mm_N b D s σ H locs) {L : List Nat} (he : σ a = mm_lst o L) : ∃ cell : Cell, H[a]? = some cell ∧ cell.vm.isStatics = false ∧ s.vm.findClass RJx4a65c = some cell.cls := by
  obtain ⟨-, ow, h⟩ := hN.1
  obtain ⟨mc, r, h1, -⟩ := (h a o _ he).2.2
  exact va_recv (q := (RJx4a65c, TJx4a65c, 3)) hE.1 (mm_one h1) rfl (q0 := 0) rfl
theorem mm_cast (F : mm_F p l s m args meth c b D own cc nL) (hN : mm_N b D s σ H locs) {ci : Nat} {fs : List Value} (he : σ a = mm_obj o ci fs) {C : String} {T : u_T} {N : Nat} (hc : mm_cl[ci]? = some (C, T, N)) {index : Nat} (hlink : Cond.classLink own index C ∈ mm_aW) (hdg : decode cc pc = .ok (.checkcast index, 3))
    (kk : W p l e R s m args below meth c H locs cells slots Q (F0 m (pc + 3) ls (.ref a :: rest))) : W p l e R s m args below meth c H locs cells slots Q (F0 m pc ls (.ref a :: rest)) := by
  obtain ⟨hx, hb, -, hown, hts, hE, -⟩ := F
  exact va_castS hx hb hown (hts _ hlink) (hE.1.1 ci _ hc).2 (mm_recv hE hN he hc) hdg kk
/-! arrays -/
theorem mm_nIin {j n : Nat} (hj : j < n) (hn : n ≤ 1000000) : vp_in (nI j) n ∧ (nI j).toNatClampNeg = j := ⟨vp_in_nI hj (by omega), nI_clamp (by omega)⟩
theorem mm_iald (F : mm_F p l s m args meth c b D own cc nL) (hN : mm_N b D s σ H locs) {n j : Nat} {f : Nat → Int32} (he : σ a = mm_ari o 0 n f) {i : Int32} (hi : i = nI j) (hj : j < n) (hn : n ≤ 1000000) (hdg : decode cc pc = .ok (.iaload, 1))
    (kk : W p l e R s m args below meth c H locs cells slots Q (F0 m (pc + 1) ls (.int (f j) :: rest))) : W p l e R s m args below meth c H locs cells slots Q (F0 m pc ls (.int i :: .ref a :: rest)) := by
  subst hi
  obtain ⟨h1, h2⟩ := mm_nIin hj hn
  exact W.iald (v := .int (f j)) F.1 F.2.1 (mm_H_arr hN.1 he) ((F.2.2.2.2.2.1.1.2 0 _ rfl).1 n (fun j => .int (f j))) (fun q => by cases q) (by show ¬ (_ ∨ (arrV _ _ _).slots.size ≤ _); rw [arrV_size]; exact h1) (by rw [h2]; exact arrV_read _ _ hj) rfl rfl hdg kk
theorem mm_zald (F : mm_F p l s m args meth c b D own cc nL) (hN : mm_N b D s σ H locs) {n j : Nat} {f : Nat → Int32} (he : σ a = mm_ari o 4 n f) {i : Int32} (hi : i = nI j) (hj : j < n) (hn : n ≤ 1000000) (hdg : decode cc pc = .ok (.baload, 1))
    (kk : W p l e R s m args below meth c H locs cells slots Q (F0 m (pc + 1) ls (.int (f j) :: rest))) : W p l e R s m args below meth c H locs cells slots Q (F0 m pc ls (.int i :: .ref a :: rest)) := by
  subst hi
  obtain ⟨h1, h2⟩ := mm_nIin hj hn
  exact W.zald (v := .int (f j)) F.1 F.2.1 (mm_H_arr hN.1 he) ((F.2.2.2.2.2.1.1.2 4 _ rfl).1 n (fun j => .int (f j))) (fun q => by cases q) (by show ¬ (_ ∨ (arrV _ _ _).slots.size ≤ _); rw [arrV_size]; exact h1) (by rw [h2]; exact arrV_read _ _ hj) rfl rfl hdg kk
/-- a place of an array of references that isn't null -/
theorem mm_aald (F : mm_F p l s m args meth c b D own cc nL) (hN : mm_N b D s σ H locs) {kd n j y : Nat} {f : Nat → Option Nat} (he : σ a = mm_arq o kd n f) {ty : FieldType} (hkd : (mm_tys D)[kd]? = some (D.2.1 kd, ty)) (hty : ty.isReference = true) {i : Int32} (hi : i = nI j) (hj : j < n) (hn : n ≤ 1000000) (hy : f j = some y) (hdg : decode cc pc = .ok (.aaload, 1))
    (kk : W p l e R s m args below meth c H locs cells slots Q (F0 m (pc + 1) ls (.ref y :: rest))) : W p l e R s m args below meth c H locs cells slots Q (F0 m pc ls (.int i :: .ref a :: rest)) := by
  subst hi
  obtain ⟨h1, h2⟩ := mm_nIin hj hn
  refine W.aald (v := .ref y) F.1 F.2.1 (mm_H_arr hN.1 he) ((F.2.2.2.2.2.1.1.2 kd _ hkd).1 n (fun j => va_rf (f j))) hty (fun q => by cases q) (by show ¬ (_ ∨ (arrV _ _ _).slots.size ≤ _); rw [arrV_size]; exact h1) ?_ rfl rfl hdg kk
  rw [h2]
  refine (arrV_read _ _ hj).trans ?_
  rw [hy]
  rfl
theorem mm_alen (F : mm_F p l s m args meth c b D own cc nL) (hN : mm_N b D s σ H locs) {kd : Nat} {x : vp_A} (he : σ a = mm_arr o kd x) {ty : FieldType} (hkd : (mm_tys D)[kd]? = some (D.2.1 kd, ty)) (hdg : decode cc pc = .ok (.arraylength, 1))
    (kk : W p l e R s m args below meth c H locs cells slots Q (F0 m (pc + 1) ls (.int (nI x.1) :: rest))) : W p l e R s m args below meth c H locs cells slots Q (F0 m pc ls (.ref a :: rest)) :=
  va_alen (cl := mm_cl) F.1 F.2.1 F.2.2.2.2.2.1.1 (mm_one (q := (a, .inl (D.2.1 kd, x))) (mm_H_arr hN.1 he)) 0 kd rfl hkd rfl hdg kk
theorem mm_stAt (hN : mm_N b D s σ H locs) {kd j : Nat} {x y : vp_A} (he : σ a = mm_arr o kd x) {H1 : Heap} {v : Value} (hv : (vp_cell (D.2.1 kd) x).setSlot j v = vp_cell (D.2.1 kd) y) (e1 : H1[a]? = some ((vp_cell (D.2.1 kd) x).setSlot j v)) (e2 : H1.size = H.size) (e3 : ∀ q, q ≠ a → H1[q]? = H[q]?) : mm_N b D s (mm_u σ a (mm_arr o kd y)) H1 (locs ++ [⟨a, j⟩]) :=
  ⟨mm_H_set hN.1 he e2 e3 (mm_arr_ob he) (fun ow => e1.trans (congrArg some hv)), hN.2.put e2 e3 (mm_H_b hN.1 he)⟩
theorem mm_up_i (cA : ClassId) (n j : Nat) (f : Nat → Int32) (x : Int32) : (vp_cell cA (n, .inl f)).setSlot j (.int x) = vp_cell cA (n, .inl (va_up f j x)) := by
  rw [vp_cell_i, vp_cell_i, arrV_store]
  refine congrArg (arrV cA n) (funext fun q => ?_)
  by_cases hq : q = j
  · subst hq; simp [updV, va_up]
  · simp [updV, va_up, hq]
theorem mm_up_l (cA : ClassId) (n j : Nat) (f : Nat → Int64) (x : Int64) : (vp_cell cA (n, .inr (.inl f))).setSlot j (.long x) = vp_cell cA (n, .inr (.inl (va_up f j x))) := by
  rw [vp_cell_l, vp_cell_l, arrV_store]
  refine congrArg (arrV cA n) (funext fun q => ?_)
  by_cases hq : q = j
  · subst hq; simp [updV, va_up]
  · simp [updV, va_up, hq]
theorem mm_up_d (cA : ClassId) (n j : Nat) (f : Nat → UInt64) (x : UInt64) : (vp_cell cA (n, .inr (.inr (.inr (.inl f))))).setSlot j (.double x) = vp_cell cA (n, .inr (.inr (.inr (.inl (va_up f j x))))) := by
  rw [vp_cell_d, vp_cell_d, arrV_store]
  refine congrArg (arrV cA n) (funext fun q => ?_)
  by_cases hq : q = j
  · subst hq; simp [updV, va_up]
  · simp [updV, va_up, hq]
theorem mm_up_q (cA : ClassId) (n j : Nat) (f : Nat → Option Nat) (x : Nat) : (vp_cell cA (n, .inr (.inr (.inr (.inr f))))).setSlot j (.ref x) = vp_cell cA (n, .inr (.inr (.inr (.inr (va_up f j (some x)))))) := by
  rw [vp_cell_q, vp_cell_q, arrV_store]
  refine congrArg (arrV cA n) (funext fun q => ?_)
  by_cases hq : q = j
  · subst hq; simp [updV, va_up, va_rf]
  · simp [updV, va_up, hq]
theorem mm_iast (F : mm_F p l s m args meth c b D own cc nL) (hN : mm_N b D s σ H locs) {n j : Nat} {f : Nat → Int32} (he : σ a = mm_ari o 0 n f) {i x : Int32} (hi : i = nI j) (hj : j < n) (hn : n ≤ 1000000) (hdg : decode cc pc = .ok (.iastore, 1))
    (kk : ∀ (H1 : Heap) (locs1 : List Loc), mm_N b D s (mm_u σ a (mm_ari o 0 n (va_up f j x))) H1 locs1 → W p l e R s m args below meth c H1 locs1 cells slots Q (F0 m (pc + 1) ls rest)) : W p l e R s m args below meth c H locs cells slots Q (F0 m pc ls (.int x :: .int i :: .ref a :: rest)) := by
  subst hi
  obtain ⟨h1, h2⟩ := mm_nIin hj hn
  refine W.iast F.1 F.2.1 (mm_H_arr hN.1 he) ((F.2.2.2.2.2.1.1.2 0 _ rfl).1 n (fun j => .int (f j))) (fun q => by cases q) (by show ¬ (_ ∨ (arrV _ _ _).slots.size ≤ _); rw [arrV_size]; exact h1) rfl rfl hdg fun H1 e1 e2 e3 => ?_
  rw [h2] at e1 ⊢
  exact kk H1 _ (mm_stAt hN he (mm_up_i _ _ _ _ _) e1 e2 e3)
theorem mm_zast (F : mm_F p l s m args meth c b D own cc nL) (hN : mm_N b D s σ H locs) {n j : Nat} {f : Nat → Int32} (he : σ a = mm_ari o 4 n f) {i x : Int32} (hi : i = nI j) (hj : j < n) (hn : n ≤ 1000000) (hx : narrow .boolean (.int x) = .int x) (hdg : decode cc pc = .ok (.bastore, 1))
    (kk : ∀ (H1 : Heap) (locs1 : List Loc), mm_N b D s (mm_u σ a (mm_ari o 4 n (va_up f j x))) H1 locs1 → W p l e R s m args below meth c H1 locs1 cells slots Q (F0 m (pc + 1) ls rest)) : W p l e R s m args below meth c H locs cells slots Q (F0 m pc ls (.int x :: .int i :: .ref a :: rest)) := by
  subst hi
  obtain ⟨h1, h2⟩ := mm_nIin hj hn
  refine W.zast F.1 F.2.1 (mm_H_arr hN.1 he) ((F.2.2.2.2.2.1.1.2 4 _ rfl).1 n (fun j => .int (f j))) (fun q => by cases q) (by show ¬ (_ ∨ (arrV _ _ _).slots.size ≤ _); rw [arrV_size]; exact h1) rfl rfl hdg fun H1 e1 e2 e3 => ?_
  rw [h2, hx] at e1
  rw [h2]
  exact kk H1 _ (mm_stAt hN he (mm_up_i _ _ _ _ _) e1 e2 e3)
/-- a new array of numbers -/
theorem mm_newa (F : mm_F p l s m args meth c b D own cc nL) (hN : mm_N b D s σ H locs) (o : Nat) (kd N : Nat) {x : vp_A} {atype : ArrayType} {n : Int32} (hn : n = nI N) (hNb : N ≤ 100000) (hty : Cond.arrayClass (newarray.typeOf atype) ∈ mm_aW) (hkd : (mm_tys D)[kd]? = some (D.2.1 kd, newarray.typeOf atype)) (hpr : ∀ C, newarray.typeOf atype ≠ .object C) (hcb : componentBytes (newarray.typeOf atype) ≤ 8) (hx : vp_cell (D.2.1 kd) x = arrV (D.2.1 kd) N (fun _ => defaultValue (newarray.typeOf atype))) (hcells : cells + 1 ≤ R.cells) (hslots : slots + N ≤ R.slots) (hdg : decode cc pc = .ok (.newarray atype, 2))
    (kk : ∀ (q : Nat) (H1 : Heap), σ q = none → mm_N b D s (mm_u σ q (mm_arr o kd x)) H1 locs → W p l e R s m args below meth c H1 locs (cells + 1) (slots + N) Q (F0 m (pc + 2) ls (.ref q :: rest))) : W p l e R s m args below meth c H locs cells slots Q (F0 m pc ls (.int n :: rest)) := by
  obtain ⟨hx0, hb, -, hown, hts, hE, -⟩ := F
  subst hn
  have hRA : s.vm.findClass ("[" ++ (newarray.typeOf atype).toString) = some (D.2.1 kd) := by
    have h := (hE.1.2 kd _ hkd).2
    revert h hpr
    generalize newarray.typeOf atype = t
    intro hpr h
    cases t <;> first | exact h | exact absurd rfl (hpr _)
  refine va_newaK hx0 hb (hts _ hty) rfl hdg rfl (nI_pos (by omega)) (nI_clamp (by omega)) (by have := Nat.mul_le_mul hNb hcb; omega) hcells hslots rfl fun H1 cA e1 z1 o1 hAr hNm => ?_
  cases hRA.symm.trans hNm
  exact kk H.size H1 (mm_H_new hN.1 (Nat.le_refl _)) ⟨mm_H_add hN.1 z1 o1 (fun ow => e1.trans (congrArg some hx.symm)), ⟨Nat.le_trans hN.2.1 (by omega), fun x h1 h2 => (o1 x (Nat.lt_of_lt_of_le h1 hN.2.1)).trans (hN.2.2.1 x h1 h2), hN.2.2.2⟩⟩
/-! ends -/
def mm_Q (b : Nat) (D : mm_D) (PR : Option Value → mm_S → Prop) (PX : String → mm_S → Prop) (below : List Frame) (args : Array Value) (s : State) (rm : Room) : State → Prop :=
  vx_MQ below (fun _ st o t => (∃ (v : Option Value) (σ' : mm_S), o = .returned v ∧ PR v σ' ∧ mm_H b D σ' t.heap) ∧ va_F (mm_Wd b) st t) (fun E st t => (∃ σ' : mm_S, PX E σ' ∧ mm_H b D σ' t.heap) ∧ va_F (mm_Wd b) st t) args s rm.cells rm.slots (mm_Wd b)
variable {PR : Option Value → mm_S → Prop} {PX : String → mm_S → Prop} {rm : Room}
theorem mm_iret (F : mm_F p l s m args meth c b D own cc nL) (hr : meth.sig.returnType = some .int) (hN : mm_N b D s σ H locs) {v : Int32} (hp : PR (some (.int v)) σ) (hc : cells ≤ rm.cells) (hs : slots ≤ rm.slots) (hdg : decode cc pc = .ok (.ireturn, 1)) : W p l e R s m args below meth c H locs cells slots (mm_Q b D PR PX below args s rm) (F0 m pc ls [.int v]) :=
  vx_ret (W.widen hc hs (W.iret (hlocks := F.2.2.2.2.2.2.1) F.1 F.2.1 hr (fun t ht _ => ⟨⟨_, σ, rfl, hp, by rw [ht]; exact hN.1⟩, hN.2.F ht⟩) hN.2.2.2 hdg))
theorem mm_zret (F : mm_F p l s m args meth c b D own cc nL) {ty : FieldType} (hr : meth.sig.returnType = some ty) (hN : mm_N b D s σ H locs) {v : Int32} (hn : narrow ty (.int v) = .int v) (hp : PR (some (.int v)) σ) (hc : cells ≤ rm.cells) (hs : slots ≤ rm.slots) (hdg : decode cc pc = .ok (.ireturn, 1)) : W p l e R s m args below meth c H locs cells slots (mm_Q b D PR PX below args s rm) (F0 m pc ls [.int v]) :=
  vx_ret (W.widen hc hs (W.zret (hlocks := F.2.2.2.2.2.2.1) F.1 F.2.1 hr hn (fun t ht _ => ⟨⟨_, σ, rfl, hp, by rw [ht]; exact hN.1⟩, hN.2.F ht⟩) hN.2.2.2 hdg))
theorem mm_vret (F : mm_F p l s m args meth c b D own cc nL) (hr : meth.sig.returnType = none) (hN : mm_N b D s σ H locs) (hp : PR none σ) (hc : cells ≤ rm.cells) (hs : slots ≤ rm.slots) (hdg : decode cc pc = .ok (.return_, 1)) : W p l e R s m args below meth c H locs cells slots (mm_Q b D PR PX below args s rm) (F0 m pc ls []) :=
  vx_ret (W.widen hc hs (W.vret (hlocks := F.2.2.2.2.2.2.1) F.1 F.2.1 hr (fun t ht _ => ⟨⟨_, σ, rfl, hp, by rw [ht]; exact hN.1⟩, hN.2.F ht⟩) hN.2.2.2 hdg))
theorem mm_aret (F : mm_F p l s m args meth c b D own cc nL) {rt : FieldType} (hr : meth.sig.returnType = some rt) (hrt : (∃ n, rt = .object n) ∨ ∃ t, rt = .array t) (hN : mm_N b D s σ H locs) {v : Nat} (hp : PR (some (.ref v)) σ) (hc : cells ≤ rm.cells) (hs : slots ≤ rm.slots) (hdg : decode cc pc = .ok (.areturn, 1)) : W p l e R s m args below meth c H locs cells slots (mm_Q b D PR PX below args s rm) (F0 m pc ls [.ref v]) :=
  vx_ret (W.widen hc hs (W.aret (hlocks := F.2.2.2.2.2.2.1) F.1 F.2.1 hr hrt (Or.inr ⟨v, rfl⟩) (fun t ht _ => ⟨⟨_, σ, rfl, hp, by rw [ht]; exact hN.1⟩, hN.2.F ht⟩) hN.2.2.2 hdg))
theorem mm_nret (F : mm_F p l s m args meth c b D own cc nL) {rt : FieldType} (hr : meth.sig.returnType = some rt) (hrt : (∃ n, rt = .object n) ∨ ∃ t, rt = .array t) (hN : mm_N b D s σ H locs) (hp : PR (some .null) σ) (hc : cells ≤ rm.cells) (hs : slots ≤ rm.slots) (hdg : decode cc pc = .ok (.areturn, 1)) : W p l e R s m args below meth c H locs cells slots (mm_Q b D PR PX below args s rm) (F0 m pc ls [.null]) :=
  vx_ret (W.widen hc hs (W.aret (hlocks := F.2.2.2.2.2.2.1) F.1 F.2.1 hr hrt (Or.inl rfl) (fun t ht _ => ⟨⟨_, σ, rfl, hp, by rw [ht]; exact hN.1⟩, hN.2.F ht⟩) hN.2.2.2 hdg))
theorem mm_of {y : MethodName} {cd : Cond} {ret : Option FieldType} {as : List Value} (hy : plainName y.cls = true) (hcd : cd = .code y cc nL ret) (hls : (lg_sl as).length ≤ nL) (hst : l.stackTraces = false)
    (body : ∀ p e s m args below meth c ls, mm_F p l s m args meth c b D y.cls cc nL → (∀ x ∈ c.exceptionTable.toList, False) → meth.sig.returnType = ret → meth.name = y.name → mm_N b D s σ s.heap [] → lv_has ls nL (lv_args 0 as) →
      W p l e rm s m args below meth c s.heap [] 0 0 (mm_Q b D PR PX below args s rm) (F0 m 0 ls [])) : mm_K l b D y cd rm as σ PR PX := by
  subst hcd
  refine vx_ofW (cc := cc) (maxL := nL) (ret := ret) hy rfl ?_
  intro p e s m args below meth c s₁ B hml ht hv
  obtain ⟨rfl, hI, hE⟩ := hv
  have hts := atoms_spec (ws := Cond.code y cc nL ret :: mm_aW) B.pre
  have hl := lv_entry as (n := nL) hls
  rw [lg_entry_eq]
  generalize (lg_sl as ++ List.replicate (nL - (lg_sl as).length) Slot.unset).toArray = ls at hl ⊢
  exact body p e s m as.toArray below meth c ls ⟨B.exec, B.bytes, hml, findClass_of_methodNamed B.named, fun w hw => hts w (List.mem_cons_of_mem _ hw), hE, B.notSynchronized, hst, hI.1⟩ ht B.returns (name_of_methodNamed B.named B.method).1 ⟨hI, va_S.rf⟩ hl
end MM
