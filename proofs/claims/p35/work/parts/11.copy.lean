theorem dJ9_max_7cf53_0 : decode cJ9_max_7cf53 0 = .ok (.iload_n 0, 1) := by decide +kernel
theorem dJ9_max_7cf53_1 : decode cJ9_max_7cf53 1 = .ok (.iload_n 1, 1) := by decide +kernel
theorem dJ9_max_7cf53_2 : decode cJ9_max_7cf53 2 = .ok (.if_icmp .lt 7, 3) := by decide +kernel
theorem dJ9_max_7cf53_5 : decode cJ9_max_7cf53 5 = .ok (.iload_n 0, 1) := by decide +kernel
theorem dJ9_max_7cf53_6 : decode cJ9_max_7cf53 6 = .ok (.goto 4, 3) := by decide +kernel
theorem dJ9_max_7cf53_9 : decode cJ9_max_7cf53 9 = .ok (.iload_n 1, 1) := by decide +kernel
theorem dJ9_max_7cf53_10 : decode cJ9_max_7cf53 10 = .ok (.ireturn, 1) := by decide +kernel
theorem dJ9_min_7cf53_0 : decode cJ9_min_7cf53 0 = .ok (.iload_n 0, 1) := by decide +kernel
theorem dJ9_min_7cf53_1 : decode cJ9_min_7cf53 1 = .ok (.iload_n 1, 1) := by decide +kernel
theorem dJ9_min_7cf53_2 : decode cJ9_min_7cf53 2 = .ok (.if_icmp .gt 7, 3) := by decide +kernel
theorem dJ9_min_7cf53_5 : decode cJ9_min_7cf53 5 = .ok (.iload_n 0, 1) := by decide +kernel
theorem dJ9_min_7cf53_6 : decode cJ9_min_7cf53 6 = .ok (.goto 4, 3) := by decide +kernel
theorem dJ9_min_7cf53_9 : decode cJ9_min_7cf53 9 = .ok (.iload_n 1, 1) := by decide +kernel
theorem dJ9_min_7cf53_10 : decode cJ9_min_7cf53 10 = .ok (.ireturn, 1) := by decide +kernel
theorem mm_any {s : State} {b : Nat} {D : mm_D} {σ : mm_S} {H : Heap} {locs : List Loc} {y : Nat} (hE : mm_E b D s) (hN : mm_N b D s σ H locs) (h : mm_ob σ y) : va_Any "java/lang/Object" s H y := by
  obtain ⟨o, ci, fs, he, hc⟩ := h
  have key : ∀ (C : String) (T : u_T) (N : Nat), mm_cl[ci]? = some (C, T, N) → Cond.castable C "java/lang/Object" ∈ mm_nW → va_Any "java/lang/Object" s H y := fun C T N h1 h2 =>
    va_rAny (r := (C, T, N)) hE.1 (mm_one (mm_H_obj hN.1 he)) (q0 := 0) rfl h1 (fun comp c0 g1 g2 => vb_asgC (hE.2.1 _ h2) comp c0 g1 g2)
  match ci, hc with
  | 0, _ => exact key _ _ _ rfl mw_1205
  | 1, _ => exact key _ _ _ rfl mw_1209
  | 2, _ => exact key _ _ _ rfl mw_1206
  | 3, _ => exact key _ _ _ rfl mw_1208
  | 4, _ => exact key _ _ _ rfl mw_1198
  | 5, _ => exact key _ _ _ rfl mw_1207
  | 6, _ => exact key _ _ _ rfl mw_1196
  | 7, _ => exact key _ _ _ rfl mw_1205
  | ci + 8, h => exact absurd h (by omega)
section MMY
variable {p : Program} {l : Launch} {e : Env} {R : Room} {s : State} {m : MethodId} {args : Array Value} {below : List Frame} {meth : Method} {c : Code} {H : Heap} {locs : List Loc} {cells slots : Nat} {Q : State → Prop}
variable {cc : ByteArray} {pc : Nat} {ls : Array Slot} {rest : List Value} {b : Nat} {D : mm_D} {σ : mm_S} {own : String} {nL a o : Nat}
theorem mm_astq (F : mm_F p l s m args meth c b D own cc nL) (hN : mm_N b D s σ H locs) {n j y : Nat} {f : Nat → Option Nat} (he : σ a = mm_arq o 8 n f) (hy : mm_ob σ y) {i : Int32} (hi : i = nI j) (hj : j < n) (hn : n ≤ 1000000) (hdg : decode cc pc = .ok (.aastore, 1))
    (kk : ∀ (H1 : Heap) (locs1 : List Loc), mm_N b D s (mm_u σ a (mm_arq o 8 n (va_up f j (some y)))) H1 locs1 → W p l e R s m args below meth c H1 locs1 cells slots Q (F0 m (pc + 1) ls rest)) : W p l e R s m args below meth c H locs cells slots Q (F0 m pc ls (.ref y :: .int i :: .ref a :: rest)) := by
  subst hi
  have hE := F.2.2.2.2.2.1
  obtain ⟨cellV, g1, g3, ⟨kC, hkC⟩, hasg⟩ := mm_any hE hN hy
  obtain ⟨kA, comp, k1, k2, k3, -⟩ := (hE.1.2 8 _ rfl).2
  obtain ⟨kE, hkE, -⟩ := Vm.findClass_spec k3
  have h2 : (nI j).toNatClampNeg = j := nI_clamp (by omega)
  refine W.aast F.1 F.2.1 (mm_H_arr hN.1 he) (fun q h => by cases h) (fun h => by cases h) k1 k2 rfl hkE ⟨nI_pos (by omega), by rw [h2]; show _ < (arrV _ _ _).slots.size; rw [arrV_size]; exact hj⟩ g1 (fun q h => by rw [h] at g3; cases g3) hkC (hasg _ k3) rfl rfl hdg fun H1 e1 e2 e3 => ?_
  rw [h2] at e1 ⊢
  exact kk H1 _ (mm_stAt hN he (mm_up_q _ _ _ _ _) e1 e2 e3)
theorem mm_acopy (F : mm_F p l s m args meth c b D own cc nL) (hN : mm_N b D s σ H locs) {a0 o0 n0 n1 sp dp n : Nat} {f g : Nat → Option Nat} (he0 : σ a0 = mm_arq o0 8 n0 f) (he : σ a = mm_arq o 8 n1 g) (h4 : sp + n ≤ n0) (h5 : dp + n ≤ n1) (hb0 : n0 ≤ 100000) (hb1 : n1 ≤ 100000) (hel : ∀ i y, f i = some y → mm_ob σ y) {index : Nat} (hlink : Cond.methodLink own index arraycopyName ∈ mm_aW) {i1 i2 i3 : Int32} (hi1 : i1 = nI sp) (hi2 : i2 = nI dp) (hi3 : i3 = nI n) (hsize : ls.size = nL)
    (hframes : 1 ≤ R.frames) (hlocals : (rest.map fun v => v.category).sum + (nativeFrameWords "java/lang/System" "arraycopy" 5 + 11) ≤ R.locals) (hdg : decode cc pc = .ok (.invokestatic index, 3))
    (kk : ∀ (H1 : Heap) (locs1 : List Loc), mm_N b D s (mm_u σ a (mm_arq o 8 n1 (va_cpy f g sp dp n))) H1 locs1 → W p l e R s m args below meth c H1 locs1 cells slots Q (F0 m (pc + 3) ls rest)) : W p l e R s m args below meth c H locs cells slots Q (F0 m pc ls (.int i3 :: .int i2 :: .ref a :: .int i1 :: .ref a0 :: rest)) := by
  subst hi1 hi2 hi3
  obtain ⟨hexec, hb, hml, hown, hts, hE, -⟩ := F
  have q1 : (nI sp).toNatClampNeg = sp := nI_clamp (by omega)
  have q2 : (nI dp).toNatClampNeg = dp := nI_clamp (by omega)
  have q3 : (nI n).toNatClampNeg = n := nI_clamp (by omega)
  have t1 : (nI sp).toInt = sp := nI_toInt (by omega)
  have t2 : (nI dp).toInt = dp := nI_toInt (by omega)
  have t3 : (nI n).toInt = n := nI_toInt (by omega)
  have hc0 := mm_H_arr hN.1 he0
  have hc1 := mm_H_arr hN.1 he
  obtain ⟨-, k0, hk0, cm0, hkk0⟩ := (hE.1.2 8 _ rfl).1 n0 (fun j => va_rf (f j))
  obtain ⟨-, k1, hk1, cm1, hkk1⟩ := (hE.1.2 8 _ rfl).1 n1 (fun j => va_rf (g j))
  obtain ⟨kA, comp, r1, r2, r3, -⟩ := (hE.1.2 8 _ rfl).2
  have hkA : k1 = kA := Option.some.inj (hk1.symm.trans r1)
  subst hkA
  have hcomp : cm1 = comp := by
    have := hkk1.symm.trans r2
    cases this
    rfl
  subst hcomp
  intro T hT X
  obtain ⟨vm', X', step⟩ := X.arraycopy hexec hown (hts _ hlink) (hts _ mw_306) (hts _ (by first | exact mw_305 | exact mw_307 | exact mw_308 | exact mw_304)) (hts _ (by first | exact mw_24 | exact mw_23 | exact mw_9)) (src := a0) (dst := a) (cs := vp_cell (D.2.1 8) (n0, .inr (.inr (.inr (.inr f))))) (cd := vp_cell (D.2.1 8) (n1, .inr (.inr (.inr (.inr g))))) (srcPos := nI sp) (destPos := nI dp) (n := nI n) (by rw [hT]; exact hc0) (by rw [hT]; exact hc1)
    (fun _ h => by cases h) (fun _ h => by cases h) (fun h => by cases h) (fun h => by cases h) hk0 hk1 hkk0 hkk1 rfl (nI_pos (by omega)) (nI_pos (by omega)) (nI_pos (by omega))
    (by rw [t1, t3]; show ¬ _ > ((arrV (D.2.1 8) n0 (fun j => va_rf (f j))).slots.size : Int); rw [arrV_size]; omega)
    (by rw [t2, t3]; show ¬ _ > ((arrV (D.2.1 8) n1 (fun j => va_rf (g j))).slots.size : Int); rw [arrV_size]; omega)
    (fun vm₁ hal i hi => by
      rw [q3] at hi
      rw [q1]
      have ev : (vp_cell (D.2.1 8) (n0, .inr (.inr (.inr (.inr f))))).slots.getD (sp + i) .null = va_rf (f (sp + i)) := by
        show (arrV (D.2.1 8) n0 (fun j => va_rf (f j))).slots.getD _ _ = _
        rw [Array.getD_eq_getD_getElem?, arrV_read _ _ (by omega)]
        rfl
      rw [ev]
      cases hy : f (sp + i) with
      | none => exact ⟨rfl, trivial⟩
      | some y =>
        obtain ⟨cellV, w1, w2, ⟨kC, hkC⟩, hasg⟩ := mm_any hE hN (hel _ y hy)
        obtain ⟨kE, hkE, -⟩ := Vm.findClass_spec r3
        obtain ⟨kC', hkC', -⟩ := hal.2.2 _ _ hkC
        obtain ⟨kE', hkE', -⟩ := hal.2.2 _ _ hkE
        refine ⟨rfl, cellV, (show T.heap[y]? = some cellV by rw [hT]; exact w1), (fun q h => by rw [h] at w2; cases w2), ⟨kC', hkC'⟩, ?_, ?_⟩
        · exact ⟨kE', hkE'⟩
        · show vm₁.assignable _ _ = true
          rw [hal.assignable]
          exact hasg _ r3)
    (g := F0 m pc ls (.int (nI n) :: .int (nI dp) :: .ref a :: .int (nI sp) :: .ref a0 :: rest)) rfl (hsize.trans hml.symm) (rest := rest) rfl (by rw [hb]; exact hdg) hframes (by show 2 * 0 + _ + _ ≤ _; omega)
  have e1 : copied (vp_cell (D.2.1 8) (n0, .inr (.inr (.inr (.inr f))))) (vp_cell (D.2.1 8) (n1, .inr (.inr (.inr (.inr g))))) (nI sp) (nI dp) (nI n) = vp_cell (D.2.1 8) (n1, .inr (.inr (.inr (.inr (va_cpy f g sp dp n))))) := by
    unfold copied
    rw [q1, q2, q3, vp_cell_q, vp_cell_q, vp_cell_q]
    exact va_copied (fun z => va_rf z) (D.2.1 8) (D.2.1 8) f g h4
  rw [e1] at X' step
  have hla : a < H.size := (Array.getElem?_eq_some_iff.mp hc1).1
  have hba : b ≤ a := mm_H_b hN.1 he
  have hheap : ((T.setVm vm').setCell a (vp_cell (D.2.1 8) (n1, .inr (.inr (.inr (.inr (va_cpy f g sp dp n))))))).heap = H.setIfInBounds a (vp_cell (D.2.1 8) (n1, .inr (.inr (.inr (.inr (va_cpy f g sp dp n)))))) := by rw [← hT]; rfl
  have oq : ∀ q : Nat, q ≠ a → (H.setIfInBounds a (vp_cell (D.2.1 8) (n1, .inr (.inr (.inr (.inr (va_cpy f g sp dp n)))))))[q]? = H[q]? := fun q hq => by simp [Array.getElem?_setIfInBounds, Ne.symm hq]
  obtain ⟨t, a1, b1⟩ := kk _ _ ⟨mm_H_set hN.1 he (by simp) oq (mm_arr_ob he) (fun ow => (show (H.setIfInBounds a _)[a]? = some _ by simp [Array.getElem?_setIfInBounds, hla])), ⟨by simp; exact hN.2.1, fun q g1 g2 => by
      rw [oq q (fun e => g2 (by rw [e]; exact hba))]
      exact hN.2.2.1 q g1 g2, fun q hq => by
      rcases List.mem_append.mp hq with h | h
      · exact hN.2.2.2 q h
      · obtain ⟨z, -, hz⟩ := List.mem_map.mp h
        rw [← hz]
        exact hba⟩⟩ _ hheap X'
  exact ⟨t, step t a1, b1⟩
theorem mm_ldcM (F : mm_F p l s m args meth c b D own cc nL) {mi index : Nat} (hM : va_Mi "[Ljava/lang/Object;" mi s) (hlink : Cond.classLink own index "[Ljava/lang/Object;" ∈ mm_aW) (hdg : decode cc pc = .ok (.ldc index, 2))
    (k : W p l e R s m args below meth c H locs cells slots Q (F0 m (pc + 2) ls (.ref mi :: rest))) : W p l e R s m args below meth c H locs cells slots Q (F0 m pc ls rest) :=
  va_ldcM F.1 F.2.1 F.2.2.2.1 (F.2.2.2.2.1 _ hlink) hM hdg k
/-- an array is dropped from the ghost heap -/
theorem mm_drop {b : Nat} {D : mm_D} {σ : mm_S} {H : Heap} (h : mm_H b D σ H) {r o k : Nat} {x : vp_A} (hr : σ r = mm_arr o k x) : mm_H b D (mm_u σ r none) H := by
  obtain ⟨hb, ow, h⟩ := h
  refine ⟨hb, ow, fun q o2 e2 hq => ?_⟩
  have hqr : q ≠ r := fun e => by
    rw [e, mm_u_eq] at hq
    cases hq
  rw [mm_u_ne hqr] at hq
  obtain ⟨g1, g2, g3⟩ := h q o2 e2 hq
  refine ⟨g1, g2, ?_⟩
  rcases e2 with ⟨k2, x2⟩ | ⟨ci, fs⟩ | L2
  · exact g3
  · exact g3
  · obtain ⟨m2, s2, w1, w2, w3, w4⟩ := g3
    refine ⟨m2, s2, w1, w2, fun y hy => ?_, w4⟩
    obtain ⟨o9, c9, f9, w, w9⟩ := w3 y hy
    have ey : y ≠ r := fun e => by rw [e, hr] at w; cases w
    exact ⟨o9, c9, f9, by rw [mm_u_ne ey]; exact w, w9⟩
end MMY
