section
variable {p : Program} {l : Launch} {e : Env} {R : Room} {s : State} {m : MethodId} {args : Array Value} {below : List Frame} {meth : Method} {c : Code} {H : Heap} {locs : List Loc} {cells slots : Nat}
variable {cc : ByteArray} {pc : Nat} {ls : Array Slot} {b : Nat} {D : mm_D} {σ : mm_S} {own : String} {nL : Nat} {PR : Option Value → mm_S → Prop} {PX : String → mm_S → Prop} {rm : Room}
theorem mm_lret (F : mm_F p l s m args meth c b D own cc nL) (hr : meth.sig.returnType = some .long) (hN : mm_N b D s σ H locs) {v : Int64} (hp : PR (some (.long v)) σ) (hc : cells ≤ rm.cells) (hs : slots ≤ rm.slots) (hdg : decode cc pc = .ok (.lreturn, 1)) : W p l e R s m args below meth c H locs cells slots (mm_Q b D PR PX below args s rm) (F0 m pc ls [.long v]) :=
  vx_ret (W.widen hc hs (W.lret (hlocks := F.2.2.2.2.2.2.1) F.1 F.2.1 hr (fun t ht _ => ⟨⟨_, σ, rfl, hp, by rw [ht]; exact hN.1⟩, hN.2.F ht⟩) hN.2.2.2 hdg))
theorem mm_fret (F : mm_F p l s m args meth c b D own cc nL) (hr : meth.sig.returnType = some .float) (hN : mm_N b D s σ H locs) {v : UInt32} (hp : PR (some (.float v)) σ) (hc : cells ≤ rm.cells) (hs : slots ≤ rm.slots) (hdg : decode cc pc = .ok (.freturn, 1)) : W p l e R s m args below meth c H locs cells slots (mm_Q b D PR PX below args s rm) (F0 m pc ls [.float v]) :=
  vx_ret (W.widen hc hs (W.fret (hlocks := F.2.2.2.2.2.2.1) F.1 F.2.1 hr (fun t ht _ => ⟨⟨_, σ, rfl, hp, by rw [ht]; exact hN.1⟩, hN.2.F ht⟩) hN.2.2.2 hdg))
theorem mm_dret (F : mm_F p l s m args meth c b D own cc nL) (hr : meth.sig.returnType = some .double) (hN : mm_N b D s σ H locs) {v : UInt64} (hp : PR (some (.double v)) σ) (hc : cells ≤ rm.cells) (hs : slots ≤ rm.slots) (hdg : decode cc pc = .ok (.dreturn, 1)) : W p l e R s m args below meth c H locs cells slots (mm_Q b D PR PX below args s rm) (F0 m pc ls [.double v]) :=
  vx_ret (W.widen hc hs (W.dret (hlocks := F.2.2.2.2.2.2.1) F.1 F.2.1 hr (fun t ht _ => ⟨⟨_, σ, rfl, hp, by rw [ht]; exact hN.1⟩, hN.2.F ht⟩) hN.2.2.2 hdg))
end
theorem mm_uc {σ : mm_S} {a q : Nat} {x y : Option (Nat × mm_e)} (h : a ≠ q) : mm_u (mm_u σ a x) q y = mm_u (mm_u σ q y) a x := by
  funext z
  by_cases h1 : z = a
  · subst h1; rw [mm_u_ne h, mm_u_eq, mm_u_eq]
  · by_cases h2 : z = q
    · subst h2; rw [mm_u_eq, mm_u_ne h1, mm_u_eq]
    · rw [mm_u_ne h2, mm_u_ne h1, mm_u_ne h1, mm_u_ne h2]
/-- sums -/
def mm_sm (f : Nat → Nat) : Nat → Nat
  | 0 => 0
  | n + 1 => mm_sm f n + f n
theorem mm_sm_le {f : Nat → Nat} {c n : Nat} (h : ∀ i, i < n → f i ≤ c) : mm_sm f n ≤ c * n := by
  induction n with
  | zero => exact Nat.le_refl _
  | succ n ih =>
    have h1 := ih (fun i hi => h i (by omega))
    have h2 := h n (by omega)
    rw [Nat.mul_succ]
    show mm_sm f n + f n ≤ _
    omega
theorem mm_sm_congr {f g : Nat → Nat} {n : Nat} (h : ∀ i, i < n → f i = g i) : mm_sm f n = mm_sm g n := by
  induction n with
  | zero => rfl
  | succ n ih =>
    show mm_sm f n + f n = mm_sm g n + g n
    rw [ih (fun i hi => h i (by omega)), h n (by omega)]
theorem mm_gd {L : List Nat} {i : Nat} (h : i < L.length) : L[i]? = some (L.getD i 0) := by
  rw [List.getD_eq_getElem?_getD, List.getElem?_eq_getElem h]; rfl
def mm_cent (pg : Nat) : Nat := if 5 * pg + (if 3 < pg then 25 else 10) ≤ 20 then 80 else if 5 * pg + (if 3 < pg then 25 else 10) ≤ 40 then 95 else 160
/-- a list of entries -/
abbrev mm_eo (o : Nat) (f : Nat → Nat → Nat) (i : Nat) : Option (Nat × mm_e) := mm_obj o 1 [.int (nI (f 0 i)), .ref (f 1 i), .int (nI (f 2 i)), .int (nI (f 3 i)), .int (nI (f 4 i)), .int (nI (f 5 i)), .int (nI (f 6 i))]
def mm_en (σ : mm_S) (o : Nat) (L : List Nat) (f : Nat → Nat → Nat) : Prop := L.length ≤ 24 ∧ ∀ i, i < L.length → σ (L.getD i 0) = mm_eo o f i ∧ f 2 i < 65536 ∧ f 3 i < 100 ∧ f 4 i < 100 ∧ f 5 i < 256 ∧ f 6 i < 2
def mm_up (f : Nat → Nat) (j x : Nat) : Nat → Nat := fun i => if i = j then x else f i
theorem mm_upn (f : Nat → Nat) (j x : Nat) : va_up (fun i => nI (f i)) j (nI x) = fun i => nI (mm_up f j x i) := by
  funext i
  by_cases h : i = j
  · subst h; simp [va_up, mm_up]
  · simp [va_up, mm_up, h]
theorem mm_up_up {f : Nat → Nat} {j x y : Nat} : mm_up (mm_up f j x) j y = mm_up f j y := by
  funext i
  by_cases h : i = j <;> simp [mm_up, h]
theorem mm_up_at {f : Nat → Nat} {j x : Nat} : mm_up f j x j = x := if_pos rfl
theorem mm_up_same {f : Nat → Nat} {j : Nat} : mm_up f j (f j) = f := by
  funext i
  by_cases h : i = j
  · subst h; exact if_pos rfl
  · exact if_neg h
theorem mm_us {σ : mm_S} {a : Nat} {x : Option (Nat × mm_e)} (h : σ a = x) : mm_u σ a x = σ := by
  funext z
  by_cases h1 : z = a
  · subst h1; rw [mm_u_eq, h]
  · exact mm_u_ne h1
abbrev mm_a8 (o : Nat) (f : Nat → Nat) : Option (Nat × mm_e) := mm_ari o 0 8 (fun i => nI (f i))
def mm_U3 (σ : mm_S) (o pg lo pa : Nat) (f g h : Nat → Nat) : mm_S := mm_u (mm_u (mm_u σ pg (mm_a8 o f)) lo (mm_a8 o g)) pa (mm_a8 o h)
section
variable {σ : mm_S} {o pg lo pa : Nat} {f g h f' g' h' : Nat → Nat}
theorem mm_U3p (h1 : pg ≠ lo) (h2 : pg ≠ pa) : mm_U3 σ o pg lo pa f g h pg = mm_a8 o f := by rw [mm_U3, mm_u_ne h2, mm_u_ne h1, mm_u_eq]
theorem mm_U3l (h1 : lo ≠ pa) : mm_U3 σ o pg lo pa f g h lo = mm_a8 o g := by rw [mm_U3, mm_u_ne h1, mm_u_eq]
theorem mm_U3a : mm_U3 σ o pg lo pa f g h pa = mm_a8 o h := mm_u_eq
theorem mm_U3z {z : Nat} (h1 : z ≠ pg) (h2 : z ≠ lo) (h3 : z ≠ pa) : mm_U3 σ o pg lo pa f g h z = σ z := by rw [mm_U3, mm_u_ne h3, mm_u_ne h2, mm_u_ne h1]
theorem mm_U3s (h1 : σ pg = mm_a8 o f) (h2 : σ lo = mm_a8 o g) (h3 : σ pa = mm_a8 o h) : mm_U3 σ o pg lo pa f g h = σ := by
  rw [mm_U3, mm_us h1, mm_us h2, mm_us h3]
theorem mm_U3U (h1 : pg ≠ lo) (h2 : pg ≠ pa) (h3 : lo ≠ pa) : mm_U3 (mm_U3 σ o pg lo pa f g h) o pg lo pa f' g' h' = mm_U3 σ o pg lo pa f' g' h' := by
  funext z
  by_cases e1 : z = pg
  · subst e1; rw [mm_U3p h1 h2, mm_U3p h1 h2]
  · by_cases e2 : z = lo
    · subst e2; rw [mm_U3l h3, mm_U3l h3]
    · by_cases e3 : z = pa
      · subst e3; rw [mm_U3a, mm_U3a]
      · rw [mm_U3z e1 e2 e3, mm_U3z e1 e2 e3, mm_U3z e1 e2 e3]
theorem mm_U3wp (h1 : pg ≠ lo) (h2 : pg ≠ pa) {j x : Nat} : mm_u (mm_U3 σ o pg lo pa f g h) pg (mm_ari o 0 8 (va_up (fun i => nI (f i)) j (nI x))) = mm_U3 σ o pg lo pa (mm_up f j x) g h := by
  rw [mm_upn, mm_U3, mm_U3, mm_uc (Ne.symm h2), mm_uc (Ne.symm h1), mm_uu]
theorem mm_U3wl (h3 : lo ≠ pa) {j x : Nat} : mm_u (mm_U3 σ o pg lo pa f g h) lo (mm_ari o 0 8 (va_up (fun i => nI (g i)) j (nI x))) = mm_U3 σ o pg lo pa f (mm_up g j x) h := by
  rw [mm_upn, mm_U3, mm_U3, mm_uc (Ne.symm h3), mm_uu]
theorem mm_U3wa {j x : Nat} : mm_u (mm_U3 σ o pg lo pa f g h) pa (mm_ari o 0 8 (va_up (fun i => nI (h i)) j (nI x))) = mm_U3 σ o pg lo pa f g (mm_up h j x) := by
  rw [mm_upn, mm_U3, mm_U3, mm_uu]
end
theorem mm_shl1 {k : Nat} (h : k < 8) : nI 1 <<< (nI k &&& 31) = nI (2 ^ k) := by
  rcases (show k = 0 ∨ k = 1 ∨ k = 2 ∨ k = 3 ∨ k = 4 ∨ k = 5 ∨ k = 6 ∨ k = 7 by omega) with rfl | rfl | rfl | rfl | rfl | rfl | rfl | rfl <;> decide
theorem mm_NS {b : Nat} {D : mm_D} {s : State} {σ σ2 : mm_S} {H : Heap} {locs : List Loc} (h : mm_N b D s σ H locs) (e : σ = σ2) : mm_N b D s σ2 H locs := e ▸ h
set_option maxHeartbeats 4000000 in
set_option maxRecDepth 100000 in
theorem c_pagesW (l : Launch) (b : Nat) (D : mm_D) (hst : l.stackTraces = false) (o t pa pg lo pc us : Nat) (fl : Nat) (fg : Nat → Nat) (hfl : fl < 8) (σ : mm_S) (hT : σ t = mm_obj o 5 [.ref pa, .ref pg, .ref lo, .int (nI pc), .int (nI us)]) (hA : σ pg = mm_a8 o fg) : mm_K l b D yX5_pagesWith (.code yX5_pagesWith cX5_pagesWith 2 (some .int)) ({ frames := 0, cells := 0, slots := 0, locals := 0 } : Room) [.ref t, .int (nI fl)] σ
    (fun v σ2 => v = some (.int (nI (fg fl))) ∧ σ2 = σ)
    (fun _ _ => False) := by
  refine mm_of (cc := cX5_pagesWith) (nL := 2) (ret := (some .int)) (by decide) rfl (Nat.le_of_ble_eq_true rfl) hst ?_
  intro p e s m args below meth c ls F ht hr hin hN hl
  have hl : lv_has ls 2 [(0, .ref t), (1, .int (nI fl))] := hl
  refine lv_aload_n (pc := 0) F.1 F.2.1 dX5_pagesWith_0 rfl (lv_at hl 0 rfl) ?_
  refine mm_get (pc := 1) F hN (hT) (ci := 5) rfl 1 (by decide) mw_468 rfl dX5_pagesWith_1 ?_
  refine lv_iload_n (pc := 4) F.1 F.2.1 dX5_pagesWith_4 rfl (lv_at hl 1 rfl) ?_
  refine lv_bipush (pc := 5) (v := nI 7) F.1 F.2.1 dX5_pagesWith_5 (by decide) ?_
  refine mm_iand (pc := 7) F (z := nI (fl &&& 7)) (mm_andN _ _) dX5_pagesWith_7 ?_
  refine W.eq (g2 := F0 m 8 ls [.int (nI fl), .ref pg]) (by rw [mm_and7 hfl]) ?_
  refine mm_iald (pc := 8) F hN (hA) (j := fl) (rfl) (hfl) (by decide) dX5_pagesWith_8 ?_
  exact mm_iret (pc := 9) F hr hN (⟨rfl, rfl⟩) (Nat.le_of_ble_eq_true rfl) (Nat.le_of_ble_eq_true rfl) dX5_pagesWith_9

set_option maxHeartbeats 4000000 in
set_option maxRecDepth 100000 in
theorem c_partsW (l : Launch) (b : Nat) (D : mm_D) (hst : l.stackTraces = false) (o t pa pg lo pc us : Nat) (fl : Nat) (fa : Nat → Nat) (hfl : fl < 8) (σ : mm_S) (hT : σ t = mm_obj o 5 [.ref pa, .ref pg, .ref lo, .int (nI pc), .int (nI us)]) (hA : σ pa = mm_a8 o fa) : mm_K l b D yX5_partsWith (.code yX5_partsWith cX5_partsWith 2 (some .int)) ({ frames := 0, cells := 0, slots := 0, locals := 0 } : Room) [.ref t, .int (nI fl)] σ
    (fun v σ2 => v = some (.int (nI (fa fl))) ∧ σ2 = σ)
    (fun _ _ => False) := by
  refine mm_of (cc := cX5_partsWith) (nL := 2) (ret := (some .int)) (by decide) rfl (Nat.le_of_ble_eq_true rfl) hst ?_
  intro p e s m args below meth c ls F ht hr hin hN hl
  have hl : lv_has ls 2 [(0, .ref t), (1, .int (nI fl))] := hl
  refine lv_aload_n (pc := 0) F.1 F.2.1 dX5_partsWith_0 rfl (lv_at hl 0 rfl) ?_
  refine mm_get (pc := 1) F hN (hT) (ci := 5) rfl 0 (by decide) mw_467 rfl dX5_partsWith_1 ?_
  refine lv_iload_n (pc := 4) F.1 F.2.1 dX5_partsWith_4 rfl (lv_at hl 1 rfl) ?_
  refine lv_bipush (pc := 5) (v := nI 7) F.1 F.2.1 dX5_partsWith_5 (by decide) ?_
  refine mm_iand (pc := 7) F (z := nI (fl &&& 7)) (mm_andN _ _) dX5_partsWith_7 ?_
  refine W.eq (g2 := F0 m 8 ls [.int (nI fl), .ref pa]) (by rw [mm_and7 hfl]) ?_
  refine mm_iald (pc := 8) F hN (hA) (j := fl) (rfl) (hfl) (by decide) dX5_partsWith_8 ?_
  exact mm_iret (pc := 9) F hr hN (⟨rfl, rfl⟩) (Nat.le_of_ble_eq_true rfl) (Nat.le_of_ble_eq_true rfl) dX5_partsWith_9

set_option maxHeartbeats 4000000 in
set_option maxRecDepth 100000 in
theorem c_lay (l : Launch) (b : Nat) (D : mm_D) (hst : l.stackTraces = false) (o t pa pg lo pc us : Nat) (x ln : Nat) (fp fq fa : Nat → Nat) (hx : x < 8) (hpc : pc < 8) (hln : ln ≤ 40) (hpx : fp x < 100) (hqx : fq x ≤ 40) (σ : mm_S) (hT : σ t = mm_obj o 5 [.ref pa, .ref pg, .ref lo, .int (nI pc), .int (nI us)]) (h1 : pg ≠ lo) (h2 : pg ≠ pa) (h3 : lo ≠ pa) (hP : σ pg = mm_a8 o fp) (hL : σ lo = mm_a8 o fq) (hA : σ pa = mm_a8 o fa) : mm_K l b D yX5_lay (.code yX5_lay cX5_lay 4 none) ({ frames := 0, cells := 0, slots := 0, locals := 0 } : Room) [.ref t, .int (nI x), .int (nI ln)] σ
    (fun v σ2 => v = none ∧ σ2 = mm_U3 σ o pg lo pa (mm_up fp x (if fp x = 0 ∨ 40 < fq x + ln then fp x + 1 else fp x)) (mm_up fq x (if fp x = 0 ∨ 40 < fq x + ln then ln else fq x + ln)) (mm_up fa x (fa x ||| 2 ^ pc)))
    (fun _ _ => False) := by
  refine mm_of (cc := cX5_lay) (nL := 4) (ret := none) (by decide) rfl (Nat.le_of_ble_eq_true rfl) hst ?_
  intro p e s m args below meth c ls F ht hr hin hN hl
  have hl : lv_has ls 4 [(0, .ref t), (1, .int (nI x)), (2, .int (nI ln))] := hl
  have hN := mm_NS hN (mm_U3s hP hL hA).symm
  have htp : t ≠ pg := fun e => by rw [e, hP] at hT; cases hT
  have htl : t ≠ lo := fun e => by rw [e, hL] at hT; cases hT
  have hta : t ≠ pa := fun e => by rw [e, hA] at hT; cases hT
  refine lv_iload_n (pc := 0) F.1 F.2.1 dX5_lay_0 rfl (lv_at hl 1 rfl) ?_
  refine lv_bipush (pc := 1) (v := nI 7) F.1 F.2.1 dX5_lay_1 (by decide) ?_
  refine mm_iand (pc := 3) F (z := nI (x &&& 7)) (mm_andN _ _) dX5_lay_3 ?_
  refine W.eq (g2 := F0 m 4 ls [.int (nI x)]) (by rw [mm_and7 hx]) ?_
  refine lv_istore_n (pc := 4) (lv' := [(3, .int (nI x)), (0, .ref t), (1, .int (nI x)), (2, .int (nI ln))]) F.1 F.2.1 dX5_lay_4 rfl hl (by decide) rfl (fun ls hl => ?_)
  refine lv_aload_n (pc := 5) F.1 F.2.1 dX5_lay_5 rfl (lv_at hl 1 rfl) ?_
  refine mm_get (pc := 6) F hN ((mm_U3z htp htl hta).trans hT) (ci := 5) rfl 1 (by decide) mw_468 rfl dX5_lay_6 ?_
  refine lv_iload_n (pc := 9) F.1 F.2.1 dX5_lay_9 rfl (lv_at hl 0 rfl) ?_
  refine mm_iald (pc := 10) F hN (mm_U3p h1 h2) (j := x) (rfl) (hx) (by decide) dX5_lay_10 ?_
  refine mm_if_eq (pc := 11) F (tgt := 27) (by omega) dX5_lay_11 (by decide) (fun cz11 => ?_) (fun cz11 => ?_)
  ·
    have hb : fp x = 0 ∨ 40 < fq x + ln := by omega
    refine lv_aload_n (pc := 27) F.1 F.2.1 dX5_lay_27 rfl (lv_at hl 1 rfl) ?_
    refine mm_get (pc := 28) F hN ((mm_U3z htp htl hta).trans hT) (ci := 5) rfl 1 (by decide) mw_468 rfl dX5_lay_28 ?_
    refine lv_iload_n (pc := 31) F.1 F.2.1 dX5_lay_31 rfl (lv_at hl 0 rfl) ?_
    refine lv_dup2_11 (pc := 32) F.1 F.2.1 dX5_lay_32 rfl rfl ?_
    refine mm_iald (pc := 33) F hN (mm_U3p h1 h2) (j := x) (rfl) (hx) (by decide) dX5_lay_33 ?_
    refine lv_iconst (pc := 34) (v := nI 1) F.1 F.2.1 dX5_lay_34 (by decide) ?_
    refine mm_iadd (pc := 35) F (z := nI ((fp x) + 1)) (nI_add _ _) dX5_lay_35 ?_
    refine mm_iast (pc := 36) F hN (mm_U3p h1 h2) (j := x) (rfl) (hx) (by decide) dX5_lay_36 (fun H locs hN => ?_)
    have hN := mm_NS hN (mm_U3wp h1 h2)
    have hN : mm_N b D s (mm_U3 σ o pg lo pa (mm_up fp x ((fp x) + 1)) fq fa) _ _ := hN
    refine lv_aload_n (pc := 37) F.1 F.2.1 dX5_lay_37 rfl (lv_at hl 1 rfl) ?_
    refine mm_get (pc := 38) F hN ((mm_U3z htp htl hta).trans hT) (ci := 5) rfl 2 (by decide) mw_469 rfl dX5_lay_38 ?_
    refine lv_iload_n (pc := 41) F.1 F.2.1 dX5_lay_41 rfl (lv_at hl 0 rfl) ?_
    refine lv_iconst (pc := 42) (v := nI 0) F.1 F.2.1 dX5_lay_42 (by decide) ?_
    refine mm_iast (pc := 43) F hN (mm_U3l h3) (j := x) (rfl) (hx) (by decide) dX5_lay_43 (fun H locs hN => ?_)
    have hN := mm_NS hN (mm_U3wl h3)
    have hN : mm_N b D s (mm_U3 σ o pg lo pa (mm_up fp x ((fp x) + 1)) (mm_up fq x 0) fa) _ _ := hN
    refine lv_aload_n (pc := 44) F.1 F.2.1 dX5_lay_44 rfl (lv_at hl 1 rfl) ?_
    refine mm_get (pc := 45) F hN ((mm_U3z htp htl hta).trans hT) (ci := 5) rfl 2 (by decide) mw_469 rfl dX5_lay_45 ?_
    refine lv_iload_n (pc := 48) F.1 F.2.1 dX5_lay_48 rfl (lv_at hl 0 rfl) ?_
    refine lv_dup2_11 (pc := 49) F.1 F.2.1 dX5_lay_49 rfl rfl ?_
    refine mm_iald (pc := 50) F hN (mm_U3l h3) (j := x) (rfl) (hx) (by decide) dX5_lay_50 ?_
    refine lv_iload_n (pc := 51) F.1 F.2.1 dX5_lay_51 rfl (lv_at hl 3 rfl) ?_
    refine mm_iadd (pc := 52) F (z := nI (((mm_up fq x 0) x) + ln)) (nI_add _ _) dX5_lay_52 ?_
    refine mm_iast (pc := 53) F hN (mm_U3l h3) (j := x) (rfl) (hx) (by decide) dX5_lay_53 (fun H locs hN => ?_)
    have hN := mm_NS hN (mm_U3wl h3)
    have hN : mm_N b D s (mm_U3 σ o pg lo pa (mm_up fp x ((fp x) + 1)) (mm_up (mm_up fq x 0) x (((mm_up fq x 0) x) + ln)) fa) _ _ := hN
    refine lv_aload_n (pc := 54) F.1 F.2.1 dX5_lay_54 rfl (lv_at hl 1 rfl) ?_
    refine mm_get (pc := 55) F hN ((mm_U3z htp htl hta).trans hT) (ci := 5) rfl 0 (by decide) mw_467 rfl dX5_lay_55 ?_
    refine lv_iload_n (pc := 58) F.1 F.2.1 dX5_lay_58 rfl (lv_at hl 0 rfl) ?_
    refine lv_dup2_11 (pc := 59) F.1 F.2.1 dX5_lay_59 rfl rfl ?_
    refine mm_iald (pc := 60) F hN (mm_U3a) (j := x) (rfl) (hx) (by decide) dX5_lay_60 ?_
    refine lv_iconst (pc := 61) (v := nI 1) F.1 F.2.1 dX5_lay_61 (by decide) ?_
    refine lv_aload_n (pc := 62) F.1 F.2.1 dX5_lay_62 rfl (lv_at hl 1 rfl) ?_
    refine mm_get (pc := 63) F hN ((mm_U3z htp htl hta).trans hT) (ci := 5) rfl 3 (by decide) mw_470 rfl dX5_lay_63 ?_
    refine mm_ishl (pc := 66) F (z := nI (2 ^ pc)) (mm_shl1 hpc) dX5_lay_66 ?_
    refine mm_ior (pc := 67) F (z := nI ((fa x) ||| (2 ^ pc))) (mm_orN _ _) dX5_lay_67 ?_
    refine mm_iast (pc := 68) F hN (mm_U3a) (j := x) (rfl) (hx) (by decide) dX5_lay_68 (fun H locs hN => ?_)
    have hN := mm_NS hN (mm_U3wa)
    have hN : mm_N b D s (mm_U3 σ o pg lo pa (mm_up fp x ((fp x) + 1)) (mm_up (mm_up fq x 0) x (((mm_up fq x 0) x) + ln)) (mm_up fa x ((fa x) ||| (2 ^ pc)))) _ _ := hN
    exact mm_vret (pc := 69) F hr hN (⟨rfl, by rw [if_pos hb, if_pos hb, mm_up_up, mm_up_at, Nat.zero_add]⟩) (Nat.le_of_ble_eq_true rfl) (Nat.le_of_ble_eq_true rfl) dX5_lay_69
  ·
    refine lv_aload_n (pc := 14) F.1 F.2.1 dX5_lay_14 rfl (lv_at hl 1 rfl) ?_
    refine mm_get (pc := 15) F hN ((mm_U3z htp htl hta).trans hT) (ci := 5) rfl 2 (by decide) mw_469 rfl dX5_lay_15 ?_
    refine lv_iload_n (pc := 18) F.1 F.2.1 dX5_lay_18 rfl (lv_at hl 0 rfl) ?_
    refine mm_iald (pc := 19) F hN (mm_U3l h3) (j := x) (rfl) (hx) (by decide) dX5_lay_19 ?_
    refine lv_iload_n (pc := 20) F.1 F.2.1 dX5_lay_20 rfl (lv_at hl 3 rfl) ?_
    refine mm_iadd (pc := 21) F (z := nI ((fq x) + ln)) (nI_add _ _) dX5_lay_21 ?_
    refine lv_bipush (pc := 22) (v := nI 40) F.1 F.2.1 dX5_lay_22 (by decide) ?_
    refine mm_icmp_le (pc := 24) F (x := (fq x) + ln) (y := 40) (tgt := 44) (by omega) (by omega) dX5_lay_24 (by decide) (fun cz24 => ?_) (fun cz24 => ?_)
    ·
      have hb : ¬ (fp x = 0 ∨ 40 < fq x + ln) := by omega
      refine lv_aload_n (pc := 44) F.1 F.2.1 dX5_lay_44 rfl (lv_at hl 1 rfl) ?_
      refine mm_get (pc := 45) F hN ((mm_U3z htp htl hta).trans hT) (ci := 5) rfl 2 (by decide) mw_469 rfl dX5_lay_45 ?_
      refine lv_iload_n (pc := 48) F.1 F.2.1 dX5_lay_48 rfl (lv_at hl 0 rfl) ?_
      refine lv_dup2_11 (pc := 49) F.1 F.2.1 dX5_lay_49 rfl rfl ?_
      refine mm_iald (pc := 50) F hN (mm_U3l h3) (j := x) (rfl) (hx) (by decide) dX5_lay_50 ?_
      refine lv_iload_n (pc := 51) F.1 F.2.1 dX5_lay_51 rfl (lv_at hl 3 rfl) ?_
      refine mm_iadd (pc := 52) F (z := nI ((fq x) + ln)) (nI_add _ _) dX5_lay_52 ?_
      refine mm_iast (pc := 53) F hN (mm_U3l h3) (j := x) (rfl) (hx) (by decide) dX5_lay_53 (fun H locs hN => ?_)
      have hN := mm_NS hN (mm_U3wl h3)
      have hN : mm_N b D s (mm_U3 σ o pg lo pa fp (mm_up fq x ((fq x) + ln)) fa) _ _ := hN
      refine lv_aload_n (pc := 54) F.1 F.2.1 dX5_lay_54 rfl (lv_at hl 1 rfl) ?_
      refine mm_get (pc := 55) F hN ((mm_U3z htp htl hta).trans hT) (ci := 5) rfl 0 (by decide) mw_467 rfl dX5_lay_55 ?_
      refine lv_iload_n (pc := 58) F.1 F.2.1 dX5_lay_58 rfl (lv_at hl 0 rfl) ?_
      refine lv_dup2_11 (pc := 59) F.1 F.2.1 dX5_lay_59 rfl rfl ?_
      refine mm_iald (pc := 60) F hN (mm_U3a) (j := x) (rfl) (hx) (by decide) dX5_lay_60 ?_
      refine lv_iconst (pc := 61) (v := nI 1) F.1 F.2.1 dX5_lay_61 (by decide) ?_
      refine lv_aload_n (pc := 62) F.1 F.2.1 dX5_lay_62 rfl (lv_at hl 1 rfl) ?_
      refine mm_get (pc := 63) F hN ((mm_U3z htp htl hta).trans hT) (ci := 5) rfl 3 (by decide) mw_470 rfl dX5_lay_63 ?_
      refine mm_ishl (pc := 66) F (z := nI (2 ^ pc)) (mm_shl1 hpc) dX5_lay_66 ?_
      refine mm_ior (pc := 67) F (z := nI ((fa x) ||| (2 ^ pc))) (mm_orN _ _) dX5_lay_67 ?_
      refine mm_iast (pc := 68) F hN (mm_U3a) (j := x) (rfl) (hx) (by decide) dX5_lay_68 (fun H locs hN => ?_)
      have hN := mm_NS hN (mm_U3wa)
      have hN : mm_N b D s (mm_U3 σ o pg lo pa fp (mm_up fq x ((fq x) + ln)) (mm_up fa x ((fa x) ||| (2 ^ pc)))) _ _ := hN
      exact mm_vret (pc := 69) F hr hN (⟨rfl, by rw [if_neg hb, if_neg hb, mm_up_same]⟩) (Nat.le_of_ble_eq_true rfl) (Nat.le_of_ble_eq_true rfl) dX5_lay_69
    ·
      have hb : fp x = 0 ∨ 40 < fq x + ln := by omega
      refine lv_aload_n (pc := 27) F.1 F.2.1 dX5_lay_27 rfl (lv_at hl 1 rfl) ?_
      refine mm_get (pc := 28) F hN ((mm_U3z htp htl hta).trans hT) (ci := 5) rfl 1 (by decide) mw_468 rfl dX5_lay_28 ?_
      refine lv_iload_n (pc := 31) F.1 F.2.1 dX5_lay_31 rfl (lv_at hl 0 rfl) ?_
      refine lv_dup2_11 (pc := 32) F.1 F.2.1 dX5_lay_32 rfl rfl ?_
      refine mm_iald (pc := 33) F hN (mm_U3p h1 h2) (j := x) (rfl) (hx) (by decide) dX5_lay_33 ?_
      refine lv_iconst (pc := 34) (v := nI 1) F.1 F.2.1 dX5_lay_34 (by decide) ?_
      refine mm_iadd (pc := 35) F (z := nI ((fp x) + 1)) (nI_add _ _) dX5_lay_35 ?_
      refine mm_iast (pc := 36) F hN (mm_U3p h1 h2) (j := x) (rfl) (hx) (by decide) dX5_lay_36 (fun H locs hN => ?_)
      have hN := mm_NS hN (mm_U3wp h1 h2)
      have hN : mm_N b D s (mm_U3 σ o pg lo pa (mm_up fp x ((fp x) + 1)) fq fa) _ _ := hN
      refine lv_aload_n (pc := 37) F.1 F.2.1 dX5_lay_37 rfl (lv_at hl 1 rfl) ?_
      refine mm_get (pc := 38) F hN ((mm_U3z htp htl hta).trans hT) (ci := 5) rfl 2 (by decide) mw_469 rfl dX5_lay_38 ?_
      refine lv_iload_n (pc := 41) F.1 F.2.1 dX5_lay_41 rfl (lv_at hl 0 rfl) ?_
      refine lv_iconst (pc := 42) (v := nI 0) F.1 F.2.1 dX5_lay_42 (by decide) ?_
      refine mm_iast (pc := 43) F hN (mm_U3l h3) (j := x) (rfl) (hx) (by decide) dX5_lay_43 (fun H locs hN => ?_)
      have hN := mm_NS hN (mm_U3wl h3)
      have hN : mm_N b D s (mm_U3 σ o pg lo pa (mm_up fp x ((fp x) + 1)) (mm_up fq x 0) fa) _ _ := hN
      refine lv_aload_n (pc := 44) F.1 F.2.1 dX5_lay_44 rfl (lv_at hl 1 rfl) ?_
      refine mm_get (pc := 45) F hN ((mm_U3z htp htl hta).trans hT) (ci := 5) rfl 2 (by decide) mw_469 rfl dX5_lay_45 ?_
      refine lv_iload_n (pc := 48) F.1 F.2.1 dX5_lay_48 rfl (lv_at hl 0 rfl) ?_
      refine lv_dup2_11 (pc := 49) F.1 F.2.1 dX5_lay_49 rfl rfl ?_
      refine mm_iald (pc := 50) F hN (mm_U3l h3) (j := x) (rfl) (hx) (by decide) dX5_lay_50 ?_
      refine lv_iload_n (pc := 51) F.1 F.2.1 dX5_lay_51 rfl (lv_at hl 3 rfl) ?_
      refine mm_iadd (pc := 52) F (z := nI (((mm_up fq x 0) x) + ln)) (nI_add _ _) dX5_lay_52 ?_
      refine mm_iast (pc := 53) F hN (mm_U3l h3) (j := x) (rfl) (hx) (by decide) dX5_lay_53 (fun H locs hN => ?_)
      have hN := mm_NS hN (mm_U3wl h3)
      have hN : mm_N b D s (mm_U3 σ o pg lo pa (mm_up fp x ((fp x) + 1)) (mm_up (mm_up fq x 0) x (((mm_up fq x 0) x) + ln)) fa) _ _ := hN
      refine lv_aload_n (pc := 54) F.1 F.2.1 dX5_lay_54 rfl (lv_at hl 1 rfl) ?_
      refine mm_get (pc := 55) F hN ((mm_U3z htp htl hta).trans hT) (ci := 5) rfl 0 (by decide) mw_467 rfl dX5_lay_55 ?_
      refine lv_iload_n (pc := 58) F.1 F.2.1 dX5_lay_58 rfl (lv_at hl 0 rfl) ?_
      refine lv_dup2_11 (pc := 59) F.1 F.2.1 dX5_lay_59 rfl rfl ?_
      refine mm_iald (pc := 60) F hN (mm_U3a) (j := x) (rfl) (hx) (by decide) dX5_lay_60 ?_
      refine lv_iconst (pc := 61) (v := nI 1) F.1 F.2.1 dX5_lay_61 (by decide) ?_
      refine lv_aload_n (pc := 62) F.1 F.2.1 dX5_lay_62 rfl (lv_at hl 1 rfl) ?_
      refine mm_get (pc := 63) F hN ((mm_U3z htp htl hta).trans hT) (ci := 5) rfl 3 (by decide) mw_470 rfl dX5_lay_63 ?_
      refine mm_ishl (pc := 66) F (z := nI (2 ^ pc)) (mm_shl1 hpc) dX5_lay_66 ?_
      refine mm_ior (pc := 67) F (z := nI ((fa x) ||| (2 ^ pc))) (mm_orN _ _) dX5_lay_67 ?_
      refine mm_iast (pc := 68) F hN (mm_U3a) (j := x) (rfl) (hx) (by decide) dX5_lay_68 (fun H locs hN => ?_)
      have hN := mm_NS hN (mm_U3wa)
      have hN : mm_N b D s (mm_U3 σ o pg lo pa (mm_up fp x ((fp x) + 1)) (mm_up (mm_up fq x 0) x (((mm_up fq x 0) x) + ln)) (mm_up fa x ((fa x) ||| (2 ^ pc)))) _ _ := hN
      exact mm_vret (pc := 69) F hr hN (⟨rfl, by rw [if_pos hb, if_pos hb, mm_up_up, mm_up_at, Nat.zero_add]⟩) (Nat.le_of_ble_eq_true rfl) (Nat.le_of_ble_eq_true rfl) dX5_lay_69

set_option maxHeartbeats 4000000 in
set_option maxRecDepth 100000 in
theorem c_isLet (l : Launch) (b : Nat) (D : mm_D) (hst : l.stackTraces = false) (o a oc co pg pa bk : Nat) (nu pe : Value) (σ : mm_S) (hA : σ a = mm_obj o 1 [nu, pe, .int (nI oc), .int (nI co), .int (nI pg), .int (nI pa), .int (nI bk)]) (hoc : oc < 65536) : mm_K l b D yX1_isLetter (.code yX1_isLetter cX1_isLetter 1 (some .boolean)) ({ frames := 0, cells := 0, slots := 0, locals := 0 } : Room) [.ref a] σ
    (fun v σ2 => v = some (.int (nI (if oc = 108 then 1 else 0))) ∧ σ2 = σ)
    (fun _ _ => False) := by
  refine mm_of (cc := cX1_isLetter) (nL := 1) (ret := (some .boolean)) (by decide) rfl (Nat.le_of_ble_eq_true rfl) hst ?_
  intro p e s m args below meth c ls F ht hr hin hN hl
  have hl : lv_has ls 1 [(0, .ref a)] := hl
  refine lv_aload_n (pc := 0) F.1 F.2.1 dX1_isLetter_0 rfl (lv_at hl 0 rfl) ?_
  refine mm_get (pc := 1) F hN (hA) (ci := 1) rfl 2 (by decide) mw_628 rfl dX1_isLetter_1 ?_
  refine lv_bipush (pc := 4) (v := nI 108) F.1 F.2.1 dX1_isLetter_4 (by decide) ?_
  refine mm_icmp_ne (pc := 6) F (x := oc) (y := 108) (tgt := 13) (by omega) (by omega) dX1_isLetter_6 (by decide) (fun cz6 => ?_) (fun cz6 => ?_)
  ·
    refine lv_iconst (pc := 13) (v := nI 0) F.1 F.2.1 dX1_isLetter_13 (by decide) ?_
    exact mm_zret (pc := 14) F (ty := .boolean) hr hN (by decide) (⟨by rw [if_neg cz6], rfl⟩) (Nat.le_of_ble_eq_true rfl) (Nat.le_of_ble_eq_true rfl) dX1_isLetter_14
  ·
    refine lv_iconst (pc := 9) (v := nI 1) F.1 F.2.1 dX1_isLetter_9 (by decide) ?_
    refine lv_goto (pc := 10) (tgt := 14) F.1 F.2.1 dX1_isLetter_10 (by decide) ?_
    exact mm_zret (pc := 14) F (ty := .boolean) hr hN (by decide) (⟨by rw [if_pos cz6], rfl⟩) (Nat.le_of_ble_eq_true rfl) (Nat.le_of_ble_eq_true rfl) dX1_isLetter_14

set_option maxHeartbeats 4000000 in
set_option maxRecDepth 100000 in
theorem c_tens (l : Launch) (b : Nat) (D : mm_D) (hst : l.stackTraces = false) (o a oc co pg pa bk : Nat) (nu pe : Value) (σ : mm_S) (hA : σ a = mm_obj o 1 [nu, pe, .int (nI oc), .int (nI co), .int (nI pg), .int (nI pa), .int (nI bk)]) (hco : co < 100) : mm_K l b D yX1_tens (.code yX1_tens cX1_tens 1 (some .int)) ({ frames := 0, cells := 0, slots := 0, locals := 0 } : Room) [.ref a] σ
    (fun v σ2 => v = some (.int (nI (co / 10))) ∧ σ2 = σ)
    (fun _ _ => False) := by
  refine mm_of (cc := cX1_tens) (nL := 1) (ret := (some .int)) (by decide) rfl (Nat.le_of_ble_eq_true rfl) hst ?_
  intro p e s m args below meth c ls F ht hr hin hN hl
  have hl : lv_has ls 1 [(0, .ref a)] := hl
  refine lv_aload_n (pc := 0) F.1 F.2.1 dX1_tens_0 rfl (lv_at hl 0 rfl) ?_
  refine mm_get (pc := 1) F hN (hA) (ci := 1) rfl 3 (by decide) mw_630 rfl dX1_tens_1 ?_
  refine lv_bipush (pc := 4) (v := nI 10) F.1 F.2.1 dX1_tens_4 (by decide) ?_
  refine mm_idiv (pc := 6) F (z := nI (co / 10)) (pk_div (by omega) (by omega) (by omega)) (by decide) dX1_tens_6 ?_
  exact mm_iret (pc := 7) F hr hN (⟨rfl, rfl⟩) (Nat.le_of_ble_eq_true rfl) (Nat.le_of_ble_eq_true rfl) dX1_tens_7

set_option maxHeartbeats 4000000 in
set_option maxRecDepth 100000 in
theorem c_cents (l : Launch) (b : Nat) (D : mm_D) (hst : l.stackTraces = false) (o a oc co pg pa bk : Nat) (nu pe : Value) (σ : mm_S) (hA : σ a = mm_obj o 1 [nu, pe, .int (nI oc), .int (nI co), .int (nI pg), .int (nI pa), .int (nI bk)]) (hpg : pg < 100) : mm_K l b D yX1_fullCents (.code yX1_fullCents cX1_fullCents 2 (some .int)) ({ frames := 1, cells := 0, slots := 0, locals := 24 } : Room) [.ref a] σ
    (fun v σ2 => v = some (.int (nI (mm_cent pg))) ∧ σ2 = σ)
    (fun _ _ => False) := by
  refine mm_of (cc := cX1_fullCents) (nL := 2) (ret := (some .int)) (by decide) rfl (Nat.le_of_ble_eq_true rfl) hst ?_
  intro p e s m args below meth c ls F ht hr hin hN hl
  have hl : lv_has ls 2 [(0, .ref a)] := hl
  refine lv_iconst (pc := 0) (v := nI 5) F.1 F.2.1 dX1_fullCents_0 (by decide) ?_
  refine lv_aload_n (pc := 1) F.1 F.2.1 dX1_fullCents_1 rfl (lv_at hl 0 rfl) ?_
  refine mm_get (pc := 2) F hN (hA) (ci := 1) rfl 4 (by decide) mw_632 rfl dX1_fullCents_2 ?_
  refine mm_imul (pc := 5) F (z := nI (5 * pg)) (pk_mul _ _) dX1_fullCents_5 ?_
  refine lv_aload_n (pc := 6) F.1 F.2.1 dX1_fullCents_6 rfl (lv_at hl 0 rfl) ?_
  refine mm_get (pc := 7) F hN (hA) (ci := 1) rfl 4 (by decide) mw_632 rfl dX1_fullCents_7 ?_
  refine mm_runSN (pc := 10) (As := [.int (nI pg)]) (rest := [.int (nI (5 * pg))]) F hN (c_large l b D hst pg (by omega) σ) mw_1045 mw_586 mw_1 mw_587 ⟨pmX6_needsLargeEnvelope, (Nat.le_of_ble_eq_true rfl), (Nat.le_of_ble_eq_true rfl)⟩ hl.1 rfl (Nat.le_of_ble_eq_true rfl) ⟨(Nat.le_of_ble_eq_true rfl), (Nat.le_of_ble_eq_true rfl)⟩ dX1_fullCents_10
    (fun _ _ _ _ _ _ h9 => False.elim h9)
    (fun v9 σ1 H locs hp9 hN => ?_)
  obtain ⟨rfl, h9⟩ := hp9
  rw [h9] at hN
  refine W.eq (g2 := F0 m 13 ls [.int (nI (if 3 < pg then 1 else 0)), .int (nI (5 * pg))]) rfl ?_
  refine W.widen (k := 0) (n := 0) (Nat.le_of_ble_eq_true rfl) (Nat.le_of_ble_eq_true rfl) ?_
  by_cases hb13 : 3 < pg
  ·
    refine W.eq (g2 := F0 m 13 ls [.int (nI 1), .int (nI (5 * pg))]) (by rw [if_pos hb13]) ?_
    refine mm_if_eq (pc := 13) F (tgt := 21) (by omega) dX1_fullCents_13 (by decide) (fun h9 => absurd h9 (by decide)) (fun cz13 => ?_)
    refine lv_bipush (pc := 16) (v := nI 25) F.1 F.2.1 dX1_fullCents_16 (by decide) ?_
    refine lv_goto (pc := 18) (tgt := 23) F.1 F.2.1 dX1_fullCents_18 (by decide) ?_
    refine mm_iadd (pc := 23) F (z := nI ((5 * pg) + 25)) (nI_add _ _) dX1_fullCents_23 ?_
    refine lv_istore_n (pc := 24) (lv' := [(1, .int (nI ((5 * pg) + 25))), (0, .ref a)]) F.1 F.2.1 dX1_fullCents_24 rfl hl (by decide) rfl (fun ls hl => ?_)
    refine lv_iload_n (pc := 25) F.1 F.2.1 dX1_fullCents_25 rfl (lv_at hl 0 rfl) ?_
    refine lv_bipush (pc := 26) (v := nI 20) F.1 F.2.1 dX1_fullCents_26 (by decide) ?_
    refine mm_icmp_gt (pc := 28) F (x := (5 * pg) + 25) (y := 20) (tgt := 34) (by omega) (by omega) dX1_fullCents_28 (by decide) (fun cz28 => ?_) (fun cz28 => ?_)
    ·
      have cz28x : ¬ 5 * pg + 25 ≤ 20 := by omega
      refine lv_iload_n (pc := 34) F.1 F.2.1 dX1_fullCents_34 rfl (lv_at hl 0 rfl) ?_
      refine lv_bipush (pc := 35) (v := nI 40) F.1 F.2.1 dX1_fullCents_35 (by decide) ?_
      refine mm_icmp_gt (pc := 37) F (x := (5 * pg) + 25) (y := 40) (tgt := 45) (by omega) (by omega) dX1_fullCents_37 (by decide) (fun cz37 => ?_) (fun cz37 => ?_)
      ·
        have cz37x : ¬ 5 * pg + 25 ≤ 40 := by omega
        refine lv_sipush (pc := 45) (v := nI 160) F.1 F.2.1 dX1_fullCents_45 (by decide) ?_
        exact mm_iret (pc := 48) F hr hN (⟨by rw [mm_cent, if_pos hb13, if_neg cz28x, if_neg cz37x], rfl⟩) (Nat.le_of_ble_eq_true rfl) (Nat.le_of_ble_eq_true rfl) dX1_fullCents_48
      ·
        have cz37x : 5 * pg + 25 ≤ 40 := by omega
        refine lv_bipush (pc := 40) (v := nI 95) F.1 F.2.1 dX1_fullCents_40 (by decide) ?_
        refine lv_goto (pc := 42) (tgt := 48) F.1 F.2.1 dX1_fullCents_42 (by decide) ?_
        exact mm_iret (pc := 48) F hr hN (⟨by rw [mm_cent, if_pos hb13, if_neg cz28x, if_pos cz37x], rfl⟩) (Nat.le_of_ble_eq_true rfl) (Nat.le_of_ble_eq_true rfl) dX1_fullCents_48
    ·
      have cz28x : 5 * pg + 25 ≤ 20 := by omega
      refine lv_bipush (pc := 31) (v := nI 80) F.1 F.2.1 dX1_fullCents_31 (by decide) ?_
      exact mm_iret (pc := 33) F hr hN (⟨by rw [mm_cent, if_pos hb13, if_pos cz28x], rfl⟩) (Nat.le_of_ble_eq_true rfl) (Nat.le_of_ble_eq_true rfl) dX1_fullCents_33
  ·
    refine W.eq (g2 := F0 m 13 ls [.int (nI 0), .int (nI (5 * pg))]) (by rw [if_neg hb13]) ?_
    refine mm_if_eq (pc := 13) F (tgt := 21) (by omega) dX1_fullCents_13 (by decide) (fun cz13 => ?_) (fun h9 => absurd h9 (by decide))
    refine lv_bipush (pc := 21) (v := nI 10) F.1 F.2.1 dX1_fullCents_21 (by decide) ?_
    refine mm_iadd (pc := 23) F (z := nI ((5 * pg) + 10)) (nI_add _ _) dX1_fullCents_23 ?_
    refine lv_istore_n (pc := 24) (lv' := [(1, .int (nI ((5 * pg) + 10))), (0, .ref a)]) F.1 F.2.1 dX1_fullCents_24 rfl hl (by decide) rfl (fun ls hl => ?_)
    refine lv_iload_n (pc := 25) F.1 F.2.1 dX1_fullCents_25 rfl (lv_at hl 0 rfl) ?_
    refine lv_bipush (pc := 26) (v := nI 20) F.1 F.2.1 dX1_fullCents_26 (by decide) ?_
    refine mm_icmp_gt (pc := 28) F (x := (5 * pg) + 10) (y := 20) (tgt := 34) (by omega) (by omega) dX1_fullCents_28 (by decide) (fun cz28 => ?_) (fun cz28 => ?_)
    ·
      have cz28x : ¬ 5 * pg + 10 ≤ 20 := by omega
      refine lv_iload_n (pc := 34) F.1 F.2.1 dX1_fullCents_34 rfl (lv_at hl 0 rfl) ?_
      refine lv_bipush (pc := 35) (v := nI 40) F.1 F.2.1 dX1_fullCents_35 (by decide) ?_
      refine mm_icmp_gt (pc := 37) F (x := (5 * pg) + 10) (y := 40) (tgt := 45) (by omega) (by omega) dX1_fullCents_37 (by decide) (fun cz37 => ?_) (fun cz37 => ?_)
      ·
        have cz37x : ¬ 5 * pg + 10 ≤ 40 := by omega
        refine lv_sipush (pc := 45) (v := nI 160) F.1 F.2.1 dX1_fullCents_45 (by decide) ?_
        exact mm_iret (pc := 48) F hr hN (⟨by rw [mm_cent, if_neg hb13, if_neg cz28x, if_neg cz37x], rfl⟩) (Nat.le_of_ble_eq_true rfl) (Nat.le_of_ble_eq_true rfl) dX1_fullCents_48
      ·
        have cz37x : 5 * pg + 10 ≤ 40 := by omega
        refine lv_bipush (pc := 40) (v := nI 95) F.1 F.2.1 dX1_fullCents_40 (by decide) ?_
        refine lv_goto (pc := 42) (tgt := 48) F.1 F.2.1 dX1_fullCents_42 (by decide) ?_
        exact mm_iret (pc := 48) F hr hN (⟨by rw [mm_cent, if_neg hb13, if_neg cz28x, if_pos cz37x], rfl⟩) (Nat.le_of_ble_eq_true rfl) (Nat.le_of_ble_eq_true rfl) dX1_fullCents_48
    ·
      have cz28x : 5 * pg + 10 ≤ 20 := by omega
      refine lv_bipush (pc := 31) (v := nI 80) F.1 F.2.1 dX1_fullCents_31 (by decide) ?_
      exact mm_iret (pc := 33) F hr hN (⟨by rw [mm_cent, if_neg hb13, if_pos cz28x], rfl⟩) (Nat.le_of_ble_eq_true rfl) (Nat.le_of_ble_eq_true rfl) dX1_fullCents_33

