/-! the world at the law's entry -/
theorem mm_ty1 {args : Array Value} {s : State} {t : FieldType} (hp : ∀ C, t ≠ .object C) (h : (Cond.arrayClass t).before args s = true) : ∃ c : ClassId, ArrOfT s c t ∧ va_RA s c t := by
  obtain ⟨c, k, comp, h1, h2, h3⟩ := Cond.arrayClass_spec h
  refine ⟨c, fun N z => ⟨(fun k h => by cases h), k, h2, comp, h3⟩, ?_⟩
  revert h1 hp
  cases t <;> intro hp h1 <;> first | exact h1 | exact absurd rfl (hp _)
theorem mm_ty3 {args : Array Value} {s : State} {C : String} (h : (Cond.arrayOver (.object C)).before args s = true) : ∃ c : ClassId, ArrOfT s c (.object C) ∧ va_RA s c (.object C) := by
  obtain ⟨comp, c, k, h1, h2, h3, h4, h5⟩ := Cond.arrayOver_spec h
  exact ⟨c, fun N z => ⟨(fun k h => by cases h), k, h3, comp, h4⟩, k, comp, h3, h4, h1, h5⟩
theorem mm_strR {args : Array Value} {s : State} {own tx : String} {k : Nat} (h : (Cond.stringRef own k tx).before args s = true) : ∃ a, vk_R own k tx a s := by
  have hcur : ∃ cur, s.vm.findClass own = some cur := by
    have h1 := h
    simp only [Cond.before, Cond.holds, Cond.value] at h1
    cases hc : s.vm.findClass own with
    | none => simp [hc] at h1
    | some cur => exact ⟨cur, rfl⟩
  obtain ⟨cur, hcur⟩ := hcur
  obtain ⟨k9, cf, i, a, -, -, -, -, -, hev⟩ := Cond.stringRef_spec hcur h
  exact ⟨a, vk_R.of h hev⟩
theorem mm_ncF : ∀ q ∈ mm_nc, Cond.not (.castable q.1 q.2) ∈ flatC (Jvm.Cond.and given_1 narrow_1) := by decide +kernel
theorem lq_tx0 {args : Array Value} {s : State} {A : Nat → Prop} (hs : ∀ w ∈ flatC (Jvm.Cond.and given_1 narrow_1), w.before args s = true) (hA : ∀ a : Nat, a < s.heap.size → ¬ A a) : ∃ q v : Nat, (va_O "java/lang/String" q A s s.heap ∧ va_OF "java/lang/String" "coder" "B" (.int 0) q A s s.heap ∧ va_OF "java/lang/String" "value" "[B" (.ref v) q A s s.heap ∧ ∃ f : Nat → Int32, va_T .byte v 4 (fun j => .int (f j)) A s s.heap) ∧ (Term.string "MailmergeLaw" 211).eval args s none [] s = some (.ref q) := by
  obtain ⟨adK, adV, h1, h2⟩ := vk_Sof (N := 1) (tm := fun _ => .string "MailmergeLaw" 211) (len := [4]) (byt := [[109, 100, 111, 45]]) (args := args) (s := s) (A := A)
    (fun i hi => by have e : i = 0 := by omega
                    subst e; decide)
    (fun i hi => hs _ (by decide +kernel)) (fun i hi => hs _ (by decide +kernel)) (fun i hi => hs _ (by decide +kernel))
    (fun i hi => by have e : i = 0 := by omega
                    subst e; exact hs _ (by decide +kernel))
    (fun i hi j hj => by have e : i = 0 := by omega
                         subst e
                         have hj : j < 4 := hj
                         rcases (show j = 0 ∨ j = 1 ∨ j = 2 ∨ j = 3 by omega) with rfl | rfl | rfl | rfl
                         · exact hs _ (by decide +kernel)
                         · exact hs _ (by decide +kernel)
                         · exact hs _ (by decide +kernel)
                         · exact hs _ (by decide +kernel))
    (fun i j hi hj hn => absurd (show i = j by omega) hn) hA
  obtain ⟨g1, g2, g3, g4⟩ := h1.1 0 (by decide)
  exact ⟨adK 0, adV 0, ⟨g1, g2, g3, _, g4⟩, h2 0 (by decide)⟩
theorem lq_tx1 {args : Array Value} {s : State} {A : Nat → Prop} (hs : ∀ w ∈ flatC (Jvm.Cond.and given_1 narrow_1), w.before args s = true) (hA : ∀ a : Nat, a < s.heap.size → ¬ A a) : ∃ q v : Nat, (va_O "java/lang/String" q A s s.heap ∧ va_OF "java/lang/String" "coder" "B" (.int 0) q A s s.heap ∧ va_OF "java/lang/String" "value" "[B" (.ref v) q A s s.heap ∧ ∃ f : Nat → Int32, va_T .byte v 4 (fun j => .int (f j)) A s s.heap) ∧ (Term.string "MailmergeLaw" 233).eval args s none [] s = some (.ref q) := by
  obtain ⟨adK, adV, h1, h2⟩ := vk_Sof (N := 1) (tm := fun _ => .string "MailmergeLaw" 233) (len := [4]) (byt := [[112, 115, 112, 108]]) (args := args) (s := s) (A := A)
    (fun i hi => by have e : i = 0 := by omega
                    subst e; decide)
    (fun i hi => hs _ (by decide +kernel)) (fun i hi => hs _ (by decide +kernel)) (fun i hi => hs _ (by decide +kernel))
    (fun i hi => by have e : i = 0 := by omega
                    subst e; exact hs _ (by decide +kernel))
    (fun i hi j hj => by have e : i = 0 := by omega
                         subst e
                         have hj : j < 4 := hj
                         rcases (show j = 0 ∨ j = 1 ∨ j = 2 ∨ j = 3 by omega) with rfl | rfl | rfl | rfl
                         · exact hs _ (by decide +kernel)
                         · exact hs _ (by decide +kernel)
                         · exact hs _ (by decide +kernel)
                         · exact hs _ (by decide +kernel))
    (fun i j hi hj hn => absurd (show i = j by omega) hn) hA
  obtain ⟨g1, g2, g3, g4⟩ := h1.1 0 (by decide)
  exact ⟨adK 0, adV 0, ⟨g1, g2, g3, _, g4⟩, h2 0 (by decide)⟩
theorem lq_tx2 {args : Array Value} {s : State} {A : Nat → Prop} (hs : ∀ w ∈ flatC (Jvm.Cond.and given_1 narrow_1), w.before args s = true) (hA : ∀ a : Nat, a < s.heap.size → ¬ A a) : ∃ q v : Nat, (va_O "java/lang/String" q A s s.heap ∧ va_OF "java/lang/String" "coder" "B" (.int 0) q A s s.heap ∧ va_OF "java/lang/String" "value" "[B" (.ref v) q A s s.heap ∧ ∃ f : Nat → Int32, va_T .byte v 4 (fun j => .int (f j)) A s s.heap) ∧ (Term.string "MailmergeLaw" 238).eval args s none [] s = some (.ref q) := by
  obtain ⟨adK, adV, h1, h2⟩ := vk_Sof (N := 1) (tm := fun _ => .string "MailmergeLaw" 238) (len := [4]) (byt := [[117, 117, 109, 100]]) (args := args) (s := s) (A := A)
    (fun i hi => by have e : i = 0 := by omega
                    subst e; decide)
    (fun i hi => hs _ (by decide +kernel)) (fun i hi => hs _ (by decide +kernel)) (fun i hi => hs _ (by decide +kernel))
    (fun i hi => by have e : i = 0 := by omega
                    subst e; exact hs _ (by decide +kernel))
    (fun i hi j hj => by have e : i = 0 := by omega
                         subst e
                         have hj : j < 4 := hj
                         rcases (show j = 0 ∨ j = 1 ∨ j = 2 ∨ j = 3 by omega) with rfl | rfl | rfl | rfl
                         · exact hs _ (by decide +kernel)
                         · exact hs _ (by decide +kernel)
                         · exact hs _ (by decide +kernel)
                         · exact hs _ (by decide +kernel))
    (fun i j hi hj hn => absurd (show i = j by omega) hn) hA
  obtain ⟨g1, g2, g3, g4⟩ := h1.1 0 (by decide)
  exact ⟨adK 0, adV 0, ⟨g1, g2, g3, _, g4⟩, h2 0 (by decide)⟩
set_option maxRecDepth 100000 in
set_option maxHeartbeats 4000000 in
theorem mm_E0 {args : Array Value} {s : State} (hts : ∀ w ∈ lw_tbl, w.before args s = true) (hgv : (Jvm.Cond.and given_1 narrow_1).before args s = true) {sb L : Nat} {xs : Nat → Int32} (hX : va_X sb L xs s s.heap) (hL : L ≤ 260) : ∃ D : mm_D, mm_E s.heap.size D s ∧ D.2.1 400 = sb := by
  have hs := flat_of_before _ hgv
  have hA : ∀ a : Nat, a < s.heap.size → ¬ mm_Wd s.heap.size a := fun a ha => Nat.not_le.mpr ha
  obtain ⟨c0, i0, k0⟩ := u_known (C := RX0) (T := TX0) (N := 6) (n := 6) hts (by decide +kernel) (hts _ (mm_t1 (List.mem_of_getElem? (i := 217) (by decide +kernel))))
  obtain ⟨c1, i1, k1⟩ := u_known (C := RX1) (T := TX1) (N := 7) (n := 7) hts (by decide +kernel) (hts _ (mm_t3 (List.mem_of_getElem? (i := 133) (by decide +kernel))))
  obtain ⟨c2, i2, k2⟩ := u_known (C := RX2) (T := TX2) (N := 4) (n := 4) hts (by decide +kernel) (hts _ (mm_t2 (List.mem_of_getElem? (i := 156) (by decide +kernel))))
  obtain ⟨c3, i3, k3⟩ := u_known (C := RX3) (T := TX3) (N := 4) (n := 4) hts (by decide +kernel) (hts _ (mm_t3 (List.mem_of_getElem? (i := 110) (by decide +kernel))))
  obtain ⟨c4, i4, k4⟩ := u_known (C := RX4) (T := TX4) (N := 3) (n := 3) hts (by decide +kernel) (hts _ (mm_t1 (List.mem_of_getElem? (i := 69) (by decide +kernel))))
  obtain ⟨c5, i5, k5⟩ := u_known (C := RX5) (T := TX5) (N := 5) (n := 5) hts (by decide +kernel) (hts _ (mm_t2 (List.mem_of_getElem? (i := 222) (by decide +kernel))))
  obtain ⟨c6, i6, k6⟩ := u_known (C := RX6) (T := TX6) (N := 8) (n := 8) hts (by decide +kernel) (hts _ (mm_t1 (List.mem_of_getElem? (i := 35) (by decide +kernel))))
  obtain ⟨c8, i8, k8⟩ := u_known (C := RJx4a65c) (T := TJx4a65c) (N := 3) (n := 3) hts (by decide +kernel) (hts _ (mm_t1 (List.mem_of_getElem? (i := 43) (by decide +kernel))))
  obtain ⟨t0, p0⟩ := mm_ty1 (t := .int) (fun C h => by cases h) (hts _ (mm_t3 (List.mem_of_getElem? (i := 4) (by decide +kernel))))
  obtain ⟨t4, p4⟩ := mm_ty1 (t := .boolean) (fun C h => by cases h) (hts _ (mm_t5 (List.mem_of_getElem? (i := 198) (by decide +kernel))))
  obtain ⟨t8, p8⟩ := mm_ty3 (C := "java/lang/Object") (hts _ (mm_t2 (List.mem_of_getElem? (i := 59) (by decide +kernel))))
  obtain ⟨q0, v0, x0, y0⟩ := lq_tx0 hs hA
  obtain ⟨q1, v1, x1, y1⟩ := lq_tx1 hs hA
  obtain ⟨q2, v2, x2, y2⟩ := lq_tx2 hs hA
  obtain ⟨mi, hmi⟩ := va_Mi.of (C := "[Ljava/lang/Object;") (hs _ (by decide +kernel))
  obtain ⟨ea, he1, he2⟩ := va_Tof (tm := .static "java/util/ArrayList" "DEFAULTCAPACITY_EMPTY_ELEMENTDATA" "[Ljava/lang/Object;") (ty := .object "java/lang/Object") (N := 0) (f := fun _ => .null) (by decide) (hs _ (by decide +kernel)) (va_eqt (z := 0) (hs _ (by decide +kernel))) (fun j hj => absurd hj (Nat.not_lt_zero j)) hA
  have hco : va_Z "java/lang/String" "COMPACT_STRINGS" "Z" (.int 1) (mm_Wd s.heap.size) s s.heap := va_Zof (hts _ (mm_t3 (List.mem_of_getElem? (i := 213) (by decide +kernel)))) (hts _ (mm_t1 (List.mem_of_getElem? (i := 11) (by decide +kernel)))) (va_eqt (z := 1) (hs _ (by decide +kernel))) hA
  obtain ⟨vf, hvf, hvr⟩ := Cond.isRef_spec (t := .static "jdk/internal/util/Preconditions" "SIOOBE_FORMATTER" "Ljava/util/function/BiFunction;") (hs _ (by decide +kernel))
  have hfo : va_Z "jdk/internal/util/Preconditions" "SIOOBE_FORMATTER" "Ljava/util/function/BiFunction;" vf (mm_Wd s.heap.size) s s.heap := va_Zof (hts _ (mm_t4 (List.mem_of_getElem? (i := 44) (by decide +kernel)))) (hts _ (mm_t1 (List.mem_of_getElem? (i := 13) (by decide +kernel)))) hvf hA
  have hvn : vf = .null ∨ ∃ a, vf = .ref a := by
    cases vf with
    | null => exact Or.inl rfl
    | ref a => exact Or.inr ⟨a, rfl⟩
    | _ => exact absurd (show false = true from hvr) Bool.false_ne_true
  have hsb : sb < s.heap.size := (Array.getElem?_eq_some_iff.mp hX.choose_spec.1).1
  refine ⟨((fun k => [c0, c1, c2, c3, c4, c5, c6, c0, c8].getD k c0, fun k => [i0, i1, i2, i3, i4, i5, i6, i0, i8].getD k i0), fun k => if k = 100 then mi else if k = 400 then sb else if k = 401 then L else if 300 ≤ k then [v0, v1, v2].getD (k - 300) 0 else if 200 ≤ k then [q0, q1, q2].getD (k - 200) 0 else [t0, t0, t0, t0, t4, t0, t0, t0, t8].getD k t0, ea), ⟨⟨fun c q hq => ?_, fun k q hk => ?_⟩, fun w hw => ?_, fun q hq => ?_, List.forall_mem_cons.mpr ⟨mm_strR (hts _ (mm_t1 (List.mem_of_getElem? (i := 169) (by decide +kernel)))), List.forall_mem_cons.mpr ⟨mm_strR (hts _ (mm_t1 (List.mem_of_getElem? (i := 209) (by decide +kernel)))), List.forall_mem_cons.mpr ⟨mm_strR (hts _ (mm_t2 (List.mem_of_getElem? (i := 113) (by decide +kernel)))), List.forall_mem_cons.mpr ⟨mm_strR (hts _ (mm_t2 (List.mem_of_getElem? (i := 131) (by decide +kernel)))), List.forall_mem_cons.mpr ⟨mm_strR (hts _ (mm_t2 (List.mem_of_getElem? (i := 132) (by decide +kernel)))), List.forall_mem_cons.mpr ⟨mm_strR (hts _ (mm_t2 (List.mem_of_getElem? (i := 146) (by decide +kernel)))), List.forall_mem_cons.mpr ⟨mm_strR (hts _ (mm_t2 (List.mem_of_getElem? (i := 155) (by decide +kernel)))), List.forall_mem_cons.mpr ⟨mm_strR (hts _ (mm_t2 (List.mem_of_getElem? (i := 142) (by decide +kernel)))), List.forall_mem_cons.mpr ⟨mm_strR (hts _ (mm_t2 (List.mem_of_getElem? (i := 197) (by decide +kernel)))), List.forall_mem_cons.mpr ⟨mm_strR (hts _ (mm_t2 (List.mem_of_getElem? (i := 192) (by decide +kernel)))), List.forall_mem_cons.mpr ⟨mm_strR (hts _ (mm_t2 (List.mem_of_getElem? (i := 220) (by decide +kernel)))), List.forall_mem_cons.mpr ⟨mm_strR (hts _ (mm_t3 (List.mem_of_getElem? (i := 16) (by decide +kernel)))), List.forall_mem_cons.mpr ⟨mm_strR (hts _ (mm_t3 (List.mem_of_getElem? (i := 17) (by decide +kernel)))), List.forall_mem_cons.mpr ⟨mm_strR (hts _ (mm_t3 (List.mem_of_getElem? (i := 18) (by decide +kernel)))), List.forall_mem_cons.mpr ⟨mm_strR (hts _ (mm_t3 (List.mem_of_getElem? (i := 48) (by decide +kernel)))), List.forall_mem_cons.mpr ⟨mm_strR (hts _ (mm_t3 (List.mem_of_getElem? (i := 49) (by decide +kernel)))), List.forall_mem_cons.mpr ⟨mm_strR (hts _ (mm_t3 (List.mem_of_getElem? (i := 74) (by decide +kernel)))), List.forall_mem_cons.mpr ⟨mm_strR (hts _ (mm_t5 (List.mem_of_getElem? (i := 15) (by decide +kernel)))), List.forall_mem_cons.mpr ⟨mm_strR (hts _ (mm_t5 (List.mem_of_getElem? (i := 16) (by decide +kernel)))), List.forall_mem_cons.mpr ⟨mm_strR (hts _ (mm_t5 (List.mem_of_getElem? (i := 17) (by decide +kernel)))), List.forall_mem_cons.mpr ⟨mm_strR (hts _ (mm_t5 (List.mem_of_getElem? (i := 19) (by decide +kernel)))), List.forall_mem_cons.mpr ⟨mm_strR (hts _ (mm_t3 (List.mem_of_getElem? (i := 54) (by decide +kernel)))), List.forall_mem_cons.mpr ⟨mm_strR (hts _ (mm_t5 (List.mem_of_getElem? (i := 52) (by decide +kernel)))), List.forall_mem_cons.mpr ⟨mm_strR (hts _ (mm_t5 (List.mem_of_getElem? (i := 63) (by decide +kernel)))), List.forall_mem_cons.mpr ⟨mm_strR (hts _ (mm_t5 (List.mem_of_getElem? (i := 76) (by decide +kernel)))), List.forall_mem_cons.mpr ⟨mm_strR (hts _ (mm_t5 (List.mem_of_getElem? (i := 130) (by decide +kernel)))), fun _ h => absurd h List.not_mem_nil⟩⟩⟩⟩⟩⟩⟩⟩⟩⟩⟩⟩⟩⟩⟩⟩⟩⟩⟩⟩⟩⟩⟩⟩⟩⟩, ⟨?_, ?_⟩, ⟨?_, he2⟩, hmi, va_AO.of (A := args) (hts _ (mm_t2 (List.mem_of_getElem? (i := 59) (by decide +kernel)))), va_Dc.of (A := args) (hts _ (mm_t6 (List.mem_of_getElem? (i := 15) (by decide +kernel)))), ?_⟩, rfl⟩
  · match c, hq with
    | 0, hq => cases hq; exact k0
    | 1, hq => cases hq; exact k1
    | 2, hq => cases hq; exact k2
    | 3, hq => cases hq; exact k3
    | 4, hq => cases hq; exact k4
    | 5, hq => cases hq; exact k5
    | 6, hq => cases hq; exact k6
    | 7, hq => cases hq; exact k0
    | 8, hq => cases hq; exact k8
    | c + 9, hq => cases hq
  · match k, hk with
    | 0, hk => cases hk; exact p0
    | 1, hk => cases hk; exact p0
    | 2, hk => cases hk; exact p0
    | 3, hk => cases hk; exact p0
    | 4, hk => cases hk; exact p4
    | 5, hk => cases hk; exact p0
    | 6, hk => cases hk; exact p0
    | 7, hk => cases hk; exact p0
    | 8, hk => cases hk; exact p8
    | k + 9, hk => cases hk
  · have hb : mm_nb w = true := (List.mem_filter.mp hw).2
    have ho : w.onTables = true := by cases w <;> first | rfl | (simp [mm_nb] at hb)
    exact va_Nw.of ho (hts w (List.mem_filter.mp hw).1)
  · exact va_Nc.of (hs _ (mm_ncF q hq))
  · exact vx_Zqof (hts _ (mm_t1 (List.mem_of_getElem? (i := 152) (by decide +kernel)))) (hts _ (mm_t1 (List.mem_of_getElem? (i := 6) (by decide +kernel)))) (hs _ (by decide +kernel)) hA
  · exact vx_Zqof (hts _ (mm_t1 (List.mem_of_getElem? (i := 154) (by decide +kernel)))) (hts _ (mm_t1 (List.mem_of_getElem? (i := 6) (by decide +kernel)))) (hs _ (by decide +kernel)) hA
  · exact va_Zof (hts _ (mm_t1 (List.mem_of_getElem? (i := 55) (by decide +kernel)))) (hts _ (mm_t1 (List.mem_of_getElem? (i := 4) (by decide +kernel)))) he1 hA
  · refine ⟨fun i hi => ?_, ⟨vk_R.of (hts _ (mm_t5 (List.mem_of_getElem? (i := 223) (by decide +kernel)))) y0, vk_R.of (hts _ (mm_t5 (List.mem_of_getElem? (i := 224) (by decide +kernel)))) y1, vk_R.of (hts _ (mm_t5 (List.mem_of_getElem? (i := 225) (by decide +kernel)))) y2⟩, hco, ⟨vf, hvn, hfo⟩, xs, hX, hL, hsb⟩
    rcases (show i = 0 ∨ i = 1 ∨ i = 2 by omega) with rfl | rfl | rfl
    · exact x0
    · exact x1
    · exact x2
