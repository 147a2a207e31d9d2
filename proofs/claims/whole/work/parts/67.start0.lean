/-! the world at the law's entry -/
theorem mm_ty1 {args : Array Value} {s : State} {t : FieldType} (hp : ∀ C, t ≠ .object C) (h : (Cond.arrayClass t).before args s = true) : ∃ c : ClassId, ArrOfT s c t ∧ va_RA s c t := by
  obtain ⟨c, k, comp, h1, h2, h3⟩ := Cond.arrayClass_spec h
  refine ⟨c, fun N z => ⟨(fun k h => by cases h), k, h2, comp, h3⟩, ?_⟩
  revert h1 hp
  cases t <;> intro hp h1 <;> first | exact h1 | exact absurd rfl (hp _)
theorem mm_ty2 {args : Array Value} {s : State} {t : FieldType} (h : (Cond.arrayOver (.array t)).before args s = true) : ∃ c : ClassId, ArrOfT s c (.array t) ∧ va_RA s c (.array t) := by
  obtain ⟨comp, c, k, h1, h2, h3, h4, h5⟩ := Jvm.Stand.arrayOver_specB h
  exact ⟨c, fun N z => ⟨(fun k h => by cases h), k, h3, comp, h4⟩, h5⟩
theorem mm_ty3 {args : Array Value} {s : State} {C : String} (h : (Cond.arrayOver (.object C)).before args s = true) : ∃ c : ClassId, ArrOfT s c (.object C) ∧ va_RA s c (.object C) := by
  obtain ⟨comp, c, k, h1, h2, h3, h4, h5⟩ := Cond.arrayOver_spec h
  exact ⟨c, fun N z => ⟨(fun k h => by cases h), k, h3, comp, h4⟩, k, comp, h3, h4, h1, h5⟩
theorem mm_strR {args : Array Value} {s : State} {own tx : String} {k : Nat} (h : (Cond.stringRef own k tx).before args s = true) : ∃ a, vk_R own k tx a s := by
  have hcur : ∃ cur, s.vm.findClass own = some cur := by
    have h1 := h
    simp only [Cond.before, Cond.holds, Cond.value] at h1
    cases hc : s.vm.findClass own with
    | none => simp [hc] at h1
    | some cur => exact ⟨cur, rfl⟩
  obtain ⟨cur, hcur⟩ := hcur
  obtain ⟨k9, cf, i, a, -, -, -, -, -, hev⟩ := Cond.stringRef_spec hcur h
  exact ⟨a, vk_R.of h hev⟩
theorem mm_ncF : ∀ q ∈ mm_nc, Cond.not (.castable q.1 q.2) ∈ flatC (Jvm.Cond.and given_1 narrow_1) := by decide +kernel

set_option maxRecDepth 100000 in
set_option maxHeartbeats 4000000 in
theorem mm_E0 {args : Array Value} {s : State} (hts : ∀ w ∈ lw_tbl, w.before args s = true) (hgv : (Jvm.Cond.and given_1 narrow_1).before args s = true) : ∃ D : mm_D, mm_E s.heap.size D s ∧ mm_J s := by
  have hs := flat_of_before _ hgv
  have hA : ∀ a : Nat, a < s.heap.size → ¬ mm_Wd s.heap.size a := fun a ha => Nat.not_le.mpr ha
  obtain ⟨c0, i0, k0⟩ := u_known (C := RX0) (T := TX0) (N := 6) (n := 6) hts (by decide +kernel) (hts _ (mm_t2 (List.mem_of_getElem? (i := 88) (by decide +kernel))))
  obtain ⟨c1, i1, k1⟩ := u_known (C := RX1) (T := TX1) (N := 7) (n := 7) hts (by decide +kernel) (hts _ (mm_t3 (List.mem_of_getElem? (i := 195) (by decide +kernel))))
  obtain ⟨c2, i2, k2⟩ := u_known (C := RX2) (T := TX2) (N := 4) (n := 4) hts (by decide +kernel) (hts _ (mm_t3 (List.mem_of_getElem? (i := 3) (by decide +kernel))))
  obtain ⟨c3, i3, k3⟩ := u_known (C := RX3) (T := TX3) (N := 4) (n := 4) hts (by decide +kernel) (hts _ (mm_t3 (List.mem_of_getElem? (i := 172) (by decide +kernel))))
  obtain ⟨c4, i4, k4⟩ := u_known (C := RX4) (T := TX4) (N := 3) (n := 3) hts (by decide +kernel) (hts _ (mm_t1 (List.mem_of_getElem? (i := 69) (by decide +kernel))))
  obtain ⟨c5, i5, k5⟩ := u_known (C := RX5) (T := TX5) (N := 5) (n := 5) hts (by decide +kernel) (hts _ (mm_t3 (List.mem_of_getElem? (i := 92) (by decide +kernel))))
  obtain ⟨c6, i6, k6⟩ := u_known (C := RX6) (T := TX6) (N := 8) (n := 8) hts (by decide +kernel) (hts _ (mm_t1 (List.mem_of_getElem? (i := 35) (by decide +kernel))))
  obtain ⟨c7, i7, k7⟩ := u_known (C := RX7) (T := TX7) (N := 26) (n := 26) hts (by decide +kernel) (hts _ (mm_t5 (List.mem_of_getElem? (i := 208) (by decide +kernel))))
  obtain ⟨c8, i8, k8⟩ := u_known (C := RJx4a65c) (T := TJx4a65c) (N := 3) (n := 3) hts (by decide +kernel) (hts _ (mm_t1 (List.mem_of_getElem? (i := 43) (by decide +kernel))))
  obtain ⟨t0, p0⟩ := mm_ty1 (t := .int) (fun C h => by cases h) (hts _ (mm_t3 (List.mem_of_getElem? (i := 114) (by decide +kernel))))
  obtain ⟨t1, p1⟩ := mm_ty1 (t := .long) (fun C h => by cases h) (hts _ (mm_t7 (List.mem_of_getElem? (i := 9) (by decide +kernel))))
  obtain ⟨t2, p2⟩ := mm_ty1 (t := .double) (fun C h => by cases h) (hts _ (mm_t7 (List.mem_of_getElem? (i := 10) (by decide +kernel))))
  obtain ⟨t3, p3⟩ := mm_ty1 (t := .char) (fun C h => by cases h) (hts _ (mm_t6 (List.mem_of_getElem? (i := 59) (by decide +kernel))))
  obtain ⟨t4, p4⟩ := mm_ty1 (t := .boolean) (fun C h => by cases h) (hts _ (mm_t6 (List.mem_of_getElem? (i := 58) (by decide +kernel))))
  have j5 : (Cond.arrayOver (.array .int)).before args s = true := hts _ (mm_t5 (List.mem_of_getElem? (i := 214) (by decide +kernel)))
  obtain ⟨t5, p5⟩ := mm_ty2 (t := .int) j5
  have j6 : (Cond.arrayOver (.array .char)).before args s = true := hts _ (mm_t5 (List.mem_of_getElem? (i := 216) (by decide +kernel)))
  obtain ⟨t6, p6⟩ := mm_ty2 (t := .char) j6
  have j7 : (Cond.arrayOver (.array .boolean)).before args s = true := hts _ (mm_t5 (List.mem_of_getElem? (i := 218) (by decide +kernel)))
  obtain ⟨t7, p7⟩ := mm_ty2 (t := .boolean) j7
  obtain ⟨t8, p8⟩ := mm_ty3 (C := "java/lang/Object") (hts _ (mm_t2 (List.mem_of_getElem? (i := 171) (by decide +kernel))))
  obtain ⟨mi, hmi⟩ := va_Mi.of (C := "[Ljava/lang/Object;") (hs _ (by decide +kernel))
  obtain ⟨ea, he1, he2⟩ := va_Tof (tm := .static "java/util/ArrayList" "DEFAULTCAPACITY_EMPTY_ELEMENTDATA" "[Ljava/lang/Object;") (ty := .object "java/lang/Object") (N := 0) (f := fun _ => .null) (by decide) (hs _ (by decide +kernel)) (va_eqt (z := 0) (hs _ (by decide +kernel))) (fun j hj => absurd hj (Nat.not_lt_zero j)) hA
  refine ⟨((fun k => [c0, c1, c2, c3, c4, c5, c6, c7, c8].getD k c0, fun k => [i0, i1, i2, i3, i4, i5, i6, i7, i8].getD k i0), fun k => if k = 100 then mi else [t0, t1, t2, t3, t4, t5, t6, t7, t8].getD k t0, ea), ⟨⟨fun c q hq => ?_, fun k q hk => ?_⟩, fun w hw => ?_, fun q hq => ?_, List.forall_mem_cons.mpr ⟨mm_strR (hts _ (mm_t2 (List.mem_of_getElem? (i := 45) (by decide +kernel)))), List.forall_mem_cons.mpr ⟨mm_strR (hts _ (mm_t2 (List.mem_of_getElem? (i := 81) (by decide +kernel)))), List.forall_mem_cons.mpr ⟨mm_strR (hts _ (mm_t2 (List.mem_of_getElem? (i := 225) (by decide +kernel)))), List.forall_mem_cons.mpr ⟨mm_strR (hts _ (mm_t2 (List.mem_of_getElem? (i := 229) (by decide +kernel)))), List.forall_mem_cons.mpr ⟨mm_strR (hts _ (mm_t2 (List.mem_of_getElem? (i := 230) (by decide +kernel)))), List.forall_mem_cons.mpr ⟨mm_strR (hts _ (mm_t3 (List.mem_of_getElem? (i := 1) (by decide +kernel)))), List.forall_mem_cons.mpr ⟨mm_strR (hts _ (mm_t3 (List.mem_of_getElem? (i := 2) (by decide +kernel)))), List.forall_mem_cons.mpr ⟨mm_strR (hts _ (mm_t3 (List.mem_of_getElem? (i := 39) (by decide +kernel)))), List.forall_mem_cons.mpr ⟨mm_strR (hts _ (mm_t3 (List.mem_of_getElem? (i := 54) (by decide +kernel)))), List.forall_mem_cons.mpr ⟨mm_strR (hts _ (mm_t3 (List.mem_of_getElem? (i := 62) (by decide +kernel)))), List.forall_mem_cons.mpr ⟨mm_strR (hts _ (mm_t3 (List.mem_of_getElem? (i := 91) (by decide +kernel)))), List.forall_mem_cons.mpr ⟨mm_strR (hts _ (mm_t3 (List.mem_of_getElem? (i := 126) (by decide +kernel)))), List.forall_mem_cons.mpr ⟨mm_strR (hts _ (mm_t3 (List.mem_of_getElem? (i := 127) (by decide +kernel)))), List.forall_mem_cons.mpr ⟨mm_strR (hts _ (mm_t3 (List.mem_of_getElem? (i := 128) (by decide +kernel)))), List.forall_mem_cons.mpr ⟨mm_strR (hts _ (mm_t3 (List.mem_of_getElem? (i := 154) (by decide +kernel)))), List.forall_mem_cons.mpr ⟨mm_strR (hts _ (mm_t3 (List.mem_of_getElem? (i := 155) (by decide +kernel)))), List.forall_mem_cons.mpr ⟨mm_strR (hts _ (mm_t3 (List.mem_of_getElem? (i := 171) (by decide +kernel)))), List.forall_mem_cons.mpr ⟨mm_strR (hts _ (mm_t5 (List.mem_of_getElem? (i := 57) (by decide +kernel)))), List.forall_mem_cons.mpr ⟨mm_strR (hts _ (mm_t5 (List.mem_of_getElem? (i := 58) (by decide +kernel)))), List.forall_mem_cons.mpr ⟨mm_strR (hts _ (mm_t5 (List.mem_of_getElem? (i := 66) (by decide +kernel)))), List.forall_mem_cons.mpr ⟨mm_strR (hts _ (mm_t5 (List.mem_of_getElem? (i := 68) (by decide +kernel)))), List.forall_mem_cons.mpr ⟨mm_strR (hts _ (mm_t5 (List.mem_of_getElem? (i := 80) (by decide +kernel)))), List.forall_mem_cons.mpr ⟨mm_strR (hts _ (mm_t5 (List.mem_of_getElem? (i := 108) (by decide +kernel)))), List.forall_mem_cons.mpr ⟨mm_strR (hts _ (mm_t5 (List.mem_of_getElem? (i := 122) (by decide +kernel)))), List.forall_mem_cons.mpr ⟨mm_strR (hts _ (mm_t5 (List.mem_of_getElem? (i := 138) (by decide +kernel)))), List.forall_mem_cons.mpr ⟨mm_strR (hts _ (mm_t5 (List.mem_of_getElem? (i := 194) (by decide +kernel)))), fun _ h => absurd h List.not_mem_nil⟩⟩⟩⟩⟩⟩⟩⟩⟩⟩⟩⟩⟩⟩⟩⟩⟩⟩⟩⟩⟩⟩⟩⟩⟩⟩, ⟨?_, ?_⟩, ⟨?_, he2⟩, hmi, va_AO.of (A := args) (hts _ (mm_t2 (List.mem_of_getElem? (i := 171) (by decide +kernel)))), va_Dc.of (A := args) (hts _ (mm_t7 (List.mem_of_getElem? (i := 41) (by decide +kernel))))⟩, j5, j6, j7⟩
  · match c, hq with
    | 0, hq => cases hq; exact k0
    | 1, hq => cases hq; exact k1
    | 2, hq => cases hq; exact k2
    | 3, hq => cases hq; exact k3
    | 4, hq => cases hq; exact k4
    | 5, hq => cases hq; exact k5
    | 6, hq => cases hq; exact k6
    | 7, hq => cases hq; exact k7
    | 8, hq => cases hq; exact k8
    | c + 9, hq => cases hq
  · match k, hk with
    | 0, hk => cases hk; exact p0
    | 1, hk => cases hk; exact p1
    | 2, hk => cases hk; exact p2
    | 3, hk => cases hk; exact p3
    | 4, hk => cases hk; exact p4
    | 5, hk => cases hk; exact p5
    | 6, hk => cases hk; exact p6
    | 7, hk => cases hk; exact p7
    | 8, hk => cases hk; exact p8
    | k + 9, hk => cases hk
  · have hb : mm_nb w = true := (List.mem_filter.mp hw).2
    have ho : w.onTables = true := by cases w <;> first | rfl | (simp [mm_nb] at hb)
    exact va_Nw.of ho (hts w (List.mem_filter.mp hw).1)
  · exact va_Nc.of (hs _ (mm_ncF q hq))
  · exact vx_Zqof (hts _ (mm_t2 (List.mem_of_getElem? (i := 28) (by decide +kernel)))) (hts _ (mm_t1 (List.mem_of_getElem? (i := 7) (by decide +kernel)))) (hs _ (by decide +kernel)) hA
  · exact vx_Zqof (hts _ (mm_t2 (List.mem_of_getElem? (i := 30) (by decide +kernel)))) (hts _ (mm_t1 (List.mem_of_getElem? (i := 7) (by decide +kernel)))) (hs _ (by decide +kernel)) hA
  · exact va_Zof (hts _ (mm_t1 (List.mem_of_getElem? (i := 55) (by decide +kernel)))) (hts _ (mm_t1 (List.mem_of_getElem? (i := 4) (by decide +kernel)))) he1 hA
