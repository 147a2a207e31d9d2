theorem lq_ofWF {l : Launch} {y : MethodName} {ws ws' : List Cond} {rm : Room} {Pc : Array Value → State → Prop} {Qc : Array Value → State → Outcome → State → Prop} {XC : String → State → State → Prop} {mc ms : Nat} {free : Addr → Prop} {cc : ByteArray} {maxL : Nat} {ret : Option FieldType}
    (hy : plainFor y = true) (hw : ws = Cond.code y cc maxL ret :: ws')
    (body : ∀ p e s m args below meth c s₁, BodyLoose p l y (headSpec ws rm) cc maxL ret e s m args below meth c s₁ → c.maxLocals = maxL → (∀ x ∈ c.exceptionTable.toList, False) → Pc args s →
      W p l e (headSpec ws rm).room s m args below meth c s.heap [] 0 0 (vx_MQ below Qc XC args s mc ms free) (entryFrame m args maxL)) : vx_Met l y ws rm Pc Qc XC mc ms free := by
  refine MetFree.of_bodySF (code := cc) (maxLocals := maxL) (ret := ret) hy ?_ ?_
  · intro args s m h hn
    obtain ⟨meth, c, h1, h2, h3, h4, h5, h6, -, -⟩ := Cond.code_spec hn (atoms_spec (ws := ws) h _ (by rw [hw]; exact List.mem_cons_self))
    exact ⟨meth, c, h1, h2, h3, h4, h5, h6⟩
  · intro p e s m args below meth c s₁ B hml hP _
    have hh0 : s₁.heap = s.heap := by rw [B.state]; rfl
    have ht : ∀ x ∈ c.exceptionTable.toList, False := by
      obtain ⟨meth9, c9, h1, h2, -, -, -, -, h7, -⟩ := Cond.code_spec B.named (atoms_spec (ws := ws) B.pre _ (by rw [hw]; exact List.mem_cons_self))
      cases Option.some.inj (h1.symm.trans B.method)
      cases Option.some.inj (h2.symm.trans (Stand.of_body B).code)
      intro x hx
      rw [Array.isEmpty_iff.mp h7] at hx
      cases hx
    obtain ⟨t, a1, o, b1, b2, b3⟩ := body p e s m args below meth c s₁ B hml ht hP s₁ hh0 (Stand.of_body B)
    exact ⟨t, o, a1, b1, b2, b3⟩
section MMF
variable {p : Program} {l : Launch} {e : Env} {R : Room} {s : State} {m : MethodId} {args : Array Value} {below : List Frame} {meth : Method} {c : Code} {H : Heap} {locs : List Loc} {cells slots : Nat} {Q : State → Prop}
variable {cc : ByteArray} {b : Nat} {D : mm_D} {σ : mm_S} {nL : Nat} {PR : Option Value → mm_S → Prop} {PX : String → mm_S → Prop} {rm : Room}
theorem mm_ofF {y : MethodName} {cd : Cond} {ret : Option FieldType} {as : List Value} (hy : plainFor y = true) (hcd : cd = .code y cc nL ret) (hls : (lg_sl as).length ≤ nL) (hst : l.stackTraces = false)
    (body : ∀ p e s m args below meth c ls, mm_F p l s m args meth c b D y.cls cc nL → (∀ x ∈ c.exceptionTable.toList, False) → meth.sig.returnType = ret → meth.name = y.name → mm_N b D s σ s.heap [] → lv_has ls nL (lv_args 0 as) →
      W p l e rm s m args below meth c s.heap [] 0 0 (mm_Q b D PR PX below args s rm) (F0 m 0 ls [])) : mm_K l b D y cd rm as σ PR PX := by
  subst hcd
  refine lq_ofWF (cc := cc) (maxL := nL) (ret := ret) hy rfl ?_
  intro p e s m args below meth c s₁ B hml ht hv
  obtain ⟨rfl, hI, hE⟩ := hv
  have hts := atoms_spec (ws := Cond.code y cc nL ret :: mm_aW) B.pre
  have hl := lv_entry as (n := nL) hls
  rw [lg_entry_eq]
  generalize (lg_sl as ++ List.replicate (nL - (lg_sl as).length) Slot.unset).toArray = ls at hl ⊢
  exact body p e s m as.toArray below meth c ls ⟨B.exec, B.bytes, hml, findClass_of_methodNamed B.named, fun w hw => hts w (List.mem_cons_of_mem _ hw), hE, B.notSynchronized, hst, hI.1⟩ ht B.returns (name_of_methodNamed B.named B.method).1 ⟨hI, va_S.rf⟩ hl
end MMF
theorem lq_strE {b : Nat} {D : mm_D} {U : State} (h : mm_E b D U) : lq_str b D U := h.2.2.2.2.2.2.2.2.2
section MML
variable {p : Program} {l : Launch} {e : Env} {R : Room} {s : State} {m : MethodId} {args : Array Value} {below : List Frame} {meth : Method} {c : Code} {H : Heap} {locs : List Loc} {cells slots : Nat} {Q : State → Prop}
variable {cc : ByteArray} {pc : Nat} {ls : Array Slot} {rest : List Value} {b : Nat} {D : mm_D} {σ : mm_S} {own : String} {nL a o : Nat}
theorem mm_sld (F : mm_F p l s m args meth c b D own cc nL) (hN : mm_N b D s σ H locs) {sb L : Nat} {xs : Nat → Int32} (hX : va_X sb L xs s s.heap) (hbl : sb < s.heap.size) (hbb : sb < b) {j : Nat} {i : Int32} (hi : i = nI j) (hj : j < L) (hL : L ≤ 2560) (hdg : decode cc pc = .ok (.iaload, 1))
    (kk : W p l e R s m args below meth c H locs cells slots Q (F0 m (pc + 1) ls (.int (xs j) :: rest))) : W p l e R s m args below meth c H locs cells slots Q (F0 m pc ls (.int i :: .ref sb :: rest)) := by
  subst hi
  obtain ⟨h1, h2⟩ := mm_nIin hj (by omega)
  refine va_sld F.1 F.2.1 hX hbl (Nat.not_le.mpr hbb) hN.2 h1 hdg ?_
  rw [h2]
  exact kk
theorem mm_slen (F : mm_F p l s m args meth c b D own cc nL) (hN : mm_N b D s σ H locs) {sb L : Nat} {xs : Nat → Int32} (hX : va_X sb L xs s s.heap) (hbl : sb < s.heap.size) (hbb : sb < b) (hdg : decode cc pc = .ok (.arraylength, 1))
    (kk : W p l e R s m args below meth c H locs cells slots Q (F0 m (pc + 1) ls (.int (nI L) :: rest))) : W p l e R s m args below meth c H locs cells slots Q (F0 m pc ls (.ref sb :: rest)) :=
  va_slen F.1 F.2.1 hX hbl (Nat.not_le.mpr hbb) hN.2 hdg kk

theorem mm_irem (F : mm_F p l s m args meth c b D own cc nL) {x y z : Int32} (h : x - x / y * y = z) (hne : ¬ y = 0) (hdg : decode cc pc = .ok (.irem, 1)) (k : W p l e R s m args below meth c H locs cells slots Q (F0 m (pc + 1) ls (.int z :: rest))) : W p l e R s m args below meth c H locs cells slots Q (F0 m pc ls (.int y :: .int x :: rest)) := by
  subst h
  exact lv_irem F.1 F.2.1 hdg hne k
end MML
theorem mm_i2c (n : Nat) : ((nI n).toUInt32 % 65536).toInt32 = nI (n % 65536) := by
  show (⟨UInt32.ofNat n % 65536⟩ : Int32) = ⟨UInt32.ofNat (n % 65536)⟩
  refine congrArg Int32.ofUInt32 (UInt32.toNat_inj.mp ?_)
  rw [UInt32.toNat_mod, UInt32.toNat_ofNat', UInt32.toNat_ofNat']
  show n % 4294967296 % 65536 = n % 65536 % 4294967296
  omega
theorem mm_argN (x : Int32) : ∃ n, n < 2 ^ 32 ∧ x = nI n := ⟨x.toUInt32.toNat, x.toUInt32.toNat_lt, by show x = ⟨UInt32.ofNat x.toUInt32.toNat⟩; rw [UInt32.ofNat_toNat]⟩
theorem lq_ne0 {n : Nat} (h0 : 0 < n) (h : n < 2 ^ 31) : ¬ nI n = 0 := fun e => by
  have h1 := (nI_eq (a := n) (b := 0) h (by decide)).mp e
  omega
theorem lq_mod {a n : Nat} (ha : a < 2 ^ 31) (h0 : 0 < n) (h : n < 2 ^ 31) : nI a - nI a / nI n * nI n = nI (a % n) := by
  refine Int32.toInt_inj.mp ?_
  have h1 : a % n < n := Nat.mod_lt _ h0
  rw [rem_toInt, nI_toInt ha, nI_toInt h, nI_toInt (Nat.lt_trans h1 h)]
  exact (Int.tmod_eq_emod_of_nonneg (Int.natCast_nonneg a)).trans (Int.natCast_emod a n).symm
theorem lq_some {v : Int32} {n : Nat} (h0 : 0 < n) (h : n < 2 ^ 31) : ∃ j, j < n ∧ fmOf (v - v / nI n * nI n) (nI n) = nI j := by
  have hm : (nI n).toInt = (n : Int) := nI_toInt h
  have hb := tmod_bounds (a := v.toInt) (M := (nI n).toInt) (by rw [hm]; omega)
  rw [← rem_toInt] at hb
  obtain ⟨b1, b2⟩ := fmOf_bounds (r := v - v / nI n * nI n) (m := nI n) (by rw [hm]; omega) hb.1 hb.2
  obtain ⟨j, j1, j2⟩ := nI_of (x := fmOf (v - v / nI n * nI n) (nI n)) (fun q => by
    rw [Int32.lt_iff_toInt_lt, show (0 : Int32).toInt = 0 from by decide] at q
    omega)
  refine ⟨j, ?_, j2⟩
  rw [j2, nI_toInt j1, hm] at b2
  omega
set_option maxHeartbeats 4000000 in
set_option maxRecDepth 100000 in
theorem e_at (l : Launch) (b : Nat) (D : mm_D) (hst : l.stackTraces = false) (k : Nat) (zk : k < 2 ^ 31) (σ : mm_S) : mm_K l b D yL_at (.code yL_at cL_at 2 (some .int)) ({ frames := 1, cells := 0, slots := 0, locals := 24 } : Room) [.ref ((D.2.1 400)), .int (nI k)] σ
    (fun v σ2 => (∃ x : Int32, v = some (.int x)) ∧ σ2 = σ)
    (fun _ _ => False) := by
  refine mm_of (cc := cL_at) (nL := 2) (ret := (some .int)) (by decide) rfl (Nat.le_of_ble_eq_true rfl) hst ?_
  intro p e s m args below meth c ls F ht hr hin hN hl
  have hl : lv_has ls 2 [(0, .ref ((D.2.1 400))), (1, .int (nI k))] := hl
  obtain ⟨xs9, hXs, hL9, hb9⟩ := (lq_strE F.2.2.2.2.2.1).2.2.2.2
  obtain ⟨L9, hL0⟩ : ∃ L9 : Nat, L9 = D.2.1 401 := ⟨_, rfl⟩
  rw [← hL0] at hXs hL9
  have hL9 : L9 ≤ 260 := hL9
  refine lv_iload_n (pc := 0) F.1 F.2.1 dL_at_0 rfl (lv_at hl 1 rfl) ?_
  refine lv_aload_n (pc := 1) F.1 F.2.1 dL_at_1 rfl (lv_at hl 0 rfl) ?_
  refine mm_slen (pc := 2) F hN hXs (Array.getElem?_eq_some_iff.mp hXs.choose_spec.1).1 hb9 dL_at_2 ?_
  refine mm_icmp_ge (pc := 3) F (x := k) (y := L9) (tgt := 12) (by omega) (by omega) dL_at_3 (by decide) (fun cz3 => ?_) (fun cz3 => ?_)
  ·
    refine lv_iconst (pc := 12) (v := nI 0) F.1 F.2.1 dL_at_12 (by decide) ?_
    exact mm_iret (pc := 13) F hr hN (⟨⟨_, rfl⟩, rfl⟩) (Nat.le_of_ble_eq_true rfl) (Nat.le_of_ble_eq_true rfl) dL_at_13
  ·
    refine lv_aload_n (pc := 6) F.1 F.2.1 dL_at_6 rfl (lv_at hl 0 rfl) ?_
    refine lv_iload_n (pc := 7) F.1 F.2.1 dL_at_7 rfl (lv_at hl 1 rfl) ?_
    refine mm_sld (pc := 8) F hN hXs (Array.getElem?_eq_some_iff.mp hXs.choose_spec.1).1 hb9 (j := k) rfl (by omega) (by omega) dL_at_8 ?_
    refine lv_goto (pc := 9) (tgt := 13) F.1 F.2.1 dL_at_9 (by decide) ?_
    exact mm_iret (pc := 13) F hr hN (⟨⟨_, rfl⟩, rfl⟩) (Nat.le_of_ble_eq_true rfl) (Nat.le_of_ble_eq_true rfl) dL_at_13

set_option maxHeartbeats 4000000 in
set_option maxRecDepth 100000 in
theorem e_some (l : Launch) (b : Nat) (D : mm_D) (hst : l.stackTraces = false) (x : Int32) (n : Nat) (h0 : 0 < n) (zn : n < 2 ^ 31) (σ : mm_S) : mm_K l b D yL_some (.code yL_some cL_some 3 (some .int)) ({ frames := 1, cells := 0, slots := 0, locals := 24 } : Room) [.int x, .int (nI n)] σ
    (fun v σ2 => (∃ j, j < n ∧ v = some (.int (nI j))) ∧ σ2 = σ)
    (fun _ _ => False) := by
  refine mm_of (cc := cL_some) (nL := 3) (ret := (some .int)) (by decide) rfl (Nat.le_of_ble_eq_true rfl) hst ?_
  intro p e s m args below meth c ls F ht hr hin hN hl
  have hl : lv_has ls 3 [(0, .int x), (1, .int (nI n))] := hl
  obtain ⟨j9, hj9, hj⟩ := lq_some (v := x) h0 zn
  refine lv_iload_n (pc := 0) F.1 F.2.1 dL_some_0 rfl (lv_at hl 0 rfl) ?_
  refine lv_iload_n (pc := 1) F.1 F.2.1 dL_some_1 rfl (lv_at hl 1 rfl) ?_
  refine mm_irem (pc := 2) F (z := x - x / nI n * nI n) rfl (lq_ne0 h0 zn) dL_some_2 ?_
  refine lv_istore_n (pc := 3) (lv' := [(2, .int (x - x / nI n * nI n)), (0, .int x), (1, .int (nI n))]) F.1 F.2.1 dL_some_3 rfl hl (by decide) rfl (fun ls hl => ?_)
  refine lv_iload_n (pc := 4) F.1 F.2.1 dL_some_4 rfl (lv_at hl 0 rfl) ?_
  refine lv_if_ge (pc := 5) (tgt := 14) F.1 F.2.1 dL_some_5 (by decide) (fun cz5 => ?_) (fun cz5 => ?_)
  ·
    replace hj : (if 0 ≤ x - x / nI n * nI n then x - x / nI n * nI n else x - x / nI n * nI n + nI n) = nI j9 := hj
    rw [if_pos cz5] at hj
    refine lv_iload_n (pc := 14) F.1 F.2.1 dL_some_14 rfl (lv_at hl 0 rfl) ?_
    exact mm_iret (pc := 15) F hr hN (⟨⟨j9, hj9, congrArg (fun q => some (Value.int q)) hj⟩, rfl⟩) (Nat.le_of_ble_eq_true rfl) (Nat.le_of_ble_eq_true rfl) dL_some_15
  ·
    replace hj : (if 0 ≤ x - x / nI n * nI n then x - x / nI n * nI n else x - x / nI n * nI n + nI n) = nI j9 := hj
    rw [if_neg cz5] at hj
    refine lv_iload_n (pc := 8) F.1 F.2.1 dL_some_8 rfl (lv_at hl 0 rfl) ?_
    refine lv_iload_n (pc := 9) F.1 F.2.1 dL_some_9 rfl (lv_at hl 2 rfl) ?_
    refine mm_iadd (pc := 10) F (z := (x - x / nI n * nI n) + (nI n)) (rfl) dL_some_10 ?_
    refine lv_goto (pc := 11) (tgt := 15) F.1 F.2.1 dL_some_11 (by decide) ?_
    exact mm_iret (pc := 15) F hr hN (⟨⟨j9, hj9, congrArg (fun q => some (Value.int q)) hj⟩, rfl⟩) (Nat.le_of_ble_eq_true rfl) (Nat.le_of_ble_eq_true rfl) dL_some_15

def lq_nan (x : UInt32) : Int32 := Op.cmpValue (FP.fcmp x x) .l
def lq_fb (x : UInt32) : Int32 := if lq_nan x = 0 then x.toInt32 else nI 2143289344
set_option maxHeartbeats 4000000 in
set_option maxRecDepth 100000 in
theorem e_isNaN (l : Launch) (b : Nat) (D : mm_D) (hst : l.stackTraces = false) (x : UInt32) (σ : mm_S) : mm_K l b D yJxf58ca_isNaN_12338 (.code yJxf58ca_isNaN_12338 cJxf58ca_isNaN_12338 1 (some .boolean)) ({ frames := 1, cells := 0, slots := 0, locals := 24 } : Room) [.float x] σ
    (fun v σ2 => v = some (.int (if lq_nan x = 0 then nI 0 else nI 1)) ∧ σ2 = σ)
    (fun _ _ => False) := by
  refine mm_ofF (cc := cJxf58ca_isNaN_12338) (nL := 1) (ret := (some .boolean)) (by decide +kernel) rfl (Nat.le_of_ble_eq_true rfl) hst ?_
  intro p e s m args below meth c ls F ht hr hin hN hl
  have hl : lv_has ls 1 [(0, .float x)] := hl
  refine lv_fload_n (pc := 0) F.1 F.2.1 dJxf58ca_isNaN_12338_0 rfl (lv_at hl 0 rfl) ?_
  refine lv_fload_n (pc := 1) F.1 F.2.1 dJxf58ca_isNaN_12338_1 rfl (lv_at hl 0 rfl) ?_
  refine lv_fcmp (pc := 2) F.1 F.2.1 dJxf58ca_isNaN_12338_2 ?_
  refine W.eq (g2 := F0 m 3 ls [.int (lq_nan x)]) rfl ?_
  refine lv_if_eq (pc := 3) (tgt := 10) F.1 F.2.1 dJxf58ca_isNaN_12338_3 (by decide) (fun cz3 => ?_) (fun cz3 => ?_)
  ·
    refine lv_iconst (pc := 10) (v := nI 0) F.1 F.2.1 dJxf58ca_isNaN_12338_10 (by decide) ?_
    exact mm_zret (pc := 11) F (ty := .boolean) hr hN (by decide) (⟨by rw [if_pos cz3], rfl⟩) (Nat.le_of_ble_eq_true rfl) (Nat.le_of_ble_eq_true rfl) dJxf58ca_isNaN_12338_11
  ·
    refine lv_iconst (pc := 6) (v := nI 1) F.1 F.2.1 dJxf58ca_isNaN_12338_6 (by decide) ?_
    refine lv_goto (pc := 7) (tgt := 11) F.1 F.2.1 dJxf58ca_isNaN_12338_7 (by decide) ?_
    exact mm_zret (pc := 11) F (ty := .boolean) hr hN (by decide) (⟨by rw [if_neg cz3], rfl⟩) (Nat.le_of_ble_eq_true rfl) (Nat.le_of_ble_eq_true rfl) dJxf58ca_isNaN_12338_11

set_option maxHeartbeats 4000000 in
set_option maxRecDepth 100000 in
theorem e_bits (l : Launch) (b : Nat) (D : mm_D) (hst : l.stackTraces = false) (x : UInt32) (σ : mm_S) : mm_K l b D yJxf58ca_floatToIntBits_5c35a (.code yJxf58ca_floatToIntBits_5c35a cJxf58ca_floatToIntBits_5c35a 1 (some .int)) ({ frames := 2, cells := 0, slots := 0, locals := 60 } : Room) [.float x] σ
    (fun v σ2 => v = some (.int (lq_fb x)) ∧ σ2 = σ)
    (fun _ _ => False) := by
  refine mm_ofF (cc := cJxf58ca_floatToIntBits_5c35a) (nL := 1) (ret := (some .int)) (by decide +kernel) rfl (Nat.le_of_ble_eq_true rfl) hst ?_
  intro p e s m args below meth c ls F ht hr hin hN hl
  have hl : lv_has ls 1 [(0, .float x)] := hl
  refine lv_fload_n (pc := 0) F.1 F.2.1 dJxf58ca_floatToIntBits_5c35a_0 rfl (lv_at hl 0 rfl) ?_
  refine mm_runS (pc := 1) (As := [.float x]) (rest := []) F hN (e_isNaN l b D hst x σ) mw_1127 mw_1128 mw_19 mw_1129 ⟨pmJxf58ca_isNaN_12338, (Nat.le_of_ble_eq_true rfl), (Nat.le_of_ble_eq_true rfl)⟩ hl.1 rfl (Nat.le_of_ble_eq_true rfl) ⟨(Nat.le_of_ble_eq_true rfl), (Nat.le_of_ble_eq_true rfl)⟩ dJxf58ca_floatToIntBits_5c35a_1
    (fun _ _ _ _ _ _ h9 => False.elim h9) (fun v9 σ9 H locs hp9 hN => ?_)
  obtain ⟨rfl, h9⟩ := hp9
  rw [h9] at hN
  by_cases hn : lq_nan x = 0
  ·
    refine W.eq (g2 := F0 m 4 ls [.int (nI 0)]) (by rw [if_pos hn]; rfl) ?_
    refine mm_if_ne (pc := 4) F (tgt := 12) (by omega) dJxf58ca_floatToIntBits_5c35a_4 (by decide) (fun h9 => absurd h9 (by decide)) (fun cz4 => ?_)
    refine lv_fload_n (pc := 7) F.1 F.2.1 dJxf58ca_floatToIntBits_5c35a_7 rfl (lv_at hl 0 rfl) ?_
    refine vn_f2i (pc := 8) F.1 F.2.1 (F.2.2.1.trans hl.1.symm) F.2.2.2.1 (F.2.2.2.2.1 _ mw_1130) (F.2.2.2.2.1 _ mw_1132) (F.2.2.2.2.1 _ mw_1131) (F.2.2.2.2.1 _ mw_19) (b := x) (Nat.le_of_ble_eq_true rfl) (Nat.le_of_ble_eq_true rfl) dJxf58ca_floatToIntBits_5c35a_8 ?_
    exact mm_iret (pc := 11) F hr hN (⟨by rw [lq_fb, if_pos hn], rfl⟩) (Nat.le_of_ble_eq_true rfl) (Nat.le_of_ble_eq_true rfl) dJxf58ca_floatToIntBits_5c35a_11
  ·
    refine W.eq (g2 := F0 m 4 ls [.int (nI 1)]) (by rw [if_neg hn]; rfl) ?_
    refine mm_if_ne (pc := 4) F (tgt := 12) (by omega) dJxf58ca_floatToIntBits_5c35a_4 (by decide) (fun cz4 => ?_) (fun h9 => absurd h9 (by decide))
    refine lv_ldc (pc := 12) (v := nI 2143289344) F.1 F.2.1 F.2.2.2.1 (F.2.2.2.2.1 _ mw_1133) dJxf58ca_floatToIntBits_5c35a_12 ?_
    exact mm_iret (pc := 14) F hr hN (⟨by rw [lq_fb, if_neg hn], rfl⟩) (Nat.le_of_ble_eq_true rfl) (Nat.le_of_ble_eq_true rfl) dJxf58ca_floatToIntBits_5c35a_14

theorem lq_sE {b : Nat} {D : mm_D} {U : State} (h : mm_E b D U) {i : Nat} (hi : i < 3) : va_O "java/lang/String" (D.2.1 (200 + i)) (mm_Wd b) U U.heap ∧ va_OF "java/lang/String" "coder" "B" (.int 0) (D.2.1 (200 + i)) (mm_Wd b) U U.heap ∧ va_OF "java/lang/String" "value" "[B" (.ref (D.2.1 (300 + i))) (D.2.1 (200 + i)) (mm_Wd b) U U.heap ∧ ∃ f : Nat → Int32, va_T .byte (D.2.1 (300 + i)) 4 (fun j => .int (f j)) (mm_Wd b) U U.heap := (lq_strE h).1 i hi
set_option maxHeartbeats 4000000 in
set_option maxRecDepth 100000 in
theorem e_isLat (l : Launch) (b : Nat) (D : mm_D) (hst : l.stackTraces = false) (i : Nat) (hi : i < 3) (σ : mm_S) : mm_K l b D yJ0_isLatin1_aae02 (.code yJ0_isLatin1_aae02 cJ0_isLatin1_aae02 1 (some .boolean)) ({ frames := 1, cells := 0, slots := 0, locals := 24 } : Room) [.ref ((D.2.1 (200 + i)))] σ
    (fun v σ2 => v = some (.int (nI 1)) ∧ σ2 = σ)
    (fun _ _ => False) := by
  refine mm_of (cc := cJ0_isLatin1_aae02) (nL := 1) (ret := (some .boolean)) (by decide) rfl (Nat.le_of_ble_eq_true rfl) hst ?_
  intro p e s m args below meth c ls F ht hr hin hN hl
  have hl : lv_has ls 1 [(0, .ref ((D.2.1 (200 + i))))] := hl
  obtain ⟨hO, hC, hV, f9, hT⟩ := lq_sE F.2.2.2.2.2.1 hi
  refine va_gets (pc := 0) F.1 F.2.1 (lq_strE F.2.2.2.2.2.1).2.2.1 hN.2 F.2.2.2.1 (F.2.2.2.2.1 _ mw_785) (fun _ h => h) dJ0_isLatin1_aae02_0 ?_
  refine W.eq (g2 := F0 m 3 ls [.int (nI 1)]) rfl ?_
  refine mm_if_eq (pc := 3) F (tgt := 17) (by omega) dJ0_isLatin1_aae02_3 (by decide) (fun h9 => absurd h9 (by decide)) (fun cz3 => ?_)
  refine lv_aload_n (pc := 6) F.1 F.2.1 dJ0_isLatin1_aae02_6 rfl (lv_at hl 0 rfl) ?_
  refine vk_getf (pc := 7) F.1 F.2.1 hC hN.2 F.2.2.2.1 (F.2.2.2.2.1 _ mw_903) (fun _ h => h) dJ0_isLatin1_aae02_7 ?_
  refine W.eq (g2 := F0 m 10 ls [.int (nI 0)]) rfl ?_
  refine mm_if_ne (pc := 10) F (tgt := 17) (by omega) dJ0_isLatin1_aae02_10 (by decide) (fun h9 => absurd h9 (by decide)) (fun cz10 => ?_)
  refine lv_iconst (pc := 13) (v := nI 1) F.1 F.2.1 dJ0_isLatin1_aae02_13 (by decide) ?_
  refine lv_goto (pc := 14) (tgt := 18) F.1 F.2.1 dJ0_isLatin1_aae02_14 (by decide) ?_
  exact mm_zret (pc := 18) F (ty := .boolean) hr hN (by decide) (⟨rfl, rfl⟩) (Nat.le_of_ble_eq_true rfl) (Nat.le_of_ble_eq_true rfl) dJ0_isLatin1_aae02_18

set_option maxHeartbeats 4000000 in
set_option maxRecDepth 100000 in
theorem e_chkR (l : Launch) (b : Nat) (D : mm_D) (hst : l.stackTraces = false) (a9 i n : Nat) (hi : i < n) (hn : n < 2 ^ 31) (σ : mm_S) : mm_K l b D yJ3_checkIndex_8e157 (.code yJ3_checkIndex_8e157 cJ3_checkIndex_8e157 3 (some .int)) ({ frames := 0, cells := 0, slots := 0, locals := 0 } : Room) [.int (nI i), .int (nI n), .ref a9] σ
    (fun v σ2 => v = some (.int (nI i)) ∧ σ2 = σ)
    (fun _ _ => False) := by
  refine mm_of (cc := cJ3_checkIndex_8e157) (nL := 3) (ret := (some .int)) (by decide) rfl (Nat.le_of_ble_eq_true rfl) hst ?_
  intro p e s m args below meth c ls F ht hr hin hN hl
  have hl : lv_has ls 3 [(0, .int (nI i)), (1, .int (nI n)), (2, .ref a9)] := hl
  refine lv_iload_n (pc := 0) F.1 F.2.1 dJ3_checkIndex_8e157_0 rfl (lv_at hl 0 rfl) ?_
  refine mm_if_lt (pc := 1) F (tgt := 9) (by omega) dJ3_checkIndex_8e157_1 (by decide) ?_
  refine lv_iload_n (pc := 4) F.1 F.2.1 dJ3_checkIndex_8e157_4 rfl (lv_at hl 0 rfl) ?_
  refine lv_iload_n (pc := 5) F.1 F.2.1 dJ3_checkIndex_8e157_5 rfl (lv_at hl 1 rfl) ?_
  refine mm_icmp_lt (pc := 6) F (x := i) (y := n) (tgt := 16) (by omega) (by omega) dJ3_checkIndex_8e157_6 (by decide) (fun cz6 => ?_) (fun cz6 => ?_)
  ·
    refine lv_iload_n (pc := 16) F.1 F.2.1 dJ3_checkIndex_8e157_16 rfl (lv_at hl 0 rfl) ?_
    exact mm_iret (pc := 17) F hr hN (⟨rfl, rfl⟩) (Nat.le_of_ble_eq_true rfl) (Nat.le_of_ble_eq_true rfl) dJ3_checkIndex_8e157_17
  ·
    exact absurd hi cz6

set_option maxHeartbeats 4000000 in
set_option maxRecDepth 100000 in
theorem e_chk2 (l : Launch) (b : Nat) (D : mm_D) (hst : l.stackTraces = false) (i n : Nat) (hi : i < n) (hn : n < 2 ^ 31) (σ : mm_S) : mm_K l b D yJ0_checkIndex_df160 (.code yJ0_checkIndex_df160 cJ0_checkIndex_df160 2 none) ({ frames := 1, cells := 0, slots := 0, locals := 30 } : Room) [.int (nI i), .int (nI n)] σ
    (fun v σ2 => v = none ∧ σ2 = σ)
    (fun _ _ => False) := by
  refine mm_of (cc := cJ0_checkIndex_df160) (nL := 2) (ret := none) (by decide) rfl (Nat.le_of_ble_eq_true rfl) hst ?_
  intro p e s m args below meth c ls F ht hr hin hN hl
  have hl : lv_has ls 2 [(0, .int (nI i)), (1, .int (nI n))] := hl
  obtain ⟨vv, hvv, hZ⟩ := (lq_strE F.2.2.2.2.2.1).2.2.2.1
  refine lv_iload_n (pc := 0) F.1 F.2.1 dJ0_checkIndex_df160_0 rfl (lv_at hl 0 rfl) ?_
  refine lv_iload_n (pc := 1) F.1 F.2.1 dJ0_checkIndex_df160_1 rfl (lv_at hl 1 rfl) ?_
  refine va_gets (pc := 2) F.1 F.2.1 hZ hN.2 F.2.2.2.1 (F.2.2.2.2.1 _ mw_763) (fun _ h => h) dJ0_checkIndex_df160_2 ?_
  rcases hvv with rfl | ⟨a9, rfl⟩
  ·
    refine mm_runS (pc := 5) (As := [.int (nI i), .int (nI n), .null]) (rest := []) F hN (c_checkIndex3 l b D hst i n hi hn σ) mw_1174 mw_365 mw_13 mw_366 ⟨pmJ3_checkIndex_8e157, (Nat.le_of_ble_eq_true rfl), (Nat.le_of_ble_eq_true rfl)⟩ hl.1 rfl (Nat.le_of_ble_eq_true rfl) ⟨(Nat.le_of_ble_eq_true rfl), (Nat.le_of_ble_eq_true rfl)⟩ dJ0_checkIndex_df160_5
      (fun _ _ _ _ _ _ h9 => False.elim h9) (fun v9 σ9 H locs hp9 hN => ?_)
    obtain ⟨rfl, h9⟩ := hp9
    rw [h9] at hN
    refine W.eq (g2 := F0 m 8 ls [.int (nI i)]) rfl ?_
    refine W.widen (k := 0) (n := 0) (Nat.le_of_ble_eq_true rfl) (Nat.le_of_ble_eq_true rfl) ?_
    refine lv_pop (pc := 8) F.1 F.2.1 dJ0_checkIndex_df160_8 rfl ?_
    exact mm_vret (pc := 9) F hr hN (⟨rfl, rfl⟩) (Nat.le_of_ble_eq_true rfl) (Nat.le_of_ble_eq_true rfl) dJ0_checkIndex_df160_9
  ·
    refine mm_runS (pc := 5) (As := [.int (nI i), .int (nI n), .ref a9]) (rest := []) F hN (e_chkR l b D hst a9 i n hi hn σ) mw_1174 mw_365 mw_13 mw_366 ⟨pmJ3_checkIndex_8e157, (Nat.le_of_ble_eq_true rfl), (Nat.le_of_ble_eq_true rfl)⟩ hl.1 rfl (Nat.le_of_ble_eq_true rfl) ⟨(Nat.le_of_ble_eq_true rfl), (Nat.le_of_ble_eq_true rfl)⟩ dJ0_checkIndex_df160_5
      (fun _ _ _ _ _ _ h9 => False.elim h9) (fun v9 σ9 H locs hp9 hN => ?_)
    obtain ⟨rfl, h9⟩ := hp9
    rw [h9] at hN
    refine W.eq (g2 := F0 m 8 ls [.int (nI i)]) rfl ?_
    refine W.widen (k := 0) (n := 0) (Nat.le_of_ble_eq_true rfl) (Nat.le_of_ble_eq_true rfl) ?_
    refine lv_pop (pc := 8) F.1 F.2.1 dJ0_checkIndex_df160_8 rfl ?_
    exact mm_vret (pc := 9) F hr hN (⟨rfl, rfl⟩) (Nat.le_of_ble_eq_true rfl) (Nat.le_of_ble_eq_true rfl) dJ0_checkIndex_df160_9

set_option maxHeartbeats 4000000 in
set_option maxRecDepth 100000 in
theorem e_ch1 (l : Launch) (b : Nat) (D : mm_D) (hst : l.stackTraces = false) (i : Nat) (hi : i < 3) (j : Nat) (hj : j < 4) (σ : mm_S) : mm_K l b D yJ1_charAt_3b067 (.code yJ1_charAt_3b067 cJ1_charAt_3b067 2 (some .char)) ({ frames := 2, cells := 0, slots := 0, locals := 60 } : Room) [.ref ((D.2.1 (300 + i))), .int (nI j)] σ
    (fun v σ2 => (∃ r, r < 65536 ∧ v = some (.int (nI r))) ∧ σ2 = σ)
    (fun _ _ => False) := by
  refine mm_of (cc := cJ1_charAt_3b067) (nL := 2) (ret := (some .char)) (by decide) rfl (Nat.le_of_ble_eq_true rfl) hst ?_
  intro p e s m args below meth c ls F ht hr hin hN hl
  have hl : lv_has ls 2 [(0, .ref ((D.2.1 (300 + i)))), (1, .int (nI j))] := hl
  obtain ⟨hO, hC, hV, f9, hT⟩ := lq_sE F.2.2.2.2.2.1 hi
  refine lv_iload_n (pc := 0) F.1 F.2.1 dJ1_charAt_3b067_0 rfl (lv_at hl 1 rfl) ?_
  refine lv_aload_n (pc := 1) F.1 F.2.1 dJ1_charAt_3b067_1 rfl (lv_at hl 0 rfl) ?_
  refine va_tlen (pc := 2) F.1 F.2.1 hT hN.2 (v := nI 4) rfl dJ1_charAt_3b067_2 ?_
  refine mm_runS (pc := 3) (As := [.int (nI j), .int (nI 4)]) (rest := []) F hN (e_chk2 l b D hst j 4 hj (by decide) σ) mw_1171 mw_1172 mw_11 mw_1173 ⟨pmJ0_checkIndex_df160, (Nat.le_of_ble_eq_true rfl), (Nat.le_of_ble_eq_true rfl)⟩ hl.1 rfl (Nat.le_of_ble_eq_true rfl) ⟨(Nat.le_of_ble_eq_true rfl), (Nat.le_of_ble_eq_true rfl)⟩ dJ1_charAt_3b067_3
    (fun _ _ _ _ _ _ h9 => False.elim h9) (fun v9 σ9 H locs hp9 hN => ?_)
  obtain ⟨rfl, h9⟩ := hp9
  rw [h9] at hN
  refine W.eq (g2 := F0 m 6 ls []) rfl ?_
  refine W.widen (k := 0) (n := 0) (Nat.le_of_ble_eq_true rfl) (Nat.le_of_ble_eq_true rfl) ?_
  refine lv_aload_n (pc := 6) F.1 F.2.1 dJ1_charAt_3b067_6 rfl (lv_at hl 0 rfl) ?_
  refine lv_iload_n (pc := 7) F.1 F.2.1 dJ1_charAt_3b067_7 rfl (lv_at hl 1 rfl) ?_
  obtain ⟨n9, hn9, e9⟩ := mm_argN (f9 j)
  obtain ⟨g1, g2⟩ := mm_nIin hj (by decide)
  refine va_tb (pc := 8) F.1 F.2.1 hT hN.2 g1 (v := .int (nI n9)) (by rw [g2, ← e9]) dJ1_charAt_3b067_8 ?_
  refine lv_sipush (pc := 9) (v := nI 255) F.1 F.2.1 dJ1_charAt_3b067_9 (by decide) ?_
  refine mm_iand (pc := 12) F (z := nI (n9 &&& 255)) (mm_andN _ _) dJ1_charAt_3b067_12 ?_
  refine lv_i2c (pc := 13) (v := nI ((n9 &&& 255) % 65536)) F.1 F.2.1 dJ1_charAt_3b067_13 (mm_i2c _) ?_
  exact mm_zret (pc := 14) F (ty := .char) hr hN (mm_narC (Nat.mod_lt _ (by decide))) (⟨⟨_, Nat.mod_lt _ (by decide), rfl⟩, rfl⟩) (Nat.le_of_ble_eq_true rfl) (Nat.le_of_ble_eq_true rfl) dJ1_charAt_3b067_14

set_option maxHeartbeats 4000000 in
set_option maxRecDepth 100000 in
theorem e_charAt (l : Launch) (b : Nat) (D : mm_D) (hst : l.stackTraces = false) (i : Nat) (hi : i < 3) (j : Nat) (hj : j < 4) (σ : mm_S) : mm_K l b D yJ0_charAt_5068e (.code yJ0_charAt_5068e cJ0_charAt_5068e 2 (some .char)) ({ frames := 3, cells := 0, slots := 0, locals := 100 } : Room) [.ref ((D.2.1 (200 + i))), .int (nI j)] σ
    (fun v σ2 => (∃ r, r < 65536 ∧ v = some (.int (nI r))) ∧ σ2 = σ)
    (fun _ _ => False) := by
  refine mm_of (cc := cJ0_charAt_5068e) (nL := 2) (ret := (some .char)) (by decide) rfl (Nat.le_of_ble_eq_true rfl) hst ?_
  intro p e s m args below meth c ls F ht hr hin hN hl
  have hl : lv_has ls 2 [(0, .ref ((D.2.1 (200 + i)))), (1, .int (nI j))] := hl
  obtain ⟨hO, hC, hV, f9, hT⟩ := lq_sE F.2.2.2.2.2.1 hi
  refine lv_aload_n (pc := 0) F.1 F.2.1 dJ0_charAt_5068e_0 rfl (lv_at hl 0 rfl) ?_
  refine mm_runV (pc := 1) (As := []) (rest := []) F hN (e_isLat l b D hst i hi σ) mw_1164 mw_1165 mw_1166 mw_11 mw_1167 ⟨pmJ0_isLatin1_aae02, (Nat.le_of_ble_eq_true rfl), (Nat.le_of_ble_eq_true rfl)⟩ (by obtain ⟨cell, h1, h2, h3, -⟩ := hO.kept hN.2.2.1; exact ⟨cell, h1, h2, h3⟩) hl.1 rfl (Nat.le_of_ble_eq_true rfl) ⟨(Nat.le_of_ble_eq_true rfl), (Nat.le_of_ble_eq_true rfl)⟩ dJ0_charAt_5068e_1
    (fun _ _ _ _ _ _ h9 => False.elim h9)
    (fun v9 σ9 H locs hp9 hN => ?_)
  obtain ⟨rfl, h9⟩ := hp9
  rw [h9] at hN
  refine W.eq (g2 := F0 m 4 ls [.int (nI 1)]) rfl ?_
  refine W.widen (k := 0) (n := 0) (Nat.le_of_ble_eq_true rfl) (Nat.le_of_ble_eq_true rfl) ?_
  refine mm_if_eq (pc := 4) F (tgt := 16) (by omega) dJ0_charAt_5068e_4 (by decide) (fun h9 => absurd h9 (by decide)) (fun cz4 => ?_)
  refine lv_aload_n (pc := 7) F.1 F.2.1 dJ0_charAt_5068e_7 rfl (lv_at hl 0 rfl) ?_
  refine vk_getf (pc := 8) F.1 F.2.1 hV hN.2 F.2.2.2.1 (F.2.2.2.2.1 _ mw_902) (fun _ h => h) dJ0_charAt_5068e_8 ?_
  refine W.eq (g2 := F0 m 11 ls [.ref ((D.2.1 (300 + i)))]) rfl ?_
  refine lv_iload_n (pc := 11) F.1 F.2.1 dJ0_charAt_5068e_11 rfl (lv_at hl 1 rfl) ?_
  refine mm_runS (pc := 12) (As := [.ref (D.2.1 (300 + i)), .int (nI j)]) (rest := []) F hN (e_ch1 l b D hst i hi j hj σ) mw_1168 mw_1169 mw_26 mw_1170 ⟨pmJ1_charAt_3b067, (Nat.le_of_ble_eq_true rfl), (Nat.le_of_ble_eq_true rfl)⟩ hl.1 rfl (Nat.le_of_ble_eq_true rfl) ⟨(Nat.le_of_ble_eq_true rfl), (Nat.le_of_ble_eq_true rfl)⟩ dJ0_charAt_5068e_12
    (fun _ _ _ _ _ _ h9 => False.elim h9) (fun v9 σ9 H locs hp9 hN => ?_)
  obtain ⟨⟨r, hr9, rfl⟩, h9⟩ := hp9
  rw [h9] at hN
  refine W.eq (g2 := F0 m 15 ls [.int (nI r)]) rfl ?_
  refine W.widen (k := 0) (n := 0) (Nat.le_of_ble_eq_true rfl) (Nat.le_of_ble_eq_true rfl) ?_
  exact mm_zret (pc := 15) F (ty := .char) hr hN (mm_narC hr9) (⟨⟨r, hr9, rfl⟩, rfl⟩) (Nat.le_of_ble_eq_true rfl) (Nat.le_of_ble_eq_true rfl) dJ0_charAt_5068e_15

