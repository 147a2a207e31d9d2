/-! methods with a table of handlers -/
theorem mm_goodX {y : MethodName} {bytes : ByteArray} {maxL : Nat} {ret : Option FieldType} {hh : List (Nat × Nat × Nat × Nat)} (h : Cond.codeWith y bytes maxL ret hh ∈ mm_aW) : GoodIn mm_aW (Cond.codeWith y bytes maxL ret hh :: mm_aW) := fun w hw => by
  rcases List.mem_cons.mp hw with rfl | hw
  · exact ⟨h, mm_aW_good h⟩
  · exact ⟨hw, mm_aW_good hw⟩
section MMX
variable {p : Program} {l : Launch} {e : Env} {R : Room} {s : State} {m : MethodId} {args : Array Value} {below : List Frame} {meth : Method} {c : Code} {H : Heap} {locs : List Loc} {cells slots : Nat} {Q : State → Prop}
variable {cc : ByteArray} {pc : Nat} {ls : Array Slot} {rest : List Value} {b : Nat} {D : mm_D} {σ : mm_S} {own : String} {nL a o : Nat}
variable {PR : Option Value → mm_S → Prop} {PX : String → mm_S → Prop} {rm : Room}
theorem mm_ofX {y : MethodName} {cd : Cond} {ret : Option FieldType} {as : List Value} {hh : List (Nat × Nat × Nat × Nat)} (hy : plainName y.cls = true) (hcd : cd = .codeWith y cc nL ret hh) (hls : (lg_sl as).length ≤ nL) (hst : l.stackTraces = false)
    (body : ∀ p e s m args below meth c ls, mm_F p l s m args meth c b D y.cls cc nL → c.exceptionTable.toList = tableOf hh → meth.sig.returnType = ret → mm_N b D s σ s.heap [] → lv_has ls nL (lv_args 0 as) →
      W p l e rm s m args below meth c s.heap [] 0 0 (mm_Q b D PR PX below args s rm) (F0 m 0 ls [])) : mm_K l b D y cd rm as σ PR PX := by
  subst hcd
  refine vx_ofWH (cc := cc) (maxL := nL) (ret := ret) (hh := hh) hy rfl ?_
  intro p e s m args below meth c s₁ B hml hv
  obtain ⟨rfl, hI, hE⟩ := hv
  have hts := atoms_spec (ws := Cond.codeWith y cc nL ret hh :: mm_aW) B.pre
  have ht := vx_table (x := y) B (hts _ List.mem_cons_self)
  have hl := lv_entry as (n := nL) hls
  rw [lg_entry_eq]
  generalize (lg_sl as ++ List.replicate (nL - (lg_sl as).length) Slot.unset).toArray = ls at hl ⊢
  exact body p e s m as.toArray below meth c ls ⟨B.exec, B.bytes, hml, findClass_of_methodNamed B.named, fun w hw => hts w (List.mem_cons_of_mem _ hw), hE, B.notSynchronized, hst, hI.1⟩ ht B.returns ⟨hI, va_S.rf⟩ hl
theorem mm_runSX {y : MethodName} {bytes : ByteArray} {maxL index : Nat} {ret : Option FieldType} {hh : List (Nat × Nat × Nat × Nat)} {As st0 : List Value} (F : mm_F p l s m args meth c b D own cc nL) (hN : mm_N b D s σ H locs) (hM : mm_K l b D y (.codeWith y bytes maxL ret hh) rm As σ PR PX)
    (hlink : Cond.methodLink own index y ∈ mm_aW) (hstat : Cond.static y ∈ mm_aW) (hini : Cond.initialized y.cls ∈ mm_aW) (hcode : Cond.codeWith y bytes maxL ret hh ∈ mm_aW) (hcw : mm_cw y As.length maxL rm R)
    (hsize : ls.size = nL) (hst : st0 = As.reverse ++ rest) (hW : (rest.map fun v => v.category).sum ≤ 8) (hf : cells + rm.cells ≤ R.cells ∧ slots + rm.slots ≤ R.slots) (hdg : decode cc pc = .ok (.invokestatic index, 3))
    (kx : ∀ (E : String) (σ1 : mm_S) (H1 : Heap) (locs1 : List Loc) (q : Nat) (ce : Cell), PX E σ1 → mm_N b D s σ1 H1 locs1 → H1[q]? = some ce → ce.vm = .none → s.vm.findClass E = some ce.cls → vx_W p l e R s m args below meth c H1 locs1 (cells + rm.cells) (slots + rm.slots) Q (F0 m pc ls rest) q)
    (kk : ∀ (v : Option Value) (σ1 : mm_S) (H1 : Heap) (locs1 : List Loc), PR v σ1 → mm_N b D s σ1 H1 locs1 → W p l e R s m args below meth c H1 locs1 (cells + rm.cells) (slots + rm.slots) Q (F0 m (pc + 3) ls (v.toList ++ rest))) : W p l e R s m args below meth c H locs cells slots Q (F0 m pc ls st0) := by
  obtain ⟨hx, hb, hml, hown, hts, hE, -⟩ := F
  have hG : GoodIn mm_aW (va_wsS own index y (Cond.codeWith y bytes maxL ret hh :: mm_aW)) := fun w hw => by
    unfold va_wsS at hw
    rcases List.mem_append.mp hw with h | h
    · simp only [List.mem_cons, List.not_mem_nil, or_false] at h
      rcases h with rfl | rfl | rfl
      · exact ⟨hlink, mm_aW_good hlink⟩
      · exact ⟨hstat, mm_aW_good hstat⟩
      · exact ⟨hini, mm_aW_good hini⟩
    · exact mm_goodX hcode w h
  exact mm_back hN (vx_runSX (Ts := mm_aW) (hh := hh) ⟨hx, hb, hml, hown, hts⟩ hM (vx_cwSW As.length hts hG rfl rfl rfl hcw.1 hcw.2) ⟨mm_fb, mm_pre hE hN⟩ rfl rfl hsize hst (lv_room hW) hdg hf) kx kk
theorem lq_catch (F : mm_F p l s m args meth c b D own cc nL) (hN : mm_N b D s σ H locs) {E : String} {q : Nat} {ce : Cell} (pre : List ExceptionTableEntry) (x : ExceptionTableEntry) (suf : List ExceptionTableEntry) (hsplit : c.exceptionTable.toList = pre ++ x :: suf)
    (hpass : ∀ z ∈ pre, covers z pc = false ∨ (z.catchType ≠ 0 ∧ ∃ nm : String, Cond.classLink own z.catchType nm ∈ mm_aW ∧ (E, nm) ∈ mm_nc)) (hx : covers x pc = true) (h0 : x.catchType ≠ 0) (hlink : Cond.classLink own x.catchType E ∈ mm_aW) (hcast : Cond.castable E E ∈ mm_nW)
    (hq : H[q]? = some ce) (hv : ce.vm = .none) (hcl : s.vm.findClass E = some ce.cls) (kk : W p l e R s m args below meth c H locs cells slots Q (F0 m x.handlerPc ls [.ref q])) : vx_W p l e R s m args below meth c H locs cells slots Q (F0 m pc ls rest) q := by
  obtain ⟨hx0, hb, hml, hown, hts, hE, -⟩ := F
  exact vx_catch hown pre x suf hsplit (fun z hz => (hpass z hz).imp id (fun h => ⟨h.1, h.2.imp fun nm h => ⟨hts _ h.1, hE.2.2.1 _ h.2⟩⟩)) hx h0 (hts _ hlink) (va_Nw.use rfl (hE.2.1 _ hcast)) hq hv hcl kk
end MMX
/-! what a wrapper answers -/
def lq_e (q : Nat) : Int32 := if q = 1 then (-1001) else if q = 2 then (-1002) else (-1003)
def lq_i (q a : Nat) : Int32 := if q = 0 then nI a else lq_e q
theorem lq_i0 {q a : Nat} (h : q = 0) : lq_i q a = nI a := if_pos h
theorem lq_iz {q a : Nat} (h : ¬ q = 0) : lq_i q a = lq_e q := if_neg h
theorem lq_i1 {q a : Nat} (h : q = 1) : lq_i q a = (-1001) := by subst h; rfl
theorem lq_i2 {q a : Nat} (h : q = 2) : lq_i q a = (-1002) := by subst h; rfl
theorem lq_i3 {q a : Nat} (h : q = 3) : lq_i q a = (-1003) := by subst h; rfl
theorem lq_elt (q : Nat) : lq_e q < 0 := by
  unfold lq_e
  split
  · decide
  · split <;> decide
theorem lq_elt2 (q : Nat) : lq_e q < (-1000) := by
  unfold lq_e
  split
  · decide
  · split <;> decide
theorem mm_Xt.fr {σ σ2 : mm_S} {T' : mm_T} {x0 : Nat} (h : mm_Xt σ σ2 T' x0) : mm_Fr 0 σ σ2 := h.elim fun _ h => h.elim fun _ h => h.2.2
theorem mm_Xt.eq {σ σ2 : mm_S} {T1 T2 : mm_T} {x0 : Nat} (h : mm_Xt σ σ2 T1 x0) (e : T2 = T1) : mm_Xt σ σ2 T2 x0 := e ▸ h
theorem mm_Xt.tr {σ σ1 σ2 : mm_S} {T1 T2 : mm_T} {x0 : Nat} (h1 : mm_Xt σ σ1 T1 x0) (h2 : mm_Xt σ1 σ2 T2 x0) : mm_Xt σ σ2 T2 x0 := by
  obtain ⟨z, ad, a1, a2, a3⟩ := h2
  exact ⟨z, ad, a1, a2, h1.fr.tr a3⟩
