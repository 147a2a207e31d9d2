/-! methods with a table of handlers -/
theorem mm_goodX {y : MethodName} {bytes : ByteArray} {maxL : Nat} {ret : Option FieldType} {hh : List (Nat × Nat × Nat × Nat)} (h : Cond.codeWith y bytes maxL ret hh ∈ mm_aW) : GoodIn mm_aW (Cond.codeWith y bytes maxL ret hh :: mm_aW) := fun w hw => by
  rcases List.mem_cons.mp hw with rfl | hw
  · exact ⟨h, mm_aW_good h⟩
  · exact ⟨hw, mm_aW_good hw⟩
section MMX
variable {p : Program} {l : Launch} {e : Env} {R : Room} {s : State} {m : MethodId} {args : Array Value} {below : List Frame} {meth : Method} {c : Code} {H : Heap} {locs : List Loc} {cells slots : Nat} {Q : State → Prop}
variable {cc : ByteArray} {pc : Nat} {ls : Array Slot} {rest : List Value} {b : Nat} {D : mm_D} {σ : mm_S} {own : String} {nL a o : Nat}
variable {PR : Option Value → mm_S → Prop} {PX : String → mm_S → Prop} {rm : Room}
theorem mm_ofX {y : MethodName} {cd : Cond} {ret : Option FieldType} {as : List Value} {hh : List (Nat × Nat × Nat × Nat)} (hy : plainName y.cls = true) (hcd : cd = .codeWith y cc nL ret hh) (hls : (lg_sl as).length ≤ nL) (hst : l.stackTraces = false)
    (body : ∀ p e s m args below meth c ls, mm_F p l s m args meth c b D y.cls cc nL → c.exceptionTable.toList = tableOf hh → meth.sig.returnType = ret → mm_N b D s σ s.heap [] → lv_has ls nL (lv_args 0 as) →
      W p l e rm s m args below meth c s.heap [] 0 0 (mm_Q b D PR PX below args s rm) (F0 m 0 ls [])) : mm_K l b D y cd rm as σ PR PX := by
  subst hcd
  refine vx_ofWH (cc := cc) (maxL := nL) (ret := ret) (hh := hh) hy rfl ?_
  intro p e s m args below meth c s₁ B hml hv
  obtain ⟨rfl, hI, hE⟩ := hv
  have hts := atoms_spec (ws := Cond.codeWith y cc nL ret hh :: mm_aW) B.pre
  have ht := vx_table (x := y) B (hts _ List.mem_cons_self)
  have hl := lv_entry as (n := nL) hls
  rw [lg_entry_eq]
  generalize (lg_sl as ++ List.replicate (nL - (lg_sl as).length) Slot.unset).toArray = ls at hl ⊢
  exact body p e s m as.toArray below meth c ls ⟨B.exec, B.bytes, hml, findClass_of_methodNamed B.named, fun w hw => hts w (List.mem_cons_of_mem _ hw), hE, B.notSynchronized, hst, hI.1⟩ ht B.returns ⟨hI, va_S.rf⟩ hl
theorem mm_runSX {y : MethodName} {bytes : ByteArray} {maxL index : Nat} {ret : Option FieldType} {hh : List (Nat × Nat × Nat × Nat)} {As st0 : List Value} (F : mm_F p l s m args meth c b D own cc nL) (hN : mm_N b D s σ H locs) (hM : mm_K l b D y (.codeWith y bytes maxL ret hh) rm As σ PR PX)
    (hlink : Cond.methodLink own index y ∈ mm_aW) (hstat : Cond.static y ∈ mm_aW) (hini : Cond.initialized y.cls ∈ mm_aW) (hcode : Cond.codeWith y bytes maxL ret hh ∈ mm_aW) (hcw : mm_cw y As.length maxL rm R)
    (hsize : ls.size = nL) (hst : st0 = As.reverse ++ rest) (hW : (rest.map fun v => v.category).sum ≤ 8) (hf : cells + rm.cells ≤ R.cells ∧ slots + rm.slots ≤ R.slots) (hdg : decode cc pc = .ok (.invokestatic index, 3))
    (kx : ∀ (E : String) (σ1 : mm_S) (H1 : Heap) (locs1 : List Loc) (q : Nat) (ce : Cell), PX E σ1 → mm_N b D s σ1 H1 locs1 → H1[q]? = some ce → ce.vm = .none → s.vm.findClass E = some ce.cls → vx_W p l e R s m args below meth c H1 locs1 (cells + rm.cells) (slots + rm.slots) Q (F0 m pc ls rest) q)
    (kk : ∀ (v : Option Value) (σ1 : mm_S) (H1 : Heap) (locs1 : List Loc), PR v σ1 → mm_N b D s σ1 H1 locs1 → W p l e R s m args below meth c H1 locs1 (cells + rm.cells) (slots + rm.slots) Q (F0 m (pc + 3) ls (v.toList ++ rest))) : W p l e R s m args below meth c H locs cells slots Q (F0 m pc ls st0) := by
  obtain ⟨hx, hb, hml, hown, hts, hE, -⟩ := F
  have hG : GoodIn mm_aW (va_wsS own index y (Cond.codeWith y bytes maxL ret hh :: mm_aW)) := fun w hw => by
    unfold va_wsS at hw
    rcases List.mem_append.mp hw with h | h
    · simp only [List.mem_cons, List.not_mem_nil, or_false] at h
      rcases h with rfl | rfl | rfl
      · exact ⟨hlink, mm_aW_good hlink⟩
      · exact ⟨hstat, mm_aW_good hstat⟩
      · exact ⟨hini, mm_aW_good hini⟩
    · exact mm_goodX hcode w h
  exact mm_back hN (vx_runSX (Ts := mm_aW) (hh := hh) ⟨hx, hb, hml, hown, hts⟩ hM (vx_cwSW As.length hts hG rfl rfl rfl hcw.1 hcw.2) ⟨mm_fb, mm_pre hE hN⟩ rfl rfl hsize hst (lv_room hW) hdg hf) kx kk
theorem mm_catch (F : mm_F p l s m args meth c b D own cc nL) (hN : mm_N b D s σ H locs) {E : String} {q : Nat} {ce : Cell} (pre : List ExceptionTableEntry) (x : ExceptionTableEntry) (suf : List ExceptionTableEntry) (hsplit : c.exceptionTable.toList = pre ++ x :: suf)
    (hpass : ∀ z ∈ pre, z.catchType ≠ 0 ∧ ∃ nm : String, Cond.classLink own z.catchType nm ∈ mm_aW ∧ (E, nm) ∈ mm_nc) (hx : covers x pc = true) (h0 : x.catchType ≠ 0) (hlink : Cond.classLink own x.catchType E ∈ mm_aW) (hcast : Cond.castable E E ∈ mm_nW)
    (hq : H[q]? = some ce) (hv : ce.vm = .none) (hcl : s.vm.findClass E = some ce.cls) (kk : W p l e R s m args below meth c H locs cells slots Q (F0 m x.handlerPc ls [.ref q])) : vx_W p l e R s m args below meth c H locs cells slots Q (F0 m pc ls rest) q := by
  obtain ⟨hx0, hb, hml, hown, hts, hE, -⟩ := F
  exact vx_catch hown pre x suf hsplit (fun z hz => Or.inr ⟨(hpass z hz).1, (hpass z hz).2.imp fun nm h => ⟨hts _ h.1, hE.2.2.1 _ h.2⟩⟩) hx h0 (hts _ hlink) (va_Nw.use rfl (hE.2.1 _ hcast)) hq hv hcl kk
end MMX
/-! what a wrapper leaves -/
def mm_Wl (σ σ2 : mm_S) (T2 : mm_T) (x0 o : Nat) (q : Nat) (ans : Int64) : Prop :=
  ∃ (z : mm_Z) (ad : Nat → Nat → Nat → Nat) (g : Nat → Int64), mm_X σ2 T2 z ad ∧ ad 0 0 0 = x0 ∧ σ2 o = mm_arj 2 1 1 g ∧ (q = 0 → g 0 = ans) ∧ ∀ a p e, p ≠ 0 → a ≠ o → σ a = some (p, e) → σ2 a = some (p, e)
def mm_Wd2 (σ σ2 : mm_S) (T2 : mm_T) (x0 o : Nat) (q : Nat) (ans : UInt64) : Prop :=
  ∃ (z : mm_Z) (ad : Nat → Nat → Nat → Nat) (g : Nat → UInt64), mm_X σ2 T2 z ad ∧ ad 0 0 0 = x0 ∧ σ2 o = mm_ard 2 2 1 g ∧ (q = 0 → g 0 = ans) ∧ ∀ a p e, p ≠ 0 → a ≠ o → σ a = some (p, e) → σ2 a = some (p, e)
theorem mm_Wl_ok {σ σ1 : mm_S} {T' T2 : mm_T} {x0 o q : Nat} {ans v : Int64} {g : Nat → Int64} (h : mm_Xt σ σ1 T' x0) (ho : σ o = mm_arj 2 1 1 g) (hT : T2 = T') (hv : v = ans) : mm_Wl σ (mm_u σ1 o (mm_arj 2 1 1 (va_up g 0 v))) T2 x0 o q ans := by
  obtain ⟨z, ad, h1, h2, h3⟩ := h
  subst hT
  have ho1 := h3 o 2 _ (by decide) ho
  refine ⟨z, ad, va_up g 0 v, mm_X_kept h1 (fun a e he => ?_), h2, mm_u_eq, fun _ => ?_, fun a p e hp ha he => (mm_u_ne ha).trans (h3 a p e hp he)⟩
  · rw [mm_u_ne (fun q => by rw [q, ho1] at he; cases he)]
    exact he
  · rw [← hv]
    exact if_pos rfl
theorem mm_Wl_no {σ σ1 : mm_S} {T T2 : mm_T} {x0 o q : Nat} {ans : Int64} {g : Nat → Int64} (h : mm_Xt σ σ1 T x0) (ho : σ o = mm_arj 2 1 1 g) (hT : T2 = T) (hq : q ≠ 0) : mm_Wl σ σ1 T2 x0 o q ans := by
  obtain ⟨z, ad, h1, h2, h3⟩ := h
  subst hT
  exact ⟨z, ad, g, h1, h2, h3 o 2 _ (by decide) ho, fun q => absurd q hq, fun a p e hp _ he => h3 a p e hp he⟩
theorem mm_Wd_ok {σ σ1 : mm_S} {T' T2 : mm_T} {x0 o q : Nat} {ans v : UInt64} {g : Nat → UInt64} (h : mm_Xt σ σ1 T' x0) (ho : σ o = mm_ard 2 2 1 g) (hT : T2 = T') (hv : v = ans) : mm_Wd2 σ (mm_u σ1 o (mm_ard 2 2 1 (va_up g 0 v))) T2 x0 o q ans := by
  obtain ⟨z, ad, h1, h2, h3⟩ := h
  subst hT
  have ho1 := h3 o 2 _ (by decide) ho
  refine ⟨z, ad, va_up g 0 v, mm_X_kept h1 (fun a e he => ?_), h2, mm_u_eq, fun _ => ?_, fun a p e hp ha he => (mm_u_ne ha).trans (h3 a p e hp he)⟩
  · rw [mm_u_ne (fun q => by rw [q, ho1] at he; cases he)]
    exact he
  · rw [← hv]
    exact if_pos rfl
theorem mm_Wd_no {σ σ1 : mm_S} {T T2 : mm_T} {x0 o q : Nat} {ans : UInt64} {g : Nat → UInt64} (h : mm_Xt σ σ1 T x0) (ho : σ o = mm_ard 2 2 1 g) (hT : T2 = T) (hq : q ≠ 0) : mm_Wd2 σ σ1 T2 x0 o q ans := by
  obtain ⟨z, ad, h1, h2, h3⟩ := h
  subst hT
  exact ⟨z, ad, g, h1, h2, h3 o 2 _ (by decide) ho, fun q => absurd q hq, fun a p e hp _ he => h3 a p e hp he⟩
