/-! arrays of arrays: the words of their classes, which the constructor alone wants -/
def mm_AA (t : FieldType) (U : State) : Prop := (Cond.arrayOver (.array t)).before #[] U = true
theorem mm_AA_moved {t : FieldType} {u U : State} (hvm : u.vm.Alike U.vm) (h : mm_AA t u) : mm_AA t U := by
  obtain ⟨cc9, c9, k9, h1, h2, h3, h4, h5⟩ := Jvm.Stand.arrayOver_specB h
  obtain ⟨k8, h6, e8⟩ := hvm.2.2 _ _ h3
  have h7 : (U.vm.classes.findIdx? fun (x : Class) => match x.kind with | .array component _ => component == cc9 | _ => false) = some c9 := by
    refine Eq.trans (va_idx_bare U.vm cc9).symm ?_
    first | rw [hvm.bare_eq] | rw [← hvm.bare_eq]
    exact (va_idx_bare u.vm cc9).trans h2
  have h8 : k8.kind = .array cc9 (.array t) := by rw [e8]; exact h4
  have f1 : U.vm.findClass (FieldType.array t).toString = some cc9 := by rw [hvm.findClass]; exact h1
  have f2 : U.vm.findClass ("[" ++ (FieldType.array t).toString) = some c9 := by rw [hvm.findClass]; exact h5
  unfold mm_AA Cond.before Cond.holds
  simp only [Cond.value]
  rw [f1, Option.bind_some]
  refine (congrArg (fun o9 : Option Nat => (o9.bind (fun c => (U.vm.classes[c]?).map fun (k : Class) => match k.kind with | .array _ ty => decide (ty = FieldType.array t) && decide (U.vm.findClass ("[" ++ (FieldType.array t).toString) = some c) | _ => false) == some true)) h7).trans ?_
  simp [h6, h8, f2]
theorem mm_outer (c : ClassId) (N h0 : Nat) : ∀ i : Nat, Jvm.Free.Multi.outerC c N h0 i = arrV c N (fun j => va_rf (if j < i then some (h0 + 1 + j) else none))
  | 0 => by
    show ({ cls := c, slots := Array.replicate N .null, vm := .none } : Cell) = _
    rw [arrV_new]
    refine congrArg (arrV c N) (funext fun j => ?_)
    simp [va_rf]
  | i + 1 => by
    show (Jvm.Free.Multi.outerC c N h0 i).setSlot i (.ref (h0 + 1 + i)) = _
    rw [mm_outer c N h0 i, arrV_store]
    refine congrArg (arrV c N) (funext fun j => ?_)
    by_cases e : j = i
    · subst e
      simp [updV, va_rf]
    · by_cases h : j < i
      · simp [updV, e, h, Nat.lt_succ_of_lt h]
      · simp [updV, e, h, show ¬ j < i + 1 by omega]
def mm_J (U : State) : Prop := mm_AA .int U ∧ mm_AA .char U ∧ mm_AA .boolean U
theorem mm_J_moved {u U : State} (hvm : u.vm.Alike U.vm) (h : mm_J u) : mm_J U := ⟨mm_AA_moved hvm h.1, mm_AA_moved hvm h.2.1, mm_AA_moved hvm h.2.2⟩
/-- a contract over a world where those words hold too -/
def mm_KM (l : Launch) (b : Nat) (D : mm_D) (y : MethodName) (cd : Cond) (rm : Room) (a : List Value) (σ : mm_S) (PR : Option Value → mm_S → Prop) (PX : String → mm_S → Prop) : Prop :=
  vx_Met l y (cd :: mm_aW) rm (va_Pc a (fun U => mm_I b D σ U ∧ mm_J U)) (fun _ st o t => (∃ (v : Option Value) (σ' : mm_S), o = .returned v ∧ PR v σ' ∧ mm_H b D σ' t.heap) ∧ va_F (mm_Wd b) st t)
    (fun E st t => (∃ σ' : mm_S, PX E σ' ∧ mm_H b D σ' t.heap) ∧ va_F (mm_Wd b) st t) rm.cells rm.slots (mm_Wd b)
section MMJ
variable {p : Program} {l : Launch} {e : Env} {R : Room} {s : State} {m : MethodId} {args : Array Value} {below : List Frame} {meth : Method} {c : Code} {H : Heap} {locs : List Loc} {cells slots : Nat} {Q : State → Prop}
variable {cc : ByteArray} {pc : Nat} {ls : Array Slot} {rest : List Value} {b : Nat} {D : mm_D} {σ : mm_S} {own : String} {nL a o : Nat}
variable {PR : Option Value → mm_S → Prop} {PX : String → mm_S → Prop} {rm : Room}
theorem mm_fbM {as : List Value} : FrameBlind (va_Pc as (fun U => mm_I b D σ U ∧ mm_J U)) := fun a U g mk h => ⟨h.1, ⟨h.2.1.1, mm_E_moved h.2.1.2 (U := U.calling g mk a) (State.WarmedH.refl U) (fun _ _ _ => rfl)⟩, mm_J_moved (State.WarmedH.refl U).alike h.2.2⟩
theorem mm_ofM {y : MethodName} {cd : Cond} {ret : Option FieldType} {as : List Value} (hy : plainName y.cls = true) (hcd : cd = .code y cc nL ret) (hls : (lg_sl as).length ≤ nL) (hst : l.stackTraces = false)
    (body : ∀ p e s m args below meth c ls, mm_F p l s m args meth c b D y.cls cc nL → (∀ x ∈ c.exceptionTable.toList, False) → meth.sig.returnType = ret → meth.name = y.name → mm_N b D s σ s.heap [] → lv_has ls nL (lv_args 0 as) → mm_J s →
      W p l e rm s m args below meth c s.heap [] 0 0 (mm_Q b D PR PX below args s rm) (F0 m 0 ls [])) : mm_KM l b D y cd rm as σ PR PX := by
  subst hcd
  refine vx_ofW (cc := cc) (maxL := nL) (ret := ret) hy rfl ?_
  intro p e s m args below meth c s₁ B hml ht hv
  obtain ⟨rfl, ⟨hI, hE⟩, hJ⟩ := hv
  have hts := atoms_spec (ws := Cond.code y cc nL ret :: mm_aW) B.pre
  have hl := lv_entry as (n := nL) hls
  rw [lg_entry_eq]
  generalize (lg_sl as ++ List.replicate (nL - (lg_sl as).length) Slot.unset).toArray = ls at hl ⊢
  exact body p e s m as.toArray below meth c ls ⟨B.exec, B.bytes, hml, findClass_of_methodNamed B.named, fun w hw => hts w (List.mem_cons_of_mem _ hw), hE, B.notSynchronized, hst, hI.1⟩ ht B.returns (name_of_methodNamed B.named B.method).1 ⟨hI, va_S.rf⟩ hl hJ
theorem mm_runIM {y : MethodName} {bytes : ByteArray} {maxL index : Nat} {h0 : Nat} {As st0 : List Value} (F : mm_F p l s m args meth c b D own cc nL) (hN : mm_N b D s σ H locs) (hJ : mm_J s) (hM : mm_KM l b D y (.code y bytes maxL none) rm (.ref h0 :: As) σ PR PX) (hname : y.name = "<init>")
    (hlink : Cond.methodLink own index y ∈ mm_aW) (hinst : Cond.instanceMethod y ∈ mm_aW) (hini : Cond.initialized y.cls ∈ mm_aW) (hcode : Cond.code y bytes maxL none ∈ mm_aW) (hcw : mm_cw y As.length maxL rm R)
    (hsize : ls.size = nL) (hst : st0 = As.reverse ++ .ref h0 :: rest) (hW : (rest.map fun v => v.category).sum ≤ 8) (hf : cells + rm.cells ≤ R.cells ∧ slots + rm.slots ≤ R.slots) (hdg : decode cc pc = .ok (.invokespecial index, 3))
    (kx : ∀ (E : String) (σ1 : mm_S) (H1 : Heap) (locs1 : List Loc) (q : Nat) (ce : Cell), PX E σ1 → mm_N b D s σ1 H1 locs1 → H1[q]? = some ce → ce.vm = .none → s.vm.findClass E = some ce.cls → vx_W p l e R s m args below meth c H1 locs1 (cells + rm.cells) (slots + rm.slots) Q (F0 m pc ls rest) q)
    (kk : ∀ (v : Option Value) (σ1 : mm_S) (H1 : Heap) (locs1 : List Loc), PR v σ1 → mm_N b D s σ1 H1 locs1 → W p l e R s m args below meth c H1 locs1 (cells + rm.cells) (slots + rm.slots) Q (F0 m (pc + 3) ls (v.toList ++ rest))) : W p l e R s m args below meth c H locs cells slots Q (F0 m pc ls st0) := by
  obtain ⟨hx, hb, hml, hown, hts, hE, -⟩ := F
  exact mm_back hN (vx_runI (Ts := mm_aW) ⟨hx, hb, hml, hown, hts⟩ hM ⟨callB_of As.length hts (mm_good hcode) rfl rfl rfl (hts _ hini) (hts _ hlink) hcw.1 hcw.2, hname, hts _ hinst⟩ ⟨mm_fbM, fun U hU hW => ⟨rfl, (mm_pre hE hN (as := .ref h0 :: As) U hU hW).2, mm_J_moved hW.alike hJ⟩⟩ rfl rfl hsize hst (lv_room hW) hdg hf) kx kk
/-- new T[N][K] -/
theorem mm_mna0 (F : mm_F p l s m args meth c b D own cc nL) (hN : mm_N b D s σ H locs) (kq kd N K : Nat) {n k : Int32} (hnN : n.toNatClampNeg = N) (hkK : k.toNatClampNeg = K) (hn0 : ¬ n < 0) (hk0 : ¬ k < 0) {ty : FieldType} {index : Nat} {z : vp_A} (hAA : mm_AA ty s) (hlink : Cond.classLink own index ("[" ++ (FieldType.array ty).toString) ∈ mm_aW) (harr : Cond.arrayClass ty ∈ mm_aW)
    (hq1 : s.vm.findClass ("[" ++ (FieldType.array ty).toString) = some (D.2.1 kq)) (hd1 : s.vm.findClass (FieldType.array ty).toString = some (D.2.1 kd)) (hNb : N ≤ 1000) (hKb : K ≤ 1000) (hcb : componentBytes ty ≤ 8) (hdf : fits ty (defaultValue ty) = true) (hdd : (defaultValue ty).isDefault = true)
    (hz : ∀ c : ClassId, Jvm.Free.Multi.innerC c K (defaultValue ty) = vp_cell c z) (hcells : cells + (1 + N) ≤ R.cells) (hslots : slots + (N + N * K) ≤ R.slots) (hdg : decode cc pc = .ok (.multianewarray index 2, 4))
    (kk : ∀ (q : Nat) (r : Nat → Nat) (σ' : mm_S) (H1 : Heap), σ q = none → (∀ i, i < N → σ (r i) = none) → (∀ i, i < N → r i ≠ q) → (∀ i j, i < N → j < N → r i = r j → i = j) →
      σ' q = mm_arq 1 kq N (fun i => if i < N then some (r i) else none) → (∀ i, i < N → σ' (r i) = mm_arr 1 kd z) → (∀ x, x ≠ q → (∀ i, i < N → x ≠ r i) → σ' x = σ x) → mm_N b D s σ' H1 locs →
      W p l e R s m args below meth c H1 locs (cells + 1 + N) (slots + N + N * K) Q (F0 m (pc + 4) ls (.ref q :: rest))) : W p l e R s m args below meth c H locs cells slots Q (F0 m pc ls (.int k :: .int n :: rest)) := by
  obtain ⟨hx, hb, -, hown, hts, -⟩ := F
  subst hnN
  subst hkK
  have hb1 : n.toNatClampNeg * 4 ≤ 536870912 := by omega
  have hb2 : k.toNatClampNeg * componentBytes ty ≤ 536870912 := Nat.le_trans (Nat.mul_le_mul hKb hcb) (by decide)
  intro T hT Xs
  obtain ⟨vm₁, cA, comp, -, fA, fC, -, -, X', step⟩ := Xs.multianewarray2F hx hown (hts _ hlink) hAA (hts _ harr) (g := F0 m pc ls (.int k :: .int n :: rest)) rfl (by rw [hb]; exact hdg) rfl hn0 hk0 hb1 hb2 (by omega) hdf hdd hcells hslots
  cases hq1.symm.trans fA
  cases hd1.symm.trans fC
  generalize hF : Jvm.Free.Multi.fill (T.setVm vm₁) (D.2.1 kq) (D.2.1 kd) n.toNatClampNeg k.toNatClampNeg (defaultValue ty) n.toNatClampNeg = G at X' step
  have hTh : (T.setVm vm₁).heap = H := hT
  obtain ⟨f1, f2, -, -⟩ := Jvm.Free.Multi.fill_facts (T.setVm vm₁) (D.2.1 kq) (D.2.1 kd) n.toNatClampNeg k.toNatClampNeg (defaultValue ty) n.toNatClampNeg
  rw [hF, hTh] at f1 f2
  have hold : ∀ x : Nat, x < H.size → G.heap[x]? = H[x]? := fun x hx9 => by
    have := Jvm.Free.Multi.fill_old (T.setVm vm₁) (D.2.1 kq) (D.2.1 kd) n.toNatClampNeg k.toNatClampNeg (defaultValue ty) (a := x) (by rw [hTh]; exact hx9) n.toNatClampNeg
    rw [hF, hTh] at this
    exact this
  have hrow : ∀ j : Nat, j < n.toNatClampNeg → G.heap[H.size + 1 + j]? = some (vp_cell (D.2.1 kd) z) := fun j hj => by
    have := Jvm.Free.Multi.fill_inner (T.setVm vm₁) (D.2.1 kq) (D.2.1 kd) n.toNatClampNeg k.toNatClampNeg (defaultValue ty) n.toNatClampNeg j hj
    rw [hF, hTh, hz] at this
    exact this
  have hout : Jvm.Free.Multi.outerC (D.2.1 kq) n.toNatClampNeg H.size n.toNatClampNeg = vp_cell (D.2.1 kq) (n.toNatClampNeg, .inr (.inr (.inr (.inr (fun i => if i < n.toNatClampNeg then some (H.size + 1 + i) else none))))) := by
    rw [vp_cell_q]
    exact mm_outer (D.2.1 kq) n.toNatClampNeg H.size n.toNatClampNeg
  rw [hout] at f2
  have hnone : ∀ x, H.size ≤ x → σ x = none := fun x hx9 => mm_H_new hN.1 hx9
  have hbH : b ≤ H.size := hN.1.1
  obtain ⟨σ', hσ'⟩ : ∃ τ : mm_S, τ = fun x => if x = H.size then mm_arq 1 kq n.toNatClampNeg (fun i => if i < n.toNatClampNeg then some (H.size + 1 + i) else none) else if H.size + 1 ≤ x ∧ x < H.size + 1 + n.toNatClampNeg then mm_arr 1 kd z else σ x := ⟨_, rfl⟩
  have g1 : σ' H.size = mm_arq 1 kq n.toNatClampNeg (fun i => if i < n.toNatClampNeg then some (H.size + 1 + i) else none) := by rw [hσ']; exact if_pos rfl
  have g2 : ∀ i, i < n.toNatClampNeg → σ' (H.size + 1 + i) = mm_arr 1 kd z := fun i hi => by
    rw [hσ']
    show (if H.size + 1 + i = H.size then _ else if H.size + 1 ≤ H.size + 1 + i ∧ H.size + 1 + i < H.size + 1 + n.toNatClampNeg then _ else _) = _
    rw [if_neg (by omega), if_pos (by omega)]
  have g3 : ∀ x, x ≠ H.size → (∀ i, i < n.toNatClampNeg → x ≠ H.size + 1 + i) → σ' x = σ x := fun x h1 h2 => by
    rw [hσ']
    show (if x = H.size then _ else if H.size + 1 ≤ x ∧ x < H.size + 1 + n.toNatClampNeg then _ else _) = _
    rw [if_neg h1, if_neg (fun q => h2 (x - (H.size + 1)) (by omega) (by omega))]
  have hlow : ∀ x, x < H.size → σ' x = σ x := fun x hx9 => g3 x (by omega) (fun i _ => by omega)
  have hN2 : mm_N b D s σ' G.heap locs := by
    refine ⟨mm_H_mk hN.1 (by rw [f1]; omega) (fun y hy => ?_) (fun x o9 e9 hx9 => ?_) (fun r hr _ => hold r hr), ⟨by rw [f1]; have := hN.2.1; omega, fun x h1 h2 => (hold x (Nat.lt_of_lt_of_le h1 hN.2.1)).trans (hN.2.2.1 x h1 h2), hN.2.2.2⟩⟩
    · obtain ⟨o9, ci, fs, e1, e2⟩ := hy
      have hy9 : y < H.size := mm_H_lt hN.1 e1
      exact ⟨o9, ci, fs, (hlow y hy9).trans e1, e2⟩
    · by_cases c1 : x = H.size
      · rw [c1, g1] at hx9
        cases hx9
        rw [c1]
        exact Or.inr ⟨hbH, Or.inl (Nat.le_refl _), fun ow => f2⟩
      · by_cases c2 : H.size + 1 ≤ x ∧ x < H.size + 1 + n.toNatClampNeg
        · obtain ⟨i, rfl⟩ : ∃ i, x = H.size + 1 + i := ⟨x - (H.size + 1), by omega⟩
          rw [g2 i (by omega)] at hx9
          cases hx9
          exact Or.inr ⟨by omega, Or.inl (by omega), fun ow => hrow i (by omega)⟩
        · rw [g3 x c1 (fun i hi e => c2 (by omega))] at hx9
          exact Or.inl ⟨hx9, hold x (mm_H_lt hN.1 hx9)⟩
  obtain ⟨t, a1, b1⟩ := kk H.size (fun i => H.size + 1 + i) σ' G.heap (hnone _ (Nat.le_refl _)) (fun i _ => hnone _ (by omega)) (fun i _ => by omega) (fun i j _ _ h => by have h9 : H.size + 1 + i = H.size + 1 + j := h; omega) g1 g2 g3 hN2 G rfl X'
  refine ⟨t, step t ?_, b1⟩
  have e9 : T.heap.size = H.size := by rw [hT]
  rw [e9]
  exact a1
theorem mm_mna (F : mm_F p l s m args meth c b D own cc nL) (hN : mm_N b D s σ H locs) (kq kd N K : Nat) {ty : FieldType} {index : Nat} {z : vp_A} (hAA : mm_AA ty s) (hlink : Cond.classLink own index ("[" ++ (FieldType.array ty).toString) ∈ mm_aW) (harr : Cond.arrayClass ty ∈ mm_aW)
    (hkq : (mm_tys D)[kq]? = some (D.2.1 kq, .array ty)) (hkd : (mm_tys D)[kd]? = some (D.2.1 kd, ty)) (hpr : ∀ C, ty ≠ .object C) (hNb : N ≤ 1000) (hKb : K ≤ 1000) (hcb : componentBytes ty ≤ 8) (hdf : fits ty (defaultValue ty) = true) (hdd : (defaultValue ty).isDefault = true)
    (hz : ∀ c : ClassId, Jvm.Free.Multi.innerC c K (defaultValue ty) = vp_cell c z) (hcells : cells + (1 + N) ≤ R.cells) (hslots : slots + (N + N * K) ≤ R.slots) (hdg : decode cc pc = .ok (.multianewarray index 2, 4))
    (kk : ∀ (q : Nat) (r : Nat → Nat) (σ' : mm_S) (H1 : Heap), σ q = none → (∀ i, i < N → σ (r i) = none) → (∀ i, i < N → r i ≠ q) → (∀ i j, i < N → j < N → r i = r j → i = j) →
      σ' q = mm_arq 1 kq N (fun i => if i < N then some (r i) else none) → (∀ i, i < N → σ' (r i) = mm_arr 1 kd z) → (∀ x, x ≠ q → (∀ i, i < N → x ≠ r i) → σ' x = σ x) → mm_N b D s σ' H1 locs →
      W p l e R s m args below meth c H1 locs (cells + 1 + N) (slots + N + N * K) Q (F0 m (pc + 4) ls (.ref q :: rest))) : W p l e R s m args below meth c H locs cells slots Q (F0 m pc ls (.int (nI K) :: .int (nI N) :: rest)) := by
  have hE := F.2.2.2.2.2.1
  have hd1 : s.vm.findClass (FieldType.array ty).toString = some (D.2.1 kd) := by
    have h := (hE.1.2 kd _ hkd).2
    revert h hpr
    cases ty <;> intro hpr h <;> first | exact h | exact absurd rfl (hpr _)
  have hneg : ∀ x : Nat, x ≤ 1000 → ¬ nI x < 0 := fun x hx => by
    rw [mm_nI0]
    exact Int32.not_lt.mpr ((mm_geB (x := x) (y := 0) (by omega) (by decide)).mpr (by omega))
  exact mm_mna0 F hN kq kd N K (nI_clamp (by omega)) (nI_clamp (by omega)) (hneg N hNb) (hneg K hKb) hAA hlink harr (hE.1.2 kq _ hkq).2 hd1 hNb hKb hcb hdf hdd hz hcells hslots hdg kk
end MMJ
/-! the memory, as far as it is made -/
theorem mm_T0z {k i j : Nat} (hk : k ≠ 0) : nI (mm_T0 k i j) = (0 : Int32) := by
  rw [show mm_T0 k i j = 0 from if_neg (fun z => hk z.1)]
  exact mm_nI0.symm
def mm_B (σ : mm_S) (rd : Nat → Nat → Nat) (L : List Nat) : Prop :=
  (∀ k, k ∈ L → mm_dm k = 1 → σ (rd k 0) = mm_ari 1 (mm_kd k) (mm_sz1 k) (fun i => nI (mm_T0 k i 0))) ∧
  (∀ k, k ∈ L → mm_dm k = 2 → σ (rd k 0) = mm_arq 1 (mm_kq k) (mm_sz1 k) (fun i => if i < mm_sz1 k then some (rd k (i + 1)) else none)) ∧
  (∀ k i, k ∈ L → mm_dm k = 2 → i < mm_sz1 k → σ (rd k (i + 1)) = mm_ari 1 (mm_kd k) (mm_iz k) (fun j => nI (mm_T0 k i j))) ∧
  (∀ k i k' i', k ∈ L → k' ∈ L → mm_lr k i → mm_lr k' i' → rd k i = rd k' i' → k = k' ∧ i = i') ∧ ∀ k, k ∈ L → k ≠ 0
theorem mm_B_some {σ : mm_S} {rd : Nat → Nat → Nat} {L : List Nat} (h : mm_B σ rd L) {k i : Nat} (hk : k ∈ L) (hl : mm_lr k i) : ∃ (kd : Nat) (x : vp_A), σ (rd k i) = mm_arr 1 kd x := by
  rcases hl with ⟨e, -⟩ | ⟨hd, rfl⟩ | ⟨hd, hi⟩
  · exact absurd e (h.2.2.2.2 k hk)
  · exact ⟨_, _, h.1 k hk hd⟩
  · match i, hi with
    | 0, _ => exact ⟨_, _, h.2.1 k hk hd⟩
    | i + 1, hi => exact ⟨_, _, h.2.2.1 k i hk hd hi⟩
theorem mm_B_kp {σ σ' : mm_S} {rd : Nat → Nat → Nat} {L : List Nat} (h : mm_B σ rd L) (hk : ∀ k i, k ∈ L → mm_lr k i → σ' (rd k i) = σ (rd k i)) : mm_B σ' rd L :=
  ⟨fun k hk' hd => (hk k 0 hk' (mm_l1 hd)).trans (h.1 k hk' hd), fun k hk' hd => (hk k 0 hk' (mm_l2 hd)).trans (h.2.1 k hk' hd), fun k i hk' hd hi => (hk k (i + 1) hk' (mm_l2i hd hi)).trans (h.2.2.1 k i hk' hd hi), h.2.2.2⟩
theorem mm_B_put {σ : mm_S} {rd : Nat → Nat → Nat} {L : List Nat} (h : mm_B σ rd L) {x : Nat} {fs fs' : List Value} (hx : σ x = mm_obj 1 7 fs) : mm_B (mm_u σ x (mm_obj 1 7 fs')) rd L :=
  mm_B_kp h (fun k i hk hl => mm_u_ne (fun e => by
    obtain ⟨kd, y, g⟩ := mm_B_some h hk hl
    rw [e, hx] at g
    cases g))
def mm_rdu (rd : Nat → Nat → Nat) (k q : Nat) (r : Nat → Nat) : Nat → Nat → Nat := fun a i => if a = k then (if i = 0 then q else r (i - 1)) else rd a i
theorem mm_B_new1 {σ : mm_S} {rd : Nat → Nat → Nat} {L : List Nat} (h : mm_B σ rd L) {k q : Nat} (hd : mm_dm k = 1) (hk : k ∉ L) (hq : σ q = none) : mm_B (mm_u σ q (mm_ari 1 (mm_kd k) (mm_sz1 k) (fun _ => 0))) (mm_rdu rd k q (fun _ => 0)) (k :: L) := by
  have h0 : ∀ a i, a ∈ L → mm_rdu rd k q (fun _ => 0) a i = rd a i := fun a i ha => if_neg (fun e : a = k => hk (by rw [← e]; exact ha))
  have h1 : mm_rdu rd k q (fun _ => 0) k 0 = q := (if_pos rfl).trans (if_pos rfl)
  have hne : ∀ a i, a ∈ L → mm_lr a i → rd a i ≠ q := fun a i ha hl e => by
    obtain ⟨kd, y, g⟩ := mm_B_some h ha hl
    rw [e, hq] at g
    cases g
  have hk0 : k ≠ 0 := fun e => by rw [e] at hd; exact absurd hd (by decide)
  refine ⟨fun a ha hd' => ?_, fun a ha hd' => ?_, fun a i ha hd' hi => ?_, fun a i a' i' ha ha' hl hl' e => ?_, fun a ha => ?_⟩
  · rcases List.mem_cons.mp ha with rfl | ha
    · rw [h1, mm_u_eq]
      exact congrArg (mm_ari 1 (mm_kd a) (mm_sz1 a)) (funext fun i => (mm_T0z hk0).symm)
    · rw [h0 a 0 ha, mm_u_ne (hne a 0 ha (mm_l1 hd'))]
      exact h.1 a ha hd'
  · rcases List.mem_cons.mp ha with rfl | ha
    · rw [hd] at hd'; cases hd'
    · rw [h0 a 0 ha, mm_u_ne (hne a 0 ha (mm_l2 hd')), h.2.1 a ha hd']
      exact congrArg (mm_arq 1 (mm_kq a) (mm_sz1 a)) (funext fun i => by rw [h0 a (i + 1) ha])
  · rcases List.mem_cons.mp ha with rfl | ha
    · rw [hd] at hd'; cases hd'
    · rw [h0 a (i + 1) ha, mm_u_ne (hne a (i + 1) ha (mm_l2i hd' hi))]
      exact h.2.2.1 a i ha hd' hi
  · have hz : ∀ i, mm_lr k i → i = 0 := fun i hl => by
      rcases hl with ⟨e, -⟩ | ⟨-, e⟩ | ⟨e, -⟩
      · exact absurd e hk0
      · exact e
      · rw [hd] at e; cases e
    rcases List.mem_cons.mp ha with e9 | h8 <;> rcases List.mem_cons.mp ha' with e9' | h8'
    · subst e9; subst e9'
      exact ⟨rfl, by rw [hz i hl, hz i' hl']⟩
    · subst e9
      rw [hz i hl, h1, h0 a' i' h8'] at e
      exact absurd e.symm (hne a' i' h8' hl')
    · subst e9'
      rw [hz i' hl', h1, h0 a i h8] at e
      exact absurd e (hne a i h8 hl)
    · rw [h0 a i h8, h0 a' i' h8'] at e
      exact h.2.2.2.1 a i a' i' h8 h8' hl hl' e
  · rcases List.mem_cons.mp ha with rfl | ha
    · exact hk0
    · exact h.2.2.2.2 a ha
theorem mm_B_new2 {σ σ' : mm_S} {rd : Nat → Nat → Nat} {L : List Nat} (h : mm_B σ rd L) {k q : Nat} {r : Nat → Nat} (hd : mm_dm k = 2) (hk : k ∉ L) (hq : σ q = none) (hr : ∀ i, i < mm_sz1 k → σ (r i) = none) (hrq : ∀ i, i < mm_sz1 k → r i ≠ q) (hi9 : ∀ i j, i < mm_sz1 k → j < mm_sz1 k → r i = r j → i = j)
    (g1 : σ' q = mm_arq 1 (mm_kq k) (mm_sz1 k) (fun i => if i < mm_sz1 k then some (r i) else none)) (g2 : ∀ i, i < mm_sz1 k → σ' (r i) = mm_arr 1 (mm_kd k) (mm_iz k, .inl (fun _ => 0))) (g3 : ∀ x, x ≠ q → (∀ i, i < mm_sz1 k → x ≠ r i) → σ' x = σ x) : mm_B σ' (mm_rdu rd k q r) (k :: L) := by
  have h0 : ∀ a i, a ∈ L → mm_rdu rd k q r a i = rd a i := fun a i ha => if_neg (fun e : a = k => hk (by rw [← e]; exact ha))
  have h1 : mm_rdu rd k q r k 0 = q := (if_pos rfl).trans (if_pos rfl)
  have h2 : ∀ i, mm_rdu rd k q r k (i + 1) = r i := fun i => (if_pos rfl).trans (if_neg (Nat.succ_ne_zero i))
  have hne : ∀ a i, a ∈ L → mm_lr a i → rd a i ≠ q ∧ ∀ j, j < mm_sz1 k → rd a i ≠ r j := fun a i ha hl => by
    obtain ⟨kd, y, g⟩ := mm_B_some h ha hl
    exact ⟨(fun e => by rw [e, hq] at g; cases g), (fun j hj e => by rw [e, hr j hj] at g; cases g)⟩
  have hkp : ∀ a i, a ∈ L → mm_lr a i → σ' (rd a i) = σ (rd a i) := fun a i ha hl => g3 _ (hne a i ha hl).1 (hne a i ha hl).2
  have hk0 : k ≠ 0 := fun e => by rw [e] at hd; exact absurd hd (by decide)
  refine ⟨fun a ha hd' => ?_, fun a ha hd' => ?_, fun a i ha hd' hi => ?_, fun a i a' i' ha ha' hl hl' e => ?_, fun a ha => ?_⟩
  · rcases List.mem_cons.mp ha with rfl | ha
    · rw [hd] at hd'; cases hd'
    · rw [h0 a 0 ha, hkp a 0 ha (mm_l1 hd')]
      exact h.1 a ha hd'
  · rcases List.mem_cons.mp ha with rfl | ha
    · rw [h1, g1]
      exact congrArg (mm_arq 1 (mm_kq a) (mm_sz1 a)) (funext fun i => by rw [h2 i])
    · rw [h0 a 0 ha, hkp a 0 ha (mm_l2 hd'), h.2.1 a ha hd']
      exact congrArg (mm_arq 1 (mm_kq a) (mm_sz1 a)) (funext fun i => by rw [h0 a (i + 1) ha])
  · rcases List.mem_cons.mp ha with rfl | ha
    · rw [h2 i, g2 i hi]
      exact congrArg (mm_ari 1 (mm_kd a) (mm_iz a)) (funext fun j => (mm_T0z hk0).symm)
    · rw [h0 a (i + 1) ha, hkp a (i + 1) ha (mm_l2i hd' hi)]
      exact h.2.2.1 a i ha hd' hi
  · have hz : ∀ i, mm_lr k i → i ≤ mm_sz1 k := fun i hl => by
      rcases hl with ⟨e, -⟩ | ⟨e, -⟩ | ⟨-, e⟩
      · exact absurd e hk0
      · rw [hd] at e; cases e
      · exact e
    have hv : ∀ i, mm_lr k i → (i = 0 ∧ mm_rdu rd k q r k i = q) ∨ ∃ j, j < mm_sz1 k ∧ i = j + 1 ∧ mm_rdu rd k q r k i = r j := fun i hl => by
      have := hz i hl
      match i with
      | 0 => exact Or.inl ⟨rfl, h1⟩
      | j + 1 => exact Or.inr ⟨j, by omega, rfl, h2 j⟩
    rcases List.mem_cons.mp ha with e9 | h8 <;> rcases List.mem_cons.mp ha' with e9' | h8'
    · subst e9; subst e9'
      refine ⟨rfl, ?_⟩
      rcases hv i hl with ⟨e1, e2⟩ | ⟨j, j1, j2, e2⟩ <;> rcases hv i' hl' with ⟨e1', e2'⟩ | ⟨j', j1', j2', e2'⟩
      · rw [e1, e1']
      · rw [e2, e2'] at e; exact absurd e.symm (hrq j' j1')
      · rw [e2, e2'] at e; exact absurd e (hrq j j1)
      · rw [e2, e2'] at e; rw [j2, j2', hi9 j j' j1 j1' e]
    · subst e9
      rw [h0 a' i' h8'] at e
      rcases hv i hl with ⟨-, e2⟩ | ⟨j, j1, -, e2⟩
      · rw [e2] at e; exact absurd e.symm (hne a' i' h8' hl').1
      · rw [e2] at e; exact absurd e.symm ((hne a' i' h8' hl').2 j j1)
    · subst e9'
      rw [h0 a i h8] at e
      rcases hv i' hl' with ⟨-, e2⟩ | ⟨j, j1, -, e2⟩
      · rw [e2] at e; exact absurd e (hne a i h8 hl).1
      · rw [e2] at e; exact absurd e ((hne a i h8 hl).2 j j1)
    · rw [h0 a i h8, h0 a' i' h8'] at e
      exact h.2.2.2.1 a i a' i' h8 h8' hl hl' e
  · rcases List.mem_cons.mp ha with rfl | ha
    · exact hk0
    · exact h.2.2.2.2 a ha
theorem mm_B_M {σ : mm_S} {rd : Nat → Nat → Nat} {L : List Nat} (h : mm_B σ rd L) {x : Nat} (hx : rd 0 0 = x) (h0 : σ x = mm_obj 1 7 (mm_fM mm_T0 0 rd)) (hL : ∀ k, mm_dm k ≠ 0 → k ∈ L) : mm_M σ mm_T0 0 rd := by
  have hin : ∀ k, (mm_dm k = 1 ∨ mm_dm k = 2) → k ∈ L := fun k hk => hL k (by rcases hk with e | e <;> rw [e] <;> decide)
  have hlr : ∀ k i, mm_lr k i → (k = 0 ∧ i = 0) ∨ k ∈ L := fun k i hl => by
    rcases hl with e | ⟨e, -⟩ | ⟨e, -⟩
    · exact Or.inl e
    · exact Or.inr (hin k (Or.inl e))
    · exact Or.inr (hin k (Or.inr e))
  have hne : ∀ k i, k ∈ L → mm_lr k i → rd k i ≠ x := fun k i hk hl e => by
    obtain ⟨kd, y, g⟩ := mm_B_some h hk hl
    rw [e, h0] at g
    cases g
  refine ⟨by rw [hx]; exact h0, fun k hk => h.1 k (hin k (Or.inl hk)) hk, fun k hk => h.2.1 k (hin k (Or.inr hk)) hk, fun k i hk hi => h.2.2.1 k i (hin k (Or.inr hk)) hk hi, fun k i k' i' hl hl' e => ?_⟩
  rcases hlr k i hl with ⟨rfl, rfl⟩ | hk <;> rcases hlr k' i' hl' with ⟨rfl, rfl⟩ | hk'
  · exact ⟨rfl, rfl⟩
  · rw [hx] at e; exact absurd e.symm (hne k' i' hk' hl')
  · rw [hx] at e; exact absurd e (hne k i hk hl)
  · exact h.2.2.2.1 k i k' i' hk hk' hl hl' e
