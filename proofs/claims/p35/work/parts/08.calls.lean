theorem mm_tA : ∀ w ∈ Bundle.throwableAtoms, vx_no w = true → (w ∈ mm_aW ∨ w ∈ mm_nW) := by
  unfold Bundle.throwableAtoms
  exact List.forall_mem_cons.mpr ⟨fun _ => Or.inl mw_6, List.forall_mem_cons.mpr ⟨fun _ => Or.inl mw_147, List.forall_mem_cons.mpr ⟨fun _ => Or.inl mw_156, List.forall_mem_cons.mpr ⟨fun _ => Or.inl mw_163, List.forall_mem_cons.mpr ⟨fun _ => Or.inl mw_166, List.forall_mem_cons.mpr ⟨fun _ => Or.inl mw_168, List.forall_mem_cons.mpr ⟨fun _ => Or.inl mw_148, List.forall_mem_cons.mpr ⟨fun _ => Or.inl mw_149, List.forall_mem_cons.mpr ⟨fun _ => Or.inl mw_40, List.forall_mem_cons.mpr ⟨fun _ => Or.inl mw_41, List.forall_mem_cons.mpr ⟨fun _ => Or.inl mw_150, List.forall_mem_cons.mpr ⟨fun _ => Or.inl mw_155, List.forall_mem_cons.mpr ⟨fun _ => Or.inl mw_164, List.forall_mem_cons.mpr ⟨fun _ => Or.inl mw_184, List.forall_mem_cons.mpr ⟨fun _ => Or.inl mw_137, List.forall_mem_cons.mpr ⟨fun _ => Or.inl mw_185, List.forall_mem_cons.mpr ⟨fun _ => Or.inl mw_139, List.forall_mem_cons.mpr ⟨fun _ => Or.inl mw_186, List.forall_mem_cons.mpr ⟨fun _ => Or.inl mw_141, List.forall_mem_cons.mpr ⟨fun _ => Or.inl mw_151, List.forall_mem_cons.mpr ⟨fun h => absurd h (by decide), List.forall_mem_cons.mpr ⟨fun _ => Or.inl mw_153, List.forall_mem_cons.mpr ⟨fun h => absurd h (by decide), List.forall_mem_cons.mpr ⟨fun _ => Or.inl mw_143, fun _ h => absurd h List.not_mem_nil⟩⟩⟩⟩⟩⟩⟩⟩⟩⟩⟩⟩⟩⟩⟩⟩⟩⟩⟩⟩⟩⟩⟩⟩
theorem mm_tS : ∀ w ∈ Bundle.throwableSAtoms, vx_no w = true → (w ∈ mm_aW ∨ w ∈ mm_nW) := by
  unfold Bundle.throwableSAtoms
  exact List.forall_mem_cons.mpr ⟨fun _ => Or.inl mw_180, List.forall_mem_cons.mpr ⟨fun _ => Or.inl mw_181, List.forall_mem_cons.mpr ⟨fun _ => Or.inl mw_183, List.forall_mem_cons.mpr ⟨fun _ => Or.inl mw_143, fun _ h => absurd h List.not_mem_nil⟩⟩⟩⟩
theorem mm_tR : ∀ w ∈ Bundle.passSAtoms "java/lang/RuntimeException" "java/lang/Exception" 7 Bundle.six, vx_no w = true → (w ∈ mm_aW ∨ w ∈ mm_nW) := by
  unfold Bundle.passSAtoms
  exact List.forall_mem_cons.mpr ⟨fun _ => Or.inl mw_174, List.forall_mem_cons.mpr ⟨fun _ => Or.inl mw_175, List.forall_mem_cons.mpr ⟨fun _ => Or.inl mw_176, List.forall_mem_cons.mpr ⟨fun _ => Or.inl mw_177, List.forall_mem_cons.mpr ⟨fun _ => Or.inr mw_131, fun _ h => absurd h List.not_mem_nil⟩⟩⟩⟩⟩
theorem mm_tE : ∀ w ∈ Bundle.passSAtoms "java/lang/Exception" Bundle.tN 7 Bundle.six, vx_no w = true → (w ∈ mm_aW ∨ w ∈ mm_nW) := by
  unfold Bundle.passSAtoms
  exact List.forall_mem_cons.mpr ⟨fun _ => Or.inl mw_177, List.forall_mem_cons.mpr ⟨fun _ => Or.inl mw_178, List.forall_mem_cons.mpr ⟨fun _ => Or.inl mw_179, List.forall_mem_cons.mpr ⟨fun _ => Or.inl mw_180, List.forall_mem_cons.mpr ⟨fun _ => Or.inr mw_133, fun _ h => absurd h List.not_mem_nil⟩⟩⟩⟩⟩
theorem mm_tIAE {own : String} {ic : Nat} (hL : Cond.methodLink own ic (Bundle.initS "java/lang/IllegalArgumentException") ∈ mm_aW) : ∀ w ∈ Bundle.ownAtoms own ic "java/lang/IllegalArgumentException" ["java/lang/RuntimeException", "java/lang/Exception"], vx_no w = true → (w ∈ mm_aW ∨ w ∈ mm_nW) := by
  unfold Bundle.ownAtoms
  refine List.forall_mem_append.mpr ⟨List.forall_mem_append.mpr ⟨List.forall_mem_append.mpr ⟨mm_tA, mm_tS⟩, List.forall_mem_append.mpr ⟨?_, List.forall_mem_append.mpr ⟨mm_tR, mm_tE⟩⟩⟩, ?_⟩
  · unfold Bundle.passSAtoms
    exact List.forall_mem_cons.mpr ⟨fun _ => Or.inl mw_171, List.forall_mem_cons.mpr ⟨fun _ => Or.inl mw_172, List.forall_mem_cons.mpr ⟨fun _ => Or.inl mw_173, List.forall_mem_cons.mpr ⟨fun _ => Or.inl mw_174, List.forall_mem_cons.mpr ⟨fun _ => Or.inr mw_129, fun _ h => absurd h List.not_mem_nil⟩⟩⟩⟩⟩
  · exact List.forall_mem_cons.mpr ⟨fun _ => Or.inl hL, List.forall_mem_cons.mpr ⟨fun _ => Or.inl mw_126, List.forall_mem_cons.mpr ⟨fun _ => Or.inr mw_127, List.forall_mem_cons.mpr ⟨fun _ => Or.inl mw_134, List.forall_mem_cons.mpr ⟨fun _ => Or.inl mw_135, List.forall_mem_cons.mpr ⟨fun _ => Or.inl mw_136, List.forall_mem_cons.mpr ⟨fun _ => Or.inl mw_138, List.forall_mem_cons.mpr ⟨fun _ => Or.inl mw_140, List.forall_mem_cons.mpr ⟨fun _ => Or.inl mw_142, List.forall_mem_cons.mpr ⟨fun h => absurd h (by decide), List.forall_mem_cons.mpr ⟨fun h => absurd h (by decide), List.forall_mem_cons.mpr ⟨fun _ => Or.inl mw_146, List.forall_mem_cons.mpr ⟨fun _ => Or.inl mw_145, List.forall_mem_cons.mpr ⟨fun _ => Or.inl mw_144, fun _ h => absurd h List.not_mem_nil⟩⟩⟩⟩⟩⟩⟩⟩⟩⟩⟩⟩⟩⟩
theorem mm_tISE {own : String} {ic : Nat} (hL : Cond.methodLink own ic (Bundle.initS "java/lang/IllegalStateException") ∈ mm_aW) : ∀ w ∈ Bundle.ownAtoms own ic "java/lang/IllegalStateException" ["java/lang/RuntimeException", "java/lang/Exception"], vx_no w = true → (w ∈ mm_aW ∨ w ∈ mm_nW) := by
  unfold Bundle.ownAtoms
  refine List.forall_mem_append.mpr ⟨List.forall_mem_append.mpr ⟨List.forall_mem_append.mpr ⟨mm_tA, mm_tS⟩, List.forall_mem_append.mpr ⟨?_, List.forall_mem_append.mpr ⟨mm_tR, mm_tE⟩⟩⟩, ?_⟩
  · unfold Bundle.passSAtoms
    exact List.forall_mem_cons.mpr ⟨fun _ => Or.inl mw_211, List.forall_mem_cons.mpr ⟨fun _ => Or.inl mw_212, List.forall_mem_cons.mpr ⟨fun _ => Or.inl mw_213, List.forall_mem_cons.mpr ⟨fun _ => Or.inl mw_174, List.forall_mem_cons.mpr ⟨fun _ => Or.inr mw_129, fun _ h => absurd h List.not_mem_nil⟩⟩⟩⟩⟩
  · exact List.forall_mem_cons.mpr ⟨fun _ => Or.inl hL, List.forall_mem_cons.mpr ⟨fun _ => Or.inl mw_201, List.forall_mem_cons.mpr ⟨fun _ => Or.inr mw_202, List.forall_mem_cons.mpr ⟨fun _ => Or.inl mw_203, List.forall_mem_cons.mpr ⟨fun _ => Or.inl mw_160, List.forall_mem_cons.mpr ⟨fun _ => Or.inl mw_204, List.forall_mem_cons.mpr ⟨fun _ => Or.inl mw_205, List.forall_mem_cons.mpr ⟨fun _ => Or.inl mw_206, List.forall_mem_cons.mpr ⟨fun _ => Or.inl mw_207, List.forall_mem_cons.mpr ⟨fun h => absurd h (by decide), List.forall_mem_cons.mpr ⟨fun h => absurd h (by decide), List.forall_mem_cons.mpr ⟨fun _ => Or.inl mw_146, List.forall_mem_cons.mpr ⟨fun _ => Or.inl mw_145, List.forall_mem_cons.mpr ⟨fun _ => Or.inl mw_208, fun _ h => absurd h List.not_mem_nil⟩⟩⟩⟩⟩⟩⟩⟩⟩⟩⟩⟩⟩⟩
theorem mm_tIOB {own : String} {ic : Nat} (hL : Cond.methodLink own ic (Bundle.initS "java/lang/IndexOutOfBoundsException") ∈ mm_aW) : ∀ w ∈ Bundle.ownAtoms own ic "java/lang/IndexOutOfBoundsException" ["java/lang/RuntimeException", "java/lang/Exception"], vx_no w = true → (w ∈ mm_aW ∨ w ∈ mm_nW) := by
  unfold Bundle.ownAtoms
  refine List.forall_mem_append.mpr ⟨List.forall_mem_append.mpr ⟨List.forall_mem_append.mpr ⟨mm_tA, mm_tS⟩, List.forall_mem_append.mpr ⟨?_, List.forall_mem_append.mpr ⟨mm_tR, mm_tE⟩⟩⟩, ?_⟩
  · unfold Bundle.passSAtoms
    exact List.forall_mem_cons.mpr ⟨fun _ => Or.inl mw_317, List.forall_mem_cons.mpr ⟨fun _ => Or.inl mw_318, List.forall_mem_cons.mpr ⟨fun _ => Or.inl mw_319, List.forall_mem_cons.mpr ⟨fun _ => Or.inl mw_174, List.forall_mem_cons.mpr ⟨fun _ => Or.inr mw_129, fun _ h => absurd h List.not_mem_nil⟩⟩⟩⟩⟩
  · exact List.forall_mem_cons.mpr ⟨fun _ => Or.inl hL, List.forall_mem_cons.mpr ⟨fun _ => Or.inl mw_345, List.forall_mem_cons.mpr ⟨fun _ => Or.inr mw_346, List.forall_mem_cons.mpr ⟨fun _ => Or.inl mw_347, List.forall_mem_cons.mpr ⟨fun _ => Or.inl mw_161, List.forall_mem_cons.mpr ⟨fun _ => Or.inl mw_348, List.forall_mem_cons.mpr ⟨fun _ => Or.inl mw_349, List.forall_mem_cons.mpr ⟨fun _ => Or.inl mw_350, List.forall_mem_cons.mpr ⟨fun _ => Or.inl mw_351, List.forall_mem_cons.mpr ⟨fun h => absurd h (by decide), List.forall_mem_cons.mpr ⟨fun h => absurd h (by decide), List.forall_mem_cons.mpr ⟨fun _ => Or.inl mw_146, List.forall_mem_cons.mpr ⟨fun _ => Or.inl mw_145, List.forall_mem_cons.mpr ⟨fun _ => Or.inl mw_352, fun _ h => absurd h List.not_mem_nil⟩⟩⟩⟩⟩⟩⟩⟩⟩⟩⟩⟩⟩⟩
theorem mm_tARE {own : String} {ic : Nat} (hL : Cond.methodLink own ic (Bundle.initS "java/lang/ArithmeticException") ∈ mm_aW) : ∀ w ∈ Bundle.ownAtoms own ic "java/lang/ArithmeticException" ["java/lang/RuntimeException", "java/lang/Exception"], vx_no w = true → (w ∈ mm_aW ∨ w ∈ mm_nW) := by
  unfold Bundle.ownAtoms
  refine List.forall_mem_append.mpr ⟨List.forall_mem_append.mpr ⟨List.forall_mem_append.mpr ⟨mm_tA, mm_tS⟩, List.forall_mem_append.mpr ⟨?_, List.forall_mem_append.mpr ⟨mm_tR, mm_tE⟩⟩⟩, ?_⟩
  · unfold Bundle.passSAtoms
    exact List.forall_mem_cons.mpr ⟨fun _ => Or.inl mw_1069, List.forall_mem_cons.mpr ⟨fun _ => Or.inl mw_1070, List.forall_mem_cons.mpr ⟨fun _ => Or.inl mw_1071, List.forall_mem_cons.mpr ⟨fun _ => Or.inl mw_174, List.forall_mem_cons.mpr ⟨fun _ => Or.inr mw_129, fun _ h => absurd h List.not_mem_nil⟩⟩⟩⟩⟩
  · exact List.forall_mem_cons.mpr ⟨fun _ => Or.inl hL, List.forall_mem_cons.mpr ⟨fun _ => Or.inl mw_1068, List.forall_mem_cons.mpr ⟨fun _ => Or.inr mw_1079, List.forall_mem_cons.mpr ⟨fun _ => Or.inl mw_1080, List.forall_mem_cons.mpr ⟨fun _ => Or.inl mw_158, List.forall_mem_cons.mpr ⟨fun _ => Or.inl mw_1074, List.forall_mem_cons.mpr ⟨fun _ => Or.inl mw_1075, List.forall_mem_cons.mpr ⟨fun _ => Or.inl mw_1077, List.forall_mem_cons.mpr ⟨fun _ => Or.inl mw_1073, List.forall_mem_cons.mpr ⟨fun h => absurd h (by decide), List.forall_mem_cons.mpr ⟨fun h => absurd h (by decide), List.forall_mem_cons.mpr ⟨fun _ => Or.inl mw_146, List.forall_mem_cons.mpr ⟨fun _ => Or.inl mw_145, List.forall_mem_cons.mpr ⟨fun _ => Or.inl mw_1072, fun _ h => absurd h List.not_mem_nil⟩⟩⟩⟩⟩⟩⟩⟩⟩⟩⟩⟩⟩⟩
theorem mm_thr_ok {L : List Cond} (h : ∀ w ∈ L, vx_no w = true → (w ∈ mm_aW ∨ w ∈ mm_nW)) {args : Array Value} {s : State} (hts : ∀ w ∈ mm_aW, w.before args s = true) (hn : ∀ w ∈ mm_nW, va_Nw w s) : (∀ w ∈ L.filter vx_no, w.before args s = true) ∧ ∀ w ∈ L.filter vx_no, vx_ot w = true := by
  have key : ∀ w ∈ L.filter vx_no, (w.before args s = true) ∧ vx_ot w = true := by
    intro w hw
    obtain ⟨h1, h2⟩ := List.mem_filter.mp hw
    rcases h w h1 h2 with g | g
    · exact ⟨hts w g, by unfold vx_ot; rw [(List.mem_filter.mp g).2, Bool.or_true]⟩
    · have hb : mm_nb w = true := (List.mem_filter.mp g).2
      have ho : w.onTables = true := by cases w <;> first | rfl | (simp [mm_nb] at hb)
      exact ⟨va_Nw.use ho (hn w g), by unfold vx_ot; rw [ho, Bool.true_or]⟩
  exact ⟨fun w hw => (key w hw).1, fun w hw => (key w hw).2⟩
section MMC
variable {p : Program} {l : Launch} {e : Env} {R : Room} {s : State} {m : MethodId} {args : Array Value} {below : List Frame} {meth : Method} {c : Code} {H : Heap} {locs : List Loc} {cells slots : Nat} {Q : State → Prop}
variable {cc : ByteArray} {pc : Nat} {ls : Array Slot} {rest : List Value} {b : Nat} {D : mm_D} {σ : mm_S} {own : String} {nL a o : Nat}
variable {PR : Option Value → mm_S → Prop} {PX : String → mm_S → Prop} {rm : Room}
theorem mm_fb {as : List Value} : FrameBlind (va_Pc as (fun U => mm_I b D σ U)) := fun a U g mk h => ⟨h.1, h.2.1, mm_E_moved h.2.2 (U := U.calling g mk a) (State.WarmedH.refl U) (fun _ _ _ => rfl)⟩
theorem mm_pre (hE : mm_E b D s) (hN : mm_N b D s σ H locs) {as : List Value} : ∀ U : State, U.heap = H → s.WarmedH U.vm → va_Pc as (fun U => mm_I b D σ U) as.toArray U :=
  fun U hU hW => ⟨rfl, by rw [hU]; exact hN.1, mm_E_moved hE hW (fun q h1 h2 => by rw [hU]; exact hN.2.2.1 q h1 h2)⟩
/-- behind a call -/
theorem mm_back {st0 : List Value} (hN : mm_N b D s σ H locs) (hr : vx_Run p l e R s m args below meth c H locs cells slots rm.cells rm.slots (F0 m pc ls st0) rest (fun st o t => (∃ (v : Option Value) (σ' : mm_S), o = .returned v ∧ PR v σ' ∧ mm_H b D σ' t.heap) ∧ va_F (mm_Wd b) st t) (fun E st t => (∃ σ' : mm_S, PX E σ' ∧ mm_H b D σ' t.heap) ∧ va_F (mm_Wd b) st t) (mm_Wd b))
    (kx : ∀ (E : String) (σ1 : mm_S) (H1 : Heap) (locs1 : List Loc) (q : Nat) (ce : Cell), PX E σ1 → mm_N b D s σ1 H1 locs1 → H1[q]? = some ce → ce.vm = .none → s.vm.findClass E = some ce.cls → vx_W p l e R s m args below meth c H1 locs1 (cells + rm.cells) (slots + rm.slots) Q (F0 m pc ls rest) q)
    (kk : ∀ (v : Option Value) (σ1 : mm_S) (H1 : Heap) (locs1 : List Loc), PR v σ1 → mm_N b D s σ1 H1 locs1 → W p l e R s m args below meth c H1 locs1 (cells + rm.cells) (slots + rm.slots) Q (F0 m (pc + 3) ls (v.toList ++ rest))) : W p l e R s m args below meth c H locs cells slots Q (F0 m pc ls st0) := by
  intro T hT X
  rcases hr T hT X with ⟨v, st₀, t, T', L, h0, X', hL, e1, e2, ⟨⟨v', σ', hv, hp, hb⟩, hF⟩, st⟩ | ⟨q, st₀, t, T', L, E, ce, h0, X', hL, e1, e2, ⟨⟨σ', hp, hb⟩, hF⟩, hce, hcv, hcl, st⟩
  · cases hv
    obtain ⟨k1, k2, k3⟩ := vx_keep h0 e1 hN.2 (fun _ _ h => h) (fun _ h => h) hL hF
    obtain ⟨t2, a1, b1⟩ := kk v σ' T'.heap (locs ++ L) hp ⟨by rw [e1]; exact hb, k3⟩ T' rfl X'
    exact ⟨t2, st t2 a1, b1⟩
  · obtain ⟨k1, k2, k3⟩ := vx_keep h0 e1 hN.2 (fun _ _ h => h) (fun _ h => h) hL hF
    obtain ⟨t2, a1, b1⟩ := kx E σ' T'.heap (locs ++ L) q ce hp ⟨by rw [e1]; exact hb, k3⟩ (by rw [e1]; exact hce) hcv hcl T' rfl X'
    exact ⟨t2, st.trans a1, b1⟩
theorem mm_good {y : MethodName} {bytes : ByteArray} {maxL : Nat} {ret : Option FieldType} (h : Cond.code y bytes maxL ret ∈ mm_aW) : GoodIn mm_aW (Cond.code y bytes maxL ret :: mm_aW) := fun w hw => by
  rcases List.mem_cons.mp hw with rfl | hw
  · exact ⟨h, mm_aW_good h⟩
  · exact ⟨hw, mm_aW_good hw⟩
variable {y : MethodName} {bytes : ByteArray} {maxL index : Nat} {ret : Option FieldType} {h0 : Nat} {As st0 : List Value}
/-- the side conditions of every call: descriptor, names, room -/
abbrev mm_cw (y : MethodName) (n maxL : Nat) (rm R : Room) : Prop := (y.cls ≠ "java/lang/invoke/MethodHandle" ∧ y.cls ≠ "java/lang/invoke/VarHandle" ∧ (parseMethodDescriptor y.desc).map (fun d => d.parameters.length) = some n) ∧ rm.frames + 1 ≤ R.frames ∧ 8 + (maxL + 11) + rm.locals ≤ R.locals
theorem mm_runV (F : mm_F p l s m args meth c b D own cc nL) (hN : mm_N b D s σ H locs) (hM : mm_K l b D y (.code y bytes maxL ret) rm (.ref h0 :: As) σ PR PX)
    (hlink : Cond.methodLink own index y ∈ mm_aW) (hinst : Cond.instanceMethod y ∈ mm_aW) (hsel : Cond.selects y.cls y y ∈ mm_aW) (hini : Cond.initialized y.cls ∈ mm_aW) (hcode : Cond.code y bytes maxL ret ∈ mm_aW) (hcw : mm_cw y As.length maxL rm R)
    (hrecv : ∃ cell : Cell, H[h0]? = some cell ∧ cell.vm.isStatics = false ∧ s.vm.findClass y.cls = some cell.cls) (hsize : ls.size = nL) (hst : st0 = As.reverse ++ .ref h0 :: rest) (hW : (rest.map fun v => v.category).sum ≤ 8) (hf : cells + rm.cells ≤ R.cells ∧ slots + rm.slots ≤ R.slots) (hdg : decode cc pc = .ok (.invokevirtual index, 3))
    (kx : ∀ (E : String) (σ1 : mm_S) (H1 : Heap) (locs1 : List Loc) (q : Nat) (ce : Cell), PX E σ1 → mm_N b D s σ1 H1 locs1 → H1[q]? = some ce → ce.vm = .none → s.vm.findClass E = some ce.cls → vx_W p l e R s m args below meth c H1 locs1 (cells + rm.cells) (slots + rm.slots) Q (F0 m pc ls rest) q)
    (kk : ∀ (v : Option Value) (σ1 : mm_S) (H1 : Heap) (locs1 : List Loc), PR v σ1 → mm_N b D s σ1 H1 locs1 → W p l e R s m args below meth c H1 locs1 (cells + rm.cells) (slots + rm.slots) Q (F0 m (pc + 3) ls (v.toList ++ rest))) : W p l e R s m args below meth c H locs cells slots Q (F0 m pc ls st0) := by
  obtain ⟨hx, hb, hml, hown, hts, hE, -⟩ := F
  exact mm_back hN (vx_runV (Ts := mm_aW) ⟨hx, hb, hml, hown, hts⟩ hM ⟨callB_of As.length hts (mm_good hcode) rfl rfl rfl (hts _ hini) (hts _ hlink) hcw.1 hcw.2, hts _ hinst, hts _ hsel⟩ ⟨mm_fb, hrecv, mm_pre hE hN⟩ rfl rfl hsize hst (lv_room hW) hdg hf) kx kk
theorem mm_runS (F : mm_F p l s m args meth c b D own cc nL) (hN : mm_N b D s σ H locs) (hM : mm_K l b D y (.code y bytes maxL ret) rm As σ PR PX)
    (hlink : Cond.methodLink own index y ∈ mm_aW) (hstat : Cond.static y ∈ mm_aW) (hini : Cond.initialized y.cls ∈ mm_aW) (hcode : Cond.code y bytes maxL ret ∈ mm_aW) (hcw : mm_cw y As.length maxL rm R)
    (hsize : ls.size = nL) (hst : st0 = As.reverse ++ rest) (hW : (rest.map fun v => v.category).sum ≤ 8) (hf : cells + rm.cells ≤ R.cells ∧ slots + rm.slots ≤ R.slots) (hdg : decode cc pc = .ok (.invokestatic index, 3))
    (kx : ∀ (E : String) (σ1 : mm_S) (H1 : Heap) (locs1 : List Loc) (q : Nat) (ce : Cell), PX E σ1 → mm_N b D s σ1 H1 locs1 → H1[q]? = some ce → ce.vm = .none → s.vm.findClass E = some ce.cls → vx_W p l e R s m args below meth c H1 locs1 (cells + rm.cells) (slots + rm.slots) Q (F0 m pc ls rest) q)
    (kk : ∀ (v : Option Value) (σ1 : mm_S) (H1 : Heap) (locs1 : List Loc), PR v σ1 → mm_N b D s σ1 H1 locs1 → W p l e R s m args below meth c H1 locs1 (cells + rm.cells) (slots + rm.slots) Q (F0 m (pc + 3) ls (v.toList ++ rest))) : W p l e R s m args below meth c H locs cells slots Q (F0 m pc ls st0) := by
  obtain ⟨hx, hb, hml, hown, hts, hE, -⟩ := F
  exact mm_back hN (vx_runS (Ts := mm_aW) ⟨hx, hb, hml, hown, hts⟩ hM ⟨callB_of As.length hts (mm_good hcode) rfl rfl rfl (hts _ hini) (hts _ hlink) hcw.1 hcw.2, hts _ hstat⟩ ⟨mm_fb, mm_pre hE hN⟩ rfl rfl hsize hst (lv_room hW) hdg hf) kx kk
theorem mm_runI (F : mm_F p l s m args meth c b D own cc nL) (hN : mm_N b D s σ H locs) (hM : mm_K l b D y (.code y bytes maxL none) rm (.ref h0 :: As) σ PR PX) (hname : y.name = "<init>")
    (hlink : Cond.methodLink own index y ∈ mm_aW) (hinst : Cond.instanceMethod y ∈ mm_aW) (hini : Cond.initialized y.cls ∈ mm_aW) (hcode : Cond.code y bytes maxL none ∈ mm_aW) (hcw : mm_cw y As.length maxL rm R)
    (hsize : ls.size = nL) (hst : st0 = As.reverse ++ .ref h0 :: rest) (hW : (rest.map fun v => v.category).sum ≤ 8) (hf : cells + rm.cells ≤ R.cells ∧ slots + rm.slots ≤ R.slots) (hdg : decode cc pc = .ok (.invokespecial index, 3))
    (kx : ∀ (E : String) (σ1 : mm_S) (H1 : Heap) (locs1 : List Loc) (q : Nat) (ce : Cell), PX E σ1 → mm_N b D s σ1 H1 locs1 → H1[q]? = some ce → ce.vm = .none → s.vm.findClass E = some ce.cls → vx_W p l e R s m args below meth c H1 locs1 (cells + rm.cells) (slots + rm.slots) Q (F0 m pc ls rest) q)
    (kk : ∀ (v : Option Value) (σ1 : mm_S) (H1 : Heap) (locs1 : List Loc), PR v σ1 → mm_N b D s σ1 H1 locs1 → W p l e R s m args below meth c H1 locs1 (cells + rm.cells) (slots + rm.slots) Q (F0 m (pc + 3) ls (v.toList ++ rest))) : W p l e R s m args below meth c H locs cells slots Q (F0 m pc ls st0) := by
  obtain ⟨hx, hb, hml, hown, hts, hE, -⟩ := F
  exact mm_back hN (vx_runI (Ts := mm_aW) ⟨hx, hb, hml, hown, hts⟩ hM ⟨callB_of As.length hts (mm_good hcode) rfl rfl rfl (hts _ hini) (hts _ hlink) hcw.1 hcw.2, hname, hts _ hinst⟩ ⟨mm_fb, mm_pre hE hN⟩ rfl rfl hsize hst (lv_room hW) hdg hf) kx kk
theorem mm_cn {host : String} (hts : ∀ w ∈ mm_aW, w.before args s = true) (hE : mm_E b D s) (hlink : Cond.methodLinkNest own index y host ∈ mm_nW) (hini : Cond.initialized y.cls ∈ mm_aW) (hcode : Cond.code y bytes maxL ret ∈ mm_aW) {n : Nat} (hcw : mm_cw y n maxL rm R) : va_CN R s args own index y host bytes maxL ret (.code y bytes maxL ret :: mm_aW) rm rm.cells rm.slots n :=
  va_cnB n hts (mm_good hcode) rfl rfl rfl (hE.2.1 _ hlink) (hts _ hini) hcw.1 hcw.2
theorem mm_runIN {host : String} (F : mm_F p l s m args meth c b D own cc nL) (hN : mm_N b D s σ H locs) (hM : mm_K l b D y (.code y bytes maxL none) rm (.ref h0 :: As) σ PR PX) (hname : y.name = "<init>")
    (hlink : Cond.methodLinkNest own index y host ∈ mm_nW) (hinst : Cond.instanceMethod y ∈ mm_aW) (hini : Cond.initialized y.cls ∈ mm_aW) (hcode : Cond.code y bytes maxL none ∈ mm_aW) (hcw : mm_cw y As.length maxL rm R)
    (hsize : ls.size = nL) (hst : st0 = As.reverse ++ .ref h0 :: rest) (hW : (rest.map fun v => v.category).sum ≤ 8) (hf : cells + rm.cells ≤ R.cells ∧ slots + rm.slots ≤ R.slots) (hdg : decode cc pc = .ok (.invokespecial index, 3))
    (kx : ∀ (E : String) (σ1 : mm_S) (H1 : Heap) (locs1 : List Loc) (q : Nat) (ce : Cell), PX E σ1 → mm_N b D s σ1 H1 locs1 → H1[q]? = some ce → ce.vm = .none → s.vm.findClass E = some ce.cls → vx_W p l e R s m args below meth c H1 locs1 (cells + rm.cells) (slots + rm.slots) Q (F0 m pc ls rest) q)
    (kk : ∀ (v : Option Value) (σ1 : mm_S) (H1 : Heap) (locs1 : List Loc), PR v σ1 → mm_N b D s σ1 H1 locs1 → W p l e R s m args below meth c H1 locs1 (cells + rm.cells) (slots + rm.slots) Q (F0 m (pc + 3) ls (v.toList ++ rest))) : W p l e R s m args below meth c H locs cells slots Q (F0 m pc ls st0) := by
  obtain ⟨hx, hb, hml, hown, hts, hE, -⟩ := F
  exact mm_back hN (vx_runIN (Ts := mm_aW) ⟨hx, hb, hml, hown, hts⟩ hM ⟨mm_cn hts hE hlink hini hcode hcw, hname, hts _ hinst⟩ ⟨mm_fb, mm_pre hE hN⟩ rfl rfl hsize hst (lv_room hW) hdg hf) kx kk
theorem mm_runSN {host : String} (F : mm_F p l s m args meth c b D own cc nL) (hN : mm_N b D s σ H locs) (hM : mm_K l b D y (.code y bytes maxL ret) rm As σ PR PX)
    (hlink : Cond.methodLinkNest own index y host ∈ mm_nW) (hstat : Cond.static y ∈ mm_aW) (hini : Cond.initialized y.cls ∈ mm_aW) (hcode : Cond.code y bytes maxL ret ∈ mm_aW) (hcw : mm_cw y As.length maxL rm R)
    (hsize : ls.size = nL) (hst : st0 = As.reverse ++ rest) (hW : (rest.map fun v => v.category).sum ≤ 8) (hf : cells + rm.cells ≤ R.cells ∧ slots + rm.slots ≤ R.slots) (hdg : decode cc pc = .ok (.invokestatic index, 3))
    (kx : ∀ (E : String) (σ1 : mm_S) (H1 : Heap) (locs1 : List Loc) (q : Nat) (ce : Cell), PX E σ1 → mm_N b D s σ1 H1 locs1 → H1[q]? = some ce → ce.vm = .none → s.vm.findClass E = some ce.cls → vx_W p l e R s m args below meth c H1 locs1 (cells + rm.cells) (slots + rm.slots) Q (F0 m pc ls rest) q)
    (kk : ∀ (v : Option Value) (σ1 : mm_S) (H1 : Heap) (locs1 : List Loc), PR v σ1 → mm_N b D s σ1 H1 locs1 → W p l e R s m args below meth c H1 locs1 (cells + rm.cells) (slots + rm.slots) Q (F0 m (pc + 3) ls (v.toList ++ rest))) : W p l e R s m args below meth c H locs cells slots Q (F0 m pc ls st0) := by
  obtain ⟨hx, hb, hml, hown, hts, hE, -⟩ := F
  exact mm_back hN (vx_runSN (Ts := mm_aW) ⟨hx, hb, hml, hown, hts⟩ hM ⟨mm_cn hts hE hlink hini hcode hcw, hts _ hstat, trivial⟩ ⟨mm_fb, mm_pre hE hN⟩ rfl rfl hsize hst (lv_room hW) hdg hf) kx kk
/-- an exception that isn't caught here -/
theorem mm_out (F : mm_F p l s m args meth c b D own cc nL) (ht : ∀ x ∈ c.exceptionTable.toList, False) (hN : mm_N b D s σ H locs) {E : String} {q : Nat} {ce : Cell} (hp : PX E σ) (hq : H[q]? = some ce) (hv : ce.vm = .none) (hcl : s.vm.findClass E = some ce.cls) (hc : cells ≤ rm.cells) (hs : slots ≤ rm.slots) :
    vx_W p l e R s m args below meth c H locs cells slots (mm_Q b D PR PX below args s rm) (F0 m pc ls rest) q :=
  vx_out (fun x hx => (ht x hx).elim) F.2.2.2.2.2.2.1 hq hv hcl (fun t ht1 _ => ⟨⟨σ, hp, by rw [ht1]; exact hN.1⟩, hN.2.F ht1⟩) hN.2.2.2 hc hs
/-- throw new E("text") -/
theorem mm_throw (F : mm_F p l s m args meth c b D own cc nL) (ht : ∀ x ∈ c.exceptionTable.toList, False) (hN : mm_N b D s σ H locs) {cls text : String} {ik is ic : Nat} (hcls : Bundle.fit cls = true) (hat : ∀ w ∈ Bundle.ownAtoms own ic cls ["java/lang/RuntimeException", "java/lang/Exception"], vx_no w = true → (w ∈ mm_aW ∨ w ∈ mm_nW)) (hk : Cond.classLink own ik cls ∈ mm_aW) (hini : Cond.initialized cls ∈ mm_aW) (hstr : (own, is, text) ∈ mm_st) (hsize : ls.size = nL)
    (d0 : decode cc pc = .ok (.new ik, 3)) (d3 : decode cc (pc + 3) = .ok (.dup, 1)) (d4 : decode cc (pc + 4) = .ok (.ldc is, 2)) (d6 : decode cc (pc + 6) = .ok (.invokespecial ic, 3)) (d9 : decode cc (pc + 9) = .ok (.athrow, 1))
    (hR : 5 < R.frames ∧ (rest.map fun v => v.category).sum + 82 ≤ R.locals ∧ cells + 1 ≤ R.cells ∧ slots + 6 ≤ R.slots) (hp : PX cls σ) (hc : cells + 1 ≤ rm.cells) (hs : slots + 6 ≤ rm.slots) :
    W p l e R s m args below meth c H locs cells slots (mm_Q b D PR PX below args s rm) (F0 m pc ls rest) := by
  obtain ⟨hx, hb, hml, hown, hts, hE, hlk, hst, -⟩ := F
  obtain ⟨k1, k2⟩ := mm_thr_ok hat hts hE.2.1
  obtain ⟨sa, hsa⟩ := hE.2.2.2.1 _ hstr
  refine vx_throwS (names := ["java/lang/RuntimeException", "java/lang/Exception"]) hx hb hst hown hcls (by decide) (hts _ hk) (hts _ hini) hsa k1 (fun w hw => ?_) hE.2.2.2.2.1.1 hE.2.2.2.2.1.2 hN.2 (hsize.trans hml.symm) d0 d3 d4 d6 d9 (fun x hx => (ht x hx).elim) hR.1 hR.2.1 hR.2.2.1 hR.2.2.2 hlk (fun t _ h1 h2 => ⟨⟨σ, hp, mm_H_kept hN.1 h1 h2⟩, ⟨Nat.le_trans hN.2.1 h1, fun q g1 g2 => (h2 q (Nat.lt_of_lt_of_le g1 hN.2.1)).trans (hN.2.2.1 q g1 g2)⟩⟩) hN.2.2.2 hc hs
  rcases List.mem_cons.mp hw with rfl | hw
  · rfl
  · rcases List.mem_cons.mp hw with rfl | hw
    · rfl
    · exact k2 w hw
theorem mm_throwW (F : mm_F p l s m args meth c b D own cc nL) (ht : ∀ x ∈ c.exceptionTable.toList, False) (hN : mm_N b D s σ H locs) {cls text : String} {ik is ic : Nat} (hcls : Bundle.fit cls = true) (hat : ∀ w ∈ Bundle.ownAtoms own ic cls ["java/lang/RuntimeException", "java/lang/Exception"], vx_no w = true → (w ∈ mm_aW ∨ w ∈ mm_nW)) (hk : Cond.classLink own ik cls ∈ mm_aW) (hini : Cond.initialized cls ∈ mm_aW) (hstr : (own, is, text) ∈ mm_st) (hsize : ls.size = nL)
    (d0 : decode cc pc = .ok (.new ik, 3)) (d3 : decode cc (pc + 3) = .ok (.dup, 1)) (d4 : decode cc (pc + 4) = .ok (.ldc_w is, 3)) (d7 : decode cc (pc + 7) = .ok (.invokespecial ic, 3)) (d10 : decode cc (pc + 10) = .ok (.athrow, 1))
    (hR : 5 < R.frames ∧ (rest.map fun v => v.category).sum + 82 ≤ R.locals ∧ cells + 1 ≤ R.cells ∧ slots + 6 ≤ R.slots) (hp : PX cls σ) (hc : cells + 1 ≤ rm.cells) (hs : slots + 6 ≤ rm.slots) :
    W p l e R s m args below meth c H locs cells slots (mm_Q b D PR PX below args s rm) (F0 m pc ls rest) := by
  obtain ⟨hx, hb, hml, hown, hts, hE, hlk, hst, -⟩ := F
  obtain ⟨k1, k2⟩ := mm_thr_ok hat hts hE.2.1
  obtain ⟨sa, hsa⟩ := hE.2.2.2.1 _ hstr
  refine vx_throwSW (names := ["java/lang/RuntimeException", "java/lang/Exception"]) hx hb hst hown hcls (by decide) (hts _ hk) (hts _ hini) hsa k1 (fun w hw => ?_) hE.2.2.2.2.1.1 hE.2.2.2.2.1.2 hN.2 (hsize.trans hml.symm) d0 d3 d4 d7 d10 (fun x hx => (ht x hx).elim) hR.1 hR.2.1 hR.2.2.1 hR.2.2.2 hlk (fun t _ h1 h2 => ⟨⟨σ, hp, mm_H_kept hN.1 h1 h2⟩, ⟨Nat.le_trans hN.2.1 h1, fun q g1 g2 => (h2 q (Nat.lt_of_lt_of_le g1 hN.2.1)).trans (hN.2.2.1 q g1 g2)⟩⟩) hN.2.2.2 hc hs
  rcases List.mem_cons.mp hw with rfl | hw
  · rfl
  · rcases List.mem_cons.mp hw with rfl | hw
    · rfl
    · exact k2 w hw
end MMC
