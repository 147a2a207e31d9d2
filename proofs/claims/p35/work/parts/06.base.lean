/-! the world: a ghost heap over the addresses from b on; an owner (0: the class, 1: the reference, 2: the law), and what lies there -/
abbrev mm_D : Type := va_G × (Nat → ClassId) × Nat
abbrev mm_e : Type := (Nat × vp_A) ⊕ ((Nat × List Value) ⊕ List Nat)
abbrev mm_S : Type := Nat → Option (Nat × mm_e)
abbrev mm_obj (o ci : Nat) (fs : List Value) : Option (Nat × mm_e) := some (o, .inr (.inl (ci, fs)))
abbrev mm_arr (o k : Nat) (x : vp_A) : Option (Nat × mm_e) := some (o, .inl (k, x))
abbrev mm_ari (o k n : Nat) (f : Nat → Int32) : Option (Nat × mm_e) := some (o, .inl (k, n, .inl f))
abbrev mm_arj (o k n : Nat) (f : Nat → Int64) : Option (Nat × mm_e) := some (o, .inl (k, n, .inr (.inl f)))
abbrev mm_ard (o k n : Nat) (f : Nat → UInt64) : Option (Nat × mm_e) := some (o, .inl (k, n, .inr (.inr (.inr (.inl f)))))
abbrev mm_arq (o k n : Nat) (f : Nat → Option Nat) : Option (Nat × mm_e) := some (o, .inl (k, n, .inr (.inr (.inr (.inr f)))))
abbrev mm_lst (o : Nat) (L : List Nat) : Option (Nat × mm_e) := some (o, .inr (.inr L))
def mm_u (σ : mm_S) (a : Nat) (x : Option (Nat × mm_e)) : mm_S := fun q => if q = a then x else σ q
theorem mm_u_eq {σ : mm_S} {a : Nat} {x : Option (Nat × mm_e)} : mm_u σ a x a = x := if_pos rfl
theorem mm_u_ne {σ : mm_S} {a q : Nat} {x : Option (Nat × mm_e)} (h : q ≠ a) : mm_u σ a x q = σ q := if_neg h
def mm_cl : List vw_C := [(RX0, TX0, 6), (RX1, TX1, 7), (RX2, TX2, 4), (RX3, TX3, 4), (RX4, TX4, 3), (RX5, TX5, 5), (RX6, TX6, 8), (RX0, TX0, 6), (RJx4a65c, TJx4a65c, 3)]
def mm_tys (D : mm_D) : List (ClassId × FieldType) := [(D.2.1 0, .int), (D.2.1 1, .int), (D.2.1 2, .int), (D.2.1 3, .int), (D.2.1 4, .boolean), (D.2.1 5, .int), (D.2.1 6, .int), (D.2.1 7, .int), (D.2.1 8, .object "java/lang/Object")]
def mm_Wd (b : Nat) : Nat → Prop := fun q => b ≤ q
def mm_ob (σ : mm_S) (y : Nat) : Prop := ∃ (o ci : Nat) (fs : List Value), σ y = mm_obj o ci fs ∧ ci < 8
def mm_at (b : Nat) (D : mm_D) (σ : mm_S) (ow : Nat → Option Nat) (a : Nat) (e : mm_e) (H : Heap) : Prop := match e with
  | .inl (k, x) => H[a]? = some (vp_cell (D.2.1 k) x)
  | .inr (.inl (ci, fs)) => va_at D.1 mm_cl (a, .inr (ci, fs)) H
  | .inr (.inr L) => ∃ (m : Int32) (r : Nat), va_at D.1 mm_cl (a, .inr (8, [.int m, .ref r, .int (nI L.length)])) H ∧ L.length ≤ 1000 ∧ (∀ y ∈ L, mm_ob σ y) ∧ ((r = D.2.2 ∧ L = []) ∨ (b ≤ r ∧ ow r = some a ∧ ∃ n : Nat, 10 ≤ n ∧ n ≤ 2000 ∧ L.length ≤ n ∧ H[r]? = some (vp_cell (D.2.1 8) (n, .inr (.inr (.inr (.inr (fun i => L[i]?))))))))
def mm_H (b : Nat) (D : mm_D) (σ : mm_S) (H : Heap) : Prop := b ≤ H.size ∧ ∃ ow : Nat → Option Nat, ∀ (a o : Nat) (e : mm_e), σ a = some (o, e) → b ≤ a ∧ ow a = none ∧ mm_at b D σ ow a e H
theorem mm_at_lt {b : Nat} {D : mm_D} {σ : mm_S} {ow : Nat → Option Nat} {a : Nat} {e : mm_e} {H : Heap} (h : mm_at b D σ ow a e H) : a < H.size := by
  rcases e with ⟨k, x⟩ | ⟨ci, fs⟩ | L
  · exact (Array.getElem?_eq_some_iff.mp h).1
  · exact va_at.lt (D := D.1) (cl := mm_cl) (q := (a, .inr (ci, fs))) h
  · obtain ⟨m, r, h1, -⟩ := h
    exact va_at.lt (D := D.1) (cl := mm_cl) (q := (a, .inr (8, _))) h1
theorem mm_H_lt {b : Nat} {D : mm_D} {σ : mm_S} {H : Heap} (h : mm_H b D σ H) {a o : Nat} {e : mm_e} (he : σ a = some (o, e)) : a < H.size := by
  obtain ⟨-, ow, h⟩ := h
  exact mm_at_lt (h a o e he).2.2
theorem mm_H_b {b : Nat} {D : mm_D} {σ : mm_S} {H : Heap} (h : mm_H b D σ H) {a o : Nat} {e : mm_e} (he : σ a = some (o, e)) : b ≤ a := by
  obtain ⟨-, ow, h⟩ := h
  exact (h a o e he).1
theorem mm_H_new {b : Nat} {D : mm_D} {σ : mm_S} {H : Heap} (h : mm_H b D σ H) {a : Nat} (ha : H.size ≤ a) : σ a = none := by
  cases he : σ a with
  | none => rfl
  | some x => exact absurd (mm_H_lt h (o := x.1) (e := x.2) he) (Nat.not_lt.mpr ha)
theorem mm_H_arr {b : Nat} {D : mm_D} {σ : mm_S} {H : Heap} (h : mm_H b D σ H) {a o k : Nat} {x : vp_A} (he : σ a = mm_arr o k x) : H[a]? = some (vp_cell (D.2.1 k) x) := by
  obtain ⟨-, ow, h⟩ := h
  exact (h a o _ he).2.2
theorem mm_H_obj {b : Nat} {D : mm_D} {σ : mm_S} {H : Heap} (h : mm_H b D σ H) {a o ci : Nat} {fs : List Value} (he : σ a = mm_obj o ci fs) : va_at D.1 mm_cl (a, .inr (ci, fs)) H := by
  obtain ⟨-, ow, h⟩ := h
  exact (h a o _ he).2.2
/-- the master row: from one ghost heap to the next -/
theorem mm_H_mk {b : Nat} {D : mm_D} {σ σ' : mm_S} {H H1 : Heap} (h : mm_H b D σ H) (hsz : H.size ≤ H1.size) (hob : ∀ y, mm_ob σ y → mm_ob σ' y)
    (hs : ∀ (a o : Nat) (e : mm_e), σ' a = some (o, e) → (σ a = some (o, e) ∧ H1[a]? = H[a]?) ∨ (b ≤ a ∧ (H.size ≤ a ∨ ∃ z, σ a = some z) ∧ ∀ ow, mm_at b D σ' ow a e H1))
    (hf : ∀ r, r < H.size → σ r = none → H1[r]? = H[r]?) : mm_H b D σ' H1 := by
  obtain ⟨hb, ow, h⟩ := h
  refine ⟨Nat.le_trans hb hsz, fun z => if z < H.size then ow z else none, fun a o e he => ?_⟩
  rcases hs a o e he with ⟨h0, hq⟩ | ⟨h1, h2, h3⟩
  · obtain ⟨g1, g2, g3⟩ := h a o e h0
    have hlt := mm_at_lt g3
    refine ⟨g1, by simp [hlt, g2], ?_⟩
    rcases e with ⟨k, x⟩ | ⟨ci, fs⟩ | L
    · exact hq.trans g3
    · exact va_at.kept (q := (a, .inr (ci, fs))) g3 hq
    · obtain ⟨m, r, e1, e2, e3, e4⟩ := g3
      refine ⟨m, r, va_at.kept (q := (a, .inr (8, _))) e1 hq, e2, fun y hy => hob y (e3 y hy), ?_⟩
      rcases e4 with e4 | ⟨e4, e5, n, e6, e7, e8, e9⟩
      · exact Or.inl e4
      · have hr : r < H.size := (Array.getElem?_eq_some_iff.mp e9).1
        refine Or.inr ⟨e4, by simp [hr, e5], n, e6, e7, e8, (hf r hr ?_).trans e9⟩
        cases hz : σ r with
        | none => rfl
        | some z =>
          have := (h r z.1 z.2 hz).2.1
          rw [e5] at this
          cases this
  · refine ⟨h1, ?_, h3 _⟩
    rcases h2 with h2 | ⟨z, h2⟩
    · simp [Nat.not_lt.mpr h2]
    · have := (h a z.1 z.2 h2).2.1
      simp [this]
theorem mm_ob_u {σ : mm_S} {a : Nat} {x : Option (Nat × mm_e)} (h : mm_ob σ a → ∃ (o ci : Nat) (fs : List Value), x = mm_obj o ci fs ∧ ci < 8) : ∀ y, mm_ob σ y → mm_ob (mm_u σ a x) y := by
  intro y hy
  by_cases e : y = a
  · subst e
    obtain ⟨o, ci, fs, h1, h2⟩ := h hy
    exact ⟨o, ci, fs, by rw [mm_u_eq]; exact h1, h2⟩
  · obtain ⟨o, ci, fs, h1, h2⟩ := hy
    exact ⟨o, ci, fs, by rw [mm_u_ne e]; exact h1, h2⟩
/-- one cell is written -/
theorem mm_H_set {b : Nat} {D : mm_D} {σ : mm_S} {H H1 : Heap} (h : mm_H b D σ H) {a o : Nat} {e : mm_e} {o' : Nat} {e' : mm_e} (he : σ a = some (o, e)) (hsz : H1.size = H.size) (hq : ∀ q, q ≠ a → H1[q]? = H[q]?)
    (hob : mm_ob σ a → ∃ (o2 ci : Nat) (fs : List Value), some (o', e') = mm_obj o2 ci fs ∧ ci < 8) (h1 : ∀ ow, mm_at b D (mm_u σ a (some (o', e'))) ow a e' H1) : mm_H b D (mm_u σ a (some (o', e'))) H1 := by
  refine mm_H_mk h (Nat.le_of_eq hsz.symm) (mm_ob_u hob) (fun q o2 e2 hq2 => ?_) (fun r _ hr => hq r (fun z => by rw [z, he] at hr; cases hr))
  by_cases hqa : q = a
  · subst hqa
    rw [mm_u_eq] at hq2
    cases hq2
    exact Or.inr ⟨mm_H_b h he, Or.inr ⟨_, he⟩, h1⟩
  · rw [mm_u_ne hqa] at hq2
    exact Or.inl ⟨hq2, hq q hqa⟩
/-- one cell is made -/
theorem mm_H_add {b : Nat} {D : mm_D} {σ : mm_S} {H H1 : Heap} (h : mm_H b D σ H) {o : Nat} {e : mm_e} (hsz : H1.size = H.size + 1) (hq : ∀ q, q < H.size → H1[q]? = H[q]?) (h1 : ∀ ow, mm_at b D (mm_u σ H.size (some (o, e))) ow H.size e H1) : mm_H b D (mm_u σ H.size (some (o, e))) H1 := by
  refine mm_H_mk h (by omega) (mm_ob_u (fun hy => ?_)) (fun q o2 e2 hq2 => ?_) (fun r hr _ => hq r hr)
  · obtain ⟨o9, ci, fs, g, -⟩ := hy
    rw [mm_H_new h (Nat.le_refl _)] at g
    cases g
  · by_cases hqa : q = H.size
    · subst hqa
      rw [mm_u_eq] at hq2
      cases hq2
      exact Or.inr ⟨h.1, Or.inl (Nat.le_refl _), h1⟩
    · rw [mm_u_ne hqa] at hq2
      exact Or.inl ⟨hq2, hq q (mm_H_lt h hq2)⟩
/-- nothing of the ghost heap changes -/
theorem mm_H_kept {b : Nat} {D : mm_D} {σ : mm_S} {H H1 : Heap} (h : mm_H b D σ H) (hsz : H.size ≤ H1.size) (hq : ∀ q, q < H.size → H1[q]? = H[q]?) : mm_H b D σ H1 :=
  mm_H_mk h hsz (fun _ q => q) (fun a o e he => Or.inl ⟨he, hq a (mm_H_lt h he)⟩) (fun r hr _ => hq r hr)
/-! what doesn't change over the whole run -/
def mm_st : List (String × Nat × String) := [("Mailmerge", 44, "the code is out of range"), ("Mailmerge", 55, "there were 12 addresses"), ("Mailmerge", 276, "there is no such address"), ("Mailmerge", 279, "the address is gone"), ("Mailmerge", 71, "both are the same address"), ("Mailmerge", 295, "the flags are out of range"), ("Mailmerge", 94, "there are 24 people"), ("Mailmerge", 281, "there is no such person"), ("Mailmerge", 113, "there is no such reason"), ("Mailmerge", 119, "not suppressed, or suppressed as dead"), ("Mailmerge", 121, "there are 4 templates"), ("Mailmerge", 283, "there is no such template"), ("Mailmerge", 130, "the lines are out of range"), ("Mailmerge", 138, "it has 8 parts, or a run of it was made"), ("Mailmerge", 297, "the number is out of range"), ("Mailmerge", 299, "there would be more than 5000"), ("Mailmerge", 162, "there are 10 runs"), ("Mailmerge", 285, "there is no such run"), ("Mailmerge", 290, "the person was not there"), ("Mailmerge", 205, "there is no such way to come back"), ("Mailmerge", 213, "no letter was made, or it has come back"), ("Mailmerge", 226, "the bound is out of range"), ("Mailmerge", 292, "there is no such letter"), ("Mailmerge", 235, "the tens are out of range"), ("Mailmerge", 242, "no letter was made for the person"), ("Mailmerge", 261, "there are no letters")]
def mm_nc : List (String × String) := [("java/lang/IllegalArgumentException", "java/lang/IllegalStateException"), ("java/lang/IllegalArgumentException", "java/lang/IndexOutOfBoundsException"), ("java/lang/IllegalArgumentException", "java/util/NoSuchElementException"), ("java/lang/IllegalArgumentException", "java/lang/ArithmeticException"), ("java/lang/IllegalStateException", "java/lang/IllegalArgumentException"), ("java/lang/IllegalStateException", "java/lang/IndexOutOfBoundsException"), ("java/lang/IllegalStateException", "java/util/NoSuchElementException"), ("java/lang/IllegalStateException", "java/lang/ArithmeticException"), ("java/lang/IndexOutOfBoundsException", "java/lang/IllegalArgumentException"), ("java/lang/IndexOutOfBoundsException", "java/lang/IllegalStateException"), ("java/lang/IndexOutOfBoundsException", "java/util/NoSuchElementException"), ("java/lang/IndexOutOfBoundsException", "java/lang/ArithmeticException"), ("java/util/NoSuchElementException", "java/lang/IllegalArgumentException"), ("java/util/NoSuchElementException", "java/lang/IllegalStateException"), ("java/util/NoSuchElementException", "java/lang/IndexOutOfBoundsException"), ("java/util/NoSuchElementException", "java/lang/ArithmeticException"), ("java/lang/ArithmeticException", "java/lang/IllegalArgumentException"), ("java/lang/ArithmeticException", "java/lang/IllegalStateException"), ("java/lang/ArithmeticException", "java/lang/IndexOutOfBoundsException"), ("java/lang/ArithmeticException", "java/util/NoSuchElementException")]
/-- the law's three texts, two statics of the JDK and the script, as they stay -/
def lq_str (b : Nat) (D : mm_D) (U : State) : Prop :=
  (∀ i, i < 3 → va_O "java/lang/String" (D.2.1 (200 + i)) (mm_Wd b) U U.heap ∧ va_OF "java/lang/String" "coder" "B" (.int 0) (D.2.1 (200 + i)) (mm_Wd b) U U.heap ∧ va_OF "java/lang/String" "value" "[B" (.ref (D.2.1 (300 + i))) (D.2.1 (200 + i)) (mm_Wd b) U U.heap ∧ ∃ f : Nat → Int32, va_T .byte (D.2.1 (300 + i)) 4 (fun j => .int (f j)) (mm_Wd b) U U.heap) ∧
  (vk_R "MailmergeLaw" 211 "mdo-" (D.2.1 200) U ∧ vk_R "MailmergeLaw" 233 "pspl" (D.2.1 201) U ∧ vk_R "MailmergeLaw" 238 "uumd" (D.2.1 202) U) ∧
  va_Z "java/lang/String" "COMPACT_STRINGS" "Z" (.int 1) (mm_Wd b) U U.heap ∧
  (∃ v : Value, (v = .null ∨ ∃ a, v = .ref a) ∧ va_Z "jdk/internal/util/Preconditions" "SIOOBE_FORMATTER" "Ljava/util/function/BiFunction;" v (mm_Wd b) U U.heap) ∧
  ∃ xs : Nat → Int32, va_X (D.2.1 400) (D.2.1 401) xs U U.heap ∧ D.2.1 401 ≤ 260 ∧ D.2.1 400 < b
theorem lq_str_moved {b : Nat} {D : mm_D} {s U : State} (h : lq_str b D s) (hW : s.WarmedH U.vm) (hq : ∀ q : Nat, q < s.heap.size → ¬ mm_Wd b q → U.heap[q]? = s.heap[q]?) : lq_str b D U := by
  obtain ⟨h1, ⟨h2, h3, h4⟩, h5, ⟨v, h6, h7⟩, xs, h8, h9, h10⟩ := h
  refine ⟨fun i hi => ?_, ⟨h2.warm hW, h3.warm hW, h4.warm hW⟩, va_Z.moved hW.alike (h5.kept hq), ⟨v, h6, va_Z.moved hW.alike (h7.kept hq)⟩, xs, ?_, h9, h10⟩
  · obtain ⟨g1, g2, g3, f, g4⟩ := h1 i hi
    exact ⟨va_O.moved hW.alike (g1.kept hq), va_OF.moved hW.alike (g2.kept hq), va_OF.moved hW.alike (g3.kept hq), f, va_T.moved hW.alike (g4.kept hq)⟩
  · have hlt : D.2.1 400 < s.heap.size := by
      obtain ⟨scr, g1, -⟩ := h8
      exact (Array.getElem?_eq_some_iff.mp g1).1
    exact (va_X.moved hW.alike h8).kept (hq _ hlt (Nat.not_le.mpr h10))
def mm_E (b : Nat) (D : mm_D) (U : State) : Prop :=
  va_K D.1 mm_cl (mm_tys D) U ∧ (∀ w ∈ mm_nW, va_Nw w U) ∧ (∀ q ∈ mm_nc, va_Nc q.1 q.2 U) ∧ (∀ q ∈ mm_st, ∃ a, vk_R q.1 q.2.1 q.2.2 a U) ∧
  (vx_Zq Bundle.tN "UNASSIGNED_STACK" Bundle.steD (mm_Wd b) U U.heap ∧ vx_Zq Bundle.tN "SUPPRESSED_SENTINEL" Bundle.listD (mm_Wd b) U U.heap) ∧
  (va_Z RJx4a65c "DEFAULTCAPACITY_EMPTY_ELEMENTDATA" "[Ljava/lang/Object;" (.ref D.2.2) (mm_Wd b) U U.heap ∧ va_T (.object "java/lang/Object") D.2.2 0 (fun _ => .null) (mm_Wd b) U U.heap) ∧
  (va_Mi "[Ljava/lang/Object;" (D.2.1 100) U ∧ va_AO "java/lang/Object" U ∧ va_Dc U ∧ lq_str b D U)
theorem mm_nW_warm {s U : State} (hW : s.WarmedH U.vm) {w : Cond} (hw : w ∈ mm_nW) (h : va_Nw w s) : va_Nw w U := by
  have hb : mm_nb w = true := (List.mem_filter.mp hw).2
  cases w <;> first | exact va_Nw.warmC hW h | exact va_Nw.warmD hW h | exact va_Nw.warmM hW h | (exact absurd hb (by decide)) | (simp [mm_nb] at hb)
theorem mm_E_moved {b : Nat} {D : mm_D} {s U : State} (h : mm_E b D s) (hW : s.WarmedH U.vm) (hq : ∀ q : Nat, q < s.heap.size → ¬ mm_Wd b q → U.heap[q]? = s.heap[q]?) : mm_E b D U := by
  obtain ⟨h1, h2, h3, h4, ⟨h5, h6⟩, ⟨h7, h8⟩, h9, h10, h11, h12⟩ := h
  exact ⟨h1.moved hW.alike, fun w hw => mm_nW_warm hW hw (h2 w hw), fun q hq' => (h3 q hq').moved hW.alike, fun q hq' => (h4 q hq').elim fun a ha => ⟨a, ha.warm hW⟩,
    ⟨vx_Zq.moved hW.alike (h5.kept hq), vx_Zq.moved hW.alike (h6.kept hq)⟩, ⟨va_Z.moved hW.alike (h7.kept hq), va_T.moved hW.alike (h8.kept hq)⟩, h9.moved hW.alike, h10.moved hW.alike, h11.moved hW.alike, lq_str_moved h12 hW hq⟩
def mm_I (b : Nat) (D : mm_D) (σ : mm_S) (U : State) : Prop := mm_H b D σ U.heap ∧ mm_E b D U
/-- a method's frame, once for all its rows -/
def mm_F (p : Program) (l : Launch) (s : State) (m : MethodId) (args : Array Value) (meth : Method) (c : Code) (b : Nat) (D : mm_D) (own : String) (cc : ByteArray) (nL : Nat) : Prop :=
  p.tables.exec = Jvm.exec ∧ c.code = cc ∧ c.maxLocals = nL ∧ s.vm.findClass own = some m.cls ∧ (∀ w ∈ mm_aW, w.before args s = true) ∧ mm_E b D s ∧ meth.locks = false ∧ l.stackTraces = false ∧ b ≤ s.heap.size
def mm_N (b : Nat) (D : mm_D) (s : State) (σ : mm_S) (H : Heap) (locs : List Loc) : Prop := mm_H b D σ H ∧ va_S (mm_Wd b) s.heap H locs
/-- a contract: at the arguments a, over the ghost heap σ, the method returns v with PR v σ', or throws an E with PX E σ'; σ' is the ghost heap then -/
def mm_K (l : Launch) (b : Nat) (D : mm_D) (y : MethodName) (cd : Cond) (rm : Room) (a : List Value) (σ : mm_S) (PR : Option Value → mm_S → Prop) (PX : String → mm_S → Prop) : Prop :=
  vx_Met l y (cd :: mm_aW) rm (va_Pc a (fun U => mm_I b D σ U)) (fun _ st o t => (∃ (v : Option Value) (σ' : mm_S), o = .returned v ∧ PR v σ' ∧ mm_H b D σ' t.heap) ∧ va_F (mm_Wd b) st t)
    (fun E st t => (∃ σ' : mm_S, PX E σ' ∧ mm_H b D σ' t.heap) ∧ va_F (mm_Wd b) st t) rm.cells rm.slots (mm_Wd b)
def mm_no : String → mm_S → Prop := fun _ _ => False
