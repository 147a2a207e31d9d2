/-! numbers with a point: no NaN, equal to themselves -/
theorem mm_dec32 {x : UInt32} (h : vf_n32 x) : FP.Core.decode FP.Core.b32 x.toNat ≠ .nan := by
  unfold vf_n32 at h
  rw [UInt32.le_iff_toNat_le, UInt32.toNat_and] at h
  rw [show (0x7fffffff : UInt32).toNat = 2 ^ 31 - 1 from rfl, Nat.and_two_pow_sub_one_eq_mod] at h
  have h : x.toNat % 2147483648 ≤ 2139095040 := h
  intro e
  have e : (if x.toNat / 8388608 % 256 = 255 then (if x.toNat % 8388608 = 0 then FP.Core.Datum.inf _ else .nan) else if x.toNat / 8388608 % 256 = 0 then .fin _ _ _ else .fin _ _ _) = .nan := e
  split at e
  · split at e
    · cases e
    · omega
  · split at e <;> cases e
theorem mm_dec64 {x : UInt64} (h : vf_n64 x) : FP.Core.decode FP.Core.b64 x.toNat ≠ .nan := by
  unfold vf_n64 at h
  rw [UInt64.le_iff_toNat_le, UInt64.toNat_and] at h
  rw [show (0x7fffffffffffffff : UInt64).toNat = 2 ^ 63 - 1 from rfl, Nat.and_two_pow_sub_one_eq_mod] at h
  have h : x.toNat % 9223372036854775808 ≤ 9218868437227405312 := h
  intro e
  have e : (if x.toNat / 4503599627370496 % 2048 = 2047 then (if x.toNat % 4503599627370496 = 0 then FP.Core.Datum.inf _ else .nan) else if x.toNat / 4503599627370496 % 2048 = 0 then .fin _ _ _ else .fin _ _ _) = .nan := e
  split at e
  · split at e
    · cases e
    · omega
  · split at e <;> cases e
theorem mm_f2dn {x : UInt32} (h : vf_n32 x) : vf_n64 (FP.f2d x) := by
  unfold FP.f2d
  rw [if_neg (by
    show ¬ decide (FP.Core.decode FP.Core.b32 x.toNat = .nan) = true
    rw [decide_eq_true_iff]
    exact mm_dec32 h)]
  exact mm_n64 (mm_enc64 (mm_dq_round (by decide) (by decide) (mm_dec32 h)))
theorem mm_ordR {d : FP.Core.Datum} (h : d ≠ .nan) : FP.Core.order d d = some .eq := by
  have hc : ∀ i : Int, compare i i = .eq := fun i => by
    show (if i < i then Ordering.lt else if i = i then .eq else .gt) = .eq
    rw [if_neg (Int.lt_irrefl i), if_pos rfl]
  cases d with
  | nan => exact absurd rfl h
  | inf s => exact congrArg some (hc _)
  | fin s c q => exact congrArg some (hc _)
theorem mm_dcmpR {x : UInt64} (h : vf_n64 x) : Op.cmpValue (FP.dcmp x x) .l = 0 := by
  rw [show FP.dcmp x x = some .eq from mm_ordR (mm_dec64 h)]
  rfl
section MML
variable {p : Program} {l : Launch} {e : Env} {R : Room} {s : State} {m : MethodId} {args : Array Value} {below : List Frame} {meth : Method} {c : Code} {H : Heap} {locs : List Loc} {cells slots : Nat} {Q : State → Prop}
variable {cc : ByteArray} {pc : Nat} {ls : Array Slot} {rest : List Value}
theorem mm_lcmpE (hexec : p.tables.exec = Jvm.exec) (hb : c.code = cc) {x : Int64} (hdg : decode cc pc = .ok (.lcmp, 1))
    (k : W p l e R s m args below meth c H locs cells slots Q (F0 m (pc + 1) ls (.int (nI 0) :: rest))) : W p l e R s m args below meth c H locs cells slots Q (F0 m pc ls (.long x :: .long x :: rest)) := by
  intro T hT X
  obtain ⟨t, a, b⟩ := k T hT X
  refine ⟨t, ?_, b⟩
  have h1 : ¬ x < x := Int64.lt_irrefl
  jvm_step X.here [X.here.top, hexec, hb, hdg, h1]
  exact a
end MML
/-! the arguments of a script -/
theorem mm_argN (x : Int32) : ∃ n, n < 2 ^ 32 ∧ x = nI n := ⟨x.toUInt32.toNat, x.toUInt32.toNat_lt, by show x = ⟨UInt32.ofNat x.toUInt32.toNat⟩; rw [UInt32.ofNat_toNat]⟩
theorem mm_Mt.out {rd : Nat → Nat → Nat} {σ σ2 : mm_S} {T T' : mm_T} {q : Nat} {v : Option Value} {a : Int32} (h : mm_Mt rd σ σ2 T T' q v (some (.int a))) : ∃ i : Int32, v = some (.int i) ∧ (q = 0 → i = a) ∧ mm_M σ2 (if q = 0 then T' else T) q rd ∧ mm_Fr 1 σ σ2 := by
  rcases h with ⟨hq, hv, hM, hF⟩ | ⟨hq, ⟨i, hv⟩, hM, hF⟩
  · exact ⟨a, hv, fun _ => rfl, by rw [if_pos hq, hq]; exact hM, hF⟩
  · exact ⟨i, hv, fun e => by omega, by rw [if_neg (by omega)]; exact hM, hF⟩
theorem mm_Mu.out {rd : Nat → Nat → Nat} {σ σ2 : mm_S} {T T' : mm_T} {q : Nat} {v : Option Value} {a d : Value} (h : mm_Mu rd σ σ2 T T' q v (some a) (some d)) : v = some (if q = 0 then a else d) ∧ mm_M σ2 (if q = 0 then T' else T) q rd ∧ mm_Fr 1 σ σ2 := by
  rcases h with ⟨hq, hv, hM, hF⟩ | ⟨hq, hv, hM, hF⟩
  · exact ⟨by rw [if_pos hq]; exact hv, by rw [if_pos hq, hq]; exact hM, hF⟩
  · exact ⟨by rw [if_neg (by omega)]; exact hv, by rw [if_neg (by omega)]; exact hM, hF⟩
theorem mm_Mu.outI {rd : Nat → Nat → Nat} {σ σ2 : mm_S} {T T' : mm_T} {q : Nat} {v : Option Value} {a d : Int32} (h : mm_Mu rd σ σ2 T T' q v (some (.int a)) (some (.int d))) : ∃ i : Int32, v = some (.int i) ∧ (q = 0 → i = a) ∧ mm_M σ2 (if q = 0 then T' else T) q rd ∧ mm_Fr 1 σ σ2 := by
  obtain ⟨h1, h2, h3⟩ := h.out
  by_cases hq : q = 0
  · exact ⟨a, by rw [h1, if_pos hq], fun _ => rfl, h2, h3⟩
  · exact ⟨d, by rw [h1, if_neg hq], fun e => absurd e hq, h2, h3⟩
/-- what stays through a wrapper and a call of the reference -/
theorem mm_M_kept1 {σ σ' : mm_S} {T : mm_T} {th : Nat} {rd : Nat → Nat → Nat} (h : mm_M σ T th rd) (hF : ∀ a e, σ a = some (1, e) → σ' a = some (1, e)) : mm_M σ' T th rd :=
  ⟨hF _ _ h.1, fun k hk => hF _ _ (h.2.1 k hk), fun k hk => hF _ _ (h.2.2.1 k hk), fun k i hk hi => hF _ _ (h.2.2.2.1 k i hk hi), h.2.2.2.2⟩
/-- the law's world: the object, the reference, the two places for answers -/
def mm_V (σ : mm_S) (T : mm_T) (x0 m0 o d : Nat) : Prop :=
  (∃ (z : mm_Z) (ad : Nat → Nat → Nat → Nat), mm_X σ T z ad ∧ ad 0 0 0 = x0) ∧ (∃ (th : Nat) (rd : Nat → Nat → Nat), mm_M σ T th rd ∧ rd 0 0 = m0) ∧ (∃ g, σ o = mm_arj 2 1 1 g) ∧ (∃ g, σ d = mm_ard 2 2 1 g) ∧ o ≠ d ∧ mm_WF T
