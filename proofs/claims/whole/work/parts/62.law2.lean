section MML
variable {p : Program} {l : Launch} {e : Env} {R : Room} {s : State} {m : MethodId} {args : Array Value} {below : List Frame} {meth : Method} {c : Code} {H : Heap} {locs : List Loc} {cells slots : Nat} {Q : State → Prop}
variable {cc : ByteArray} {pc : Nat} {ls : Array Slot} {rest : List Value} {b : Nat} {D : mm_D} {σ : mm_S} {own : String} {nL a o : Nat}
theorem mm_sld (F : mm_F p l s m args meth c b D own cc nL) (hN : mm_N b D s σ H locs) {sb L : Nat} {xs : Nat → Int32} (hX : va_X sb L xs s s.heap) (hbl : sb < s.heap.size) (hbb : sb < b) {j : Nat} {i : Int32} (hi : i = nI j) (hj : j < L) (hL : L ≤ 2560) (hdg : decode cc pc = .ok (.iaload, 1))
    (kk : W p l e R s m args below meth c H locs cells slots Q (F0 m (pc + 1) ls (.int (xs j) :: rest))) : W p l e R s m args below meth c H locs cells slots Q (F0 m pc ls (.int i :: .ref sb :: rest)) := by
  subst hi
  obtain ⟨h1, h2⟩ := mm_nIin hj (by omega)
  refine va_sld F.1 F.2.1 hX hbl (Nat.not_le.mpr hbb) hN.2 h1 hdg ?_
  rw [h2]
  exact kk
theorem mm_slen (F : mm_F p l s m args meth c b D own cc nL) (hN : mm_N b D s σ H locs) {sb L : Nat} {xs : Nat → Int32} (hX : va_X sb L xs s s.heap) (hbl : sb < s.heap.size) (hbb : sb < b) (hdg : decode cc pc = .ok (.arraylength, 1))
    (kk : W p l e R s m args below meth c H locs cells slots Q (F0 m (pc + 1) ls (.int (nI L) :: rest))) : W p l e R s m args below meth c H locs cells slots Q (F0 m pc ls (.ref sb :: rest)) :=
  va_slen F.1 F.2.1 hX hbl (Nat.not_le.mpr hbb) hN.2 hdg kk
end MML
theorem mm_i2c (n : Nat) : ((nI n).toUInt32 % 65536).toInt32 = nI (n % 65536) := by
  show (⟨UInt32.ofNat n % 65536⟩ : Int32) = ⟨UInt32.ofNat (n % 65536)⟩
  refine congrArg Int32.ofUInt32 (UInt32.toNat_inj.mp ?_)
  rw [UInt32.toNat_mod, UInt32.toNat_ofNat', UInt32.toNat_ofNat']
  show n % 4294967296 % 65536 = n % 65536 % 4294967296
  omega
/-- the places of the law's loop -/
abbrev mm_lc (i d o m0 x0 sb : Nat) : List (Nat × Value) := [(5, .int (nI i)), (4, .ref d), (3, .ref o), (2, .ref m0), (1, .ref x0), (0, .ref sb)]

