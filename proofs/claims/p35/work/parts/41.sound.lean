/-! no NaN: quotients of small numbers -/
def mm_dq (f : FP.Core.Fmt) (d : FP.Core.Datum) : Prop := match d with
  | .nan => False
  | .inf _ => True
  | .fin _ c q => c < 2 ^ f.p ∧ f.qmin ≤ q ∧ q ≤ f.qmax
theorem mm_dq_bound {f : FP.Core.Fmt} {s : Bool} {c : Nat} {q : Int} (h1 : c < 2 ^ f.p) (h2 : f.qmin ≤ q) : mm_dq f (FP.Core.bound f s c q) := by
  unfold FP.Core.bound
  split
  · rename_i h
    exact ⟨h1, h2, h⟩
  · trivial
theorem mm_dq_ratio {f : FP.Core.Fmt} {s : Bool} {n d : Nat} {e : Int} (hp : f.tails < 2 ^ f.p) (h0 : f.qmin ≤ f.qmax) : mm_dq f (FP.Core.roundRatio f s n d e) := by
  unfold FP.Core.roundRatio
  split
  · exact ⟨Nat.lt_of_le_of_lt (Nat.zero_le _) hp, Int.le_refl _, h0⟩
  · unfold FP.Core.roundAt FP.Core.settle
    have hq : f.qmin ≤ FP.Core.quantum f n d e := by
      unfold FP.Core.quantum
      exact Int.le_max_left _ _
    split
    · rename_i h
      exact mm_dq_bound h hq
    · exact mm_dq_bound hp (by omega)
theorem mm_dq_round {f : FP.Core.Fmt} {d : FP.Core.Datum} (hp : f.tails < 2 ^ f.p) (h0 : f.qmin ≤ f.qmax) (h : d ≠ .nan) : mm_dq f (FP.Core.round f d) := by
  cases d with
  | nan => exact absurd rfl h
  | inf s => trivial
  | fin s c q => exact mm_dq_ratio hp h0
def mm_nz (d : FP.Core.Datum) : Bool := match d with
  | .fin _ c _ => decide (c ≠ 0)
  | _ => false
def mm_isf (d : FP.Core.Datum) : Bool := match d with
  | .fin _ _ _ => true
  | _ => false
theorem mm_dq_quot {f : FP.Core.Fmt} {x y : FP.Core.Datum} (hp : f.tails < 2 ^ f.p) (h0 : f.qmin ≤ f.qmax) (hx : mm_isf x = true) (hy : mm_nz y = true) : mm_dq f (FP.Core.quotient f x y) := by
  cases x with
  | nan => cases hx
  | inf s => cases hx
  | fin s c q =>
    cases y with
    | nan => cases hy
    | inf t => cases hy
    | fin t d r =>
      have hd : d ≠ 0 := decide_eq_true_iff.mp hy
      show mm_dq f (if d = 0 then (if c = 0 then .nan else .inf (s != t)) else FP.Core.roundRatio f (s != t) c d (q - r))
      rw [if_neg hd]
      exact mm_dq_ratio hp h0
theorem mm_enc32 {d : FP.Core.Datum} (h : mm_dq FP.Core.b32 d) : FP.Core.encode FP.Core.b32 d < 2 ^ 32 ∧ FP.Core.encode FP.Core.b32 d % 2 ^ 31 ≤ 0x7f800000 := by
  cases d with
  | nan => exact h.elim
  | inf s => cases s <;> decide
  | fin s c q =>
    obtain ⟨h1, h2, h3⟩ := h
    have h1 : c < 16777216 := h1
    have h2 : (-149 : Int) ≤ q := h2
    have h3 : q ≤ (104 : Int) := h3
    have hs : s.toNat ≤ 1 := by cases s <;> decide
    show (if c < 8388608 then (s.toNat * 256 + 0) * 8388608 + c else (s.toNat * 256 + ((q - (-149)).toNat + 1)) * 8388608 + (c - 8388608)) < 4294967296 ∧ (if c < 8388608 then (s.toNat * 256 + 0) * 8388608 + c else (s.toNat * 256 + ((q - (-149)).toNat + 1)) * 8388608 + (c - 8388608)) % 2147483648 ≤ 2139095040
    split <;> omega
theorem mm_enc64 {d : FP.Core.Datum} (h : mm_dq FP.Core.b64 d) : FP.Core.encode FP.Core.b64 d < 2 ^ 64 ∧ FP.Core.encode FP.Core.b64 d % 2 ^ 63 ≤ 0x7ff0000000000000 := by
  cases d with
  | nan => exact h.elim
  | inf s => cases s <;> decide
  | fin s c q =>
    obtain ⟨h1, h2, h3⟩ := h
    have h1 : c < 9007199254740992 := h1
    have h2 : (-1074 : Int) ≤ q := h2
    have h3 : q ≤ (971 : Int) := h3
    have hs : s.toNat ≤ 1 := by cases s <;> decide
    show (if c < 4503599627370496 then (s.toNat * 2048 + 0) * 4503599627370496 + c else (s.toNat * 2048 + ((q - (-1074)).toNat + 1)) * 4503599627370496 + (c - 4503599627370496)) < 18446744073709551616 ∧ (if c < 4503599627370496 then (s.toNat * 2048 + 0) * 4503599627370496 + c else (s.toNat * 2048 + ((q - (-1074)).toNat + 1)) * 4503599627370496 + (c - 4503599627370496)) % 9223372036854775808 ≤ 9218868437227405312
    split <;> omega
theorem mm_n32 {n : Nat} (h : n < 2 ^ 32 ∧ n % 2 ^ 31 ≤ 0x7f800000) : vf_n32 (UInt32.ofNat n) := by
  unfold vf_n32
  rw [UInt32.le_iff_toNat_le, UInt32.toNat_and, UInt32.toNat_ofNat']
  rw [show (0x7fffffff : UInt32).toNat = 2 ^ 31 - 1 from rfl, Nat.and_two_pow_sub_one_eq_mod, Nat.mod_eq_of_lt h.1]
  exact h.2
theorem mm_n64 {n : Nat} (h : n < 2 ^ 64 ∧ n % 2 ^ 63 ≤ 0x7ff0000000000000) : vf_n64 (UInt64.ofNat n) := by
  unfold vf_n64
  rw [UInt64.le_iff_toNat_le, UInt64.toNat_and, UInt64.toNat_ofNat']
  rw [show (0x7fffffffffffffff : UInt64).toNat = 2 ^ 63 - 1 from rfl, Nat.and_two_pow_sub_one_eq_mod, Nat.mod_eq_of_lt h.1]
  exact h.2
set_option maxRecDepth 100000 in
theorem mm_f240 : ∀ n, n < 241 → mm_isf (FP.Core.decode FP.Core.b32 (FP.i2f (nI n)).toNat) = true ∧ (n ≠ 0 → mm_nz (FP.Core.decode FP.Core.b32 (FP.i2f (nI n)).toNat) = true) := by decide +kernel
set_option maxRecDepth 100000 in
theorem mm_d2k : ∀ n, n < 2000 → mm_isf (FP.Core.decode FP.Core.b64 (FP.i2d (nI n)).toNat) = true ∧ (n ≠ 0 → mm_nz (FP.Core.decode FP.Core.b64 (FP.i2d (nI n)).toNat) = true) := by decide +kernel
theorem mm_fdivn {a c : Nat} (ha : a < 241) (hc : c < 241) (h0 : ¬ c = 0) : vf_n32 (FP.fdiv (FP.i2f (nI a)) (FP.i2f (nI c))) :=
  mm_n32 (mm_enc32 (mm_dq_quot (by decide) (by decide) (mm_f240 a ha).1 ((mm_f240 c hc).2 h0)))
theorem mm_ddivn {a c : Nat} (ha : a < 2000) (hc : c < 2000) (h0 : ¬ c = 0) : vf_n64 (FP.ddiv (FP.i2d (nI a)) (FP.i2d (nI c))) :=
  mm_n64 (mm_enc64 (mm_dq_quot (by decide) (by decide) (mm_d2k a ha).1 ((mm_d2k c hc).2 h0)))
/-! sums over all runs -/
abbrev mm_nl (T : mm_T) (r : Nat) : Nat := mm_sm (fun p => if T.oc r p = 108 then 1 else 0) (T.rp r)
abbrev mm_nb9 (T : mm_T) (r : Nat) : Nat := mm_sm (fun p => if T.oc r p = 108 then T.bk r p else 0) (T.rp r)
abbrev mm_s0 (T : mm_T) (r : Nat) : Nat := mm_sm (fun p => if T.oc r p = 108 then T.pg r p else 0) (T.rp r)
abbrev mm_s1 (T : mm_T) (r : Nat) : Nat := mm_sm (fun p => if T.oc r p = 108 ∧ T.pg r p ≤ 3 then 1 else 0) (T.rp r)
abbrev mm_s2 (T : mm_T) (r : Nat) : Nat := mm_sm (fun p => if T.oc r p = 108 ∧ 3 < T.pg r p then 1 else 0) (T.rp r)
theorem mm_smw {T : mm_T} (hW : mm_WF T) {g : Nat → Nat → Nat} {c : Nat} (hg : ∀ r p, r < T.nR → p < T.rp r → g r p ≤ c) {k : Nat} (hk : k ≤ T.nR) : mm_sm (fun r => mm_sm (g r) (T.rp r)) k ≤ c * 24 * 10 := by
  refine Nat.le_trans (mm_sm_le (f := fun r => mm_sm (g r) (T.rp r)) (c := c * 24) (n := k) (fun r hr => ?_)) (Nat.mul_le_mul_left _ (Nat.le_trans hk hW.hnR))
  have h1 := (hW.hru r (by omega)).1
  have h2 := hW.hnP
  exact Nat.le_trans (mm_sm_le (f := g r) (c := c) (n := T.rp r) (fun p hp => hg r p (by omega) hp)) (Nat.mul_le_mul_left _ (by omega))
theorem mm_nlw {T : mm_T} (hW : mm_WF T) {k : Nat} (hk : k ≤ T.nR) : mm_sm (mm_nl T) k ≤ 240 :=
  mm_smw hW (g := fun r p => if T.oc r p = 108 then 1 else 0) (c := 1) (fun r p _ _ => by split <;> omega) hk
theorem mm_nbw {T : mm_T} (hW : mm_WF T) {k : Nat} (hk : k ≤ T.nR) : mm_sm (mm_nb9 T) k ≤ 240 :=
  mm_smw hW (g := fun r p => if T.oc r p = 108 then T.bk r p else 0) (c := 1) (fun r p hr hp => by
    have := ((hW.hru r hr).2.2.2 p hp).2.2.2.2.1
    split <;> omega) hk
theorem mm_s0w {T : mm_T} (hW : mm_WF T) {k : Nat} (hk : k ≤ T.nR) : mm_sm (mm_s0 T) k ≤ 1920 :=
  mm_smw hW (g := fun r p => if T.oc r p = 108 then T.pg r p else 0) (c := 8) (fun r p hr hp => by
    have := ((hW.hru r hr).2.2.2 p hp).2.2.1
    split <;> omega) hk
theorem mm_s1w {T : mm_T} (hW : mm_WF T) {k : Nat} (hk : k ≤ T.nR) : mm_sm (mm_s1 T) k ≤ 240 :=
  mm_smw hW (g := fun r p => if T.oc r p = 108 ∧ T.pg r p ≤ 3 then 1 else 0) (c := 1) (fun r p _ _ => by split <;> omega) hk
theorem mm_s2w {T : mm_T} (hW : mm_WF T) {k : Nat} (hk : k ≤ T.nR) : mm_sm (mm_s2 T) k ≤ 240 :=
  mm_smw hW (g := fun r p => if T.oc r p = 108 ∧ 3 < T.pg r p then 1 else 0) (c := 1) (fun r p _ _ => by split <;> omega) hk
set_option maxHeartbeats 4000000 in
set_option maxRecDepth 100000 in
theorem c_count (l : Launch) (b : Nat) (D : mm_D) (hst : l.stackTraces = false) (T : mm_T) (z : mm_Z) (ad : Nat → Nat → Nat → Nat) (σ : mm_S) (hX : mm_X σ T z ad) (hW : mm_WF T) : mm_K l b D yX6_countLetters (.code yX6_countLetters cX6_countLetters 3 (some .int)) ({ frames := 3, cells := 0, slots := 0, locals := 100 } : Room) [.ref ((ad 0 0 0))] σ
    (fun v σ2 => v = some (.int (nI (mm_sm (mm_nl T) T.nR))) ∧ σ2 = σ)
    (fun _ _ => False) := by
  refine mm_of (cc := cX6_countLetters) (nL := 3) (ret := (some .int)) (by decide) rfl (Nat.le_of_ble_eq_true rfl) hst ?_
  intro p e s m args below meth c ls F ht hr hin hN hl
  have hl : lv_has ls 3 [(0, .ref ((ad 0 0 0)))] := hl
  have wnA := hW.hnA
  have wnP := hW.hnP
  have wnT := hW.hnT
  have wnR := hW.hnR
  have wpa := hW.hpa
  have wbo := hW.hbo
  have wen0 := hW.hen 0
  have wen1 := hW.hen 1
  refine lv_iconst (pc := 0) (v := nI 0) F.1 F.2.1 dX6_countLetters_0 (by decide) ?_
  refine lv_istore_n (pc := 1) (lv' := [(1, .int (nI 0)), (0, .ref ((ad 0 0 0)))]) F.1 F.2.1 dX6_countLetters_1 rfl hl (by decide) rfl (fun ls hl => ?_)
  refine lv_iconst (pc := 2) (v := nI 0) F.1 F.2.1 dX6_countLetters_2 (by decide) ?_
  refine lv_istore_n (pc := 3) (lv' := [(2, .int (nI 0)), (1, .int (nI 0)), (0, .ref ((ad 0 0 0)))]) F.1 F.2.1 dX6_countLetters_3 rfl hl (by decide) rfl (fun ls hl => ?_)
  have lp4 : ∀ (k4 i : Nat) (ls : Array Slot) (H : Heap) (locs : List Loc), T.nR < i + k4 → i ≤ T.nR → mm_N b D s σ H locs → lv_has ls 3 [(0, .ref ((ad 0 0 0))), (1, .int (nI (mm_sm (mm_nl T) i))), (2, .int (nI i))] →
      W p l e ({ frames := 3, cells := 0, slots := 0, locals := 100 } : Room) s m args below meth c H locs (0) (0) (mm_Q b D (fun v σ2 => v = some (.int (nI (mm_sm (mm_nl T) T.nR))) ∧ σ2 = σ) (fun _ _ => False) below args s ({ frames := 3, cells := 0, slots := 0, locals := 100 } : Room)) (F0 m 4 ls []) := by
    intro k4
    induction k4 with
    | zero => intro i  ls H locs hk4 hi4  hN hl; omega
    | succ k4 ih4 =>
      intro i  ls H locs hk4 hi4  hN hl
      refine lv_iload_n (pc := 4) F.1 F.2.1 dX6_countLetters_4 rfl (lv_at hl 2 rfl) ?_
      refine lv_aload_n (pc := 5) F.1 F.2.1 dX6_countLetters_5 rfl (lv_at hl 0 rfl) ?_
      refine mm_get (pc := 6) F hN (mm_X0 hX) (ci := 6) rfl 3 (by decide) mw_88 rfl dX6_countLetters_6 ?_
      refine mm_runV (pc := 9) (As := []) (rest := [.int (nI i)]) F hN (c_sz l b D hst 0 _ T.nR _ _ (mm_XL4 hX) mm_rgl) mw_196 mw_197 mw_198 mw_4 mw_199 ⟨pmJx4a65c_size_8abf5, (Nat.le_of_ble_eq_true rfl), (Nat.le_of_ble_eq_true rfl)⟩ (mm_recvL F.2.2.2.2.2.1 hN (mm_XL4 hX)) hl.1 rfl (Nat.le_of_ble_eq_true rfl) ⟨(Nat.le_of_ble_eq_true rfl), (Nat.le_of_ble_eq_true rfl)⟩ dX6_countLetters_9
        (fun _ _ _ _ _ _ h9 => False.elim h9)
        (fun v9 σ9 H locs hp9 hN => ?_)
      obtain ⟨rfl, h9⟩ := hp9
      rw [h9] at hN
      refine W.eq (g2 := F0 m 12 ls [.int (nI T.nR), .int (nI i)]) rfl ?_
      refine W.widen (k := 0) (n := 0) (Nat.le_of_ble_eq_true rfl) (Nat.le_of_ble_eq_true rfl) ?_
      refine mm_icmp_ge (pc := 12) F (x := i) (y := T.nR) (tgt := 41) (by omega) (by omega) dX6_countLetters_12 (by decide) (fun cz12 => ?_) (fun cz12 => ?_)
      ·
        refine lv_iload_n (pc := 41) F.1 F.2.1 dX6_countLetters_41 rfl (lv_at hl 1 rfl) ?_
        exact mm_iret (pc := 42) F hr hN (⟨by rw [show i = T.nR by omega], rfl⟩) (Nat.le_of_ble_eq_true rfl) (Nat.le_of_ble_eq_true rfl) dX6_countLetters_42
      ·
        refine lv_iload_n (pc := 15) F.1 F.2.1 dX6_countLetters_15 rfl (lv_at hl 1 rfl) ?_
        refine lv_aload_n (pc := 16) F.1 F.2.1 dX6_countLetters_16 rfl (lv_at hl 0 rfl) ?_
        refine mm_get (pc := 17) F hN (mm_X0 hX) (ci := 6) rfl 3 (by decide) mw_88 rfl dX6_countLetters_17 ?_
        refine lv_iload_n (pc := 20) F.1 F.2.1 dX6_countLetters_20 rfl (lv_at hl 2 rfl) ?_
        refine mm_runV (pc := 21) (As := [.int (nI i)]) (rest := [.int (nI (mm_sm (mm_nl T) i))]) F hN (c_ALget l b D hst 0 _ (i) (ad 5 i 0) _ _ (mm_XL4 hX) (mm_rg (by omega))) mw_357 mw_358 mw_359 mw_4 mw_360 ⟨pmJx4a65c_get_915e3, (Nat.le_of_ble_eq_true rfl), (Nat.le_of_ble_eq_true rfl)⟩ (mm_recvL F.2.2.2.2.2.1 hN (mm_XL4 hX)) hl.1 rfl (Nat.le_of_ble_eq_true rfl) ⟨(Nat.le_of_ble_eq_true rfl), (Nat.le_of_ble_eq_true rfl)⟩ dX6_countLetters_21
          (fun _ _ _ _ _ _ h9 => False.elim h9)
          (fun v9 σ9 H locs hp9 hN => ?_)
        obtain ⟨rfl, h9⟩ := hp9
        rw [h9] at hN
        refine W.eq (g2 := F0 m 24 ls [.ref ((ad 5 i 0)), .int (nI (mm_sm (mm_nl T) i))]) rfl ?_
        refine W.widen (k := 0) (n := 0) (Nat.le_of_ble_eq_true rfl) (Nat.le_of_ble_eq_true rfl) ?_
        refine mm_cast (pc := 24) F hN (mm_XR hX (i := i) (by omega)) (ci := 3) rfl mw_571 dX6_countLetters_24 ?_
        refine mm_get (pc := 27) F hN (mm_XR hX (i := i) (by omega)) (ci := 3) rfl 2 (by decide) mw_601 rfl dX6_countLetters_27 ?_
        refine mm_runV (pc := 30) (As := []) (rest := [.int (nI (mm_sm (mm_nl T) i))]) F hN (c_sz l b D hst 0 _ ((mm_po (T.oc i) (T.rc i) (T.rp i)).length) _ _ (mm_XQ hX (i := i) (by omega)) (List.length_map ..)) mw_196 mw_197 mw_198 mw_4 mw_199 ⟨pmJx4a65c_size_8abf5, (Nat.le_of_ble_eq_true rfl), (Nat.le_of_ble_eq_true rfl)⟩ (mm_recvL F.2.2.2.2.2.1 hN (mm_XQ hX (i := i) (by omega))) hl.1 rfl (Nat.le_of_ble_eq_true rfl) ⟨(Nat.le_of_ble_eq_true rfl), (Nat.le_of_ble_eq_true rfl)⟩ dX6_countLetters_30
          (fun _ _ _ _ _ _ h9 => False.elim h9)
          (fun v9 σ9 H locs hp9 hN => ?_)
        obtain ⟨rfl, h9⟩ := hp9
        rw [h9] at hN
        refine W.eq (g2 := F0 m 33 ls [.int (nI ((mm_po (T.oc i) (T.rc i) (T.rp i)).length)), .int (nI (mm_sm (mm_nl T) i))]) rfl ?_
        refine W.widen (k := 0) (n := 0) (Nat.le_of_ble_eq_true rfl) (Nat.le_of_ble_eq_true rfl) ?_
        refine mm_iadd (pc := 33) F (z := nI ((mm_sm (mm_nl T) i) + ((mm_po (T.oc i) (T.rc i) (T.rp i)).length))) (nI_add _ _) dX6_countLetters_33 ?_
        refine W.eq (g2 := F0 m 34 ls [.int (nI (mm_sm (mm_nl T) (i + 1)))]) (congrArg (fun q => F0 m 34 ls (Value.int (nI q) :: [])) (by rw [mm_po_num]; rfl)) ?_
        refine lv_istore_n (pc := 34) (lv' := [(1, .int (nI (mm_sm (mm_nl T) (i + 1)))), (0, .ref ((ad 0 0 0))), (2, .int (nI i))]) F.1 F.2.1 dX6_countLetters_34 rfl hl (by decide) rfl (fun ls hl => ?_)
        refine lv_iinc (pc := 35) (v := nI (i + 1)) (lv' := [(2, .int (nI (i + 1))), (1, .int (nI (mm_sm (mm_nl T) (i + 1)))), (0, .ref ((ad 0 0 0)))]) F.1 F.2.1 dX6_countLetters_35 hl (k := 2) rfl (by rw [← nI_add]; rfl) (by decide) rfl (fun ls hl => ?_)
        refine lv_goto (pc := 38) (tgt := 4) F.1 F.2.1 dX6_countLetters_38 (by decide) ?_
        exact ih4 (i + 1) ls _ _ (by omega) (by omega) hN (lv_sub hl [2, 1, 0] rfl)
  exact lp4 (T.nR + 1) 0 ls _ _ (by omega) (by omega) hN (lv_sub hl [2, 1, 0] rfl)

def mm_q_returnShare (T : mm_T) : Nat := if mm_sm (mm_nl T) T.nR = 0 then 1 else 0
set_option maxHeartbeats 4000000 in
set_option maxRecDepth 100000 in
theorem a_returnShare (l : Launch) (b : Nat) (D : mm_D) (hst : l.stackTraces = false) (T : mm_T) (z : mm_Z) (ad : Nat → Nat → Nat → Nat) (σ : mm_S) (hX : mm_X σ T z ad) (hW : mm_WF T) : mm_K l b D yX6_returnShare (.code yX6_returnShare cX6_returnShare 4 (some .float)) ({ frames := 8, cells := 6, slots := 40, locals := 220 } : Room) [.ref ((ad 0 0 0))] σ
    (fun v σ2 => mm_q_returnShare T = 0 ∧ v = some (.float (FP.fdiv (FP.i2f (nI (mm_sm (mm_nb9 T) T.nR))) (FP.i2f (nI (mm_sm (mm_nl T) T.nR))))) ∧ mm_Xt σ σ2 (T) (ad 0 0 0))
    (fun E σ2 => ((mm_q_returnShare T = 1 ∧ E = "java/lang/ArithmeticException")) ∧ mm_Xt σ σ2 T (ad 0 0 0)) := by
  refine mm_of (cc := cX6_returnShare) (nL := 4) (ret := (some .float)) (by decide) rfl (Nat.le_of_ble_eq_true rfl) hst ?_
  intro p e s m args below meth c ls F ht hr hin hN hl
  have hl : lv_has ls 4 [(0, .ref ((ad 0 0 0)))] := hl
  have wnA := hW.hnA
  have wnP := hW.hnP
  have wnT := hW.hnT
  have wnR := hW.hnR
  have wpa := hW.hpa
  have wbo := hW.hbo
  have wen0 := hW.hen 0
  have wen1 := hW.hen 1
  refine lv_aload_n (pc := 0) F.1 F.2.1 dX6_returnShare_0 rfl (lv_at hl 0 rfl) ?_
  refine mm_runV (pc := 1) (As := []) (rest := []) F hN (c_count l b D hst T z ad σ hX hW) mw_1085 mw_1087 mw_p21 mw_1 mw_1088 ⟨pmX6_countLetters, (Nat.le_of_ble_eq_true rfl), (Nat.le_of_ble_eq_true rfl)⟩ (mm_recv F.2.2.2.2.2.1 hN (mm_X0 hX) rfl) hl.1 rfl (Nat.le_of_ble_eq_true rfl) ⟨(Nat.le_of_ble_eq_true rfl), (Nat.le_of_ble_eq_true rfl)⟩ dX6_returnShare_1
    (fun _ _ _ _ _ _ h9 => False.elim h9)
    (fun v9 σ9 H locs hp9 hN => ?_)
  obtain ⟨rfl, h9⟩ := hp9
  rw [h9] at hN
  refine W.eq (g2 := F0 m 4 ls [.int (nI (mm_sm (mm_nl T) T.nR))]) rfl ?_
  refine W.widen (k := 0) (n := 0) (Nat.le_of_ble_eq_true rfl) (Nat.le_of_ble_eq_true rfl) ?_
  have hnl := mm_nlw hW (Nat.le_refl T.nR)
  refine lv_istore_n (pc := 4) (lv' := [(1, .int (nI (mm_sm (mm_nl T) T.nR))), (0, .ref ((ad 0 0 0)))]) F.1 F.2.1 dX6_returnShare_4 rfl hl (by decide) rfl (fun ls hl => ?_)
  refine lv_iload_n (pc := 5) F.1 F.2.1 dX6_returnShare_5 rfl (lv_at hl 0 rfl) ?_
  refine mm_if_ne (pc := 6) F (tgt := 20) (by omega) dX6_returnShare_6 (by decide) (fun cz6 => ?_) (fun cz6 => ?_)
  ·
    refine lv_iconst (pc := 20) (v := nI 0) F.1 F.2.1 dX6_returnShare_20 (by decide) ?_
    refine lv_istore_n (pc := 21) (lv' := [(2, .int (nI 0)), (1, .int (nI (mm_sm (mm_nl T) T.nR))), (0, .ref ((ad 0 0 0)))]) F.1 F.2.1 dX6_returnShare_21 rfl hl (by decide) rfl (fun ls hl => ?_)
    refine lv_iconst (pc := 22) (v := nI 0) F.1 F.2.1 dX6_returnShare_22 (by decide) ?_
    refine lv_istore_n (pc := 23) (lv' := [(3, .int (nI 0)), (2, .int (nI 0)), (1, .int (nI (mm_sm (mm_nl T) T.nR))), (0, .ref ((ad 0 0 0)))]) F.1 F.2.1 dX6_returnShare_23 rfl hl (by decide) rfl (fun ls hl => ?_)
    have hnz : ¬ mm_sm (mm_nl T) T.nR = 0 := cz6
    have lp24 : ∀ (k24 i : Nat) (ls : Array Slot) (H : Heap) (locs : List Loc), T.nR < i + k24 → i ≤ T.nR → mm_N b D s σ H locs → lv_has ls 4 [(0, .ref ((ad 0 0 0))), (1, .int (nI (mm_sm (mm_nl T) T.nR))), (2, .int (nI (mm_sm (mm_nb9 T) i))), (3, .int (nI i))] →
        W p l e ({ frames := 8, cells := 6, slots := 40, locals := 220 } : Room) s m args below meth c H locs (0) (0) (mm_Q b D (fun v σ2 => mm_q_returnShare T = 0 ∧ v = some (.float (FP.fdiv (FP.i2f (nI (mm_sm (mm_nb9 T) T.nR))) (FP.i2f (nI (mm_sm (mm_nl T) T.nR))))) ∧ mm_Xt σ σ2 (T) (ad 0 0 0)) (fun E σ2 => ((mm_q_returnShare T = 1 ∧ E = "java/lang/ArithmeticException")) ∧ mm_Xt σ σ2 T (ad 0 0 0)) below args s ({ frames := 8, cells := 6, slots := 40, locals := 220 } : Room)) (F0 m 24 ls []) := by
      intro k24
      induction k24 with
      | zero => intro i  ls H locs hk24 hi24  hN hl; omega
      | succ k24 ih24 =>
        intro i  ls H locs hk24 hi24  hN hl
        refine lv_iload_n (pc := 24) F.1 F.2.1 dX6_returnShare_24 rfl (lv_at hl 3 rfl) ?_
        refine lv_aload_n (pc := 25) F.1 F.2.1 dX6_returnShare_25 rfl (lv_at hl 0 rfl) ?_
        refine mm_get (pc := 26) F hN (mm_X0 hX) (ci := 6) rfl 3 (by decide) mw_88 rfl dX6_returnShare_26 ?_
        refine mm_runV (pc := 29) (As := []) (rest := [.int (nI i)]) F hN (c_sz l b D hst 0 _ T.nR _ _ (mm_XL4 hX) mm_rgl) mw_196 mw_197 mw_198 mw_4 mw_199 ⟨pmJx4a65c_size_8abf5, (Nat.le_of_ble_eq_true rfl), (Nat.le_of_ble_eq_true rfl)⟩ (mm_recvL F.2.2.2.2.2.1 hN (mm_XL4 hX)) hl.1 rfl (Nat.le_of_ble_eq_true rfl) ⟨(Nat.le_of_ble_eq_true rfl), (Nat.le_of_ble_eq_true rfl)⟩ dX6_returnShare_29
          (fun _ _ _ _ _ _ h9 => False.elim h9)
          (fun v9 σ9 H locs hp9 hN => ?_)
        obtain ⟨rfl, h9⟩ := hp9
        rw [h9] at hN
        refine W.eq (g2 := F0 m 32 ls [.int (nI T.nR), .int (nI i)]) rfl ?_
        refine W.widen (k := 0) (n := 0) (Nat.le_of_ble_eq_true rfl) (Nat.le_of_ble_eq_true rfl) ?_
        refine mm_icmp_ge (pc := 32) F (x := i) (y := T.nR) (tgt := 58) (by omega) (by omega) dX6_returnShare_32 (by decide) (fun cz32 => ?_) (fun cz32 => ?_)
        ·
          have hin : i = T.nR := by omega
          have hbw := mm_nbw hW (Nat.le_refl T.nR)
          rw [hin] at hl
          have hl : lv_has ls 4 [(0, .ref ((ad 0 0 0))), (1, .int (nI (mm_sm (mm_nl T) T.nR))), (2, .int (nI (mm_sm (mm_nb9 T) T.nR))), (3, .int (nI T.nR))] := hl
          refine lv_iload_n (pc := 58) F.1 F.2.1 dX6_returnShare_58 rfl (lv_at hl 2 rfl) ?_
          refine lv_i2f (pc := 59) F.1 F.2.1 dX6_returnShare_59 ?_
          refine lv_iload_n (pc := 60) F.1 F.2.1 dX6_returnShare_60 rfl (lv_at hl 1 rfl) ?_
          refine lv_i2f (pc := 61) F.1 F.2.1 dX6_returnShare_61 ?_
          refine lv_fdiv (pc := 62) F.1 F.2.1 dX6_returnShare_62 (mm_fdivn (by omega) (by omega) hnz) ?_
          exact mm_fret (pc := 63) F hr hN (⟨by unfold mm_q_returnShare; (repeat' split) <;> omega, rfl, mm_Xt.rf hX rfl⟩) (Nat.le_of_ble_eq_true rfl) (Nat.le_of_ble_eq_true rfl) dX6_returnShare_63
        ·
          refine lv_iload_n (pc := 35) F.1 F.2.1 dX6_returnShare_35 rfl (lv_at hl 2 rfl) ?_
          refine lv_aload_n (pc := 36) F.1 F.2.1 dX6_returnShare_36 rfl (lv_at hl 0 rfl) ?_
          refine mm_get (pc := 37) F hN (mm_X0 hX) (ci := 6) rfl 3 (by decide) mw_88 rfl dX6_returnShare_37 ?_
          refine lv_iload_n (pc := 40) F.1 F.2.1 dX6_returnShare_40 rfl (lv_at hl 3 rfl) ?_
          refine mm_runV (pc := 41) (As := [.int (nI i)]) (rest := [.int (nI (mm_sm (mm_nb9 T) i))]) F hN (c_ALget l b D hst 0 _ (i) (ad 5 i 0) _ _ (mm_XL4 hX) (mm_rg (by omega))) mw_357 mw_358 mw_359 mw_4 mw_360 ⟨pmJx4a65c_get_915e3, (Nat.le_of_ble_eq_true rfl), (Nat.le_of_ble_eq_true rfl)⟩ (mm_recvL F.2.2.2.2.2.1 hN (mm_XL4 hX)) hl.1 rfl (Nat.le_of_ble_eq_true rfl) ⟨(Nat.le_of_ble_eq_true rfl), (Nat.le_of_ble_eq_true rfl)⟩ dX6_returnShare_41
            (fun _ _ _ _ _ _ h9 => False.elim h9)
            (fun v9 σ9 H locs hp9 hN => ?_)
          obtain ⟨rfl, h9⟩ := hp9
          rw [h9] at hN
          refine W.eq (g2 := F0 m 44 ls [.ref ((ad 5 i 0)), .int (nI (mm_sm (mm_nb9 T) i))]) rfl ?_
          refine W.widen (k := 0) (n := 0) (Nat.le_of_ble_eq_true rfl) (Nat.le_of_ble_eq_true rfl) ?_
          refine mm_cast (pc := 44) F hN (mm_XR hX (i := i) (by omega)) (ci := 3) rfl mw_571 dX6_returnShare_44 ?_
          refine mm_runV (pc := 47) (As := []) (rest := [.int (nI (mm_sm (mm_nb9 T) i))]) F hN (c_countBack l b D hst 0 (ad 5 i 0) (T.rb i) (ad 6 i 0) (ad 6 i 1) (ad 6 i 2) ((mm_po (T.oc i) (T.rc i) (T.rp i)).map (fun p => ad 7 i p)) (fun c9 c8 => mm_fa T ad i c9 ((mm_po (T.oc i) (T.rc i) (T.rp i)).getD c8 0)) σ (mm_XR hX (i := i) (by omega)) (mm_XQ hX (i := i) (by omega)) (mm_X_po hX hW (by omega))) mw_980 mw_981 mw_982 mw_29 mw_983 ⟨pmX3_countBack, (Nat.le_of_ble_eq_true rfl), (Nat.le_of_ble_eq_true rfl)⟩ (mm_recv F.2.2.2.2.2.1 hN (mm_XR hX (i := i) (by omega)) rfl) hl.1 rfl (Nat.le_of_ble_eq_true rfl) ⟨(Nat.le_of_ble_eq_true rfl), (Nat.le_of_ble_eq_true rfl)⟩ dX6_returnShare_47
            (fun _ _ _ _ _ _ h9 => False.elim h9)
            (fun v9 σ9 H locs hp9 hN => ?_)
          obtain ⟨rfl, h9⟩ := hp9
          rw [h9] at hN
          refine W.eq (g2 := F0 m 50 ls [.int (nI (mm_sm (fun c8 => mm_fa T ad i 6 ((mm_po (T.oc i) (T.rc i) (T.rp i)).getD c8 0)) ((mm_po (T.oc i) (T.rc i) (T.rp i)).map (fun p => ad 7 i p)).length)), .int (nI (mm_sm (mm_nb9 T) i))]) rfl ?_
          refine W.widen (k := 0) (n := 0) (Nat.le_of_ble_eq_true rfl) (Nat.le_of_ble_eq_true rfl) ?_
          refine mm_iadd (pc := 50) F (z := nI ((mm_sm (mm_nb9 T) i) + (mm_sm (fun c8 => mm_fa T ad i 6 ((mm_po (T.oc i) (T.rc i) (T.rp i)).getD c8 0)) ((mm_po (T.oc i) (T.rc i) (T.rp i)).map (fun p => ad 7 i p)).length))) (nI_add _ _) dX6_returnShare_50 ?_
          refine W.eq (g2 := F0 m 51 ls [.int (nI (mm_sm (mm_nb9 T) (i + 1)))]) (congrArg (fun q => F0 m 51 ls (Value.int (nI q) :: [])) (by rw [List.length_map]; exact congrArg (mm_sm (mm_nb9 T) i + ·) (mm_po_sum (T.oc i) (T.rc i) (fun p => mm_fa T ad i 6 p) (T.rp i)))) ?_
          refine lv_istore_n (pc := 51) (lv' := [(2, .int (nI (mm_sm (mm_nb9 T) (i + 1)))), (0, .ref ((ad 0 0 0))), (1, .int (nI (mm_sm (mm_nl T) T.nR))), (3, .int (nI i))]) F.1 F.2.1 dX6_returnShare_51 rfl hl (by decide) rfl (fun ls hl => ?_)
          refine lv_iinc (pc := 52) (v := nI (i + 1)) (lv' := [(3, .int (nI (i + 1))), (2, .int (nI (mm_sm (mm_nb9 T) (i + 1)))), (0, .ref ((ad 0 0 0))), (1, .int (nI (mm_sm (mm_nl T) T.nR)))]) F.1 F.2.1 dX6_returnShare_52 hl (k := 3) rfl (by rw [← nI_add]; rfl) (by decide) rfl (fun ls hl => ?_)
          refine lv_goto (pc := 55) (tgt := 24) F.1 F.2.1 dX6_returnShare_55 (by decide) ?_
          exact ih24 (i + 1) ls _ _ (by omega) (by omega) hN (lv_sub hl [2, 3, 1, 0] rfl)
    exact lp24 (T.nR + 1) 0 ls _ _ (by omega) (by omega) hN (lv_sub hl [3, 2, 1, 0] rfl)
  ·
    exact mm_throwW F ht hN (by decide) (mm_tARE mw_1091) mw_1089 mw_17 (List.mem_of_getElem? (i := 25) rfl) hl.1 dX6_returnShare_9 dX6_returnShare_12 dX6_returnShare_13 dX6_returnShare_16 dX6_returnShare_19 ⟨(Nat.le_of_ble_eq_true rfl), (Nat.le_of_ble_eq_true rfl), (Nat.le_of_ble_eq_true rfl), (Nat.le_of_ble_eq_true rfl)⟩ (⟨⟨by unfold mm_q_returnShare; (repeat' split) <;> omega, rfl⟩, mm_Xt.rf hX rfl⟩) (Nat.le_of_ble_eq_true rfl) (Nat.le_of_ble_eq_true rfl)

def mm_q_meanPages (T : mm_T) : Nat := if mm_sm (mm_nl T) T.nR = 0 then 1 else 0
set_option maxHeartbeats 4000000 in
set_option maxRecDepth 100000 in
theorem a_meanPages (l : Launch) (b : Nat) (D : mm_D) (hst : l.stackTraces = false) (T : mm_T) (z : mm_Z) (ad : Nat → Nat → Nat → Nat) (σ : mm_S) (hX : mm_X σ T z ad) (hW : mm_WF T) : mm_K l b D yX6_meanPages (.code yX6_meanPages cX6_meanPages 4 (some .double)) ({ frames := 8, cells := 6, slots := 40, locals := 220 } : Room) [.ref ((ad 0 0 0))] σ
    (fun v σ2 => mm_q_meanPages T = 0 ∧ v = some (.double (FP.ddiv (FP.i2d (nI (mm_sm (mm_s0 T) T.nR))) (FP.i2d (nI (mm_sm (mm_nl T) T.nR))))) ∧ mm_Xt σ σ2 (T) (ad 0 0 0))
    (fun E σ2 => ((mm_q_meanPages T = 1 ∧ E = "java/lang/ArithmeticException")) ∧ mm_Xt σ σ2 T (ad 0 0 0)) := by
  refine mm_of (cc := cX6_meanPages) (nL := 4) (ret := (some .double)) (by decide) rfl (Nat.le_of_ble_eq_true rfl) hst ?_
  intro p e s m args below meth c ls F ht hr hin hN hl
  have hl : lv_has ls 4 [(0, .ref ((ad 0 0 0)))] := hl
  have wnA := hW.hnA
  have wnP := hW.hnP
  have wnT := hW.hnT
  have wnR := hW.hnR
  have wpa := hW.hpa
  have wbo := hW.hbo
  have wen0 := hW.hen 0
  have wen1 := hW.hen 1
  refine lv_aload_n (pc := 0) F.1 F.2.1 dX6_meanPages_0 rfl (lv_at hl 0 rfl) ?_
  refine mm_runV (pc := 1) (As := []) (rest := []) F hN (c_count l b D hst T z ad σ hX hW) mw_1085 mw_1087 mw_p21 mw_1 mw_1088 ⟨pmX6_countLetters, (Nat.le_of_ble_eq_true rfl), (Nat.le_of_ble_eq_true rfl)⟩ (mm_recv F.2.2.2.2.2.1 hN (mm_X0 hX) rfl) hl.1 rfl (Nat.le_of_ble_eq_true rfl) ⟨(Nat.le_of_ble_eq_true rfl), (Nat.le_of_ble_eq_true rfl)⟩ dX6_meanPages_1
    (fun _ _ _ _ _ _ h9 => False.elim h9)
    (fun v9 σ9 H locs hp9 hN => ?_)
  obtain ⟨rfl, h9⟩ := hp9
  rw [h9] at hN
  refine W.eq (g2 := F0 m 4 ls [.int (nI (mm_sm (mm_nl T) T.nR))]) rfl ?_
  refine W.widen (k := 0) (n := 0) (Nat.le_of_ble_eq_true rfl) (Nat.le_of_ble_eq_true rfl) ?_
  have hnl := mm_nlw hW (Nat.le_refl T.nR)
  refine lv_istore_n (pc := 4) (lv' := [(1, .int (nI (mm_sm (mm_nl T) T.nR))), (0, .ref ((ad 0 0 0)))]) F.1 F.2.1 dX6_meanPages_4 rfl hl (by decide) rfl (fun ls hl => ?_)
  refine lv_iload_n (pc := 5) F.1 F.2.1 dX6_meanPages_5 rfl (lv_at hl 0 rfl) ?_
  refine mm_if_ne (pc := 6) F (tgt := 20) (by omega) dX6_meanPages_6 (by decide) (fun cz6 => ?_) (fun cz6 => ?_)
  ·
    refine lv_iconst (pc := 20) (v := nI 0) F.1 F.2.1 dX6_meanPages_20 (by decide) ?_
    refine lv_istore_n (pc := 21) (lv' := [(2, .int (nI 0)), (1, .int (nI (mm_sm (mm_nl T) T.nR))), (0, .ref ((ad 0 0 0)))]) F.1 F.2.1 dX6_meanPages_21 rfl hl (by decide) rfl (fun ls hl => ?_)
    refine lv_iconst (pc := 22) (v := nI 0) F.1 F.2.1 dX6_meanPages_22 (by decide) ?_
    refine lv_istore_n (pc := 23) (lv' := [(3, .int (nI 0)), (2, .int (nI 0)), (1, .int (nI (mm_sm (mm_nl T) T.nR))), (0, .ref ((ad 0 0 0)))]) F.1 F.2.1 dX6_meanPages_23 rfl hl (by decide) rfl (fun ls hl => ?_)
    have hnz : ¬ mm_sm (mm_nl T) T.nR = 0 := cz6
    have lp24 : ∀ (k24 i : Nat) (ls : Array Slot) (H : Heap) (locs : List Loc), T.nR < i + k24 → i ≤ T.nR → mm_N b D s σ H locs → lv_has ls 4 [(0, .ref ((ad 0 0 0))), (1, .int (nI (mm_sm (mm_nl T) T.nR))), (2, .int (nI (mm_sm (mm_s0 T) i))), (3, .int (nI i))] →
        W p l e ({ frames := 8, cells := 6, slots := 40, locals := 220 } : Room) s m args below meth c H locs (0) (0) (mm_Q b D (fun v σ2 => mm_q_meanPages T = 0 ∧ v = some (.double (FP.ddiv (FP.i2d (nI (mm_sm (mm_s0 T) T.nR))) (FP.i2d (nI (mm_sm (mm_nl T) T.nR))))) ∧ mm_Xt σ σ2 (T) (ad 0 0 0)) (fun E σ2 => ((mm_q_meanPages T = 1 ∧ E = "java/lang/ArithmeticException")) ∧ mm_Xt σ σ2 T (ad 0 0 0)) below args s ({ frames := 8, cells := 6, slots := 40, locals := 220 } : Room)) (F0 m 24 ls []) := by
      intro k24
      induction k24 with
      | zero => intro i  ls H locs hk24 hi24  hN hl; omega
      | succ k24 ih24 =>
        intro i  ls H locs hk24 hi24  hN hl
        refine lv_iload_n (pc := 24) F.1 F.2.1 dX6_meanPages_24 rfl (lv_at hl 3 rfl) ?_
        refine lv_aload_n (pc := 25) F.1 F.2.1 dX6_meanPages_25 rfl (lv_at hl 0 rfl) ?_
        refine mm_get (pc := 26) F hN (mm_X0 hX) (ci := 6) rfl 3 (by decide) mw_88 rfl dX6_meanPages_26 ?_
        refine mm_runV (pc := 29) (As := []) (rest := [.int (nI i)]) F hN (c_sz l b D hst 0 _ T.nR _ _ (mm_XL4 hX) mm_rgl) mw_196 mw_197 mw_198 mw_4 mw_199 ⟨pmJx4a65c_size_8abf5, (Nat.le_of_ble_eq_true rfl), (Nat.le_of_ble_eq_true rfl)⟩ (mm_recvL F.2.2.2.2.2.1 hN (mm_XL4 hX)) hl.1 rfl (Nat.le_of_ble_eq_true rfl) ⟨(Nat.le_of_ble_eq_true rfl), (Nat.le_of_ble_eq_true rfl)⟩ dX6_meanPages_29
          (fun _ _ _ _ _ _ h9 => False.elim h9)
          (fun v9 σ9 H locs hp9 hN => ?_)
        obtain ⟨rfl, h9⟩ := hp9
        rw [h9] at hN
        refine W.eq (g2 := F0 m 32 ls [.int (nI T.nR), .int (nI i)]) rfl ?_
        refine W.widen (k := 0) (n := 0) (Nat.le_of_ble_eq_true rfl) (Nat.le_of_ble_eq_true rfl) ?_
        refine mm_icmp_ge (pc := 32) F (x := i) (y := T.nR) (tgt := 58) (by omega) (by omega) dX6_meanPages_32 (by decide) (fun cz32 => ?_) (fun cz32 => ?_)
        ·
          have hin : i = T.nR := by omega
          have hbw := mm_s0w hW (Nat.le_refl T.nR)
          rw [hin] at hl
          have hl : lv_has ls 4 [(0, .ref ((ad 0 0 0))), (1, .int (nI (mm_sm (mm_nl T) T.nR))), (2, .int (nI (mm_sm (mm_s0 T) T.nR))), (3, .int (nI T.nR))] := hl
          refine lv_iload_n (pc := 58) F.1 F.2.1 dX6_meanPages_58 rfl (lv_at hl 2 rfl) ?_
          refine lv_i2d (pc := 59) F.1 F.2.1 dX6_meanPages_59 ?_
          refine lv_iload_n (pc := 60) F.1 F.2.1 dX6_meanPages_60 rfl (lv_at hl 1 rfl) ?_
          refine lv_i2d (pc := 61) F.1 F.2.1 dX6_meanPages_61 ?_
          refine lv_ddiv (pc := 62) F.1 F.2.1 dX6_meanPages_62 (mm_ddivn (by omega) (by omega) hnz) ?_
          exact mm_dret (pc := 63) F hr hN (⟨by unfold mm_q_meanPages; (repeat' split) <;> omega, rfl, mm_Xt.rf hX rfl⟩) (Nat.le_of_ble_eq_true rfl) (Nat.le_of_ble_eq_true rfl) dX6_meanPages_63
        ·
          refine lv_iload_n (pc := 35) F.1 F.2.1 dX6_meanPages_35 rfl (lv_at hl 2 rfl) ?_
          refine lv_aload_n (pc := 36) F.1 F.2.1 dX6_meanPages_36 rfl (lv_at hl 0 rfl) ?_
          refine mm_get (pc := 37) F hN (mm_X0 hX) (ci := 6) rfl 3 (by decide) mw_88 rfl dX6_meanPages_37 ?_
          refine lv_iload_n (pc := 40) F.1 F.2.1 dX6_meanPages_40 rfl (lv_at hl 3 rfl) ?_
          refine mm_runV (pc := 41) (As := [.int (nI i)]) (rest := [.int (nI (mm_sm (mm_s0 T) i))]) F hN (c_ALget l b D hst 0 _ (i) (ad 5 i 0) _ _ (mm_XL4 hX) (mm_rg (by omega))) mw_357 mw_358 mw_359 mw_4 mw_360 ⟨pmJx4a65c_get_915e3, (Nat.le_of_ble_eq_true rfl), (Nat.le_of_ble_eq_true rfl)⟩ (mm_recvL F.2.2.2.2.2.1 hN (mm_XL4 hX)) hl.1 rfl (Nat.le_of_ble_eq_true rfl) ⟨(Nat.le_of_ble_eq_true rfl), (Nat.le_of_ble_eq_true rfl)⟩ dX6_meanPages_41
            (fun _ _ _ _ _ _ h9 => False.elim h9)
            (fun v9 σ9 H locs hp9 hN => ?_)
          obtain ⟨rfl, h9⟩ := hp9
          rw [h9] at hN
          refine W.eq (g2 := F0 m 44 ls [.ref ((ad 5 i 0)), .int (nI (mm_sm (mm_s0 T) i))]) rfl ?_
          refine W.widen (k := 0) (n := 0) (Nat.le_of_ble_eq_true rfl) (Nat.le_of_ble_eq_true rfl) ?_
          refine mm_cast (pc := 44) F hN (mm_XR hX (i := i) (by omega)) (ci := 3) rfl mw_571 dX6_meanPages_44 ?_
          refine mm_runV (pc := 47) (As := []) (rest := [.int (nI (mm_sm (mm_s0 T) i))]) F hN (c_countPages l b D hst 0 (ad 5 i 0) (T.rb i) (ad 6 i 0) (ad 6 i 1) (ad 6 i 2) ((mm_po (T.oc i) (T.rc i) (T.rp i)).map (fun p => ad 7 i p)) (fun c9 c8 => mm_fa T ad i c9 ((mm_po (T.oc i) (T.rc i) (T.rp i)).getD c8 0)) σ (mm_XR hX (i := i) (by omega)) (mm_XQ hX (i := i) (by omega)) (mm_X_po hX hW (by omega))) mw_1100 mw_1101 mw_1102 mw_29 mw_1103 ⟨pmX3_countPages, (Nat.le_of_ble_eq_true rfl), (Nat.le_of_ble_eq_true rfl)⟩ (mm_recv F.2.2.2.2.2.1 hN (mm_XR hX (i := i) (by omega)) rfl) hl.1 rfl (Nat.le_of_ble_eq_true rfl) ⟨(Nat.le_of_ble_eq_true rfl), (Nat.le_of_ble_eq_true rfl)⟩ dX6_meanPages_47
            (fun _ _ _ _ _ _ h9 => False.elim h9)
            (fun v9 σ9 H locs hp9 hN => ?_)
          obtain ⟨rfl, h9⟩ := hp9
          rw [h9] at hN
          refine W.eq (g2 := F0 m 50 ls [.int (nI (mm_sm (fun c8 => mm_fa T ad i 4 ((mm_po (T.oc i) (T.rc i) (T.rp i)).getD c8 0)) ((mm_po (T.oc i) (T.rc i) (T.rp i)).map (fun p => ad 7 i p)).length)), .int (nI (mm_sm (mm_s0 T) i))]) rfl ?_
          refine W.widen (k := 0) (n := 0) (Nat.le_of_ble_eq_true rfl) (Nat.le_of_ble_eq_true rfl) ?_
          refine mm_iadd (pc := 50) F (z := nI ((mm_sm (mm_s0 T) i) + (mm_sm (fun c8 => mm_fa T ad i 4 ((mm_po (T.oc i) (T.rc i) (T.rp i)).getD c8 0)) ((mm_po (T.oc i) (T.rc i) (T.rp i)).map (fun p => ad 7 i p)).length))) (nI_add _ _) dX6_meanPages_50 ?_
          refine W.eq (g2 := F0 m 51 ls [.int (nI (mm_sm (mm_s0 T) (i + 1)))]) (congrArg (fun q => F0 m 51 ls (Value.int (nI q) :: [])) (by rw [List.length_map]; exact congrArg (mm_sm (mm_s0 T) i + ·) (mm_po_sum (T.oc i) (T.rc i) (fun p => mm_fa T ad i 4 p) (T.rp i)))) ?_
          refine lv_istore_n (pc := 51) (lv' := [(2, .int (nI (mm_sm (mm_s0 T) (i + 1)))), (0, .ref ((ad 0 0 0))), (1, .int (nI (mm_sm (mm_nl T) T.nR))), (3, .int (nI i))]) F.1 F.2.1 dX6_meanPages_51 rfl hl (by decide) rfl (fun ls hl => ?_)
          refine lv_iinc (pc := 52) (v := nI (i + 1)) (lv' := [(3, .int (nI (i + 1))), (2, .int (nI (mm_sm (mm_s0 T) (i + 1)))), (0, .ref ((ad 0 0 0))), (1, .int (nI (mm_sm (mm_nl T) T.nR)))]) F.1 F.2.1 dX6_meanPages_52 hl (k := 3) rfl (by rw [← nI_add]; rfl) (by decide) rfl (fun ls hl => ?_)
          refine lv_goto (pc := 55) (tgt := 24) F.1 F.2.1 dX6_meanPages_55 (by decide) ?_
          exact ih24 (i + 1) ls _ _ (by omega) (by omega) hN (lv_sub hl [2, 3, 1, 0] rfl)
    exact lp24 (T.nR + 1) 0 ls _ _ (by omega) (by omega) hN (lv_sub hl [3, 2, 1, 0] rfl)
  ·
    exact mm_throwW F ht hN (by decide) (mm_tARE mw_1091) mw_1089 mw_17 (List.mem_of_getElem? (i := 25) rfl) hl.1 dX6_meanPages_9 dX6_meanPages_12 dX6_meanPages_13 dX6_meanPages_16 dX6_meanPages_19 ⟨(Nat.le_of_ble_eq_true rfl), (Nat.le_of_ble_eq_true rfl), (Nat.le_of_ble_eq_true rfl), (Nat.le_of_ble_eq_true rfl)⟩ (⟨⟨by unfold mm_q_meanPages; (repeat' split) <;> omega, rfl⟩, mm_Xt.rf hX rfl⟩) (Nat.le_of_ble_eq_true rfl) (Nat.le_of_ble_eq_true rfl)

set_option maxHeartbeats 4000000 in
set_option maxRecDepth 100000 in
theorem c_agree (l : Launch) (b : Nat) (D : mm_D) (hst : l.stackTraces = false) (T : mm_T) (z : mm_Z) (ad : Nat → Nat → Nat → Nat) (σ : mm_S) (hX : mm_X σ T z ad) (hW : mm_WF T) (t hh : Nat) (ht2 : t < T.nT) (hh2 : hh < 2) : mm_K l b D yX6_previewsAgree (.code yX6_previewsAgree cX6_previewsAgree 4 (some .boolean)) ({ frames := 7, cells := 0, slots := 0, locals := 220 } : Room) [.ref ((ad 0 0 0)), .ref ((ad 3 t 0)), .int (nI hh)] σ
    (fun v σ2 => v = some (.int (nI 1)) ∧ ∃ z2 : mm_Z, mm_X σ2 T z2 ad ∧ mm_Fr 0 σ σ2)
    (fun _ _ => False) := by
  refine mm_of (cc := cX6_previewsAgree) (nL := 4) (ret := (some .boolean)) (by decide) rfl (Nat.le_of_ble_eq_true rfl) hst ?_
  intro p e s m args below meth c ls F ht hr hin hN hl
  have hl : lv_has ls 4 [(0, .ref ((ad 0 0 0))), (1, .ref ((ad 3 t 0))), (2, .int (nI hh))] := hl
  have wnA := hW.hnA
  have wnP := hW.hnP
  have wnT := hW.hnT
  have wnR := hW.hnR
  have wpa := hW.hpa
  have wbo := hW.hbo
  have wen0 := hW.hen 0
  have wen1 := hW.hen 1
  refine lv_aload_n (pc := 0) F.1 F.2.1 dX6_previewsAgree_0 rfl (lv_at hl 0 rfl) ?_
  refine lv_aload_n (pc := 1) F.1 F.2.1 dX6_previewsAgree_1 rfl (lv_at hl 1 rfl) ?_
  refine lv_iload_n (pc := 2) F.1 F.2.1 dX6_previewsAgree_2 rfl (lv_at hl 2 rfl) ?_
  refine mm_runV (pc := 3) (As := [.ref ((ad 3 t 0)), .int (nI hh)]) (rest := []) F hN (c_goes l b D hst T z ad σ hX hW t hh ht2 hh2) mw_555 mw_557 mw_p8 mw_1 mw_558 ⟨pmX6_goThroughPeople, (Nat.le_of_ble_eq_true rfl), (Nat.le_of_ble_eq_true rfl)⟩ (mm_recv F.2.2.2.2.2.1 hN (mm_X0 hX) rfl) hl.1 rfl (Nat.le_of_ble_eq_true rfl) ⟨(Nat.le_of_ble_eq_true rfl), (Nat.le_of_ble_eq_true rfl)⟩ dX6_previewsAgree_3
    (fun _ _ _ _ _ _ h9 => False.elim h9)
    (fun v9 σb H locs hp9 hN => ?_)
  obtain ⟨rfl, zb, hXb, hFb, hIb, hob⟩ := hp9
  refine W.eq (g2 := F0 m 6 ls []) rfl ?_
  refine W.widen (k := 0) (n := 0) (Nat.le_of_ble_eq_true rfl) (Nat.le_of_ble_eq_true rfl) ?_
  refine lv_iconst (pc := 6) (v := nI 0) F.1 F.2.1 dX6_previewsAgree_6 (by decide) ?_
  refine lv_istore_n (pc := 7) (lv' := [(3, .int (nI 0)), (0, .ref ((ad 0 0 0))), (1, .ref ((ad 3 t 0))), (2, .int (nI hh))]) F.1 F.2.1 dX6_previewsAgree_7 rfl hl (by decide) rfl (fun ls hl => ?_)
  have lp8 : ∀ (k8 i : Nat) (σi : mm_S) (zi : mm_Z) (ls : Array Slot) (H : Heap) (locs : List Loc), T.nP < i + k8 → i ≤ T.nP → (mm_X σi T zi ad) → (mm_Fr 0 σ σi) → (zi 3 = zb 3) → mm_N b D s σi H locs → lv_has ls 4 [(0, .ref ((ad 0 0 0))), (1, .ref ((ad 3 t 0))), (2, .int (nI hh)), (3, .int (nI i))] →
      W p l e ({ frames := 7, cells := 0, slots := 0, locals := 220 } : Room) s m args below meth c H locs (0) (0) (mm_Q b D (fun v σ2 => v = some (.int (nI 1)) ∧ ∃ z2 : mm_Z, mm_X σ2 T z2 ad ∧ mm_Fr 0 σ σ2) (fun _ _ => False) below args s ({ frames := 7, cells := 0, slots := 0, locals := 220 } : Room)) (F0 m 8 ls []) := by
    intro k8
    induction k8 with
    | zero => intro i σi zi ls H locs hk8 hi8 hXi hFi hzi hN hl; omega
    | succ k8 ih8 =>
      intro i σi zi ls H locs hk8 hi8 hXi hFi hzi hN hl
      refine lv_iload_n (pc := 8) F.1 F.2.1 dX6_previewsAgree_8 rfl (lv_at hl 3 rfl) ?_
      refine lv_aload_n (pc := 9) F.1 F.2.1 dX6_previewsAgree_9 rfl (lv_at hl 0 rfl) ?_
      refine mm_get (pc := 10) F hN (mm_X0 hXi) (ci := 6) rfl 1 (by decide) mw_86 rfl dX6_previewsAgree_10 ?_
      refine mm_runV (pc := 13) (As := []) (rest := [.int (nI i)]) F hN (c_sz l b D hst 0 _ T.nP _ _ (mm_XL2 hXi) mm_rgl) mw_196 mw_197 mw_198 mw_4 mw_199 ⟨pmJx4a65c_size_8abf5, (Nat.le_of_ble_eq_true rfl), (Nat.le_of_ble_eq_true rfl)⟩ (mm_recvL F.2.2.2.2.2.1 hN (mm_XL2 hXi)) hl.1 rfl (Nat.le_of_ble_eq_true rfl) ⟨(Nat.le_of_ble_eq_true rfl), (Nat.le_of_ble_eq_true rfl)⟩ dX6_previewsAgree_13
        (fun _ _ _ _ _ _ h9 => False.elim h9)
        (fun v9 σ9 H locs hp9 hN => ?_)
      obtain ⟨rfl, h9⟩ := hp9
      rw [h9] at hN
      refine W.eq (g2 := F0 m 16 ls [.int (nI T.nP), .int (nI i)]) rfl ?_
      refine W.widen (k := 0) (n := 0) (Nat.le_of_ble_eq_true rfl) (Nat.le_of_ble_eq_true rfl) ?_
      refine mm_icmp_ge (pc := 16) F (x := i) (y := T.nP) (tgt := 51) (by omega) (by omega) dX6_previewsAgree_16 (by decide) (fun cz16 => ?_) (fun cz16 => ?_)
      ·
        refine lv_iconst (pc := 51) (v := nI 1) F.1 F.2.1 dX6_previewsAgree_51 (by decide) ?_
        exact mm_zret (pc := 52) F (ty := .boolean) hr hN (by decide) (⟨rfl, zi, hXi, hFi⟩) (Nat.le_of_ble_eq_true rfl) (Nat.le_of_ble_eq_true rfl) dX6_previewsAgree_52
      ·
        have ho9 : zi.oc i = mm_oc T t hh i := by show zi 3 i = _; rw [hzi]; exact hob i (by omega)
        have hlt := mm_oc_lt T t hh i
        refine lv_aload_n (pc := 19) F.1 F.2.1 dX6_previewsAgree_19 rfl (lv_at hl 0 rfl) ?_
        refine mm_get (pc := 20) F hN (mm_X0 hXi) (ci := 6) rfl 1 (by decide) mw_86 rfl dX6_previewsAgree_20 ?_
        refine lv_iload_n (pc := 23) F.1 F.2.1 dX6_previewsAgree_23 rfl (lv_at hl 3 rfl) ?_
        refine mm_runV (pc := 24) (As := [.int (nI i)]) (rest := []) F hN (c_ALget l b D hst 0 _ (i) (ad 2 i 0) _ _ (mm_XL2 hXi) (mm_rg (by omega))) mw_357 mw_358 mw_359 mw_4 mw_360 ⟨pmJx4a65c_get_915e3, (Nat.le_of_ble_eq_true rfl), (Nat.le_of_ble_eq_true rfl)⟩ (mm_recvL F.2.2.2.2.2.1 hN (mm_XL2 hXi)) hl.1 rfl (Nat.le_of_ble_eq_true rfl) ⟨(Nat.le_of_ble_eq_true rfl), (Nat.le_of_ble_eq_true rfl)⟩ dX6_previewsAgree_24
          (fun _ _ _ _ _ _ h9 => False.elim h9)
          (fun v9 σ9 H locs hp9 hN => ?_)
        obtain ⟨rfl, h9⟩ := hp9
        rw [h9] at hN
        refine W.eq (g2 := F0 m 27 ls [.ref ((ad 2 i 0))]) rfl ?_
        refine W.widen (k := 0) (n := 0) (Nat.le_of_ble_eq_true rfl) (Nat.le_of_ble_eq_true rfl) ?_
        refine mm_cast (pc := 27) F hN (mm_XP hXi (i := i) (by omega)) (ci := 2) rfl mw_373 dX6_previewsAgree_27 ?_
        refine mm_get (pc := 30) F hN (mm_XP hXi (i := i) (by omega)) (ci := 2) rfl 3 (by decide) mw_411 rfl dX6_previewsAgree_30 ?_
        refine lv_aload_n (pc := 33) F.1 F.2.1 dX6_previewsAgree_33 rfl (lv_at hl 0 rfl) ?_
        refine lv_aload_n (pc := 34) F.1 F.2.1 dX6_previewsAgree_34 rfl (lv_at hl 1 rfl) ?_
        refine lv_iload_n (pc := 35) F.1 F.2.1 dX6_previewsAgree_35 rfl (lv_at hl 2 rfl) ?_
        refine lv_iload_n (pc := 36) F.1 F.2.1 dX6_previewsAgree_36 rfl (lv_at hl 3 rfl) ?_
        refine mm_runV (pc := 37) (As := [.ref ((ad 3 t 0)), .int (nI hh), .int (nI i)]) (rest := [.int (nI (zi.oc i))]) F hN (c_alone l b D hst T zi ad σi hXi hW t i hh ht2 (by omega) hh2) mw_936 mw_938 mw_p15 mw_1 mw_939 ⟨pmX6_outcomeAlone, (Nat.le_of_ble_eq_true rfl), (Nat.le_of_ble_eq_true rfl)⟩ (mm_recv F.2.2.2.2.2.1 hN (mm_X0 hXi) rfl) hl.1 rfl (Nat.le_of_ble_eq_true rfl) ⟨(Nat.le_of_ble_eq_true rfl), (Nat.le_of_ble_eq_true rfl)⟩ dX6_previewsAgree_37
          (fun _ _ _ _ _ _ h9 => False.elim h9)
          (fun v9 σc H locs hp9 hN => ?_)
        obtain ⟨rfl, zc, hXc, hFc, hzc⟩ := hp9
        refine W.eq (g2 := F0 m 40 ls [.int (nI (mm_oc T t hh i)), .int (nI (zi.oc i))]) rfl ?_
        refine W.widen (k := 0) (n := 0) (Nat.le_of_ble_eq_true rfl) (Nat.le_of_ble_eq_true rfl) ?_
        refine mm_icmp_eq (pc := 40) F (x := zi.oc i) (y := mm_oc T t hh i) (tgt := 45) (by omega) (by omega) dX6_previewsAgree_40 (by decide) (fun cz40 => ?_) (fun cz40 => ?_)
        ·
          refine lv_iinc (pc := 45) (v := nI (i + 1)) (lv' := [(3, .int (nI (i + 1))), (0, .ref ((ad 0 0 0))), (1, .ref ((ad 3 t 0))), (2, .int (nI hh))]) F.1 F.2.1 dX6_previewsAgree_45 hl (k := 3) rfl (by rw [← nI_add]; rfl) (by decide) rfl (fun ls hl => ?_)
          refine lv_goto (pc := 48) (tgt := 8) F.1 F.2.1 dX6_previewsAgree_48 (by decide) ?_
          exact ih8 (i + 1) σc zc ls _ _ (by omega) (by omega) (hXc) (hFi.tr hFc) (hzc.trans hzi) hN (lv_sub hl [1, 2, 3, 0] rfl)
        ·
          exact absurd ho9 cz40
  exact lp8 (T.nP + 1) 0 σb zb ls _ _ (by omega) (by omega) (hXb) (hFb) (rfl) hN (lv_sub hl [1, 2, 3, 0] rfl)

set_option maxHeartbeats 4000000 in
set_option maxRecDepth 100000 in
theorem c_adds (l : Launch) (b : Nat) (D : mm_D) (hst : l.stackTraces = false) (T : mm_T) (z : mm_Z) (ad : Nat → Nat → Nat → Nat) (σ : mm_S) (hX : mm_X σ T z ad) (hW : mm_WF T) : mm_K l b D yX6_stockAddsUp (.code yX6_stockAddsUp cX6_stockAddsUp 4 (some .boolean)) ({ frames := 3, cells := 0, slots := 0, locals := 120 } : Room) [.ref ((ad 0 0 0))] σ
    (fun v σ2 => v = some (.int (nI 1)) ∧ ∃ z2 : mm_Z, mm_X σ2 T z2 ad ∧ mm_Fr 0 σ σ2)
    (fun _ _ => False) := by
  refine mm_of (cc := cX6_stockAddsUp) (nL := 4) (ret := (some .boolean)) (by decide) rfl (Nat.le_of_ble_eq_true rfl) hst ?_
  intro p e s m args below meth c ls F ht hr hin hN hl
  have hl : lv_has ls 4 [(0, .ref ((ad 0 0 0)))] := hl
  have wnA := hW.hnA
  have wnP := hW.hnP
  have wnT := hW.hnT
  have wnR := hW.hnR
  have wpa := hW.hpa
  have wbo := hW.hbo
  have wen0 := hW.hen 0
  have wen1 := hW.hen 1
  refine lv_aload_n (pc := 0) F.1 F.2.1 dX6_stockAddsUp_0 rfl (lv_at hl 0 rfl) ?_
  refine mm_get (pc := 1) F hN (mm_X0 hX) (ci := 6) rfl 6 (by decide) mw_91 rfl dX6_stockAddsUp_1 ?_
  refine lv_aload_n (pc := 4) F.1 F.2.1 dX6_stockAddsUp_4 rfl (lv_at hl 0 rfl) ?_
  refine mm_get (pc := 5) F hN (mm_X0 hX) (ci := 6) rfl 4 (by decide) mw_89 rfl dX6_stockAddsUp_5 ?_
  refine mm_runV (pc := 8) (As := [.ref ((ad 0 5 0))]) (rest := []) F hN (c_copyS l b D hst 0 (ad 0 7 0) (ad 0 5 0) (z.l0) (z.l1) (z.l2) (T.pa) (T.en 0) (T.en 1) _ (mm_X7 hX) (mm_X5 hX) (mm_X_ne (k := 0) (i := 5) (j := 0) (k' := 0) (i' := 7) (j' := 0) hX ⟨by decide, rfl⟩ ⟨by decide, rfl⟩ (by decide))) mw_573 mw_574 mw_575 mw_5 mw_576 ⟨pmX4_copyFrom, (Nat.le_of_ble_eq_true rfl), (Nat.le_of_ble_eq_true rfl)⟩ (mm_recv F.2.2.2.2.2.1 hN (mm_X7 hX) rfl) hl.1 rfl (Nat.le_of_ble_eq_true rfl) ⟨(Nat.le_of_ble_eq_true rfl), (Nat.le_of_ble_eq_true rfl)⟩ dX6_stockAddsUp_8
    (fun _ _ _ _ _ _ h9 => False.elim h9)
    (fun v9 σc H locs hp9 hN => ?_)
  obtain ⟨rfl, hσc⟩ := hp9
  refine W.eq (g2 := F0 m 11 ls []) rfl ?_
  refine W.widen (k := 0) (n := 0) (Nat.le_of_ble_eq_true rfl) (Nat.le_of_ble_eq_true rfl) ?_
  have hXc := mm_Xz0 hX (a := T.pa) (c := T.en 0) (e := T.en 1)
  rw [← hσc] at hXc
  have hFc : mm_Fr 0 σ σc := by rw [hσc]; exact mm_Fr.u (mm_X7 hX)
  obtain ⟨zc, ezc⟩ : ∃ q, q = mm_zl z (T.pa) (T.en 0) (T.en 1) := ⟨_, rfl⟩
  rw [← ezc] at hXc
  refine lv_iconst (pc := 11) (v := nI 0) F.1 F.2.1 dX6_stockAddsUp_11 (by decide) ?_
  refine lv_istore_n (pc := 12) (lv' := [(1, .int (nI 0)), (0, .ref ((ad 0 0 0)))]) F.1 F.2.1 dX6_stockAddsUp_12 rfl hl (by decide) rfl (fun ls hl => ?_)
  have lp13 : ∀ (k13 i : Nat) (σi : mm_S) (zi : mm_Z) (ls : Array Slot) (H : Heap) (locs : List Loc), T.nR < i + k13 → i ≤ T.nR → (mm_X σi T zi ad) → (mm_Fr 0 σ σi) → (zi 0 0 = T.pa + mm_sm (mm_s0 T) i ∧ zi 0 1 = T.en 0 + mm_sm (mm_s1 T) i ∧ zi 0 2 = T.en 1 + mm_sm (mm_s2 T) i) → mm_N b D s σi H locs → lv_has ls 4 [(0, .ref ((ad 0 0 0))), (1, .int (nI i))] →
      W p l e ({ frames := 3, cells := 0, slots := 0, locals := 120 } : Room) s m args below meth c H locs (0) (0) (mm_Q b D (fun v σ2 => v = some (.int (nI 1)) ∧ ∃ z2 : mm_Z, mm_X σ2 T z2 ad ∧ mm_Fr 0 σ σ2) (fun _ _ => False) below args s ({ frames := 3, cells := 0, slots := 0, locals := 120 } : Room)) (F0 m 13 ls []) := by
    intro k13
    induction k13 with
    | zero => intro i σi zi ls H locs hk13 hi13 hXi hFi hzi hN hl; omega
    | succ k13 ih13 =>
      intro i σi zi ls H locs hk13 hi13 hXi hFi hzi hN hl
      refine lv_iload_n (pc := 13) F.1 F.2.1 dX6_stockAddsUp_13 rfl (lv_at hl 1 rfl) ?_
      refine lv_aload_n (pc := 14) F.1 F.2.1 dX6_stockAddsUp_14 rfl (lv_at hl 0 rfl) ?_
      refine mm_get (pc := 15) F hN (mm_X0 hXi) (ci := 6) rfl 3 (by decide) mw_88 rfl dX6_stockAddsUp_15 ?_
      refine mm_runV (pc := 18) (As := []) (rest := [.int (nI i)]) F hN (c_sz l b D hst 0 _ T.nR _ _ (mm_XL4 hXi) mm_rgl) mw_196 mw_197 mw_198 mw_4 mw_199 ⟨pmJx4a65c_size_8abf5, (Nat.le_of_ble_eq_true rfl), (Nat.le_of_ble_eq_true rfl)⟩ (mm_recvL F.2.2.2.2.2.1 hN (mm_XL4 hXi)) hl.1 rfl (Nat.le_of_ble_eq_true rfl) ⟨(Nat.le_of_ble_eq_true rfl), (Nat.le_of_ble_eq_true rfl)⟩ dX6_stockAddsUp_18
        (fun _ _ _ _ _ _ h9 => False.elim h9)
        (fun v9 σ9 H locs hp9 hN => ?_)
      obtain ⟨rfl, h9⟩ := hp9
      rw [h9] at hN
      refine W.eq (g2 := F0 m 21 ls [.int (nI T.nR), .int (nI i)]) rfl ?_
      refine W.widen (k := 0) (n := 0) (Nat.le_of_ble_eq_true rfl) (Nat.le_of_ble_eq_true rfl) ?_
      refine mm_icmp_ge (pc := 21) F (x := i) (y := T.nR) (tgt := 79) (by omega) (by omega) dX6_stockAddsUp_21 (by decide) (fun cz21 => ?_) (fun cz21 => ?_)
      ·
        have hin : i = T.nR := by omega
        rw [hin] at hzi
        obtain ⟨z0, z1, z2⟩ := hzi
        have hw0 := mm_s0w hW (Nat.le_refl T.nR)
        have hw1 := mm_s1w hW (Nat.le_refl T.nR)
        have hw2 := mm_s2w hW (Nat.le_refl T.nR)
        have e0 : zi 0 0 = T.b0 := z0.trans hW.hb0.symm
        have e1 : zi 0 1 = T.b1 := z1.trans hW.hb1.symm
        have e2 : zi 0 2 = T.b2 := z2.trans hW.hb2.symm
        refine lv_aload_n (pc := 79) F.1 F.2.1 dX6_stockAddsUp_79 rfl (lv_at hl 0 rfl) ?_
        refine mm_get (pc := 80) F hN (mm_X0 hXi) (ci := 6) rfl 6 (by decide) mw_91 rfl dX6_stockAddsUp_80 ?_
        refine lv_aload_n (pc := 83) F.1 F.2.1 dX6_stockAddsUp_83 rfl (lv_at hl 0 rfl) ?_
        refine mm_get (pc := 84) F hN (mm_X0 hXi) (ci := 6) rfl 5 (by decide) mw_90 rfl dX6_stockAddsUp_84 ?_
        refine mm_runV (pc := 87) (As := [.ref ((ad 0 6 0))]) (rest := []) F hN (c_asMuch l b D hst 0 (ad 0 7 0) (ad 0 6 0) (zi.l0) (zi.l1) (zi.l2) (T.b0) (T.b1) (T.b2) σi (mm_X7 hXi) (mm_X6 hXi) ⟨by show zi 0 0 < _; omega, by show zi 0 1 < _; omega, by show zi 0 2 < _; omega, by omega, by omega, by omega⟩) mw_1154 mw_1155 mw_1156 mw_5 mw_1157 ⟨pmX4_isAsMuchAs, (Nat.le_of_ble_eq_true rfl), (Nat.le_of_ble_eq_true rfl)⟩ (mm_recv F.2.2.2.2.2.1 hN (mm_X7 hXi) rfl) hl.1 rfl (Nat.le_of_ble_eq_true rfl) ⟨(Nat.le_of_ble_eq_true rfl), (Nat.le_of_ble_eq_true rfl)⟩ dX6_stockAddsUp_87
          (fun _ _ _ _ _ _ h9 => False.elim h9)
          (fun v9 σ9 H locs hp9 hN => ?_)
        obtain ⟨rfl, h9⟩ := hp9
        rw [h9] at hN
        refine W.eq (g2 := F0 m 90 ls [.int (nI (if zi.l0 = T.b0 ∧ zi.l1 = T.b1 ∧ zi.l2 = T.b2 then 1 else 0))]) rfl ?_
        refine W.widen (k := 0) (n := 0) (Nat.le_of_ble_eq_true rfl) (Nat.le_of_ble_eq_true rfl) ?_
        refine W.eq (g2 := F0 m 90 ls [.int (nI 1)]) (congrArg (fun q => F0 m 90 ls (Value.int (nI q) :: [])) (if_pos ⟨e0, e1, e2⟩)) ?_
        exact mm_zret (pc := 90) F (ty := .boolean) hr hN (by decide) (⟨rfl, zi, hXi, hFi⟩) (Nat.le_of_ble_eq_true rfl) (Nat.le_of_ble_eq_true rfl) dX6_stockAddsUp_90
      ·
        refine lv_aload_n (pc := 24) F.1 F.2.1 dX6_stockAddsUp_24 rfl (lv_at hl 0 rfl) ?_
        refine mm_get (pc := 25) F hN (mm_X0 hXi) (ci := 6) rfl 3 (by decide) mw_88 rfl dX6_stockAddsUp_25 ?_
        refine lv_iload_n (pc := 28) F.1 F.2.1 dX6_stockAddsUp_28 rfl (lv_at hl 1 rfl) ?_
        refine mm_runV (pc := 29) (As := [.int (nI i)]) (rest := []) F hN (c_ALget l b D hst 0 _ (i) (ad 5 i 0) _ _ (mm_XL4 hXi) (mm_rg (by omega))) mw_357 mw_358 mw_359 mw_4 mw_360 ⟨pmJx4a65c_get_915e3, (Nat.le_of_ble_eq_true rfl), (Nat.le_of_ble_eq_true rfl)⟩ (mm_recvL F.2.2.2.2.2.1 hN (mm_XL4 hXi)) hl.1 rfl (Nat.le_of_ble_eq_true rfl) ⟨(Nat.le_of_ble_eq_true rfl), (Nat.le_of_ble_eq_true rfl)⟩ dX6_stockAddsUp_29
          (fun _ _ _ _ _ _ h9 => False.elim h9)
          (fun v9 σ9 H locs hp9 hN => ?_)
        obtain ⟨rfl, h9⟩ := hp9
        rw [h9] at hN
        refine W.eq (g2 := F0 m 32 ls [.ref ((ad 5 i 0))]) rfl ?_
        refine W.widen (k := 0) (n := 0) (Nat.le_of_ble_eq_true rfl) (Nat.le_of_ble_eq_true rfl) ?_
        refine mm_cast (pc := 32) F hN (mm_XR hXi (i := i) (by omega)) (ci := 3) rfl mw_571 dX6_stockAddsUp_32 ?_
        refine mm_get (pc := 35) F hN (mm_XR hXi (i := i) (by omega)) (ci := 3) rfl 2 (by decide) mw_601 rfl dX6_stockAddsUp_35 ?_
        refine lv_astore_n (pc := 38) (lv' := [(2, .ref ((ad 6 i 1))), (0, .ref ((ad 0 0 0))), (1, .int (nI i))]) F.1 F.2.1 dX6_stockAddsUp_38 rfl hl (by decide) rfl (fun ls hl => ?_)
        refine lv_iconst (pc := 39) (v := nI 0) F.1 F.2.1 dX6_stockAddsUp_39 (by decide) ?_
        refine lv_istore_n (pc := 40) (lv' := [(3, .int (nI 0)), (2, .ref ((ad 6 i 1))), (0, .ref ((ad 0 0 0))), (1, .int (nI i))]) F.1 F.2.1 dX6_stockAddsUp_40 rfl hl (by decide) rfl (fun ls hl => ?_)
        have hir : i < T.nR := by omega
        obtain ⟨wr1, wr2, wr3, wr4⟩ := hW.hru i hir
        have hpol := mm_po_len (T.oc i) (T.rc i) (T.rp i)
        have lp41 : ∀ (k41 j : Nat) (σj : mm_S) (zj : mm_Z) (ls : Array Slot) (H : Heap) (locs : List Loc), (mm_po (T.oc i) (T.rc i) (T.rp i)).length < j + k41 → j ≤ (mm_po (T.oc i) (T.rc i) (T.rp i)).length → (mm_X σj T zj ad) → (mm_Fr 0 σ σj) → (zj 0 0 = T.pa + mm_sm (mm_s0 T) i + mm_sm (fun k => T.pg i ((mm_po (T.oc i) (T.rc i) (T.rp i)).getD k 0)) j ∧ zj 0 1 = T.en 0 + mm_sm (mm_s1 T) i + mm_sm (fun k => if T.pg i ((mm_po (T.oc i) (T.rc i) (T.rp i)).getD k 0) ≤ 3 then 1 else 0) j ∧ zj 0 2 = T.en 1 + mm_sm (mm_s2 T) i + mm_sm (fun k => if 3 < T.pg i ((mm_po (T.oc i) (T.rc i) (T.rp i)).getD k 0) then 1 else 0) j) → mm_N b D s σj H locs → lv_has ls 4 [(0, .ref ((ad 0 0 0))), (1, .int (nI i)), (2, .ref ((ad 6 i 1))), (3, .int (nI j))] →
            W p l e ({ frames := 3, cells := 0, slots := 0, locals := 120 } : Room) s m args below meth c H locs (0) (0) (mm_Q b D (fun v σ2 => v = some (.int (nI 1)) ∧ ∃ z2 : mm_Z, mm_X σ2 T z2 ad ∧ mm_Fr 0 σ σ2) (fun _ _ => False) below args s ({ frames := 3, cells := 0, slots := 0, locals := 120 } : Room)) (F0 m 41 ls []) := by
          intro k41
          induction k41 with
          | zero => intro j σj zj ls H locs hk41 hi41 hXj hFj hzj hN hl; omega
          | succ k41 ih41 =>
            intro j σj zj ls H locs hk41 hi41 hXj hFj hzj hN hl
            refine lv_iload_n (pc := 41) F.1 F.2.1 dX6_stockAddsUp_41 rfl (lv_at hl 3 rfl) ?_
            refine lv_aload_n (pc := 42) F.1 F.2.1 dX6_stockAddsUp_42 rfl (lv_at hl 2 rfl) ?_
            refine mm_runV (pc := 43) (As := []) (rest := [.int (nI j)]) F hN (c_sz l b D hst 0 _ ((mm_po (T.oc i) (T.rc i) (T.rp i)).length) _ _ (mm_XQ hXj (i := i) (by omega)) (List.length_map ..)) mw_196 mw_197 mw_198 mw_4 mw_199 ⟨pmJx4a65c_size_8abf5, (Nat.le_of_ble_eq_true rfl), (Nat.le_of_ble_eq_true rfl)⟩ (mm_recvL F.2.2.2.2.2.1 hN (mm_XQ hXj (i := i) (by omega))) hl.1 rfl (Nat.le_of_ble_eq_true rfl) ⟨(Nat.le_of_ble_eq_true rfl), (Nat.le_of_ble_eq_true rfl)⟩ dX6_stockAddsUp_43
              (fun _ _ _ _ _ _ h9 => False.elim h9)
              (fun v9 σ9 H locs hp9 hN => ?_)
            obtain ⟨rfl, h9⟩ := hp9
            rw [h9] at hN
            refine W.eq (g2 := F0 m 46 ls [.int (nI ((mm_po (T.oc i) (T.rc i) (T.rp i)).length)), .int (nI j)]) rfl ?_
            refine W.widen (k := 0) (n := 0) (Nat.le_of_ble_eq_true rfl) (Nat.le_of_ble_eq_true rfl) ?_
            refine mm_icmp_ge (pc := 46) F (x := j) (y := (mm_po (T.oc i) (T.rc i) (T.rp i)).length) (tgt := 73) (by omega) (by omega) dX6_stockAddsUp_46 (by decide) (fun cz46 => ?_) (fun cz46 => ?_)
            ·
              refine lv_iinc (pc := 73) (v := nI (i + 1)) (lv' := [(1, .int (nI (i + 1))), (0, .ref ((ad 0 0 0))), (2, .ref ((ad 6 i 1))), (3, .int (nI j))]) F.1 F.2.1 dX6_stockAddsUp_73 hl (k := 1) rfl (by rw [← nI_add]; rfl) (by decide) rfl (fun ls hl => ?_)
              refine lv_goto (pc := 76) (tgt := 13) F.1 F.2.1 dX6_stockAddsUp_76 (by decide) ?_
              exact ih13 (i + 1) σj zj ls _ _ (by omega) (by omega) (hXj) (hFj) (by
                  obtain ⟨z0, z1, z2⟩ := hzj
                  have hj9 : j = (mm_po (T.oc i) (T.rc i) (T.rp i)).length := by omega
                  rw [hj9] at z0 z1 z2
                  rw [mm_po_sum (T.oc i) (T.rc i) (T.pg i)] at z0
                  rw [mm_po_cnt (T.oc i) (T.rc i) (fun p => T.pg i p ≤ 3)] at z1
                  rw [mm_po_cnt (T.oc i) (T.rc i) (fun p => 3 < T.pg i p)] at z2
                  exact ⟨z0.trans (Nat.add_assoc _ _ _), z1.trans (Nat.add_assoc _ _ _), z2.trans (Nat.add_assoc _ _ _)⟩) hN (lv_sub hl [1, 0] rfl)
            ·
              have hpl := (mm_po_lt (T.oc i) (T.rc i) (T.rp i) _ (mm_gmem (i := j) (by omega))).1
              obtain ⟨wp1, wp2, wp3, wp4, wp5, wp6, wp7⟩ := wr4 _ hpl
              refine lv_aload_n (pc := 49) F.1 F.2.1 dX6_stockAddsUp_49 rfl (lv_at hl 0 rfl) ?_
              refine mm_get (pc := 50) F hN (mm_X0 hXj) (ci := 6) rfl 6 (by decide) mw_91 rfl dX6_stockAddsUp_50 ?_
              refine lv_aload_n (pc := 53) F.1 F.2.1 dX6_stockAddsUp_53 rfl (lv_at hl 2 rfl) ?_
              refine lv_iload_n (pc := 54) F.1 F.2.1 dX6_stockAddsUp_54 rfl (lv_at hl 3 rfl) ?_
              refine mm_runV (pc := 55) (As := [.int (nI j)]) (rest := [.ref ((ad 0 7 0))]) F hN (c_ALget l b D hst 0 _ (j) (ad 7 i ((mm_po (T.oc i) (T.rc i) (T.rp i)).getD j 0)) _ _ (mm_XQ hXj (i := i) (by omega)) (mm_mg (by omega))) mw_357 mw_358 mw_359 mw_4 mw_360 ⟨pmJx4a65c_get_915e3, (Nat.le_of_ble_eq_true rfl), (Nat.le_of_ble_eq_true rfl)⟩ (mm_recvL F.2.2.2.2.2.1 hN (mm_XQ hXj (i := i) (by omega))) hl.1 rfl (Nat.le_of_ble_eq_true rfl) ⟨(Nat.le_of_ble_eq_true rfl), (Nat.le_of_ble_eq_true rfl)⟩ dX6_stockAddsUp_55
                (fun _ _ _ _ _ _ h9 => False.elim h9)
                (fun v9 σ9 H locs hp9 hN => ?_)
              obtain ⟨rfl, h9⟩ := hp9
              rw [h9] at hN
              refine W.eq (g2 := F0 m 58 ls [.ref ((ad 7 i ((mm_po (T.oc i) (T.rc i) (T.rp i)).getD j 0))), .ref ((ad 0 7 0))]) rfl ?_
              refine W.widen (k := 0) (n := 0) (Nat.le_of_ble_eq_true rfl) (Nat.le_of_ble_eq_true rfl) ?_
              refine mm_cast (pc := 58) F hN (mm_XN hXj (i := i) (j := ((mm_po (T.oc i) (T.rc i) (T.rp i)).getD j 0)) (by omega) (by omega)) (ci := 1) rfl mw_572 dX6_stockAddsUp_58 ?_
              refine mm_get (pc := 61) F hN (mm_XN hXj (i := i) (j := ((mm_po (T.oc i) (T.rc i) (T.rp i)).getD j 0)) (by omega) (by omega)) (ci := 1) rfl 4 (by decide) mw_634 rfl dX6_stockAddsUp_61 ?_
              refine mm_runV (pc := 64) (As := [.int (nI (T.pg i ((mm_po (T.oc i) (T.rc i) (T.rp i)).getD j 0)))]) (rest := []) F hN (c_putBack l b D hst (T.pg i ((mm_po (T.oc i) (T.rc i) (T.rp i)).getD j 0)) (by omega) 0 (ad 0 7 0) (zj.l0) (zj.l1) (zj.l2) _ (mm_X7 hXj)) mw_1150 mw_1151 mw_1152 mw_5 mw_1153 ⟨pmX4_putBack, (Nat.le_of_ble_eq_true rfl), (Nat.le_of_ble_eq_true rfl)⟩ (mm_recv F.2.2.2.2.2.1 hN (mm_X7 hXj) rfl) hl.1 rfl (Nat.le_of_ble_eq_true rfl) ⟨(Nat.le_of_ble_eq_true rfl), (Nat.le_of_ble_eq_true rfl)⟩ dX6_stockAddsUp_64
                (fun _ _ _ _ _ _ h9 => False.elim h9)
                (fun v9 σ9 H locs hp9 hN => ?_)
              obtain ⟨rfl, hσ9⟩ := hp9
              refine W.eq (g2 := F0 m 67 ls []) rfl ?_
              refine W.widen (k := 0) (n := 0) (Nat.le_of_ble_eq_true rfl) (Nat.le_of_ble_eq_true rfl) ?_
              have hX9 := mm_Xz0 hXj (a := zj.l0 + T.pg i ((mm_po (T.oc i) (T.rc i) (T.rp i)).getD j 0)) (c := if 3 < T.pg i ((mm_po (T.oc i) (T.rc i) (T.rp i)).getD j 0) then zj.l1 else zj.l1 + 1) (e := if 3 < T.pg i ((mm_po (T.oc i) (T.rc i) (T.rp i)).getD j 0) then zj.l2 + 1 else zj.l2)
              rw [← hσ9] at hX9
              have hF9 : mm_Fr 0 σj σ9 := by rw [hσ9]; exact mm_Fr.u (mm_X7 hXj)
              refine lv_iinc (pc := 67) (v := nI (j + 1)) (lv' := [(3, .int (nI (j + 1))), (0, .ref ((ad 0 0 0))), (1, .int (nI i)), (2, .ref ((ad 6 i 1)))]) F.1 F.2.1 dX6_stockAddsUp_67 hl (k := 3) rfl (by rw [← nI_add]; rfl) (by decide) rfl (fun ls hl => ?_)
              refine lv_goto (pc := 70) (tgt := 41) F.1 F.2.1 dX6_stockAddsUp_70 (by decide) ?_
              exact ih41 (j + 1) σ9 _ ls _ _ (by omega) (by omega) (hX9) (hFj.tr hF9) (by
                  obtain ⟨z0, z1, z2⟩ := hzj
                  refine ⟨?_, ?_, ?_⟩
                  · show zj 0 0 + T.pg i ((mm_po (T.oc i) (T.rc i) (T.rp i)).getD j 0) = _
                    rw [z0]
                    exact Nat.add_assoc _ _ _
                  · show (if 3 < T.pg i ((mm_po (T.oc i) (T.rc i) (T.rp i)).getD j 0) then zj 0 1 else zj 0 1 + 1) = T.en 0 + mm_sm (mm_s1 T) i + (mm_sm _ j + (if T.pg i ((mm_po (T.oc i) (T.rc i) (T.rp i)).getD j 0) ≤ 3 then 1 else 0))
                    rw [z1]
                    by_cases h : 3 < T.pg i ((mm_po (T.oc i) (T.rc i) (T.rp i)).getD j 0)
                    · rw [if_pos h, if_neg (by omega)]
                      rfl
                    · rw [if_neg h, if_pos (by omega)]
                      rfl
                  · show (if 3 < T.pg i ((mm_po (T.oc i) (T.rc i) (T.rp i)).getD j 0) then zj 0 2 + 1 else zj 0 2) = T.en 1 + mm_sm (mm_s2 T) i + (mm_sm _ j + (if 3 < T.pg i ((mm_po (T.oc i) (T.rc i) (T.rp i)).getD j 0) then 1 else 0))
                    rw [z2]
                    by_cases h : 3 < T.pg i ((mm_po (T.oc i) (T.rc i) (T.rp i)).getD j 0)
                    · rw [if_pos h, if_pos h]
                      rfl
                    · rw [if_neg h, if_neg h]
                      rfl) hN (lv_sub hl [1, 2, 3, 0] rfl)
        exact lp41 (((mm_po (T.oc i) (T.rc i) (T.rp i)).length) + 1) 0 σi zi ls _ _ (by omega) (by omega) (hXi) (hFi) (hzi) hN (lv_sub hl [2, 3, 1, 0] rfl)
  exact lp13 (T.nR + 1) 0 σc zc ls _ _ (by omega) (by omega) (hXc) (hFc) (by rw [ezc]; exact ⟨rfl, rfl, rfl⟩) hN (lv_sub hl [1, 0] rfl)

def mm_q_isSound (T : mm_T) : Nat := 0 * T.pa
set_option maxHeartbeats 4000000 in
set_option maxRecDepth 100000 in
theorem a_isSound (l : Launch) (b : Nat) (D : mm_D) (hst : l.stackTraces = false) (T : mm_T) (z : mm_Z) (ad : Nat → Nat → Nat → Nat) (σ : mm_S) (hX : mm_X σ T z ad) (hW : mm_WF T) : mm_K l b D yX6_isSound (.code yX6_isSound cX6_isSound 3 (some .boolean)) ({ frames := 9, cells := 6, slots := 40, locals := 260 } : Room) [.ref ((ad 0 0 0))] σ
    (fun v σ2 => mm_q_isSound T = 0 ∧ v = some (.int (nI (1))) ∧ mm_Xt σ σ2 (T) (ad 0 0 0))
    (fun _ _ => False) := by
  refine mm_of (cc := cX6_isSound) (nL := 3) (ret := (some .boolean)) (by decide) rfl (Nat.le_of_ble_eq_true rfl) hst ?_
  intro p e s m args below meth c ls F ht hr hin hN hl
  have hl : lv_has ls 3 [(0, .ref ((ad 0 0 0)))] := hl
  have wnA := hW.hnA
  have wnP := hW.hnP
  have wnT := hW.hnT
  have wnR := hW.hnR
  have wpa := hW.hpa
  have wbo := hW.hbo
  have wen0 := hW.hen 0
  have wen1 := hW.hen 1
  refine lv_iconst (pc := 0) (v := nI 0) F.1 F.2.1 dX6_isSound_0 (by decide) ?_
  refine lv_istore_n (pc := 1) (lv' := [(1, .int (nI 0)), (0, .ref ((ad 0 0 0)))]) F.1 F.2.1 dX6_isSound_1 rfl hl (by decide) rfl (fun ls hl => ?_)
  have lp2 : ∀ (k2 t : Nat) (σi : mm_S) (zi : mm_Z) (ls : Array Slot) (H : Heap) (locs : List Loc), T.nT < t + k2 → t ≤ T.nT → (mm_X σi T zi ad) → (mm_Fr 0 σ σi) → mm_N b D s σi H locs → lv_has ls 3 [(0, .ref ((ad 0 0 0))), (1, .int (nI t))] →
      W p l e ({ frames := 9, cells := 6, slots := 40, locals := 260 } : Room) s m args below meth c H locs (0) (0) (mm_Q b D (fun v σ2 => mm_q_isSound T = 0 ∧ v = some (.int (nI (1))) ∧ mm_Xt σ σ2 (T) (ad 0 0 0)) (fun _ _ => False) below args s ({ frames := 9, cells := 6, slots := 40, locals := 260 } : Room)) (F0 m 2 ls []) := by
    intro k2
    induction k2 with
    | zero => intro t σi zi ls H locs hk2 hi2 hXi hFi hN hl; omega
    | succ k2 ih2 =>
      intro t σi zi ls H locs hk2 hi2 hXi hFi hN hl
      refine lv_iload_n (pc := 2) F.1 F.2.1 dX6_isSound_2 rfl (lv_at hl 1 rfl) ?_
      refine lv_aload_n (pc := 3) F.1 F.2.1 dX6_isSound_3 rfl (lv_at hl 0 rfl) ?_
      refine mm_get (pc := 4) F hN (mm_X0 hXi) (ci := 6) rfl 2 (by decide) mw_87 rfl dX6_isSound_4 ?_
      refine mm_runV (pc := 7) (As := []) (rest := [.int (nI t)]) F hN (c_sz l b D hst 0 _ T.nT _ _ (mm_XL3 hXi) mm_rgl) mw_196 mw_197 mw_198 mw_4 mw_199 ⟨pmJx4a65c_size_8abf5, (Nat.le_of_ble_eq_true rfl), (Nat.le_of_ble_eq_true rfl)⟩ (mm_recvL F.2.2.2.2.2.1 hN (mm_XL3 hXi)) hl.1 rfl (Nat.le_of_ble_eq_true rfl) ⟨(Nat.le_of_ble_eq_true rfl), (Nat.le_of_ble_eq_true rfl)⟩ dX6_isSound_7
        (fun _ _ _ _ _ _ h9 => False.elim h9)
        (fun v9 σ9 H locs hp9 hN => ?_)
      obtain ⟨rfl, h9⟩ := hp9
      rw [h9] at hN
      refine W.eq (g2 := F0 m 10 ls [.int (nI T.nT), .int (nI t)]) rfl ?_
      refine W.widen (k := 0) (n := 0) (Nat.le_of_ble_eq_true rfl) (Nat.le_of_ble_eq_true rfl) ?_
      refine mm_icmp_ge (pc := 10) F (x := t) (y := T.nT) (tgt := 51) (by omega) (by omega) dX6_isSound_10 (by decide) (fun cz10 => ?_) (fun cz10 => ?_)
      ·
        refine lv_aload_n (pc := 51) F.1 F.2.1 dX6_isSound_51 rfl (lv_at hl 0 rfl) ?_
        refine mm_runV (pc := 52) (As := []) (rest := []) F hN (c_adds l b D hst T zi ad σi hXi hW) mw_1146 mw_1148 mw_p23 mw_1 mw_1149 ⟨pmX6_stockAddsUp, (Nat.le_of_ble_eq_true rfl), (Nat.le_of_ble_eq_true rfl)⟩ (mm_recv F.2.2.2.2.2.1 hN (mm_X0 hXi) rfl) hl.1 rfl (Nat.le_of_ble_eq_true rfl) ⟨(Nat.le_of_ble_eq_true rfl), (Nat.le_of_ble_eq_true rfl)⟩ dX6_isSound_52
          (fun _ _ _ _ _ _ h9 => False.elim h9)
          (fun v9 σ2 H locs hp9 hN => ?_)
        obtain ⟨rfl, z2, hX2, hF2⟩ := hp9
        refine W.eq (g2 := F0 m 55 ls [.int (nI 1)]) rfl ?_
        refine W.widen (k := 0) (n := 0) (Nat.le_of_ble_eq_true rfl) (Nat.le_of_ble_eq_true rfl) ?_
        exact mm_zret (pc := 55) F (ty := .boolean) hr hN (by decide) (⟨by unfold mm_q_isSound; (repeat' split) <;> omega, rfl, z2, ad, hX2, rfl, hFi.tr hF2⟩) (Nat.le_of_ble_eq_true rfl) (Nat.le_of_ble_eq_true rfl) dX6_isSound_55
      ·
        refine lv_aload_n (pc := 13) F.1 F.2.1 dX6_isSound_13 rfl (lv_at hl 0 rfl) ?_
        refine mm_get (pc := 14) F hN (mm_X0 hXi) (ci := 6) rfl 2 (by decide) mw_87 rfl dX6_isSound_14 ?_
        refine lv_iload_n (pc := 17) F.1 F.2.1 dX6_isSound_17 rfl (lv_at hl 1 rfl) ?_
        refine mm_runV (pc := 18) (As := [.int (nI t)]) (rest := []) F hN (c_ALget l b D hst 0 _ (t) (ad 3 t 0) _ _ (mm_XL3 hXi) (mm_rg (by omega))) mw_357 mw_358 mw_359 mw_4 mw_360 ⟨pmJx4a65c_get_915e3, (Nat.le_of_ble_eq_true rfl), (Nat.le_of_ble_eq_true rfl)⟩ (mm_recvL F.2.2.2.2.2.1 hN (mm_XL3 hXi)) hl.1 rfl (Nat.le_of_ble_eq_true rfl) ⟨(Nat.le_of_ble_eq_true rfl), (Nat.le_of_ble_eq_true rfl)⟩ dX6_isSound_18
          (fun _ _ _ _ _ _ h9 => False.elim h9)
          (fun v9 σ9 H locs hp9 hN => ?_)
        obtain ⟨rfl, h9⟩ := hp9
        rw [h9] at hN
        refine W.eq (g2 := F0 m 21 ls [.ref ((ad 3 t 0))]) rfl ?_
        refine W.widen (k := 0) (n := 0) (Nat.le_of_ble_eq_true rfl) (Nat.le_of_ble_eq_true rfl) ?_
        refine mm_cast (pc := 21) F hN (mm_XT hXi (i := t) (by omega)) (ci := 5) rfl mw_461 dX6_isSound_21 ?_
        refine lv_astore_n (pc := 24) (lv' := [(2, .ref ((ad 3 t 0))), (0, .ref ((ad 0 0 0))), (1, .int (nI t))]) F.1 F.2.1 dX6_isSound_24 rfl hl (by decide) rfl (fun ls hl => ?_)
        refine lv_aload_n (pc := 25) F.1 F.2.1 dX6_isSound_25 rfl (lv_at hl 1 rfl) ?_
        refine lv_aload_n (pc := 26) F.1 F.2.1 dX6_isSound_26 rfl (lv_at hl 0 rfl) ?_
        refine lv_iconst (pc := 27) (v := nI 0) F.1 F.2.1 dX6_isSound_27 (by decide) ?_
        refine mm_runV (pc := 28) (As := [.ref ((ad 3 t 0)), .int (nI 0)]) (rest := []) F hN (c_agree l b D hst T zi ad σi hXi hW t 0 (by omega) (by decide)) mw_1142 mw_1144 mw_p22 mw_1 mw_1145 ⟨pmX6_previewsAgree, (Nat.le_of_ble_eq_true rfl), (Nat.le_of_ble_eq_true rfl)⟩ (mm_recv F.2.2.2.2.2.1 hN (mm_X0 hXi) rfl) hl.1 rfl (Nat.le_of_ble_eq_true rfl) ⟨(Nat.le_of_ble_eq_true rfl), (Nat.le_of_ble_eq_true rfl)⟩ dX6_isSound_28
          (fun _ _ _ _ _ _ h9 => False.elim h9)
          (fun v9 σc H locs hp9 hN => ?_)
        obtain ⟨rfl, zc, hXc, hFc⟩ := hp9
        refine W.eq (g2 := F0 m 31 ls [.int (nI 1)]) rfl ?_
        refine W.widen (k := 0) (n := 0) (Nat.le_of_ble_eq_true rfl) (Nat.le_of_ble_eq_true rfl) ?_
        refine mm_if_eq (pc := 31) F (tgt := 43) (by omega) dX6_isSound_31 (by decide) (fun h9 => absurd h9 (by decide)) (fun cz31 => ?_)
        refine lv_aload_n (pc := 34) F.1 F.2.1 dX6_isSound_34 rfl (lv_at hl 1 rfl) ?_
        refine lv_aload_n (pc := 35) F.1 F.2.1 dX6_isSound_35 rfl (lv_at hl 0 rfl) ?_
        refine lv_iconst (pc := 36) (v := nI 1) F.1 F.2.1 dX6_isSound_36 (by decide) ?_
        refine mm_runV (pc := 37) (As := [.ref ((ad 3 t 0)), .int (nI 1)]) (rest := []) F hN (c_agree l b D hst T zc ad σc hXc hW t 1 (by omega) (by decide)) mw_1142 mw_1144 mw_p22 mw_1 mw_1145 ⟨pmX6_previewsAgree, (Nat.le_of_ble_eq_true rfl), (Nat.le_of_ble_eq_true rfl)⟩ (mm_recv F.2.2.2.2.2.1 hN (mm_X0 hXc) rfl) hl.1 rfl (Nat.le_of_ble_eq_true rfl) ⟨(Nat.le_of_ble_eq_true rfl), (Nat.le_of_ble_eq_true rfl)⟩ dX6_isSound_37
          (fun _ _ _ _ _ _ h9 => False.elim h9)
          (fun v9 σd H locs hp9 hN => ?_)
        obtain ⟨rfl, zd, hXd, hFd⟩ := hp9
        refine W.eq (g2 := F0 m 40 ls [.int (nI 1)]) rfl ?_
        refine W.widen (k := 0) (n := 0) (Nat.le_of_ble_eq_true rfl) (Nat.le_of_ble_eq_true rfl) ?_
        refine mm_if_ne (pc := 40) F (tgt := 45) (by omega) dX6_isSound_40 (by decide) (fun cz40 => ?_) (fun h9 => absurd h9 (by decide))
        refine lv_iinc (pc := 45) (v := nI (t + 1)) (lv' := [(1, .int (nI (t + 1))), (2, .ref ((ad 3 t 0))), (0, .ref ((ad 0 0 0)))]) F.1 F.2.1 dX6_isSound_45 hl (k := 2) rfl (by rw [← nI_add]; rfl) (by decide) rfl (fun ls hl => ?_)
        refine lv_goto (pc := 48) (tgt := 2) F.1 F.2.1 dX6_isSound_48 (by decide) ?_
        exact ih2 (t + 1) σd zd ls _ _ (by omega) (by omega) (hXd) ((hFi.tr hFc).tr hFd) hN (lv_sub hl [2, 0] rfl)
  exact lp2 (T.nT + 1) 0 σ z ls _ _ (by omega) (by omega) (hX) (mm_Fr.rf) hN (lv_sub hl [1, 0] rfl)

