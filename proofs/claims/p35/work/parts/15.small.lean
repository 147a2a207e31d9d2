theorem mm_narC {x : Nat} (h : x < 65536) : narrow .char (.int (nI x)) = .int (nI x) := (pk_charN h).1
theorem mm_fitC {x : Nat} (h : x < 65536) : fits .char (.int (nI x)) = true := (pk_charN h).2
theorem mm_narZ {x : Nat} (h : x < 2) : narrow .boolean (.int (nI x)) = .int (nI x) := by
  rcases (show x = 0 ∨ x = 1 by omega) with rfl | rfl <;> decide
theorem mm_fitZ {x : Nat} (h : x < 2) : fits .boolean (.int (nI x)) = true := by
  rcases (show x = 0 ∨ x = 1 by omega) with rfl | rfl <;> decide
theorem mm_and7 {x : Nat} (h : x < 8) : x &&& 7 = x := by
  have := Nat.and_two_pow_sub_one_eq_mod x 3
  rw [show 2 ^ 3 - 1 = 7 from rfl] at this
  omega
theorem mm_ifB {P : Prop} [Decidable P] : (if P then 1 else 0 : Nat) < 2 := by
  by_cases h : P
  · rw [if_pos h]; decide
  · rw [if_neg h]; decide
set_option maxHeartbeats 4000000 in
set_option maxRecDepth 100000 in
theorem c_Adr (l : Launch) (b : Nat) (D : mm_D) (hst : l.stackTraces = false) (o a nu co : Nat) (σ : mm_S) (hA : σ a = mm_obj o 0 [.int (nI 0), .int (nI 0), .int (nI 0), .int (nI 0), .int (nI 0), .int (nI 0)]) : mm_K l b D yX0_init (.code yX0_init cX0_init 3 none) ({ frames := 1, cells := 0, slots := 0, locals := 12 } : Room) [.ref a, .int (nI nu), .int (nI co)] σ
    (fun v σ2 => v = none ∧ σ2 = mm_u σ a (mm_obj o 0 [.int (nI nu), .int (nI co), .int (nI 0), .int (nI 0), .int (nI 0), .int (nI 0)]))
    (fun _ _ => False) := by
  refine mm_of (cc := cX0_init) (nL := 3) (ret := none) (by decide) rfl (Nat.le_of_ble_eq_true rfl) hst ?_
  intro p e s m args below meth c ls F ht hr hin hN hl
  have hl : lv_has ls 3 [(0, .ref a), (1, .int (nI nu)), (2, .int (nI co))] := hl
  refine lv_aload_n (pc := 0) F.1 F.2.1 dX0_init_0 rfl (lv_at hl 0 rfl) ?_
  refine W.objInit F.1 F.2.1 F.2.2.2.1 (F.2.2.2.2.1 _ mw_221) (F.2.2.2.2.1 _ mw_40) (F.2.2.2.2.1 _ mw_41) rfl (by rw [F.2.2.1]; exact hl.1) rfl (g := F0 m 1 ls [.ref a]) dX0_init_1 (Nat.le_of_ble_eq_true rfl) (Nat.le_of_ble_eq_true rfl) ?_
  refine W.eq (g2 := F0 m 4 ls []) rfl ?_
  refine lv_aload_n (pc := 4) F.1 F.2.1 dX0_init_4 rfl (lv_at hl 0 rfl) ?_
  refine lv_iload_n (pc := 5) F.1 F.2.1 dX0_init_5 rfl (lv_at hl 1 rfl) ?_
  refine mm_putF (pc := 6) F hN (hA) (ci := 0) rfl 0 (by decide) mw_222 rfl hin rfl (ty := .int) (by decide +kernel) (rfl) (rfl) (Nat.le_of_ble_eq_true rfl) dX0_init_6 (fun H locs hN => ?_)
  have hN : mm_N b D s (mm_u σ a (mm_obj o 0 [.int (nI nu), .int (nI 0), .int (nI 0), .int (nI 0), .int (nI 0), .int (nI 0)])) H locs := hN
  have hN : mm_N b D s (mm_u σ a (mm_obj o 0 [.int (nI nu), .int (nI 0), .int (nI 0), .int (nI 0), .int (nI 0), .int (nI 0)])) H locs := hN
  refine lv_aload_n (pc := 9) F.1 F.2.1 dX0_init_9 rfl (lv_at hl 0 rfl) ?_
  refine lv_iload_n (pc := 10) F.1 F.2.1 dX0_init_10 rfl (lv_at hl 2 rfl) ?_
  refine mm_putF (pc := 11) F hN (mm_u_eq) (ci := 0) rfl 1 (by decide) mw_224 rfl hin rfl (ty := .int) (by decide +kernel) (rfl) (rfl) (Nat.le_of_ble_eq_true rfl) dX0_init_11 (fun H locs hN => ?_)
  have hN : mm_N b D s (mm_u ((mm_u σ a (mm_obj o 0 [.int (nI nu), .int (nI 0), .int (nI 0), .int (nI 0), .int (nI 0), .int (nI 0)]))) a (mm_obj o 0 [.int (nI nu), .int (nI co), .int (nI 0), .int (nI 0), .int (nI 0), .int (nI 0)])) H locs := hN
  rw [mm_uu] at hN
  have hN : mm_N b D s (mm_u σ a (mm_obj o 0 [.int (nI nu), .int (nI co), .int (nI 0), .int (nI 0), .int (nI 0), .int (nI 0)])) H locs := hN
  exact mm_vret (pc := 14) F hr hN (⟨rfl, rfl⟩) (Nat.le_of_ble_eq_true rfl) (Nat.le_of_ble_eq_true rfl) dX0_init_14

set_option maxHeartbeats 4000000 in
set_option maxRecDepth 100000 in
theorem c_begD (l : Launch) (b : Nat) (D : mm_D) (hst : l.stackTraces = false) (o a : Nat) (n0 c0 s0 g0 d0 v0 : Int32) (σ : mm_S) (hA : σ a = mm_obj o 0 [.int n0, .int c0, .int s0, .int g0, .int d0, .int v0]) : mm_K l b D yX0_beginDraft (.code yX0_beginDraft cX0_beginDraft 1 none) ({ frames := 0, cells := 0, slots := 0, locals := 0 } : Room) [.ref a] σ
    (fun v σ2 => v = none ∧ σ2 = mm_u σ a (mm_obj o 0 [.int n0, .int c0, .int s0, .int g0, .int s0, .int (nI 0)]))
    (fun _ _ => False) := by
  refine mm_of (cc := cX0_beginDraft) (nL := 1) (ret := none) (by decide) rfl (Nat.le_of_ble_eq_true rfl) hst ?_
  intro p e s m args below meth c ls F ht hr hin hN hl
  have hl : lv_has ls 1 [(0, .ref a)] := hl
  refine lv_aload_n (pc := 0) F.1 F.2.1 dX0_beginDraft_0 rfl (lv_at hl 0 rfl) ?_
  refine lv_aload_n (pc := 1) F.1 F.2.1 dX0_beginDraft_1 rfl (lv_at hl 0 rfl) ?_
  refine mm_get (pc := 2) F hN (hA) (ci := 0) rfl 2 (by decide) mw_226 rfl dX0_beginDraft_2 ?_
  refine mm_put (pc := 5) F hN (hA) (ci := 0) rfl 4 (by decide) mw_229 rfl (ty := .int) (by decide +kernel) (rfl) (rfl) (Nat.le_of_ble_eq_true rfl) dX0_beginDraft_5 (fun H locs hN => ?_)
  have hN : mm_N b D s (mm_u σ a (mm_obj o 0 [.int n0, .int c0, .int s0, .int g0, .int s0, .int v0])) H locs := hN
  have hN : mm_N b D s (mm_u σ a (mm_obj o 0 [.int n0, .int c0, .int s0, .int g0, .int s0, .int v0])) H locs := hN
  refine lv_aload_n (pc := 8) F.1 F.2.1 dX0_beginDraft_8 rfl (lv_at hl 0 rfl) ?_
  refine lv_iconst (pc := 9) (v := nI 0) F.1 F.2.1 dX0_beginDraft_9 (by decide) ?_
  refine mm_put (pc := 10) F hN (mm_u_eq) (ci := 0) rfl 5 (by decide) mw_231 rfl (ty := .boolean) (by decide +kernel) (by decide) (by decide) (Nat.le_of_ble_eq_true rfl) dX0_beginDraft_10 (fun H locs hN => ?_)
  have hN : mm_N b D s (mm_u ((mm_u σ a (mm_obj o 0 [.int n0, .int c0, .int s0, .int g0, .int s0, .int v0]))) a (mm_obj o 0 [.int n0, .int c0, .int s0, .int g0, .int s0, .int (nI 0)])) H locs := hN
  rw [mm_uu] at hN
  have hN : mm_N b D s (mm_u σ a (mm_obj o 0 [.int n0, .int c0, .int s0, .int g0, .int s0, .int (nI 0)])) H locs := hN
  exact mm_vret (pc := 13) F hr hN (⟨rfl, rfl⟩) (Nat.le_of_ble_eq_true rfl) (Nat.le_of_ble_eq_true rfl) dX0_beginDraft_13

set_option maxHeartbeats 4000000 in
set_option maxRecDepth 100000 in
theorem c_keepD (l : Launch) (b : Nat) (D : mm_D) (hst : l.stackTraces = false) (o a : Nat) (n0 c0 s0 g0 d0 v0 : Int32) (σ : mm_S) (hA : σ a = mm_obj o 0 [.int n0, .int c0, .int s0, .int g0, .int d0, .int v0]) : mm_K l b D yX0_keepDraft (.code yX0_keepDraft cX0_keepDraft 1 none) ({ frames := 0, cells := 0, slots := 0, locals := 0 } : Room) [.ref a] σ
    (fun v σ2 => v = none ∧ σ2 = mm_u σ a (mm_obj o 0 [.int n0, .int c0, .int d0, .int g0, .int d0, .int v0]))
    (fun _ _ => False) := by
  refine mm_of (cc := cX0_keepDraft) (nL := 1) (ret := none) (by decide) rfl (Nat.le_of_ble_eq_true rfl) hst ?_
  intro p e s m args below meth c ls F ht hr hin hN hl
  have hl : lv_has ls 1 [(0, .ref a)] := hl
  refine lv_aload_n (pc := 0) F.1 F.2.1 dX0_keepDraft_0 rfl (lv_at hl 0 rfl) ?_
  refine lv_aload_n (pc := 1) F.1 F.2.1 dX0_keepDraft_1 rfl (lv_at hl 0 rfl) ?_
  refine mm_get (pc := 2) F hN (hA) (ci := 0) rfl 4 (by decide) mw_229 rfl dX0_keepDraft_2 ?_
  refine mm_put (pc := 5) F hN (hA) (ci := 0) rfl 2 (by decide) mw_226 rfl (ty := .int) (by decide +kernel) (rfl) (rfl) (Nat.le_of_ble_eq_true rfl) dX0_keepDraft_5 (fun H locs hN => ?_)
  have hN : mm_N b D s (mm_u σ a (mm_obj o 0 [.int n0, .int c0, .int d0, .int g0, .int d0, .int v0])) H locs := hN
  have hN : mm_N b D s (mm_u σ a (mm_obj o 0 [.int n0, .int c0, .int d0, .int g0, .int d0, .int v0])) H locs := hN
  exact mm_vret (pc := 8) F hr hN (⟨rfl, rfl⟩) (Nat.le_of_ble_eq_true rfl) (Nat.le_of_ble_eq_true rfl) dX0_keepDraft_8

set_option maxHeartbeats 4000000 in
set_option maxRecDepth 100000 in
theorem c_Per (l : Launch) (b : Nat) (D : mm_D) (hst : l.stackTraces = false) (o a ho fl : Nat) (σ : mm_S) (hA : σ a = mm_obj o 2 [.null, .int (nI 0), .int (nI 0), .int (nI 0)]) : mm_K l b D yX2_init (.code yX2_init cX2_init 3 none) ({ frames := 1, cells := 0, slots := 0, locals := 12 } : Room) [.ref a, .ref ho, .int (nI fl)] σ
    (fun v σ2 => v = none ∧ σ2 = mm_u σ a (mm_obj o 2 [.ref ho, .int (nI fl), .int (nI 45), .int (nI 0)]))
    (fun _ _ => False) := by
  refine mm_of (cc := cX2_init) (nL := 3) (ret := none) (by decide) rfl (Nat.le_of_ble_eq_true rfl) hst ?_
  intro p e s m args below meth c ls F ht hr hin hN hl
  have hl : lv_has ls 3 [(0, .ref a), (1, .ref ho), (2, .int (nI fl))] := hl
  refine lv_aload_n (pc := 0) F.1 F.2.1 dX2_init_0 rfl (lv_at hl 0 rfl) ?_
  refine W.objInit F.1 F.2.1 F.2.2.2.1 (F.2.2.2.2.1 _ mw_400) (F.2.2.2.2.1 _ mw_40) (F.2.2.2.2.1 _ mw_41) rfl (by rw [F.2.2.1]; exact hl.1) rfl (g := F0 m 1 ls [.ref a]) dX2_init_1 (Nat.le_of_ble_eq_true rfl) (Nat.le_of_ble_eq_true rfl) ?_
  refine W.eq (g2 := F0 m 4 ls []) rfl ?_
  refine lv_aload_n (pc := 4) F.1 F.2.1 dX2_init_4 rfl (lv_at hl 0 rfl) ?_
  refine lv_aload_n (pc := 5) F.1 F.2.1 dX2_init_5 rfl (lv_at hl 1 rfl) ?_
  refine mm_put (pc := 6) F hN (hA) (ci := 2) rfl 0 (by decide) mw_401 rfl (ty := (.object "Mailmerge$Address")) (by decide +kernel) (rfl) (rfl) (Nat.le_of_ble_eq_true rfl) dX2_init_6 (fun H locs hN => ?_)
  have hN : mm_N b D s (mm_u σ a (mm_obj o 2 [.ref ho, .int (nI 0), .int (nI 0), .int (nI 0)])) H locs := hN
  have hN : mm_N b D s (mm_u σ a (mm_obj o 2 [.ref ho, .int (nI 0), .int (nI 0), .int (nI 0)])) H locs := hN
  refine lv_aload_n (pc := 9) F.1 F.2.1 dX2_init_9 rfl (lv_at hl 0 rfl) ?_
  refine lv_iload_n (pc := 10) F.1 F.2.1 dX2_init_10 rfl (lv_at hl 2 rfl) ?_
  refine mm_put (pc := 11) F hN (mm_u_eq) (ci := 2) rfl 1 (by decide) mw_405 rfl (ty := .int) (by decide +kernel) (rfl) (rfl) (Nat.le_of_ble_eq_true rfl) dX2_init_11 (fun H locs hN => ?_)
  have hN : mm_N b D s (mm_u ((mm_u σ a (mm_obj o 2 [.ref ho, .int (nI 0), .int (nI 0), .int (nI 0)]))) a (mm_obj o 2 [.ref ho, .int (nI fl), .int (nI 0), .int (nI 0)])) H locs := hN
  rw [mm_uu] at hN
  have hN : mm_N b D s (mm_u σ a (mm_obj o 2 [.ref ho, .int (nI fl), .int (nI 0), .int (nI 0)])) H locs := hN
  refine lv_aload_n (pc := 14) F.1 F.2.1 dX2_init_14 rfl (lv_at hl 0 rfl) ?_
  refine lv_bipush (pc := 15) (v := nI 45) F.1 F.2.1 dX2_init_15 (by decide) ?_
  refine mm_put (pc := 17) F hN (mm_u_eq) (ci := 2) rfl 2 (by decide) mw_408 rfl (ty := .char) (by decide +kernel) (by decide) (by decide) (Nat.le_of_ble_eq_true rfl) dX2_init_17 (fun H locs hN => ?_)
  have hN : mm_N b D s (mm_u ((mm_u σ a (mm_obj o 2 [.ref ho, .int (nI fl), .int (nI 0), .int (nI 0)]))) a (mm_obj o 2 [.ref ho, .int (nI fl), .int (nI 45), .int (nI 0)])) H locs := hN
  rw [mm_uu] at hN
  have hN : mm_N b D s (mm_u σ a (mm_obj o 2 [.ref ho, .int (nI fl), .int (nI 45), .int (nI 0)])) H locs := hN
  exact mm_vret (pc := 20) F hr hN (⟨rfl, rfl⟩) (Nat.le_of_ble_eq_true rfl) (Nat.le_of_ble_eq_true rfl) dX2_init_20

set_option maxHeartbeats 4000000 in
set_option maxRecDepth 100000 in
theorem c_isSupp (l : Launch) (b : Nat) (D : mm_D) (hst : l.stackTraces = false) (o a ho fl rs dr : Nat) (hrs : rs < 65536) (σ : mm_S) (hA : σ a = mm_obj o 2 [.ref ho, .int (nI fl), .int (nI rs), .int (nI dr)]) : mm_K l b D yX2_isSuppressed (.code yX2_isSuppressed cX2_isSuppressed 1 (some .boolean)) ({ frames := 0, cells := 0, slots := 0, locals := 0 } : Room) [.ref a] σ
    (fun v σ2 => v = some (.int (nI (if rs = 45 then 0 else 1))) ∧ σ2 = σ)
    (fun _ _ => False) := by
  refine mm_of (cc := cX2_isSuppressed) (nL := 1) (ret := (some .boolean)) (by decide) rfl (Nat.le_of_ble_eq_true rfl) hst ?_
  intro p e s m args below meth c ls F ht hr hin hN hl
  have hl : lv_has ls 1 [(0, .ref a)] := hl
  refine lv_aload_n (pc := 0) F.1 F.2.1 dX2_isSuppressed_0 rfl (lv_at hl 0 rfl) ?_
  refine mm_get (pc := 1) F hN (hA) (ci := 2) rfl 2 (by decide) mw_408 rfl dX2_isSuppressed_1 ?_
  refine lv_bipush (pc := 4) (v := nI 45) F.1 F.2.1 dX2_isSuppressed_4 (by decide) ?_
  refine mm_icmp_eq (pc := 6) F (x := rs) (y := 45) (tgt := 13) (by omega) (by omega) dX2_isSuppressed_6 (by decide) (fun cz6 => ?_) (fun cz6 => ?_)
  ·
    refine lv_iconst (pc := 13) (v := nI 0) F.1 F.2.1 dX2_isSuppressed_13 (by decide) ?_
    exact mm_zret (pc := 14) F (ty := .boolean) hr hN (by decide) (⟨by rw [if_pos cz6], rfl⟩) (Nat.le_of_ble_eq_true rfl) (Nat.le_of_ble_eq_true rfl) dX2_isSuppressed_14
  ·
    refine lv_iconst (pc := 9) (v := nI 1) F.1 F.2.1 dX2_isSuppressed_9 (by decide) ?_
    refine lv_goto (pc := 10) (tgt := 14) F.1 F.2.1 dX2_isSuppressed_10 (by decide) ?_
    exact mm_zret (pc := 14) F (ty := .boolean) hr hN (by decide) (⟨by rw [if_neg cz6], rfl⟩) (Nat.le_of_ble_eq_true rfl) (Nat.le_of_ble_eq_true rfl) dX2_isSuppressed_14

set_option maxHeartbeats 4000000 in
set_option maxRecDepth 100000 in
theorem c_large (l : Launch) (b : Nat) (D : mm_D) (hst : l.stackTraces = false) (pg : Nat) (hpg : pg < 2 ^ 31) (σ : mm_S) : mm_K l b D yX6_needsLargeEnvelope (.code yX6_needsLargeEnvelope cX6_needsLargeEnvelope 1 (some .boolean)) ({ frames := 0, cells := 0, slots := 0, locals := 0 } : Room) [.int (nI pg)] σ
    (fun v σ2 => v = some (.int (nI (if 3 < pg then 1 else 0))) ∧ σ2 = σ)
    (fun _ _ => False) := by
  refine mm_of (cc := cX6_needsLargeEnvelope) (nL := 1) (ret := (some .boolean)) (by decide) rfl (Nat.le_of_ble_eq_true rfl) hst ?_
  intro p e s m args below meth c ls F ht hr hin hN hl
  have hl : lv_has ls 1 [(0, .int (nI pg))] := hl
  refine lv_iload_n (pc := 0) F.1 F.2.1 dX6_needsLargeEnvelope_0 rfl (lv_at hl 0 rfl) ?_
  refine lv_iconst (pc := 1) (v := nI 3) F.1 F.2.1 dX6_needsLargeEnvelope_1 (by decide) ?_
  refine mm_icmp_le (pc := 2) F (x := pg) (y := 3) (tgt := 9) (by omega) (by omega) dX6_needsLargeEnvelope_2 (by decide) (fun cz2 => ?_) (fun cz2 => ?_)
  ·
    refine lv_iconst (pc := 9) (v := nI 0) F.1 F.2.1 dX6_needsLargeEnvelope_9 (by decide) ?_
    exact mm_zret (pc := 10) F (ty := .boolean) hr hN (by decide) (⟨by rw [if_neg (by omega)], rfl⟩) (Nat.le_of_ble_eq_true rfl) (Nat.le_of_ble_eq_true rfl) dX6_needsLargeEnvelope_10
  ·
    refine lv_iconst (pc := 5) (v := nI 1) F.1 F.2.1 dX6_needsLargeEnvelope_5 (by decide) ?_
    refine lv_goto (pc := 6) (tgt := 10) F.1 F.2.1 dX6_needsLargeEnvelope_6 (by decide) ?_
    exact mm_zret (pc := 10) F (ty := .boolean) hr hN (by decide) (⟨by rw [if_pos (by omega)], rfl⟩) (Nat.le_of_ble_eq_true rfl) (Nat.le_of_ble_eq_true rfl) dX6_needsLargeEnvelope_10

set_option maxHeartbeats 4000000 in
set_option maxRecDepth 100000 in
theorem c_Sto (l : Launch) (b : Nat) (D : mm_D) (hst : l.stackTraces = false) (a : Nat) (σ : mm_S) : mm_K l b D yX4_init (.code yX4_init cX4_init 1 none) ({ frames := 1, cells := 0, slots := 0, locals := 12 } : Room) [.ref a] σ
    (fun v σ2 => v = none ∧ σ2 = σ)
    (fun _ _ => False) := by
  refine mm_of (cc := cX4_init) (nL := 1) (ret := none) (by decide) rfl (Nat.le_of_ble_eq_true rfl) hst ?_
  intro p e s m args below meth c ls F ht hr hin hN hl
  have hl : lv_has ls 1 [(0, .ref a)] := hl
  refine lv_aload_n (pc := 0) F.1 F.2.1 dX4_init_0 rfl (lv_at hl 0 rfl) ?_
  refine W.objInit F.1 F.2.1 F.2.2.2.1 (F.2.2.2.2.1 _ mw_73) (F.2.2.2.2.1 _ mw_40) (F.2.2.2.2.1 _ mw_41) rfl (by rw [F.2.2.1]; exact hl.1) rfl (g := F0 m 1 ls [.ref a]) dX4_init_1 (Nat.le_of_ble_eq_true rfl) (Nat.le_of_ble_eq_true rfl) ?_
  refine W.eq (g2 := F0 m 4 ls []) rfl ?_
  exact mm_vret (pc := 4) F hr hN (⟨rfl, rfl⟩) (Nat.le_of_ble_eq_true rfl) (Nat.le_of_ble_eq_true rfl) dX4_init_4

set_option maxHeartbeats 4000000 in
set_option maxRecDepth 100000 in
theorem c_copyS (l : Launch) (b : Nat) (D : mm_D) (hst : l.stackTraces = false) (o a z s0 e0 e1 s1 f0 f1 : Nat) (σ : mm_S) (hA : σ a = mm_obj o 4 [.int (nI s0), .int (nI e0), .int (nI e1)]) (hZ : σ z = mm_obj o 4 [.int (nI s1), .int (nI f0), .int (nI f1)]) (hza : z ≠ a) : mm_K l b D yX4_copyFrom (.code yX4_copyFrom cX4_copyFrom 2 none) ({ frames := 0, cells := 0, slots := 0, locals := 0 } : Room) [.ref a, .ref z] σ
    (fun v σ2 => v = none ∧ σ2 = mm_u σ a (mm_obj o 4 [.int (nI s1), .int (nI f0), .int (nI f1)]))
    (fun _ _ => False) := by
  refine mm_of (cc := cX4_copyFrom) (nL := 2) (ret := none) (by decide) rfl (Nat.le_of_ble_eq_true rfl) hst ?_
  intro p e s m args below meth c ls F ht hr hin hN hl
  have hl : lv_has ls 2 [(0, .ref a), (1, .ref z)] := hl
  refine lv_aload_n (pc := 0) F.1 F.2.1 dX4_copyFrom_0 rfl (lv_at hl 0 rfl) ?_
  refine lv_aload_n (pc := 1) F.1 F.2.1 dX4_copyFrom_1 rfl (lv_at hl 1 rfl) ?_
  refine mm_get (pc := 2) F hN (hZ) (ci := 4) rfl 0 (by decide) mw_74 rfl dX4_copyFrom_2 ?_
  refine mm_put (pc := 5) F hN (hA) (ci := 4) rfl 0 (by decide) mw_74 rfl (ty := .int) (by decide +kernel) (rfl) (rfl) (Nat.le_of_ble_eq_true rfl) dX4_copyFrom_5 (fun H locs hN => ?_)
  have hN : mm_N b D s (mm_u σ a (mm_obj o 4 [.int (nI s1), .int (nI e0), .int (nI e1)])) H locs := hN
  have hN : mm_N b D s (mm_u σ a (mm_obj o 4 [.int (nI s1), .int (nI e0), .int (nI e1)])) H locs := hN
  refine lv_aload_n (pc := 8) F.1 F.2.1 dX4_copyFrom_8 rfl (lv_at hl 0 rfl) ?_
  refine lv_aload_n (pc := 9) F.1 F.2.1 dX4_copyFrom_9 rfl (lv_at hl 1 rfl) ?_
  refine mm_get (pc := 10) F hN ((mm_u_ne hza).trans hZ) (ci := 4) rfl 1 (by decide) mw_76 rfl dX4_copyFrom_10 ?_
  refine mm_put (pc := 13) F hN (mm_u_eq) (ci := 4) rfl 1 (by decide) mw_76 rfl (ty := .int) (by decide +kernel) (rfl) (rfl) (Nat.le_of_ble_eq_true rfl) dX4_copyFrom_13 (fun H locs hN => ?_)
  have hN : mm_N b D s (mm_u ((mm_u σ a (mm_obj o 4 [.int (nI s1), .int (nI e0), .int (nI e1)]))) a (mm_obj o 4 [.int (nI s1), .int (nI f0), .int (nI e1)])) H locs := hN
  rw [mm_uu] at hN
  have hN : mm_N b D s (mm_u σ a (mm_obj o 4 [.int (nI s1), .int (nI f0), .int (nI e1)])) H locs := hN
  refine lv_aload_n (pc := 16) F.1 F.2.1 dX4_copyFrom_16 rfl (lv_at hl 0 rfl) ?_
  refine lv_aload_n (pc := 17) F.1 F.2.1 dX4_copyFrom_17 rfl (lv_at hl 1 rfl) ?_
  refine mm_get (pc := 18) F hN ((mm_u_ne hza).trans hZ) (ci := 4) rfl 2 (by decide) mw_77 rfl dX4_copyFrom_18 ?_
  refine mm_put (pc := 21) F hN (mm_u_eq) (ci := 4) rfl 2 (by decide) mw_77 rfl (ty := .int) (by decide +kernel) (rfl) (rfl) (Nat.le_of_ble_eq_true rfl) dX4_copyFrom_21 (fun H locs hN => ?_)
  have hN : mm_N b D s (mm_u ((mm_u σ a (mm_obj o 4 [.int (nI s1), .int (nI f0), .int (nI e1)]))) a (mm_obj o 4 [.int (nI s1), .int (nI f0), .int (nI f1)])) H locs := hN
  rw [mm_uu] at hN
  have hN : mm_N b D s (mm_u σ a (mm_obj o 4 [.int (nI s1), .int (nI f0), .int (nI f1)])) H locs := hN
  exact mm_vret (pc := 24) F hr hN (⟨rfl, rfl⟩) (Nat.le_of_ble_eq_true rfl) (Nat.le_of_ble_eq_true rfl) dX4_copyFrom_24

set_option maxHeartbeats 4000000 in
set_option maxRecDepth 100000 in
theorem c_asMuch (l : Launch) (b : Nat) (D : mm_D) (hst : l.stackTraces = false) (o a z s0 e0 e1 s1 f0 f1 : Nat) (σ : mm_S) (hA : σ a = mm_obj o 4 [.int (nI s0), .int (nI e0), .int (nI e1)]) (hZ : σ z = mm_obj o 4 [.int (nI s1), .int (nI f0), .int (nI f1)]) (hb : s0 < 2 ^ 31 ∧ e0 < 2 ^ 31 ∧ e1 < 2 ^ 31 ∧ s1 < 2 ^ 31 ∧ f0 < 2 ^ 31 ∧ f1 < 2 ^ 31) : mm_K l b D yX4_isAsMuchAs (.code yX4_isAsMuchAs cX4_isAsMuchAs 2 (some .boolean)) ({ frames := 0, cells := 0, slots := 0, locals := 0 } : Room) [.ref a, .ref z] σ
    (fun v σ2 => v = some (.int (nI (if s0 = s1 ∧ e0 = f0 ∧ e1 = f1 then 1 else 0))) ∧ σ2 = σ)
    (fun _ _ => False) := by
  refine mm_of (cc := cX4_isAsMuchAs) (nL := 2) (ret := (some .boolean)) (by decide) rfl (Nat.le_of_ble_eq_true rfl) hst ?_
  intro p e s m args below meth c ls F ht hr hin hN hl
  have hl : lv_has ls 2 [(0, .ref a), (1, .ref z)] := hl
  refine lv_aload_n (pc := 0) F.1 F.2.1 dX4_isAsMuchAs_0 rfl (lv_at hl 0 rfl) ?_
  refine mm_get (pc := 1) F hN (hA) (ci := 4) rfl 0 (by decide) mw_74 rfl dX4_isAsMuchAs_1 ?_
  refine lv_aload_n (pc := 4) F.1 F.2.1 dX4_isAsMuchAs_4 rfl (lv_at hl 1 rfl) ?_
  refine mm_get (pc := 5) F hN (hZ) (ci := 4) rfl 0 (by decide) mw_74 rfl dX4_isAsMuchAs_5 ?_
  refine mm_icmp_ne (pc := 8) F (x := s0) (y := s1) (tgt := 37) (by omega) (by omega) dX4_isAsMuchAs_8 (by decide) (fun cz8 => ?_) (fun cz8 => ?_)
  ·
    refine lv_iconst (pc := 37) (v := nI 0) F.1 F.2.1 dX4_isAsMuchAs_37 (by decide) ?_
    exact mm_zret (pc := 38) F (ty := .boolean) hr hN (by decide) (⟨by rw [if_neg (fun q => by omega)], rfl⟩) (Nat.le_of_ble_eq_true rfl) (Nat.le_of_ble_eq_true rfl) dX4_isAsMuchAs_38
  ·
    refine lv_aload_n (pc := 11) F.1 F.2.1 dX4_isAsMuchAs_11 rfl (lv_at hl 0 rfl) ?_
    refine mm_get (pc := 12) F hN (hA) (ci := 4) rfl 1 (by decide) mw_76 rfl dX4_isAsMuchAs_12 ?_
    refine lv_aload_n (pc := 15) F.1 F.2.1 dX4_isAsMuchAs_15 rfl (lv_at hl 1 rfl) ?_
    refine mm_get (pc := 16) F hN (hZ) (ci := 4) rfl 1 (by decide) mw_76 rfl dX4_isAsMuchAs_16 ?_
    refine mm_icmp_ne (pc := 19) F (x := e0) (y := f0) (tgt := 37) (by omega) (by omega) dX4_isAsMuchAs_19 (by decide) (fun cz19 => ?_) (fun cz19 => ?_)
    ·
      refine lv_iconst (pc := 37) (v := nI 0) F.1 F.2.1 dX4_isAsMuchAs_37 (by decide) ?_
      exact mm_zret (pc := 38) F (ty := .boolean) hr hN (by decide) (⟨by rw [if_neg (fun q => by omega)], rfl⟩) (Nat.le_of_ble_eq_true rfl) (Nat.le_of_ble_eq_true rfl) dX4_isAsMuchAs_38
    ·
      refine lv_aload_n (pc := 22) F.1 F.2.1 dX4_isAsMuchAs_22 rfl (lv_at hl 0 rfl) ?_
      refine mm_get (pc := 23) F hN (hA) (ci := 4) rfl 2 (by decide) mw_77 rfl dX4_isAsMuchAs_23 ?_
      refine lv_aload_n (pc := 26) F.1 F.2.1 dX4_isAsMuchAs_26 rfl (lv_at hl 1 rfl) ?_
      refine mm_get (pc := 27) F hN (hZ) (ci := 4) rfl 2 (by decide) mw_77 rfl dX4_isAsMuchAs_27 ?_
      refine mm_icmp_ne (pc := 30) F (x := e1) (y := f1) (tgt := 37) (by omega) (by omega) dX4_isAsMuchAs_30 (by decide) (fun cz30 => ?_) (fun cz30 => ?_)
      ·
        refine lv_iconst (pc := 37) (v := nI 0) F.1 F.2.1 dX4_isAsMuchAs_37 (by decide) ?_
        exact mm_zret (pc := 38) F (ty := .boolean) hr hN (by decide) (⟨by rw [if_neg (fun q => by omega)], rfl⟩) (Nat.le_of_ble_eq_true rfl) (Nat.le_of_ble_eq_true rfl) dX4_isAsMuchAs_38
      ·
        refine lv_iconst (pc := 33) (v := nI 1) F.1 F.2.1 dX4_isAsMuchAs_33 (by decide) ?_
        refine lv_goto (pc := 34) (tgt := 38) F.1 F.2.1 dX4_isAsMuchAs_34 (by decide) ?_
        exact mm_zret (pc := 38) F (ty := .boolean) hr hN (by decide) (⟨by rw [if_pos ⟨by omega, by omega, by omega⟩], rfl⟩) (Nat.le_of_ble_eq_true rfl) (Nat.le_of_ble_eq_true rfl) dX4_isAsMuchAs_38

set_option maxHeartbeats 4000000 in
set_option maxRecDepth 100000 in
theorem c_envOf (l : Launch) (b : Nat) (D : mm_D) (hst : l.stackTraces = false) (k : Nat) (hk : k < 2) (o a s0 e0 e1 : Nat) (σ : mm_S) (hA : σ a = mm_obj o 4 [.int (nI s0), .int (nI e0), .int (nI e1)]) : mm_K l b D yX4_envelopesOf (.code yX4_envelopesOf cX4_envelopesOf 2 (some .int)) ({ frames := 0, cells := 0, slots := 0, locals := 0 } : Room) [.ref a, .int (nI k)] σ
    (fun v σ2 => v = some (.int (nI (if k = 0 then e0 else e1))) ∧ σ2 = σ)
    (fun _ _ => False) := by
  refine mm_of (cc := cX4_envelopesOf) (nL := 2) (ret := (some .int)) (by decide) rfl (Nat.le_of_ble_eq_true rfl) hst ?_
  intro p e s m args below meth c ls F ht hr hin hN hl
  have hl : lv_has ls 2 [(0, .ref a), (1, .int (nI k))] := hl
  refine lv_iload_n (pc := 0) F.1 F.2.1 dX4_envelopesOf_0 rfl (lv_at hl 1 rfl) ?_
  refine mm_if_eq (pc := 1) F (tgt := 11) (by omega) dX4_envelopesOf_1 (by decide) (fun cz1 => ?_) (fun cz1 => ?_)
  ·
    refine lv_aload_n (pc := 11) F.1 F.2.1 dX4_envelopesOf_11 rfl (lv_at hl 0 rfl) ?_
    refine mm_get (pc := 12) F hN (hA) (ci := 4) rfl 1 (by decide) mw_76 rfl dX4_envelopesOf_12 ?_
    exact mm_iret (pc := 15) F hr hN (⟨by rw [if_pos cz1], rfl⟩) (Nat.le_of_ble_eq_true rfl) (Nat.le_of_ble_eq_true rfl) dX4_envelopesOf_15
  ·
    refine lv_aload_n (pc := 4) F.1 F.2.1 dX4_envelopesOf_4 rfl (lv_at hl 0 rfl) ?_
    refine mm_get (pc := 5) F hN (hA) (ci := 4) rfl 2 (by decide) mw_77 rfl dX4_envelopesOf_5 ?_
    refine lv_goto (pc := 8) (tgt := 15) F.1 F.2.1 dX4_envelopesOf_8 (by decide) ?_
    exact mm_iret (pc := 15) F hr hN (⟨by rw [if_neg cz1], rfl⟩) (Nat.le_of_ble_eq_true rfl) (Nat.le_of_ble_eq_true rfl) dX4_envelopesOf_15

set_option maxHeartbeats 4000000 in
set_option maxRecDepth 100000 in
theorem c_addEnv (l : Launch) (b : Nat) (D : mm_D) (hst : l.stackTraces = false) (k : Nat) (hk : k < 2) (x : Int32) (o a s0 e0 e1 : Nat) (σ : mm_S) (hA : σ a = mm_obj o 4 [.int (nI s0), .int (nI e0), .int (nI e1)]) : mm_K l b D yX4_addEnvelopes (.code yX4_addEnvelopes cX4_addEnvelopes 3 none) ({ frames := 0, cells := 0, slots := 0, locals := 0 } : Room) [.ref a, .int (nI k), .int x] σ
    (fun v σ2 => v = none ∧ σ2 = mm_u σ a (mm_obj o 4 (if k = 0 then [.int (nI s0), .int (nI e0 + x), .int (nI e1)] else [.int (nI s0), .int (nI e0), .int (nI e1 + x)])))
    (fun _ _ => False) := by
  refine mm_of (cc := cX4_addEnvelopes) (nL := 3) (ret := none) (by decide) rfl (Nat.le_of_ble_eq_true rfl) hst ?_
  intro p e s m args below meth c ls F ht hr hin hN hl
  have hl : lv_has ls 3 [(0, .ref a), (1, .int (nI k)), (2, .int x)] := hl
  refine lv_iload_n (pc := 0) F.1 F.2.1 dX4_addEnvelopes_0 rfl (lv_at hl 1 rfl) ?_
  refine mm_if_eq (pc := 1) F (tgt := 17) (by omega) dX4_addEnvelopes_1 (by decide) (fun cz1 => ?_) (fun cz1 => ?_)
  ·
    refine lv_aload_n (pc := 17) F.1 F.2.1 dX4_addEnvelopes_17 rfl (lv_at hl 0 rfl) ?_
    refine lv_dup (pc := 18) F.1 F.2.1 dX4_addEnvelopes_18 rfl ?_
    refine mm_get (pc := 19) F hN (hA) (ci := 4) rfl 1 (by decide) mw_76 rfl dX4_addEnvelopes_19 ?_
    refine lv_iload_n (pc := 22) F.1 F.2.1 dX4_addEnvelopes_22 rfl (lv_at hl 2 rfl) ?_
    refine mm_iadd (pc := 23) F (z := (nI e0) + x) (rfl) dX4_addEnvelopes_23 ?_
    refine mm_put (pc := 24) F hN (hA) (ci := 4) rfl 1 (by decide) mw_76 rfl (ty := .int) (by decide +kernel) (rfl) (rfl) (Nat.le_of_ble_eq_true rfl) dX4_addEnvelopes_24 (fun H locs hN => ?_)
    have hN : mm_N b D s (mm_u σ a (mm_obj o 4 [.int (nI s0), .int ((nI e0) + x), .int (nI e1)])) H locs := hN
    have hN : mm_N b D s (mm_u σ a (mm_obj o 4 [.int (nI s0), .int ((nI e0) + x), .int (nI e1)])) H locs := hN
    exact mm_vret (pc := 27) F hr hN (⟨rfl, by rw [if_pos cz1]⟩) (Nat.le_of_ble_eq_true rfl) (Nat.le_of_ble_eq_true rfl) dX4_addEnvelopes_27
  ·
    refine lv_aload_n (pc := 4) F.1 F.2.1 dX4_addEnvelopes_4 rfl (lv_at hl 0 rfl) ?_
    refine lv_dup (pc := 5) F.1 F.2.1 dX4_addEnvelopes_5 rfl ?_
    refine mm_get (pc := 6) F hN (hA) (ci := 4) rfl 2 (by decide) mw_77 rfl dX4_addEnvelopes_6 ?_
    refine lv_iload_n (pc := 9) F.1 F.2.1 dX4_addEnvelopes_9 rfl (lv_at hl 2 rfl) ?_
    refine mm_iadd (pc := 10) F (z := (nI e1) + x) (rfl) dX4_addEnvelopes_10 ?_
    refine mm_put (pc := 11) F hN (hA) (ci := 4) rfl 2 (by decide) mw_77 rfl (ty := .int) (by decide +kernel) (rfl) (rfl) (Nat.le_of_ble_eq_true rfl) dX4_addEnvelopes_11 (fun H locs hN => ?_)
    have hN : mm_N b D s (mm_u σ a (mm_obj o 4 [.int (nI s0), .int (nI e0), .int ((nI e1) + x)])) H locs := hN
    have hN : mm_N b D s (mm_u σ a (mm_obj o 4 [.int (nI s0), .int (nI e0), .int ((nI e1) + x)])) H locs := hN
    refine lv_goto (pc := 14) (tgt := 27) F.1 F.2.1 dX4_addEnvelopes_14 (by decide) ?_
    exact mm_vret (pc := 27) F hr hN (⟨rfl, by rw [if_neg cz1]⟩) (Nat.le_of_ble_eq_true rfl) (Nat.le_of_ble_eq_true rfl) dX4_addEnvelopes_27

set_option maxHeartbeats 4000000 in
set_option maxRecDepth 100000 in
theorem c_take (l : Launch) (b : Nat) (D : mm_D) (hst : l.stackTraces = false) (pg : Nat) (o a s0 e0 e1 : Nat) (σ : mm_S) (hA : σ a = mm_obj o 4 [.int (nI s0), .int (nI e0), .int (nI e1)]) (hb : pg ≤ 100 ∧ s0 ≤ 1000000 ∧ e0 ≤ 1000000 ∧ e1 ≤ 1000000) : mm_K l b D yX4_take (.code yX4_take cX4_take 3 (some .boolean)) ({ frames := 2, cells := 0, slots := 0, locals := 40 } : Room) [.ref a, .int (nI pg)] σ
    (fun v σ2 => v = some (.int (nI (if pg ≤ s0 ∧ 1 ≤ (if 3 < pg then e1 else e0) then 1 else 0))) ∧ σ2 = (if pg ≤ s0 ∧ 1 ≤ (if 3 < pg then e1 else e0) then mm_u σ a (mm_obj o 4 [.int (nI (s0 - pg)), .int (nI (if 3 < pg then e0 else e0 - 1)), .int (nI (if 3 < pg then e1 - 1 else e1))]) else σ))
    (fun _ _ => False) := by
  refine mm_of (cc := cX4_take) (nL := 3) (ret := (some .boolean)) (by decide) rfl (Nat.le_of_ble_eq_true rfl) hst ?_
  intro p e s m args below meth c ls F ht hr hin hN hl
  have hl : lv_has ls 3 [(0, .ref a), (1, .int (nI pg))] := hl
  refine lv_iload_n (pc := 0) F.1 F.2.1 dX4_take_0 rfl (lv_at hl 1 rfl) ?_
  refine mm_runSN (pc := 1) (As := [.int (nI pg)]) (rest := []) F hN (c_large l b D hst pg (by omega) σ) mw_585 mw_586 mw_1 mw_587 ⟨pmX6_needsLargeEnvelope, (Nat.le_of_ble_eq_true rfl), (Nat.le_of_ble_eq_true rfl)⟩ hl.1 rfl (Nat.le_of_ble_eq_true rfl) ⟨(Nat.le_of_ble_eq_true rfl), (Nat.le_of_ble_eq_true rfl)⟩ dX4_take_1
    (fun _ _ _ _ _ _ h9 => False.elim h9)
    (fun v9 σ1 H locs hp9 hN => ?_)
  obtain ⟨rfl, h9⟩ := hp9
  rw [h9] at hN
  refine W.eq (g2 := F0 m 4 ls [.int (nI (if 3 < pg then 1 else 0))]) rfl ?_
  refine W.widen (k := 0) (n := 0) (Nat.le_of_ble_eq_true rfl) (Nat.le_of_ble_eq_true rfl) ?_
  refine lv_istore_n (pc := 4) (lv' := [(2, .int (nI (if 3 < pg then 1 else 0))), (0, .ref a), (1, .int (nI pg))]) F.1 F.2.1 dX4_take_4 rfl hl (by decide) rfl (fun ls hl => ?_)
  refine lv_iload_n (pc := 5) F.1 F.2.1 dX4_take_5 rfl (lv_at hl 2 rfl) ?_
  refine lv_aload_n (pc := 6) F.1 F.2.1 dX4_take_6 rfl (lv_at hl 1 rfl) ?_
  refine mm_get (pc := 7) F hN (hA) (ci := 4) rfl 0 (by decide) mw_74 rfl dX4_take_7 ?_
  refine mm_icmp_gt (pc := 10) F (x := pg) (y := s0) (tgt := 22) (by omega) (by omega) dX4_take_10 (by decide) (fun cz10 => ?_) (fun cz10 => ?_)
  ·
    refine lv_iconst (pc := 22) (v := nI 0) F.1 F.2.1 dX4_take_22 (by decide) ?_
    exact mm_zret (pc := 23) F (ty := .boolean) hr hN (by decide) (⟨by rw [if_neg (fun q => by omega)], by rw [if_neg (fun q => by omega)]⟩) (Nat.le_of_ble_eq_true rfl) (Nat.le_of_ble_eq_true rfl) dX4_take_23
  ·
    refine lv_aload_n (pc := 13) F.1 F.2.1 dX4_take_13 rfl (lv_at hl 1 rfl) ?_
    refine lv_iload_n (pc := 14) F.1 F.2.1 dX4_take_14 rfl (lv_at hl 0 rfl) ?_
    refine mm_runV (pc := 15) (As := [.int (nI (if 3 < pg then 1 else 0))]) (rest := []) F hN (c_envOf l b D hst (if 3 < pg then 1 else 0) mm_ifB o a s0 e0 e1 σ hA) mw_588 mw_540 mw_541 mw_5 mw_542 ⟨pmX4_envelopesOf, (Nat.le_of_ble_eq_true rfl), (Nat.le_of_ble_eq_true rfl)⟩ (mm_recv F.2.2.2.2.2.1 hN hA rfl) hl.1 rfl (Nat.le_of_ble_eq_true rfl) ⟨(Nat.le_of_ble_eq_true rfl), (Nat.le_of_ble_eq_true rfl)⟩ dX4_take_15
      (fun _ _ _ _ _ _ h9 => False.elim h9)
      (fun v9 σ1 H locs hp9 hN => ?_)
    obtain ⟨rfl, h9⟩ := hp9
    rw [h9] at hN
    refine W.eq (g2 := F0 m 18 ls [.int (nI (if (if 3 < pg then 1 else 0) = 0 then e0 else e1))]) rfl ?_
    refine W.widen (k := 0) (n := 0) (Nat.le_of_ble_eq_true rfl) (Nat.le_of_ble_eq_true rfl) ?_
    have hen : (if (if 3 < pg then 1 else 0) = 0 then e0 else e1) = (if 3 < pg then e1 else e0) := by by_cases h : 3 < pg <;> simp [h]
    refine W.eq (g2 := F0 m 18 ls [.int (nI (if 3 < pg then e1 else e0))]) (by rw [hen]) ?_
    have hle : (if 3 < pg then e1 else e0) < 2 ^ 31 := by by_cases h : 3 < pg <;> simp [h] <;> omega
    refine lv_iconst (pc := 18) (v := nI 1) F.1 F.2.1 dX4_take_18 (by decide) ?_
    refine mm_icmp_ge (pc := 19) F (x := (if 3 < pg then e1 else e0)) (y := 1) (tgt := 24) hle (by decide) dX4_take_19 (by decide) (fun cz19 => ?_) (fun cz19 => ?_)
    ·
      refine lv_aload_n (pc := 24) F.1 F.2.1 dX4_take_24 rfl (lv_at hl 1 rfl) ?_
      refine lv_dup (pc := 25) F.1 F.2.1 dX4_take_25 rfl ?_
      refine mm_get (pc := 26) F hN (hA) (ci := 4) rfl 0 (by decide) mw_74 rfl dX4_take_26 ?_
      refine lv_iload_n (pc := 29) F.1 F.2.1 dX4_take_29 rfl (lv_at hl 2 rfl) ?_
      refine mm_isub (pc := 30) F (z := nI (s0 - pg)) (pk_sub (by omega)) dX4_take_30 ?_
      refine mm_put (pc := 31) F hN (hA) (ci := 4) rfl 0 (by decide) mw_74 rfl (ty := .int) (by decide +kernel) (rfl) (rfl) (Nat.le_of_ble_eq_true rfl) dX4_take_31 (fun H locs hN => ?_)
      have hN : mm_N b D s (mm_u σ a (mm_obj o 4 [.int (nI (s0 - pg)), .int (nI e0), .int (nI e1)])) H locs := hN
      have hA2 : (mm_u σ a (mm_obj o 4 [.int (nI (s0 - pg)), .int (nI e0), .int (nI e1)])) a = mm_obj o 4 [.int (nI (s0 - pg)), .int (nI e0), .int (nI e1)] := mm_u_eq
      refine lv_aload_n (pc := 34) F.1 F.2.1 dX4_take_34 rfl (lv_at hl 1 rfl) ?_
      refine lv_iload_n (pc := 35) F.1 F.2.1 dX4_take_35 rfl (lv_at hl 0 rfl) ?_
      refine lv_iconst (pc := 36) (v := (-1)) F.1 F.2.1 dX4_take_36 (by decide) ?_
      refine mm_runV (pc := 37) (As := [.int (nI (if 3 < pg then 1 else 0)), .int ((-1))]) (rest := []) F hN (c_addEnv l b D hst (if 3 < pg then 1 else 0) mm_ifB (-1) o a (s0 - pg) e0 e1 _ hA2) mw_589 mw_544 mw_545 mw_5 mw_546 ⟨pmX4_addEnvelopes, (Nat.le_of_ble_eq_true rfl), (Nat.le_of_ble_eq_true rfl)⟩ (mm_recv F.2.2.2.2.2.1 hN hA2 rfl) hl.1 rfl (Nat.le_of_ble_eq_true rfl) ⟨(Nat.le_of_ble_eq_true rfl), (Nat.le_of_ble_eq_true rfl)⟩ dX4_take_37
        (fun _ _ _ _ _ _ h9 => False.elim h9)
        (fun v9 σ2 H locs hp9 hN => ?_)
      obtain ⟨rfl, hσ2⟩ := hp9
      refine W.eq (g2 := F0 m 40 ls []) rfl ?_
      refine W.widen (k := 0) (n := 0) (Nat.le_of_ble_eq_true rfl) (Nat.le_of_ble_eq_true rfl) ?_
      rw [mm_uu] at hσ2
      refine lv_iconst (pc := 40) (v := nI 1) F.1 F.2.1 dX4_take_40 (by decide) ?_
      have hσ3 : σ2 = mm_u σ a (mm_obj o 4 [.int (nI (s0 - pg)), .int (nI (if 3 < pg then e0 else e0 - 1)), .int (nI (if 3 < pg then e1 - 1 else e1))]) := by
        rw [hσ2]
        by_cases h : 3 < pg
        · simp only [h, if_true] at cz19 ⊢
          rw [if_neg (by decide), show nI e1 + (-1) = nI (e1 - 1) from by obtain ⟨j, rfl⟩ : ∃ j, e1 = j + 1 := ⟨e1 - 1, by omega⟩; exact pk_m1 j]
        · simp only [h, if_false] at cz19 ⊢
          rw [if_pos trivial, show nI e0 + (-1) = nI (e0 - 1) from by obtain ⟨j, rfl⟩ : ∃ j, e0 = j + 1 := ⟨e0 - 1, by omega⟩; exact pk_m1 j]
      exact mm_zret (pc := 41) F (ty := .boolean) hr hN (by decide) (⟨by rw [if_pos ⟨by omega, by omega⟩], by rw [if_pos ⟨by omega, by omega⟩]; exact hσ3⟩) (Nat.le_of_ble_eq_true rfl) (Nat.le_of_ble_eq_true rfl) dX4_take_41
    ·
      refine lv_iconst (pc := 22) (v := nI 0) F.1 F.2.1 dX4_take_22 (by decide) ?_
      exact mm_zret (pc := 23) F (ty := .boolean) hr hN (by decide) (⟨by rw [if_neg (fun q => by omega)], by rw [if_neg (fun q => by omega)]⟩) (Nat.le_of_ble_eq_true rfl) (Nat.le_of_ble_eq_true rfl) dX4_take_23

set_option maxHeartbeats 4000000 in
set_option maxRecDepth 100000 in
theorem c_putBack (l : Launch) (b : Nat) (D : mm_D) (hst : l.stackTraces = false) (pg : Nat) (hpg : pg < 2 ^ 31) (o a s0 e0 e1 : Nat) (σ : mm_S) (hA : σ a = mm_obj o 4 [.int (nI s0), .int (nI e0), .int (nI e1)]) : mm_K l b D yX4_putBack (.code yX4_putBack cX4_putBack 2 none) ({ frames := 2, cells := 0, slots := 0, locals := 40 } : Room) [.ref a, .int (nI pg)] σ
    (fun v σ2 => v = none ∧ σ2 = mm_u σ a (mm_obj o 4 [.int (nI (s0 + pg)), .int (nI (if 3 < pg then e0 else e0 + 1)), .int (nI (if 3 < pg then e1 + 1 else e1))]))
    (fun _ _ => False) := by
  refine mm_of (cc := cX4_putBack) (nL := 2) (ret := none) (by decide) rfl (Nat.le_of_ble_eq_true rfl) hst ?_
  intro p e s m args below meth c ls F ht hr hin hN hl
  have hl : lv_has ls 2 [(0, .ref a), (1, .int (nI pg))] := hl
  refine lv_aload_n (pc := 0) F.1 F.2.1 dX4_putBack_0 rfl (lv_at hl 0 rfl) ?_
  refine lv_dup (pc := 1) F.1 F.2.1 dX4_putBack_1 rfl ?_
  refine mm_get (pc := 2) F hN (hA) (ci := 4) rfl 0 (by decide) mw_74 rfl dX4_putBack_2 ?_
  refine lv_iload_n (pc := 5) F.1 F.2.1 dX4_putBack_5 rfl (lv_at hl 1 rfl) ?_
  refine mm_iadd (pc := 6) F (z := nI (s0 + pg)) (nI_add _ _) dX4_putBack_6 ?_
  refine mm_put (pc := 7) F hN (hA) (ci := 4) rfl 0 (by decide) mw_74 rfl (ty := .int) (by decide +kernel) (rfl) (rfl) (Nat.le_of_ble_eq_true rfl) dX4_putBack_7 (fun H locs hN => ?_)
  have hN : mm_N b D s (mm_u σ a (mm_obj o 4 [.int (nI (s0 + pg)), .int (nI e0), .int (nI e1)])) H locs := hN
  have hA2 : (mm_u σ a (mm_obj o 4 [.int (nI (s0 + pg)), .int (nI e0), .int (nI e1)])) a = mm_obj o 4 [.int (nI (s0 + pg)), .int (nI e0), .int (nI e1)] := mm_u_eq
  refine lv_aload_n (pc := 10) F.1 F.2.1 dX4_putBack_10 rfl (lv_at hl 0 rfl) ?_
  refine lv_iload_n (pc := 11) F.1 F.2.1 dX4_putBack_11 rfl (lv_at hl 1 rfl) ?_
  refine mm_runSN (pc := 12) (As := [.int (nI pg)]) (rest := [.ref a]) F hN (c_large l b D hst pg (by omega) _) mw_585 mw_586 mw_1 mw_587 ⟨pmX6_needsLargeEnvelope, (Nat.le_of_ble_eq_true rfl), (Nat.le_of_ble_eq_true rfl)⟩ hl.1 rfl (Nat.le_of_ble_eq_true rfl) ⟨(Nat.le_of_ble_eq_true rfl), (Nat.le_of_ble_eq_true rfl)⟩ dX4_putBack_12
    (fun _ _ _ _ _ _ h9 => False.elim h9)
    (fun v9 σ1 H locs hp9 hN => ?_)
  obtain ⟨rfl, h9⟩ := hp9
  rw [h9] at hN
  refine W.eq (g2 := F0 m 15 ls [.int (nI (if 3 < pg then 1 else 0)), .ref a]) rfl ?_
  refine W.widen (k := 0) (n := 0) (Nat.le_of_ble_eq_true rfl) (Nat.le_of_ble_eq_true rfl) ?_
  refine lv_iconst (pc := 15) (v := nI 1) F.1 F.2.1 dX4_putBack_15 (by decide) ?_
  refine mm_runV (pc := 16) (As := [.int (nI (if 3 < pg then 1 else 0)), .int (nI 1)]) (rest := []) F hN (c_addEnv l b D hst (if 3 < pg then 1 else 0) mm_ifB (nI 1) o a (s0 + pg) e0 e1 _ hA2) mw_589 mw_544 mw_545 mw_5 mw_546 ⟨pmX4_addEnvelopes, (Nat.le_of_ble_eq_true rfl), (Nat.le_of_ble_eq_true rfl)⟩ (mm_recv F.2.2.2.2.2.1 hN hA2 rfl) hl.1 rfl (Nat.le_of_ble_eq_true rfl) ⟨(Nat.le_of_ble_eq_true rfl), (Nat.le_of_ble_eq_true rfl)⟩ dX4_putBack_16
    (fun _ _ _ _ _ _ h9 => False.elim h9)
    (fun v9 σ2 H locs hp9 hN => ?_)
  obtain ⟨rfl, hσ2⟩ := hp9
  refine W.eq (g2 := F0 m 19 ls []) rfl ?_
  refine W.widen (k := 0) (n := 0) (Nat.le_of_ble_eq_true rfl) (Nat.le_of_ble_eq_true rfl) ?_
  rw [mm_uu] at hσ2
  exact mm_vret (pc := 19) F hr hN (⟨rfl, by rw [hσ2]; by_cases h : 3 < pg <;> simp [h, nI_add]⟩) (Nat.le_of_ble_eq_true rfl) (Nat.le_of_ble_eq_true rfl) dX4_putBack_19

