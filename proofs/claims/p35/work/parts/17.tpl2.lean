def mm_W (i : Nat) (c : Nat → Bool) (f g : Nat → Nat) : Nat → Nat := fun x => if x < i ∧ c x = true then g x else f x
theorem mm_Wat {i : Nat} {c : Nat → Bool} {f g : Nat → Nat} : mm_W i c f g i = f i := if_neg (fun h => absurd h.1 (Nat.lt_irrefl _))
theorem mm_W0 {c : Nat → Bool} {f g : Nat → Nat} : mm_W 0 c f g = f := by
  funext x
  exact if_neg (fun h => absurd h.1 (Nat.not_lt_zero _))
theorem mm_Ws1 {i : Nat} {c : Nat → Bool} {f g : Nat → Nat} {v : Nat} (hc : c i = true) (hv : v = g i) : mm_up (mm_W i c f g) i v = mm_W (i + 1) c f g := by
  funext x
  by_cases h : x = i
  · subst h; rw [mm_up_at, hv]; exact (if_pos ⟨Nat.lt_succ_self _, hc⟩).symm
  · rw [mm_up, if_neg h, mm_W, mm_W]
    by_cases h2 : x < i ∧ c x = true
    · rw [if_pos h2, if_pos ⟨Nat.lt_succ_of_lt h2.1, h2.2⟩]
    · rw [if_neg h2, if_neg (fun q => h2 ⟨by omega, q.2⟩)]
theorem mm_Ws0 {i : Nat} {c : Nat → Bool} {f g : Nat → Nat} (hc : ¬ c i = true) : mm_W i c f g = mm_W (i + 1) c f g := by
  funext x
  rw [mm_W, mm_W]
  by_cases h2 : x < i ∧ c x = true
  · rw [if_pos h2, if_pos ⟨Nat.lt_succ_of_lt h2.1, h2.2⟩]
  · rw [if_neg h2, if_neg (fun q => h2 ⟨by
      rcases Nat.lt_or_eq_of_le (Nat.le_of_lt_succ q.1) with h | h
      · exact h
      · subst h; exact absurd q.2 hc, q.2⟩)]
def mm_cd (ne fo x : Nat) : Bool := decide (x &&& ne = ne ∧ x &&& fo = 0)
def mm_lnP (fp fq : Nat → Nat) (ln x : Nat) : Nat := if fp x = 0 ∨ 40 < fq x + ln then fp x + 1 else fp x
def mm_lnQ (fp fq : Nat → Nat) (ln x : Nat) : Nat := if fp x = 0 ∨ 40 < fq x + ln then ln else fq x + ln
def mm_lnA (fa : Nat → Nat) (pc x : Nat) : Nat := fa x ||| 2 ^ pc
def mm_ex (P : Nat → Bool) : Nat → Bool
  | 0 => false
  | n + 1 => mm_ex P n || P n
theorem mm_ex_of {P : Nat → Bool} {i n : Nat} (h : i < n) (hp : P i = true) : mm_ex P n = true := by
  induction n with
  | zero => omega
  | succ n ih =>
    show (mm_ex P n || P n) = true
    by_cases e : i = n
    · subst e; rw [hp, Bool.or_true]
    · rw [ih (by omega), Bool.true_or]
theorem mm_ex_no {P : Nat → Bool} {n : Nat} (h : mm_ex P n = false) (hp : ¬ P n = true) : mm_ex P (n + 1) = false := by
  show (mm_ex P n || P n) = false
  rw [h, Bool.false_or]
  exact Bool.not_eq_true _ ▸ hp
def mm_cf (n rb pg : Nat) : Nat := if rb ≤ n then mm_cent pg - mm_cent pg / 5 else mm_cent pg
theorem mm_cent_le (pg : Nat) : mm_cent pg ≤ 160 := by
  unfold mm_cent
  repeat' split
  all_goals omega
theorem mm_cf_le (n rb pg : Nat) : mm_cf n rb pg ≤ 160 := by
  have := mm_cent_le pg
  unfold mm_cf
  split <;> omega
set_option maxHeartbeats 4000000 in
set_option maxRecDepth 100000 in
theorem c_append (l : Launch) (b : Nat) (D : mm_D) (hst : l.stackTraces = false) (o t pa pg lo pc us : Nat) (ln ne fo : Nat) (fp fq fa : Nat → Nat) (hpc : pc < 8) (hln : ln ≤ 40) (hne : ne < 8) (hfo : fo < 8) (hpx : ∀ x, fp x < 100) (hqx : ∀ x, fq x ≤ 40) (σ : mm_S) (hT : σ t = mm_obj o 5 [.ref pa, .ref pg, .ref lo, .int (nI pc), .int (nI us)]) (h1 : pg ≠ lo) (h2 : pg ≠ pa) (h3 : lo ≠ pa) (hP : σ pg = mm_a8 o fp) (hL : σ lo = mm_a8 o fq) (hA : σ pa = mm_a8 o fa) : mm_K l b D yX5_append (.code yX5_append cX5_append 5 none) ({ frames := 1, cells := 0, slots := 0, locals := 24 } : Room) [.ref t, .int (nI ln), .int (nI ne), .int (nI fo)] σ
    (fun v σ2 => v = none ∧ σ2 = mm_u (mm_U3 σ o pg lo pa (mm_W 8 (mm_cd ne fo) fp (mm_lnP fp fq ln)) (mm_W 8 (mm_cd ne fo) fq (mm_lnQ fp fq ln)) (mm_W 8 (mm_cd ne fo) fa (mm_lnA fa pc))) t (mm_obj o 5 [.ref pa, .ref pg, .ref lo, .int (nI (pc + 1)), .int (nI us)]))
    (fun _ _ => False) := by
  refine mm_of (cc := cX5_append) (nL := 5) (ret := none) (by decide) rfl (Nat.le_of_ble_eq_true rfl) hst ?_
  intro p e s m args below meth c ls F ht hr hin hN hl
  have hl : lv_has ls 5 [(0, .ref t), (1, .int (nI ln)), (2, .int (nI ne)), (3, .int (nI fo))] := hl
  have htp : t ≠ pg := fun e => by rw [e, hP] at hT; cases hT
  have htl : t ≠ lo := fun e => by rw [e, hL] at hT; cases hT
  have hta : t ≠ pa := fun e => by rw [e, hA] at hT; cases hT
  have hand : ∀ x y : Nat, y < 8 → x &&& y < 8 := fun x y hy => Nat.lt_of_le_of_lt Nat.and_le_right hy
  have ha1 := fun x => hand x ne hne
  have ha2 := fun x => hand x fo hfo
  refine lv_iconst (pc := 0) (v := nI 0) F.1 F.2.1 dX5_append_0 (by decide) ?_
  refine lv_istore (pc := 1) (lv' := [(4, .int (nI 0)), (0, .ref t), (1, .int (nI ln)), (2, .int (nI ne)), (3, .int (nI fo))]) F.1 F.2.1 dX5_append_1 hl (by decide) rfl (fun ls hl => ?_)
  have hN := mm_NS hN (show σ = mm_U3 σ o pg lo pa (mm_W 0 (mm_cd ne fo) fp (mm_lnP fp fq ln)) (mm_W 0 (mm_cd ne fo) fq (mm_lnQ fp fq ln)) (mm_W 0 (mm_cd ne fo) fa (mm_lnA fa pc)) by rw [mm_W0, mm_W0, mm_W0]; exact (mm_U3s hP hL hA).symm)
  have lp3 : ∀ (k3 i : Nat) (ls : Array Slot) (H : Heap) (locs : List Loc), 8 < i + k3 → i ≤ 8 → mm_N b D s ((mm_U3 σ o pg lo pa (mm_W i (mm_cd ne fo) fp (mm_lnP fp fq ln)) (mm_W i (mm_cd ne fo) fq (mm_lnQ fp fq ln)) (mm_W i (mm_cd ne fo) fa (mm_lnA fa pc)))) H locs → lv_has ls 5 [(0, .ref t), (1, .int (nI ln)), (2, .int (nI ne)), (3, .int (nI fo)), (4, .int (nI i))] →
      W p l e ({ frames := 1, cells := 0, slots := 0, locals := 24 } : Room) s m args below meth c H locs (0) (0) (mm_Q b D (fun v σ2 => v = none ∧ σ2 = mm_u (mm_U3 σ o pg lo pa (mm_W 8 (mm_cd ne fo) fp (mm_lnP fp fq ln)) (mm_W 8 (mm_cd ne fo) fq (mm_lnQ fp fq ln)) (mm_W 8 (mm_cd ne fo) fa (mm_lnA fa pc))) t (mm_obj o 5 [.ref pa, .ref pg, .ref lo, .int (nI (pc + 1)), .int (nI us)])) (fun _ _ => False) below args s ({ frames := 1, cells := 0, slots := 0, locals := 24 } : Room)) (F0 m 3 ls []) := by
    intro k3
    induction k3 with
    | zero => intro i  ls H locs hk3 hi3  hN hl; omega
    | succ k3 ih3 =>
      intro i  ls H locs hk3 hi3  hN hl
      have ha1i := ha1 i
      have ha2i := ha2 i
      refine lv_iload (pc := 3) F.1 F.2.1 dX5_append_3 (lv_at hl 4 rfl) ?_
      refine lv_bipush (pc := 5) (v := nI 7) F.1 F.2.1 dX5_append_5 (by decide) ?_
      refine mm_icmp_gt (pc := 7) F (x := i) (y := 7) (tgt := 38) (by omega) (by omega) dX5_append_7 (by decide) (fun cz7 => ?_) (fun cz7 => ?_)
      ·
        have hi : i = 8 := by omega
        subst hi
        refine lv_aload_n (pc := 38) F.1 F.2.1 dX5_append_38 rfl (lv_at hl 0 rfl) ?_
        refine lv_dup (pc := 39) F.1 F.2.1 dX5_append_39 rfl ?_
        refine mm_get (pc := 40) F hN ((mm_U3z htp htl hta).trans hT) (ci := 5) rfl 3 (by decide) mw_470 rfl dX5_append_40 ?_
        refine lv_iconst (pc := 43) (v := nI 1) F.1 F.2.1 dX5_append_43 (by decide) ?_
        refine mm_iadd (pc := 44) F (z := nI (pc + 1)) (nI_add _ _) dX5_append_44 ?_
        refine mm_put (pc := 45) F hN ((mm_U3z htp htl hta).trans hT) (ci := 5) rfl 3 (by decide) mw_470 rfl (ty := .int) (by decide +kernel) (rfl) (rfl) (Nat.le_of_ble_eq_true rfl) dX5_append_45 (fun H locs hN => ?_)
        have hN : mm_N b D s (mm_u ((mm_U3 σ o pg lo pa (mm_W 8 (mm_cd ne fo) fp (mm_lnP fp fq ln)) (mm_W 8 (mm_cd ne fo) fq (mm_lnQ fp fq ln)) (mm_W 8 (mm_cd ne fo) fa (mm_lnA fa pc)))) t (mm_obj o 5 [.ref pa, .ref pg, .ref lo, .int (nI (pc + 1)), .int (nI us)])) _ _ := hN
        exact mm_vret (pc := 48) F hr hN (⟨rfl, rfl⟩) (Nat.le_of_ble_eq_true rfl) (Nat.le_of_ble_eq_true rfl) dX5_append_48
      ·
        refine lv_iload (pc := 10) F.1 F.2.1 dX5_append_10 (lv_at hl 4 rfl) ?_
        refine lv_iload_n (pc := 12) F.1 F.2.1 dX5_append_12 rfl (lv_at hl 2 rfl) ?_
        refine mm_iand (pc := 13) F (z := nI (i &&& ne)) (mm_andN _ _) dX5_append_13 ?_
        refine lv_iload_n (pc := 14) F.1 F.2.1 dX5_append_14 rfl (lv_at hl 2 rfl) ?_
        refine mm_icmp_ne (pc := 15) F (x := i &&& ne) (y := ne) (tgt := 32) (by omega) (by omega) dX5_append_15 (by decide) (fun cz15 => ?_) (fun cz15 => ?_)
        ·
          have hc : ¬ mm_cd ne fo i = true := by rw [mm_cd, decide_eq_true_iff]; exact fun q => by first | exact cz15 q.1 | exact cz22 q.2
          refine lv_iinc (pc := 32) (v := nI (i + 1)) (lv' := [(4, .int (nI (i + 1))), (0, .ref t), (1, .int (nI ln)), (2, .int (nI ne)), (3, .int (nI fo))]) F.1 F.2.1 dX5_append_32 hl (k := 4) rfl (by rw [← nI_add]; rfl) (by decide) rfl (fun ls hl => ?_)
          refine lv_goto (pc := 35) (tgt := 3) F.1 F.2.1 dX5_append_35 (by decide) ?_
          have hN := mm_NS hN (show mm_U3 σ o pg lo pa (mm_W i (mm_cd ne fo) fp (mm_lnP fp fq ln)) (mm_W i (mm_cd ne fo) fq (mm_lnQ fp fq ln)) (mm_W i (mm_cd ne fo) fa (mm_lnA fa pc)) = mm_U3 σ o pg lo pa (mm_W (i + 1) (mm_cd ne fo) fp (mm_lnP fp fq ln)) (mm_W (i + 1) (mm_cd ne fo) fq (mm_lnQ fp fq ln)) (mm_W (i + 1) (mm_cd ne fo) fa (mm_lnA fa pc)) by rw [mm_Ws0 hc, mm_Ws0 hc, mm_Ws0 hc])
          exact ih3 (i + 1) ls _ _ (by omega) (by omega) hN (lv_sub hl [1, 2, 3, 4, 0] rfl)
        ·
          refine lv_iload (pc := 18) F.1 F.2.1 dX5_append_18 (lv_at hl 4 rfl) ?_
          refine lv_iload_n (pc := 20) F.1 F.2.1 dX5_append_20 rfl (lv_at hl 3 rfl) ?_
          refine mm_iand (pc := 21) F (z := nI (i &&& fo)) (mm_andN _ _) dX5_append_21 ?_
          refine mm_if_ne (pc := 22) F (tgt := 32) (by omega) dX5_append_22 (by decide) (fun cz22 => ?_) (fun cz22 => ?_)
          ·
            have hc : ¬ mm_cd ne fo i = true := by rw [mm_cd, decide_eq_true_iff]; exact fun q => by first | exact cz15 q.1 | exact cz22 q.2
            refine lv_iinc (pc := 32) (v := nI (i + 1)) (lv' := [(4, .int (nI (i + 1))), (0, .ref t), (1, .int (nI ln)), (2, .int (nI ne)), (3, .int (nI fo))]) F.1 F.2.1 dX5_append_32 hl (k := 4) rfl (by rw [← nI_add]; rfl) (by decide) rfl (fun ls hl => ?_)
            refine lv_goto (pc := 35) (tgt := 3) F.1 F.2.1 dX5_append_35 (by decide) ?_
            have hN := mm_NS hN (show mm_U3 σ o pg lo pa (mm_W i (mm_cd ne fo) fp (mm_lnP fp fq ln)) (mm_W i (mm_cd ne fo) fq (mm_lnQ fp fq ln)) (mm_W i (mm_cd ne fo) fa (mm_lnA fa pc)) = mm_U3 σ o pg lo pa (mm_W (i + 1) (mm_cd ne fo) fp (mm_lnP fp fq ln)) (mm_W (i + 1) (mm_cd ne fo) fq (mm_lnQ fp fq ln)) (mm_W (i + 1) (mm_cd ne fo) fa (mm_lnA fa pc)) by rw [mm_Ws0 hc, mm_Ws0 hc, mm_Ws0 hc])
            exact ih3 (i + 1) ls _ _ (by omega) (by omega) hN (lv_sub hl [1, 2, 3, 4, 0] rfl)
          ·
            refine lv_aload_n (pc := 25) F.1 F.2.1 dX5_append_25 rfl (lv_at hl 0 rfl) ?_
            refine lv_iload (pc := 26) F.1 F.2.1 dX5_append_26 (lv_at hl 4 rfl) ?_
            refine lv_iload_n (pc := 28) F.1 F.2.1 dX5_append_28 rfl (lv_at hl 1 rfl) ?_
            have hc : mm_cd ne fo i = true := decide_eq_true ⟨cz15, cz22⟩
            refine mm_runV (pc := 29) (As := [.int (nI i), .int (nI ln)]) (rest := []) F hN (c_lay l b D hst o t pa pg lo pc us i ln (mm_W i (mm_cd ne fo) fp (mm_lnP fp fq ln)) (mm_W i (mm_cd ne fo) fq (mm_lnQ fp fq ln)) (mm_W i (mm_cd ne fo) fa (mm_lnA fa pc)) (by omega) hpc hln (by rw [mm_Wat]; exact hpx i) (by rw [mm_Wat]; exact hqx i) _ ((mm_U3z htp htl hta).trans hT) h1 h2 h3 (mm_U3p h1 h2) (mm_U3l h3) mm_U3a) mw_503 mw_505 mw_p7 mw_28 mw_506 ⟨pmX5_lay, (Nat.le_of_ble_eq_true rfl), (Nat.le_of_ble_eq_true rfl)⟩ (mm_recv F.2.2.2.2.2.1 hN ((mm_U3z htp htl hta).trans hT) rfl) hl.1 rfl (Nat.le_of_ble_eq_true rfl) ⟨(Nat.le_of_ble_eq_true rfl), (Nat.le_of_ble_eq_true rfl)⟩ dX5_append_29
              (fun _ _ _ _ _ _ h9 => False.elim h9)
              (fun v9 σ2 H locs hp9 hN => ?_)
            obtain ⟨rfl, hσ2⟩ := hp9
            refine W.eq (g2 := F0 m 32 ls []) rfl ?_
            refine W.widen (k := 0) (n := 0) (Nat.le_of_ble_eq_true rfl) (Nat.le_of_ble_eq_true rfl) ?_
            rw [hσ2, mm_U3U h1 h2 h3, mm_Ws1 hc (by rw [mm_Wat, mm_Wat]; rfl), mm_Ws1 hc (by rw [mm_Wat, mm_Wat]; rfl), mm_Ws1 hc (by rw [mm_Wat]; rfl)] at hN
            refine lv_iinc (pc := 32) (v := nI (i + 1)) (lv' := [(4, .int (nI (i + 1))), (0, .ref t), (1, .int (nI ln)), (2, .int (nI ne)), (3, .int (nI fo))]) F.1 F.2.1 dX5_append_32 hl (k := 4) rfl (by rw [← nI_add]; rfl) (by decide) rfl (fun ls hl => ?_)
            refine lv_goto (pc := 35) (tgt := 3) F.1 F.2.1 dX5_append_35 (by decide) ?_
            exact ih3 (i + 1) ls _ _ (by omega) (by omega) hN (lv_sub hl [1, 2, 3, 4, 0] rfl)
  exact lp3 (8 + 1) 0 ls _ _ (by omega) (by omega) hN (lv_sub hl [1, 2, 3, 4, 0] rfl)

set_option maxHeartbeats 4000000 in
set_option maxRecDepth 100000 in
theorem c_Tpl (l : Launch) (b : Nat) (D : mm_D) (hst : l.stackTraces = false) (o t : Nat) (σ : mm_S) (hA : σ t = mm_obj o 5 [.null, .null, .null, .int (nI 0), .int (nI 0)]) : mm_K l b D yX5_init (.code yX5_init cX5_init 1 none) ({ frames := 1, cells := 3, slots := 24, locals := 12 } : Room) [.ref t] σ
    (fun v σ2 => v = none ∧ ∃ pa pg lo : Nat, σ pa = none ∧ σ pg = none ∧ σ lo = none ∧ pg ≠ pa ∧ lo ≠ pa ∧ lo ≠ pg ∧ pa ≠ t ∧ pg ≠ t ∧ lo ≠ t ∧ σ2 = mm_u (mm_u (mm_u (mm_u σ t (mm_obj o 5 [.ref pa, .ref pg, .ref lo, .int (nI 0), .int (nI 0)])) pa (mm_a8 o (fun _ => 0))) pg (mm_a8 o (fun _ => 0))) lo (mm_a8 o (fun _ => 0)))
    (fun _ _ => False) := by
  refine mm_of (cc := cX5_init) (nL := 1) (ret := none) (by decide) rfl (Nat.le_of_ble_eq_true rfl) hst ?_
  intro p e s m args below meth c ls F ht hr hin hN hl
  have hl : lv_has ls 1 [(0, .ref t)] := hl
  refine lv_aload_n (pc := 0) F.1 F.2.1 dX5_init_0 rfl (lv_at hl 0 rfl) ?_
  refine W.objInit F.1 F.2.1 F.2.2.2.1 (F.2.2.2.2.1 _ mw_466) (F.2.2.2.2.1 _ mw_40) (F.2.2.2.2.1 _ mw_41) rfl (by rw [F.2.2.1]; exact hl.1) rfl (g := F0 m 1 ls [.ref t]) dX5_init_1 (Nat.le_of_ble_eq_true rfl) (Nat.le_of_ble_eq_true rfl) ?_
  refine W.eq (g2 := F0 m 4 ls []) rfl ?_
  refine lv_aload_n (pc := 4) F.1 F.2.1 dX5_init_4 rfl (lv_at hl 0 rfl) ?_
  refine lv_bipush (pc := 5) (v := nI 8) F.1 F.2.1 dX5_init_5 (by decide) ?_
  refine mm_newa (pc := 7) F hN o 0 (8) (x := (8, .inl (fun _ => 0))) (atype := .int) rfl (by omega) mw_484 rfl (by intro C h; cases h) (by decide) (rfl) ((Nat.le_of_ble_eq_true rfl)) ((Nat.le_of_ble_eq_true rfl)) dX5_init_7 (fun q1 H hq1 hN => ?_)
  have hN : mm_N b D s (mm_u σ q1 (mm_arr o 0 (8, .inl (fun _ => 0)))) _ _ := hN
  have nq1 : q1 ≠ t := fun e => by rw [e] at hq1; exact absurd hq1 (by rw [hA]; intro h9; cases h9)
  have zq1 : σ q1 = none := hq1
  refine mm_putF (pc := 9) F hN ((mm_u_ne (Ne.symm nq1)).trans (hA)) (ci := 5) rfl 0 (by decide) mw_467 rfl hin rfl (ty := (.array .int)) (by decide +kernel) (rfl) (rfl) (Nat.le_of_ble_eq_true rfl) dX5_init_9 (fun H locs hN => ?_)
  have hN : mm_N b D s (mm_u ((mm_u σ q1 (mm_arr o 0 (8, .inl (fun _ => 0))))) t (mm_obj o 5 [.ref q1, .null, .null, .int (nI 0), .int (nI 0)])) _ _ := hN
  have hN := mm_NS hN (show mm_u ((mm_u σ q1 (mm_arr o 0 (8, .inl (fun _ => 0))))) t (mm_obj o 5 [.ref q1, .null, .null, .int (nI 0), .int (nI 0)]) = (mm_u (mm_u σ t (mm_obj o 5 [.ref q1, .null, .null, .int (nI 0), .int (nI 0)])) q1 (mm_a8 o (fun _ => 0))) by rw [mm_uc nq1] <;> rfl)
  refine lv_aload_n (pc := 12) F.1 F.2.1 dX5_init_12 rfl (lv_at hl 0 rfl) ?_
  refine lv_bipush (pc := 13) (v := nI 8) F.1 F.2.1 dX5_init_13 (by decide) ?_
  refine mm_newa (pc := 15) F hN o 0 (8) (x := (8, .inl (fun _ => 0))) (atype := .int) rfl (by omega) mw_484 rfl (by intro C h; cases h) (by decide) (rfl) ((Nat.le_of_ble_eq_true rfl)) ((Nat.le_of_ble_eq_true rfl)) dX5_init_15 (fun q2 H hq2 hN => ?_)
  have hN : mm_N b D s (mm_u ((mm_u (mm_u σ t (mm_obj o 5 [.ref q1, .null, .null, .int (nI 0), .int (nI 0)])) q1 (mm_a8 o (fun _ => 0)))) q2 (mm_arr o 0 (8, .inl (fun _ => 0)))) _ _ := hN
  have nq2 : q2 ≠ t := fun e => by rw [e] at hq2; exact absurd hq2 (by rw [(mm_u_ne (Ne.symm nq1)).trans (mm_u_eq)]; intro h9; cases h9)
  have nq2q1 : q2 ≠ q1 := fun e => by rw [e] at hq2; exact absurd hq2 (by rw [mm_u_eq]; intro h9; cases h9)
  have zq2 : σ q2 = none := by rw [← hq2]; exact (((mm_u_ne nq2q1).trans ((mm_u_ne nq2)))).symm
  refine mm_putF (pc := 17) F hN ((mm_u_ne (Ne.symm nq2)).trans ((mm_u_ne (Ne.symm nq1)).trans (mm_u_eq))) (ci := 5) rfl 1 (by decide) mw_468 rfl hin rfl (ty := (.array .int)) (by decide +kernel) (rfl) (rfl) (Nat.le_of_ble_eq_true rfl) dX5_init_17 (fun H locs hN => ?_)
  have hN : mm_N b D s (mm_u ((mm_u ((mm_u (mm_u σ t (mm_obj o 5 [.ref q1, .null, .null, .int (nI 0), .int (nI 0)])) q1 (mm_a8 o (fun _ => 0)))) q2 (mm_arr o 0 (8, .inl (fun _ => 0))))) t (mm_obj o 5 [.ref q1, .ref q2, .null, .int (nI 0), .int (nI 0)])) _ _ := hN
  have hN := mm_NS hN (show mm_u ((mm_u ((mm_u (mm_u σ t (mm_obj o 5 [.ref q1, .null, .null, .int (nI 0), .int (nI 0)])) q1 (mm_a8 o (fun _ => 0)))) q2 (mm_arr o 0 (8, .inl (fun _ => 0))))) t (mm_obj o 5 [.ref q1, .ref q2, .null, .int (nI 0), .int (nI 0)]) = (mm_u (mm_u (mm_u σ t (mm_obj o 5 [.ref q1, .ref q2, .null, .int (nI 0), .int (nI 0)])) q1 (mm_a8 o (fun _ => 0))) q2 (mm_a8 o (fun _ => 0))) by rw [mm_uc nq2, mm_uc nq1, mm_uu] <;> rfl)
  refine lv_aload_n (pc := 20) F.1 F.2.1 dX5_init_20 rfl (lv_at hl 0 rfl) ?_
  refine lv_bipush (pc := 21) (v := nI 8) F.1 F.2.1 dX5_init_21 (by decide) ?_
  refine mm_newa (pc := 23) F hN o 0 (8) (x := (8, .inl (fun _ => 0))) (atype := .int) rfl (by omega) mw_484 rfl (by intro C h; cases h) (by decide) (rfl) ((Nat.le_of_ble_eq_true rfl)) ((Nat.le_of_ble_eq_true rfl)) dX5_init_23 (fun q3 H hq3 hN => ?_)
  have hN : mm_N b D s (mm_u ((mm_u (mm_u (mm_u σ t (mm_obj o 5 [.ref q1, .ref q2, .null, .int (nI 0), .int (nI 0)])) q1 (mm_a8 o (fun _ => 0))) q2 (mm_a8 o (fun _ => 0)))) q3 (mm_arr o 0 (8, .inl (fun _ => 0)))) _ _ := hN
  have nq3 : q3 ≠ t := fun e => by rw [e] at hq3; exact absurd hq3 (by rw [(mm_u_ne (Ne.symm nq2)).trans ((mm_u_ne (Ne.symm nq1)).trans (mm_u_eq))]; intro h9; cases h9)
  have nq3q1 : q3 ≠ q1 := fun e => by rw [e] at hq3; exact absurd hq3 (by rw [mm_u_ne (Ne.symm nq2q1)]; rw [mm_u_eq]; intro h9; cases h9)
  have nq3q2 : q3 ≠ q2 := fun e => by rw [e] at hq3; exact absurd hq3 (by rw [mm_u_eq]; intro h9; cases h9)
  have zq3 : σ q3 = none := by rw [← hq3]; exact (((mm_u_ne nq3q2).trans ((mm_u_ne nq3q1).trans ((mm_u_ne nq3))))).symm
  refine mm_putF (pc := 25) F hN ((mm_u_ne (Ne.symm nq3)).trans ((mm_u_ne (Ne.symm nq2)).trans ((mm_u_ne (Ne.symm nq1)).trans (mm_u_eq)))) (ci := 5) rfl 2 (by decide) mw_469 rfl hin rfl (ty := (.array .int)) (by decide +kernel) (rfl) (rfl) (Nat.le_of_ble_eq_true rfl) dX5_init_25 (fun H locs hN => ?_)
  have hN : mm_N b D s (mm_u ((mm_u ((mm_u (mm_u (mm_u σ t (mm_obj o 5 [.ref q1, .ref q2, .null, .int (nI 0), .int (nI 0)])) q1 (mm_a8 o (fun _ => 0))) q2 (mm_a8 o (fun _ => 0)))) q3 (mm_arr o 0 (8, .inl (fun _ => 0))))) t (mm_obj o 5 [.ref q1, .ref q2, .ref q3, .int (nI 0), .int (nI 0)])) _ _ := hN
  have hN := mm_NS hN (show mm_u ((mm_u ((mm_u (mm_u (mm_u σ t (mm_obj o 5 [.ref q1, .ref q2, .null, .int (nI 0), .int (nI 0)])) q1 (mm_a8 o (fun _ => 0))) q2 (mm_a8 o (fun _ => 0)))) q3 (mm_arr o 0 (8, .inl (fun _ => 0))))) t (mm_obj o 5 [.ref q1, .ref q2, .ref q3, .int (nI 0), .int (nI 0)]) = (mm_u (mm_u (mm_u (mm_u σ t (mm_obj o 5 [.ref q1, .ref q2, .ref q3, .int (nI 0), .int (nI 0)])) q1 (mm_a8 o (fun _ => 0))) q2 (mm_a8 o (fun _ => 0))) q3 (mm_a8 o (fun _ => 0))) by rw [mm_uc nq3, mm_uc nq2, mm_uc nq1, mm_uu] <;> rfl)
  exact mm_vret (pc := 28) F hr hN (⟨rfl, q1, q2, q3, zq1, zq2, zq3, nq2q1, nq3q1, nq3q2, nq1, nq2, nq3, rfl⟩) (Nat.le_of_ble_eq_true rfl) (Nat.le_of_ble_eq_true rfl) dX5_init_28

