theorem mm_G_addAddress {T : mm_T} (h : mm_WF T) {n : Nat} (hn : n < 100) (hA : T.nA < 12) : mm_WF (mm_t_addAddress T n) :=
  ⟨hA, h.hnP, h.hnT, h.hnR, h.hpa, h.hen, h.hbo, fun i hi => by
    have hi : i < T.nA + 1 := hi
    by_cases e : i = T.nA
    · subst e
      exact ⟨by show (if T.nA = T.nA ∧ 0 = 0 then n else T.co T.nA) < 100; rw [if_pos ⟨rfl, rfl⟩]; exact hn, by show T.go T.nA < 2; rw [(h.hza _ (Nat.le_refl _)).2]; decide⟩
    · exact ⟨by show (if i = T.nA ∧ 0 = 0 then n else T.co i) < 100; rw [if_neg (fun q => e q.1)]; exact (h.had i (by omega)).1, (h.had i (by omega)).2⟩, fun i hi => ⟨Nat.lt_succ_of_lt (h.hpe i hi).1, (h.hpe i hi).2⟩, h.htp, h.hru, h.hb0, h.hb1, h.hb2, fun i hi => h.hza i (Nat.le_of_succ_le hi), h.hzt⟩
theorem mm_G_addPerson {T : mm_T} (h : mm_WF T) {a f : Nat} (ha : a < T.nA) (hf : f < 8) (hP : T.nP < 24) : mm_WF (mm_t_addPerson T a f) :=
  ⟨h.hnA, hP, h.hnT, h.hnR, h.hpa, h.hen, h.hbo, h.had, fun i hi => by
    have hi : i < T.nP + 1 := hi
    show (if i = T.nP ∧ 0 = 0 then a else T.ho i) < T.nA ∧ (if i = T.nP ∧ 0 = 0 then f else T.fl i) < 8 ∧ (if i = T.nP ∧ 0 = 0 then 45 else T.re i) < 65536
    by_cases e : i = T.nP
    · rw [if_pos ⟨e, rfl⟩, if_pos ⟨e, rfl⟩, if_pos ⟨e, rfl⟩]
      exact ⟨ha, hf, by decide⟩
    · rw [if_neg (fun q => e q.1), if_neg (fun q => e q.1), if_neg (fun q => e q.1)]
      exact h.hpe i (by omega), h.htp, fun r hr => ⟨Nat.le_succ_of_le (h.hru r hr).1, (h.hru r hr).2⟩, h.hb0, h.hb1, h.hb2, h.hza, h.hzt⟩
theorem mm_G_addTemplate {T : mm_T} (h : mm_WF T) (hT : T.nT < 4) : mm_WF (mm_t_addTemplate T) :=
  ⟨h.hnA, h.hnP, hT, h.hnR, h.hpa, h.hen, h.hbo, h.had, h.hpe, fun t ht => by
    have ht : t < T.nT + 1 := ht
    by_cases e : t = T.nT
    · subst e
      obtain ⟨z1, z2⟩ := h.hzt T.nT (Nat.le_refl _)
      refine ⟨by show T.pc T.nT ≤ 8; rw [z1]; decide, by show T.us T.nT < 2; rw [z2]; decide, fun k hk => ?_⟩
      have hk : k < T.pc T.nT := hk
      omega
    · exact h.htp t (by omega), h.hru, h.hb0, h.hb1, h.hb2, h.hza, fun i hi => h.hzt i (Nat.le_of_succ_le hi)⟩
theorem mm_G_addPart {T : mm_T} (h : mm_WF T) {t ln ne fo : Nat} (ht : t < T.nT) (h1 : 1 ≤ ln ∧ ln ≤ 40) (h2 : ne < 8) (h3 : fo < 8) (h4 : T.pc t < 8) : mm_WF (mm_t_addPart T t ln ne fo) :=
  ⟨h.hnA, h.hnP, h.hnT, h.hnR, h.hpa, h.hen, h.hbo, h.had, h.hpe, fun a ha => by
    obtain ⟨w1, w2, w3⟩ := h.htp a ha
    by_cases e : a = t
    · subst e
      refine ⟨by show (if a = a ∧ 0 = 0 then T.pc a + 1 else T.pc a) ≤ 8; rw [if_pos ⟨rfl, rfl⟩]; exact h4, w2, fun k hk => ?_⟩
      have hk : k < (if a = a ∧ 0 = 0 then T.pc a + 1 else T.pc a) := hk
      rw [if_pos ⟨rfl, rfl⟩] at hk
      show 1 ≤ (if a = a ∧ k = T.pc a then ln else T.li a k) ∧ (if a = a ∧ k = T.pc a then ln else T.li a k) ≤ 40 ∧ (if a = a ∧ k = T.pc a then ne else T.ne a k) < 8 ∧ (if a = a ∧ k = T.pc a then fo else T.fo a k) < 8
      by_cases ek : k = T.pc a
      · rw [if_pos ⟨rfl, ek⟩, if_pos ⟨rfl, ek⟩, if_pos ⟨rfl, ek⟩]
        exact ⟨h1.1, h1.2, h2, h3⟩
      · rw [if_neg (fun q => ek q.2), if_neg (fun q => ek q.2), if_neg (fun q => ek q.2)]
        exact w3 k (by omega)
    · have e1 : (mm_t_addPart T t ln ne fo).pc a = T.pc a := if_neg (fun q => e q.1)
      have e2 : (mm_t_addPart T t ln ne fo).li a = T.li a := mm_u2_row e
      have e3 : (mm_t_addPart T t ln ne fo).ne a = T.ne a := mm_u2_row e
      have e4 : (mm_t_addPart T t ln ne fo).fo a = T.fo a := mm_u2_row e
      rw [e1, e2, e3, e4]
      exact ⟨w1, w2, w3⟩, h.hru, h.hb0, h.hb1, h.hb2, h.hza, fun i hi => ⟨by have hi : T.nT ≤ i := hi; show (if i = t ∧ 0 = 0 then T.pc t + 1 else T.pc i) = 0; rw [if_neg (by omega)]; exact (h.hzt i hi).1, (h.hzt i hi).2⟩⟩
theorem mm_Fjo {T : mm_T} (h : mm_WF T) {a o2 k : Nat} (ha : a < T.nA) : mm_WF (T.w 4 (mm_jo T a o2 k)) :=
  ⟨h.hnA, h.hnP, h.hnT, h.hnR, h.hpa, h.hen, h.hbo, h.had, fun i hi => ⟨by show (if i < k ∧ T.ho i = o2 ∧ 0 = 0 then a else T.ho i) < T.nA; split; exact ha; exact (h.hpe i hi).1, (h.hpe i hi).2⟩, h.htp, h.hru, h.hb0, h.hb1, h.hb2, h.hza, h.hzt⟩
theorem mm_G_join {T : mm_T} (h : mm_WF T) {a o2 : Nat} (ha : a < T.nA) (ho : o2 < T.nA) : mm_WF (mm_t_join T a o2) :=
  mm_F3 (T := (T.w 4 (mm_jo T a o2 T.nP)).w 2 (mm_u2 (T 2) a 0 (T.sk a + T.sk o2))) (mm_F2 (T := T.w 4 (mm_jo T a o2 T.nP)) (mm_Fjo h ha) ha) ho (by decide)
theorem mm_G_move {T : mm_T} (h : mm_WF T) {i a : Nat} (hi : i < T.nP) (ha : a < T.nA) : mm_WF ((T.w 4 (mm_u2 (T 4) i 0 a)).w 6 (mm_u2 (T 6) i 0 (if T.re i = 109 then 45 else T.re i))) :=
  mm_F6 (T := T.w 4 (mm_u2 (T 4) i 0 a)) (mm_F4 h ha) (by split; decide; exact (h.hpe i hi).2.2)
theorem mm_G_back {T : mm_T} (h : mm_WF T) {k i ch : Nat} (hk : k < T.nR) (hi : i < T.rp k) (ho : T.oc k i = 108) (hc : ch < 65536) : mm_WF (if ch = 117 then (T.w 19 (mm_u2 (T 19) k i 1)).w 2 (mm_u2 (T 2) (T.ho i) 0 (T.sk (T.ho i) + 1)) else (T.w 19 (mm_u2 (T 19) k i 1)).w 6 (mm_u2 (T 6) i 0 ch)) := by
  have h1 := mm_F19 (v := 1) h (by decide) ho
  have h2 := (h.hru k hk).1
  split
  · exact mm_F2 (T := T.w 19 (mm_u2 (T 19) k i 1)) h1 (h.hpe i (by omega)).1
  · exact mm_F6 (T := T.w 19 (mm_u2 (T 19) k i 1)) h1 hc
theorem mm_oc108 {T : mm_T} {t hh p : Nat} : mm_oc T t hh p = 108 ↔ mm_obs T t hh p = 45 ∧ mm_fit (mm_lf T t hh p) (mm_pgs T t (T.fl p)) := by
  have hx : mm_obs T t hh p ≠ 108 := by
    unfold mm_obs
    repeat' split
    all_goals decide
  unfold mm_oc
  by_cases h1 : mm_obs T t hh p = 45
  · rw [if_neg (fun q => q h1)]
    by_cases h2 : mm_fit (mm_lf T t hh p) (mm_pgs T t (T.fl p))
    · rw [if_pos h2]
      exact ⟨fun _ => ⟨h1, h2⟩, fun _ => rfl⟩
    · rw [if_neg h2]
      exact ⟨fun q => absurd q (by decide), fun q => absurd q.2 h2⟩
  · rw [if_pos h1]
    exact ⟨fun q => absurd q hx, fun q => absurd q.1 h1⟩
theorem mm_lf_sum (T : mm_T) (t hh p : Nat) : (mm_lf T t hh p).1 + mm_sm (fun q => if mm_oc T t hh q = 108 then mm_pgs T t (T.fl q) else 0) p = T.pa ∧ (mm_lf T t hh p).2.1 + mm_sm (fun q => if mm_oc T t hh q = 108 ∧ mm_pgs T t (T.fl q) ≤ 3 then 1 else 0) p = T.en 0 ∧ (mm_lf T t hh p).2.2 + mm_sm (fun q => if mm_oc T t hh q = 108 ∧ 3 < mm_pgs T t (T.fl q) then 1 else 0) p = T.en 1 := by
  induction p with
  | zero => exact ⟨rfl, rfl, rfl⟩
  | succ p ih =>
    obtain ⟨i1, i2, i3⟩ := ih
    show (mm_lf T t hh (p + 1)).1 + (mm_sm _ p + (if mm_oc T t hh p = 108 then mm_pgs T t (T.fl p) else 0)) = _ ∧ (mm_lf T t hh (p + 1)).2.1 + (mm_sm _ p + (if mm_oc T t hh p = 108 ∧ mm_pgs T t (T.fl p) ≤ 3 then 1 else 0)) = _ ∧ (mm_lf T t hh (p + 1)).2.2 + (mm_sm _ p + (if mm_oc T t hh p = 108 ∧ 3 < mm_pgs T t (T.fl p) then 1 else 0)) = _
    by_cases ho : mm_oc T t hh p = 108
    · obtain ⟨h1, h2⟩ := mm_oc108.mp ho
      have hl : mm_lf T t hh (p + 1) = mm_tk (mm_lf T t hh p) (mm_pgs T t (T.fl p)) := by rw [mm_lf, if_pos ⟨h1, h2⟩]
      obtain ⟨f1, f2⟩ := h2
      rw [hl, if_pos ho]
      unfold mm_tk
      by_cases h3 : 3 < mm_pgs T t (T.fl p)
      · rw [if_pos h3] at f2
        rw [if_neg (c := mm_oc T t hh p = 108 ∧ mm_pgs T t (T.fl p) ≤ 3) (fun q => by have := q.2; omega), if_pos (c := mm_oc T t hh p = 108 ∧ 3 < mm_pgs T t (T.fl p)) ⟨ho, h3⟩, if_pos h3, if_pos h3]
        refine ⟨?_, ?_, ?_⟩
        · show (mm_lf T t hh p).1 - mm_pgs T t (T.fl p) + _ = _
          omega
        · exact i2
        · show (mm_lf T t hh p).2.2 - 1 + _ = _
          omega
      · rw [if_neg h3] at f2
        rw [if_pos (c := mm_oc T t hh p = 108 ∧ mm_pgs T t (T.fl p) ≤ 3) ⟨ho, by omega⟩, if_neg (c := mm_oc T t hh p = 108 ∧ 3 < mm_pgs T t (T.fl p)) (fun q => h3 q.2), if_neg h3, if_neg h3]
        refine ⟨?_, ?_, ?_⟩
        · show (mm_lf T t hh p).1 - mm_pgs T t (T.fl p) + _ = _
          omega
        · show (mm_lf T t hh p).2.1 - 1 + _ = _
          omega
        · exact i3
    · have hl : mm_lf T t hh (p + 1) = mm_lf T t hh p := by rw [mm_lf, if_neg (fun q => ho (mm_oc108.mpr q))]
      rw [hl, if_neg ho, if_neg (fun q => ho q.1), if_neg (fun q => ho q.1)]
      exact ⟨i1, i2, i3⟩
theorem mm_run_b0 {T : mm_T} (h : mm_WF T) {t hh : Nat} : T.b0 = (mm_lf T t hh T.nP).1 + mm_sm (fun r => mm_sm (fun p => if (mm_t_run T t hh).oc r p = 108 then (mm_t_run T t hh).pg r p else 0) ((mm_t_run T t hh).rp r)) (T.nR + 1) := by
  show _ = _ + (mm_sm _ T.nR + mm_sm _ ((mm_t_run T t hh).rp T.nR))
  rw [mm_tr_r.1, mm_sm_congr (f := fun r => mm_sm (fun p => if (mm_t_run T t hh).oc r p = 108 then (mm_t_run T t hh).pg r p else 0) ((mm_t_run T t hh).rp r)) (g := fun r => mm_sm (fun p => if T.oc r p = 108 then T.pg r p else 0) (T.rp r)) (fun r hr => by
    obtain ⟨e1, e2, e3, e4, e5, e6, e7, e8⟩ := mm_tr_o (t := t) (hh := hh) (Nat.ne_of_lt hr)
    show mm_sm (fun p => if (mm_t_run T t hh).oc r p = 108 then (mm_t_run T t hh).pg r p else 0) ((mm_t_run T t hh).rp r) = _
    rw [e1, e3, e7]), mm_sm_congr (f := fun p => if (mm_t_run T t hh).oc T.nR p = 108 then (mm_t_run T t hh).pg T.nR p else 0) (g := fun q => if mm_oc T t hh q = 108 then mm_pgs T t (T.fl q) else 0) (fun p hp => by
    obtain ⟨e1, e2, e3, -⟩ := mm_tr_n (t := t) (hh := hh) hp
    show (if (mm_t_run T t hh).oc T.nR p = 108 then (mm_t_run T t hh).pg T.nR p else 0) = _
    rw [e1, e3])]
  have := h.hb0
  have := (mm_lf_sum T t hh T.nP).1
  omega
theorem mm_run_b1 {T : mm_T} (h : mm_WF T) {t hh : Nat} : T.b1 = (mm_lf T t hh T.nP).2.1 + mm_sm (fun r => mm_sm (fun p => if (mm_t_run T t hh).oc r p = 108 ∧ (mm_t_run T t hh).pg r p ≤ 3 then 1 else 0) ((mm_t_run T t hh).rp r)) (T.nR + 1) := by
  show _ = _ + (mm_sm _ T.nR + mm_sm _ ((mm_t_run T t hh).rp T.nR))
  rw [mm_tr_r.1, mm_sm_congr (f := fun r => mm_sm (fun p => if (mm_t_run T t hh).oc r p = 108 ∧ (mm_t_run T t hh).pg r p ≤ 3 then 1 else 0) ((mm_t_run T t hh).rp r)) (g := fun r => mm_sm (fun p => if T.oc r p = 108 ∧ T.pg r p ≤ 3 then 1 else 0) (T.rp r)) (fun r hr => by
    obtain ⟨e1, e2, e3, e4, e5, e6, e7, e8⟩ := mm_tr_o (t := t) (hh := hh) (Nat.ne_of_lt hr)
    show mm_sm (fun p => if (mm_t_run T t hh).oc r p = 108 ∧ (mm_t_run T t hh).pg r p ≤ 3 then 1 else 0) ((mm_t_run T t hh).rp r) = _
    rw [e1, e3, e7]), mm_sm_congr (f := fun p => if (mm_t_run T t hh).oc T.nR p = 108 ∧ (mm_t_run T t hh).pg T.nR p ≤ 3 then 1 else 0) (g := fun q => if mm_oc T t hh q = 108 ∧ mm_pgs T t (T.fl q) ≤ 3 then 1 else 0) (fun p hp => by
    obtain ⟨e1, e2, e3, -⟩ := mm_tr_n (t := t) (hh := hh) hp
    show (if (mm_t_run T t hh).oc T.nR p = 108 ∧ (mm_t_run T t hh).pg T.nR p ≤ 3 then 1 else 0) = _
    rw [e1, e3])]
  have := h.hb1
  have := (mm_lf_sum T t hh T.nP).2.1
  omega
theorem mm_run_b2 {T : mm_T} (h : mm_WF T) {t hh : Nat} : T.b2 = (mm_lf T t hh T.nP).2.2 + mm_sm (fun r => mm_sm (fun p => if (mm_t_run T t hh).oc r p = 108 ∧ 3 < (mm_t_run T t hh).pg r p then 1 else 0) ((mm_t_run T t hh).rp r)) (T.nR + 1) := by
  show _ = _ + (mm_sm _ T.nR + mm_sm _ ((mm_t_run T t hh).rp T.nR))
  rw [mm_tr_r.1, mm_sm_congr (f := fun r => mm_sm (fun p => if (mm_t_run T t hh).oc r p = 108 ∧ 3 < (mm_t_run T t hh).pg r p then 1 else 0) ((mm_t_run T t hh).rp r)) (g := fun r => mm_sm (fun p => if T.oc r p = 108 ∧ 3 < T.pg r p then 1 else 0) (T.rp r)) (fun r hr => by
    obtain ⟨e1, e2, e3, e4, e5, e6, e7, e8⟩ := mm_tr_o (t := t) (hh := hh) (Nat.ne_of_lt hr)
    show mm_sm (fun p => if (mm_t_run T t hh).oc r p = 108 ∧ 3 < (mm_t_run T t hh).pg r p then 1 else 0) ((mm_t_run T t hh).rp r) = _
    rw [e1, e3, e7]), mm_sm_congr (f := fun p => if (mm_t_run T t hh).oc T.nR p = 108 ∧ 3 < (mm_t_run T t hh).pg T.nR p then 1 else 0) (g := fun q => if mm_oc T t hh q = 108 ∧ 3 < mm_pgs T t (T.fl q) then 1 else 0) (fun p hp => by
    obtain ⟨e1, e2, e3, -⟩ := mm_tr_n (t := t) (hh := hh) hp
    show (if (mm_t_run T t hh).oc T.nR p = 108 ∧ 3 < (mm_t_run T t hh).pg T.nR p then 1 else 0) = _
    rw [e1, e3])]
  have := h.hb2
  have := (mm_lf_sum T t hh T.nP).2.2
  omega
theorem mm_G_run {T : mm_T} (h : mm_WF T) {t hh : Nat} (ht : t < T.nT) (hR : T.nR < 10) : mm_WF (mm_t_run T t hh) :=
  ⟨h.hnA, h.hnP, h.hnT, hR, (mm_lf_le h t hh T.nP).1, fun k => by
    show (if k = 1 ∧ 0 = 0 then (mm_lf T t hh T.nP).2.2 else if k = 0 ∧ 0 = 0 then (mm_lf T t hh T.nP).2.1 else T.en k) ≤ 5000
    have := mm_lf_le h t hh T.nP
    split
    · exact this.2.2
    · split
      · exact this.2.1
      · exact h.hen k, h.hbo, h.had, h.hpe, fun a ha => ⟨(h.htp a ha).1, by show (if a = t ∧ 0 = 0 then 1 else T.us a) < 2; split; decide; exact (h.htp a ha).2.1, (h.htp a ha).2.2⟩, fun r hr => by
    have hr : r < T.nR + 1 := hr
    by_cases e : r = T.nR
    · subst e
      refine ⟨by show (mm_t_run T t hh).rp T.nR ≤ T.nP; rw [mm_tr_r.1]; exact Nat.le_refl _, by rw [mm_tr_r.2]; exact h.hbo.1, by rw [mm_tr_r.2]; exact h.hbo.2, fun p hp => ?_⟩
      rw [mm_tr_r.1] at hp
      obtain ⟨b1, b2, b3, b4, b5⟩ := mm_run_B (hh := hh) h ht p hp
      obtain ⟨e1, e2, e3, e4, e5, e6⟩ := mm_tr_n (t := t) (hh := hh) hp
      refine ⟨b1, b2, b3, b4, b5, fun q => by rw [e5] at q; exact absurd q (by decide), fun _ => ?_⟩
      rw [e6, mm_tr_r.1, mm_tr_r.2, e3, mm_rPs]
      refine congrArg (fun n => mm_cf n T.bo (mm_pgs T t (T.fl p))) (mm_sm_congr (fun q hq => ?_)).symm
      obtain ⟨f1, f2, -⟩ := mm_tr_n (t := t) (hh := hh) hq
      rw [f1, f2, e2]
    · obtain ⟨e1, e2, e3, e4, e5, e6, e7, e8⟩ := mm_tr_o (T := T) (t := t) (hh := hh) e
      rw [e1, e2, e3, e4, e5, e6, e7, e8]
      exact h.hru r (by omega), mm_run_b0 h, mm_run_b1 h, mm_run_b2 h, fun i hi => ⟨by have hi : T.nA ≤ i := hi; show (if i < T.nA ∧ 0 = 0 ∧ mm_ends T i = true then 0 else T.sk i) = 0; rw [if_neg (fun q => by have := q.1; omega)]; exact (h.hza i hi).1, (h.hza i hi).2⟩, fun i hi => ⟨(h.hzt i hi).1, by have hi : T.nT ≤ i := hi; show (if i = t ∧ 0 = 0 then 1 else T.us i) = 0; rw [if_neg (by omega)]; exact (h.hzt i hi).2⟩⟩
