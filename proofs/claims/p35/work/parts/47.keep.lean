/-! what every call keeps -/
theorem mm_wf_setFlags {T : mm_T} (hW : mm_WF T) (i : Nat) (zi : i < 2 ^ 32) (f : Nat) (zf : f < 2 ^ 32) : mm_WF (if mm_q_setFlags T i f = 0 then (T.w 5 (mm_u2 (T 5) i 0 f)) else T) := by
  split
  · rename_i hq
    unfold mm_q_setFlags at hq
    (repeat' split at hq) <;> try (exfalso; omega)
    rename_i h1 h2
    exact mm_F5 hW h2
  · exact hW
theorem mm_wf_suppress {T : mm_T} (hW : mm_WF T) (i : Nat) (zi : i < 2 ^ 32) (ch : Nat) (zch : ch < 65536) : mm_WF (if mm_q_suppress T i ch = 0 then (T.w 6 (mm_u2 (T 6) i 0 ch)) else T) := by
  split
  · rename_i hq
    unfold mm_q_suppress at hq
    (repeat' split at hq) <;> try (exfalso; omega)
    rename_i h1 h2
    exact mm_F6 hW zch
  · exact hW
theorem mm_wf_allow {T : mm_T} (hW : mm_WF T) (i : Nat) (zi : i < 2 ^ 32) : mm_WF (if mm_q_allow T i = 0 then (T.w 6 (mm_u2 (T 6) i 0 45)) else T) := by
  split
  · rename_i hq
    unfold mm_q_allow at hq
    (repeat' split at hq) <;> try (exfalso; omega)
    rename_i h1 h2
    exact mm_F6 hW (by decide)
  · exact hW
theorem mm_wf_move {T : mm_T} (hW : mm_WF T) (i : Nat) (zi : i < 2 ^ 32) (a : Nat) (za : a < 2 ^ 32) : mm_WF (if mm_q_move T i a = 0 then ((T.w 4 (mm_u2 (T 4) i 0 a)).w 6 (mm_u2 (T 6) i 0 (if T.re i = 109 then 45 else T.re i))) else T) := by
  split
  · rename_i hq
    unfold mm_q_move at hq
    (repeat' split at hq) <;> try (exfalso; omega)
    rename_i h1
    exact mm_G_move hW h1.1 h1.2.1
  · exact hW
theorem mm_wf_setBound {T : mm_T} (hW : mm_WF T) (n : Nat) (zn : n < 2 ^ 32) : mm_WF (if mm_q_setBound T n = 0 then (T.w 0 (mm_u2 (T 0) 5 0 n)) else T) := by
  split
  · rename_i hq
    unfold mm_q_setBound at hq
    (repeat' split at hq) <;> try (exfalso; omega)
    rename_i h1
    exact mm_F05 hW h1
  · exact hW
theorem mm_wf_buyPaper {T : mm_T} (hW : mm_WF T) (n : Nat) (zn : n < 2 ^ 32) : mm_WF (if mm_q_buyPaper T n = 0 then ((T.w 0 (mm_u2 (T 0) 4 0 (T.pa + n))).w 0 (mm_u2 (mm_u2 (T 0) 4 0 (T.pa + n)) 6 0 (T.b0 + n))) else T) := by
  split
  · rename_i hq
    unfold mm_q_buyPaper at hq
    (repeat' split at hq) <;> try (exfalso; omega)
    rename_i h1 h2
    exact mm_Fbp hW h2
  · exact hW
theorem mm_wf_buyEnv0 {T : mm_T} (hW : mm_WF T) (n : Nat) (zn : n < 2 ^ 32) : mm_WF (if mm_q_buyEnvelopes T 0 n = 0 then ((T.w 12 (mm_u2 (T 12) 0 0 (T.en 0 + n))).w 0 (mm_u2 (T 0) 7 0 (T 0 7 0 + n))) else T) := by
  split
  · rename_i hq
    unfold mm_q_buyEnvelopes at hq
    (repeat' split at hq) <;> try (exfalso; omega)
    rename_i h1 h2
    exact mm_Fbe0 hW h2
  · exact hW
theorem mm_wf_buyEnv1 {T : mm_T} (hW : mm_WF T) (n : Nat) (zn : n < 2 ^ 32) : mm_WF (if mm_q_buyEnvelopes T 1 n = 0 then ((T.w 12 (mm_u2 (T 12) 1 0 (T.en 1 + n))).w 0 (mm_u2 (T 0) 8 0 (T 0 8 0 + n))) else T) := by
  split
  · rename_i hq
    unfold mm_q_buyEnvelopes at hq
    (repeat' split at hq) <;> try (exfalso; omega)
    rename_i h1 h2
    exact mm_Fbe1 hW h2
  · exact hW
theorem mm_wf_comesBack {T : mm_T} (hW : mm_WF T) (k : Nat) (zk : k < 2 ^ 32) (i : Nat) (zi : i < 2 ^ 32) (ch : Nat) (zch : ch < 65536) : mm_WF (if mm_q_comesBack T k i ch = 0 then (if ch = 117 then (T.w 19 (mm_u2 (T 19) k i 1)).w 2 (mm_u2 (T 2) (T.ho i) 0 (T.sk (T.ho i) + 1)) else (T.w 19 (mm_u2 (T 19) k i 1)).w 6 (mm_u2 (T 6) i 0 ch)) else T) := by
  split
  · rename_i hq
    unfold mm_q_comesBack at hq
    (repeat' split at hq) <;> try (exfalso; omega)
    rename_i h1 h2 h3
    exact mm_G_back hW h1.1 h1.2 h3.1 zch
  · exact hW
theorem mm_wf_addAddress {T : mm_T} (hW : mm_WF T) (n : Nat) (zn : n < 2 ^ 32) : mm_WF (if mm_q_addAddress T n = 0 then (mm_t_addAddress T n) else T) := by
  split
  · rename_i hq
    unfold mm_q_addAddress at hq
    (repeat' split at hq) <;> try (exfalso; omega)
    rename_i h1 h2
    exact mm_G_addAddress hW h1 h2
  · exact hW
theorem mm_wf_addPerson {T : mm_T} (hW : mm_WF T) (a : Nat) (za : a < 2 ^ 32) (f : Nat) (zf : f < 2 ^ 32) : mm_WF (if mm_q_addPerson T a f = 0 then (mm_t_addPerson T a f) else T) := by
  split
  · rename_i hq
    unfold mm_q_addPerson at hq
    (repeat' split at hq) <;> try (exfalso; omega)
    rename_i h1 h2 h3
    exact mm_G_addPerson hW h1.1 h2 h3
  · exact hW
theorem mm_wf_addTemplate {T : mm_T} (hW : mm_WF T) : mm_WF (if mm_q_addTemplate T = 0 then (mm_t_addTemplate T) else T) := by
  split
  · rename_i hq
    unfold mm_q_addTemplate at hq
    (repeat' split at hq) <;> try (exfalso; omega)
    rename_i h1
    exact mm_G_addTemplate hW h1
  · exact hW
theorem mm_wf_addPart {T : mm_T} (hW : mm_WF T) (t : Nat) (zt : t < 2 ^ 32) (ln : Nat) (zln : ln < 2 ^ 32) (ne : Nat) (zne : ne < 2 ^ 32) (fo : Nat) (zfo : fo < 2 ^ 32) : mm_WF (if mm_q_addPart T t ln ne fo = 0 then (mm_t_addPart T t ln ne fo) else T) := by
  split
  · rename_i hq
    unfold mm_q_addPart at hq
    (repeat' split at hq) <;> try (exfalso; omega)
    rename_i h1 h2 h3
    exact mm_G_addPart hW h1 h2.1 h2.2.1 h2.2.2 h3.1
  · exact hW
theorem mm_wf_join {T : mm_T} (hW : mm_WF T) (a : Nat) (za : a < 2 ^ 32) (o2 : Nat) (zo2 : o2 < 2 ^ 32) : mm_WF (if mm_q_join T a o2 = 0 then (mm_t_join T a o2) else T) := by
  split
  · rename_i hq
    unfold mm_q_join at hq
    (repeat' split at hq) <;> try (exfalso; omega)
    rename_i h1 h2
    exact mm_G_join hW h1.1.1 h1.2.1
  · exact hW
theorem mm_wf_run {T : mm_T} (hW : mm_WF T) (t : Nat) (zt : t < 2 ^ 32) (hh : Nat) (zhh : hh < 2) : mm_WF (if mm_q_run T t hh = 0 then (mm_t_run T t hh) else T) := by
  split
  · rename_i hq
    unfold mm_q_run at hq
    (repeat' split at hq) <;> try (exfalso; omega)
    rename_i h1 h2
    exact mm_G_run hW h1 h2
  · exact hW
theorem lq_I_same {T T' : mm_T} (h : lq_I T) (e : T'.nP = T.nP ∧ T' 3 = T 3 ∧ T' 4 = T 4 ∧ T'.nR = T.nR ∧ T' 13 = T 13 ∧ T' 14 = T 14 ∧ T' 17 = T 17) : lq_I T' := by
  obtain ⟨e1, e2, e3, e4, e5, e6, e7⟩ := e
  refine ⟨fun p hp => ?_, fun r hr p hp ho => ?_⟩
  · show T' 3 (T' 4 p 0) 0 = 0
    rw [e2, e3]
    exact h.1 p (by omega)
  · have hp : p < T' 13 r 0 := hp
    have ho : T' 14 r p = 108 := ho
    show ¬ T' 17 r p = 0
    rw [e5] at hp
    rw [e6] at ho
    rw [e7]
    exact h.2 r (by omega) p hp ho
theorem lq_I_addPerson {T : mm_T} (h : lq_I T) {a f : Nat} (ha : T.go a = 0) : lq_I (mm_t_addPerson T a f) := by
  refine ⟨fun p hp => ?_, fun r hr p hp ho => h.2 r hr p hp ho⟩
  have hp : p < T.nP + 1 := hp
  show T.go (if p = T.nP ∧ 0 = 0 then a else T.ho p) = 0
  by_cases e : p = T.nP
  · rw [if_pos ⟨e, rfl⟩]; exact ha
  · rw [if_neg (fun q => e q.1)]; exact h.1 p (by omega)
theorem lq_I_move {T : mm_T} (h : lq_I T) {i a v : Nat} (ha : T.go a = 0) : lq_I ((T.w 4 (mm_u2 (T 4) i 0 a)).w 6 (mm_u2 (T 6) i 0 v)) := by
  refine ⟨fun p hp => ?_, fun r hr p hp ho => h.2 r hr p hp ho⟩
  show T.go (if p = i ∧ 0 = 0 then a else T.ho p) = 0
  by_cases e : p = i
  · rw [if_pos ⟨e, rfl⟩]; exact ha
  · rw [if_neg (fun q => e q.1)]; exact h.1 p hp
theorem lq_I_join {T : mm_T} (h : lq_I T) {a o2 : Nat} (ha : T.go a = 0) (hn : ¬ a = o2) : lq_I (mm_t_join T a o2) := by
  refine ⟨fun p hp => ?_, fun r hr p hp ho => h.2 r hr p hp ho⟩
  have hp : p < T.nP := hp
  by_cases e : T.ho p = o2
  · have hx : (mm_t_join T a o2).ho p = a := if_pos ⟨hp, e, rfl⟩
    rw [hx]
    exact (if_neg (fun q => hn q.1)).trans ha
  · have hx : (mm_t_join T a o2).ho p = T.ho p := if_neg (fun q => e q.2.1)
    rw [hx]
    exact (if_neg (fun q => e q.1)).trans (h.1 p hp)
theorem lq_I_run {T : mm_T} (h : lq_I T) {t hh : Nat} : lq_I (mm_t_run T t hh) := by
  refine ⟨fun p hp => h.1 p hp, fun r hr p hp ho => ?_⟩
  have hr : r < T.nR + 1 := hr
  by_cases e : r = T.nR
  · subst e
    rw [mm_tr_r.1] at hp
    obtain ⟨e1, e2, e3, e4, e5, e6⟩ := mm_tr_n (T := T) (t := t) (hh := hh) hp
    rw [e4]
    rw [e1] at ho
    exact lq_parts _ (lq_obs45 (mm_oc108.mp ho).1)
  · obtain ⟨e1, e2, e3, e4, e5, e6, e7, e8⟩ := mm_tr_o (T := T) (t := t) (hh := hh) e
    rw [e7] at hp
    rw [e1] at ho
    rw [e4]
    exact h.2 r (by omega) p hp ho
theorem lq_I0 : lq_I mm_T0 := ⟨fun p hp => absurd hp (Nat.not_lt_zero _), fun r hr => absurd hr (Nat.not_lt_zero _)⟩
theorem lq_i_addAddress {T : mm_T} (h : lq_I T) (n : Nat) : lq_I (if mm_q_addAddress T n = 0 then (mm_t_addAddress T n) else T) := by
  split
  · rename_i hq
    exact lq_I_same h ⟨rfl, rfl, rfl, rfl, rfl, rfl, rfl⟩
  · exact h
theorem lq_i_addTemplate {T : mm_T} (h : lq_I T)  : lq_I (if mm_q_addTemplate T = 0 then (mm_t_addTemplate T) else T) := by
  split
  · rename_i hq
    exact lq_I_same h ⟨rfl, rfl, rfl, rfl, rfl, rfl, rfl⟩
  · exact h
theorem lq_i_addPart {T : mm_T} (h : lq_I T) (t ln ne fo : Nat) : lq_I (if mm_q_addPart T t ln ne fo = 0 then (mm_t_addPart T t ln ne fo) else T) := by
  split
  · rename_i hq
    exact lq_I_same h ⟨rfl, rfl, rfl, rfl, rfl, rfl, rfl⟩
  · exact h
theorem lq_i_setFlags {T : mm_T} (h : lq_I T) (i f : Nat) : lq_I (if mm_q_setFlags T i f = 0 then (T.w 5 (mm_u2 (T 5) i 0 f)) else T) := by
  split
  · rename_i hq
    exact lq_I_same h ⟨rfl, rfl, rfl, rfl, rfl, rfl, rfl⟩
  · exact h
theorem lq_i_suppress {T : mm_T} (h : lq_I T) (i ch : Nat) : lq_I (if mm_q_suppress T i ch = 0 then (T.w 6 (mm_u2 (T 6) i 0 ch)) else T) := by
  split
  · rename_i hq
    exact lq_I_same h ⟨rfl, rfl, rfl, rfl, rfl, rfl, rfl⟩
  · exact h
theorem lq_i_allow {T : mm_T} (h : lq_I T) (i : Nat) : lq_I (if mm_q_allow T i = 0 then (T.w 6 (mm_u2 (T 6) i 0 45)) else T) := by
  split
  · rename_i hq
    exact lq_I_same h ⟨rfl, rfl, rfl, rfl, rfl, rfl, rfl⟩
  · exact h
theorem lq_i_setBound {T : mm_T} (h : lq_I T) (n : Nat) : lq_I (if mm_q_setBound T n = 0 then (T.w 0 (mm_u2 (T 0) 5 0 n)) else T) := by
  split
  · rename_i hq
    exact lq_I_same h ⟨rfl, rfl, rfl, rfl, rfl, rfl, rfl⟩
  · exact h
theorem lq_i_buyPaper {T : mm_T} (h : lq_I T) (n : Nat) : lq_I (if mm_q_buyPaper T n = 0 then ((T.w 0 (mm_u2 (T 0) 4 0 (T.pa + n))).w 0 (mm_u2 (mm_u2 (T 0) 4 0 (T.pa + n)) 6 0 (T.b0 + n))) else T) := by
  split
  · rename_i hq
    exact lq_I_same h ⟨rfl, rfl, rfl, rfl, rfl, rfl, rfl⟩
  · exact h
theorem lq_i_buyEnv0 {T : mm_T} (h : lq_I T) (n : Nat) : lq_I (if mm_q_buyEnvelopes T 0 n = 0 then ((T.w 12 (mm_u2 (T 12) 0 0 (T.en 0 + n))).w 0 (mm_u2 (T 0) 7 0 (T 0 7 0 + n))) else T) := by
  split
  · rename_i hq
    exact lq_I_same h ⟨rfl, rfl, rfl, rfl, rfl, rfl, rfl⟩
  · exact h
theorem lq_i_buyEnv1 {T : mm_T} (h : lq_I T) (n : Nat) : lq_I (if mm_q_buyEnvelopes T 1 n = 0 then ((T.w 12 (mm_u2 (T 12) 1 0 (T.en 1 + n))).w 0 (mm_u2 (T 0) 8 0 (T 0 8 0 + n))) else T) := by
  split
  · rename_i hq
    exact lq_I_same h ⟨rfl, rfl, rfl, rfl, rfl, rfl, rfl⟩
  · exact h
theorem lq_i_addPerson {T : mm_T} (h : lq_I T) (a f : Nat) : lq_I (if mm_q_addPerson T a f = 0 then (mm_t_addPerson T a f) else T) := by
  split
  · rename_i hq
    refine lq_I_addPerson h ?_
    unfold mm_q_addPerson at hq
    by_cases e : a < T.nA ∧ T.go a = 0
    · exact e.2
    · rw [if_neg e] at hq; cases hq
  · exact h
theorem lq_i_move {T : mm_T} (h : lq_I T) (i a : Nat) : lq_I (if mm_q_move T i a = 0 then ((T.w 4 (mm_u2 (T 4) i 0 a)).w 6 (mm_u2 (T 6) i 0 (if T.re i = 109 then 45 else T.re i))) else T) := by
  split
  · rename_i hq
    refine lq_I_move h ?_
    unfold mm_q_move at hq
    by_cases e : i < T.nP ∧ (a < T.nA ∧ T.go a = 0)
    · exact e.2.2
    · rw [if_neg e] at hq; cases hq
  · exact h
theorem lq_i_join {T : mm_T} (h : lq_I T) (a o2 : Nat) : lq_I (if mm_q_join T a o2 = 0 then (mm_t_join T a o2) else T) := by
  split
  · rename_i hq
    unfold mm_q_join at hq
    by_cases e : (a < T.nA ∧ T.go a = 0) ∧ (o2 < T.nA ∧ T.go o2 = 0)
    · rw [if_pos e] at hq
      by_cases e2 : a = o2
      · rw [if_pos e2] at hq; cases hq
      · exact lq_I_join h e.1.2 e2
    · rw [if_neg e] at hq; cases hq
  · exact h
theorem lq_i_run {T : mm_T} (h : lq_I T) (t hh : Nat) : lq_I (if mm_q_run T t hh = 0 then (mm_t_run T t hh) else T) := by
  split
  · rename_i hq
    exact lq_I_run h
  · exact h
theorem lq_i_comesBack {T : mm_T} (h : lq_I T) (k i ch : Nat) : lq_I (if mm_q_comesBack T k i ch = 0 then (if ch = 117 then (T.w 19 (mm_u2 (T 19) k i 1)).w 2 (mm_u2 (T 2) (T.ho i) 0 (T.sk (T.ho i) + 1)) else (T.w 19 (mm_u2 (T 19) k i 1)).w 6 (mm_u2 (T 6) i 0 ch)) else T) := by
  split
  · rename_i hq
    split
    · exact lq_I_same h ⟨rfl, rfl, rfl, rfl, rfl, rfl, rfl⟩
    · exact lq_I_same h ⟨rfl, rfl, rfl, rfl, rfl, rfl, rfl⟩
  · exact h
