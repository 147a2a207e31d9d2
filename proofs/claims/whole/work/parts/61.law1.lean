theorem mm_shn {T : mm_T} (hW : mm_WF T) (hq : mm_q_returnShare T = 0) : vf_n32 (FP.fdiv (FP.i2f (nI (mm_sm (mm_nb9 T) T.nR))) (FP.i2f (nI (mm_sm (mm_nl T) T.nR)))) :=
  mm_fdivn (by have := mm_nbw hW (Nat.le_refl _); omega) (by have := mm_nlw hW (Nat.le_refl _); omega) (fun e => by unfold mm_q_returnShare at hq; rw [if_pos e] at hq; cases hq)
theorem mm_men {T : mm_T} (hW : mm_WF T) (hq : mm_q_meanPages T = 0) : vf_n64 (FP.ddiv (FP.i2d (nI (mm_sm (mm_s0 T) T.nR))) (FP.i2d (nI (mm_sm (mm_nl T) T.nR)))) :=
  mm_ddivn (by have := mm_s0w hW (Nat.le_refl _); omega) (by have := mm_nlw hW (Nat.le_refl _); omega) (fun e => by unfold mm_q_meanPages at hq; rw [if_pos e] at hq; cases hq)

set_option maxHeartbeats 4000000 in
set_option maxRecDepth 100000 in
theorem w_returnShare (l : Launch) (b : Nat) (D : mm_D) (hst : l.stackTraces = false) (T : mm_T) (z : mm_Z) (ad : Nat → Nat → Nat → Nat) (σ : mm_S) (hX : mm_X σ T z ad) (hW : mm_WF T) (ou : Nat) (g : Nat → UInt64) (ho : σ ou = mm_ard 2 2 1 g) : mm_K l b D yL_returnShare (.codeWith yL_returnShare cL_returnShare 3 (some .int) [(0, 8, 11, 114)]) ({ frames := 9, cells := 6, slots := 40, locals := 260 } : Room) [.ref ((ad 0 0 0)), .ref ou] σ
    (fun v σ2 => v = some (.int (nI (mm_q_returnShare T))) ∧ mm_Wd2 σ σ2 (if mm_q_returnShare T = 0 then (T) else T) (ad 0 0 0) ou (mm_q_returnShare T) (FP.f2d (FP.fdiv (FP.i2f (nI (mm_sm (mm_nb9 T) T.nR))) (FP.i2f (nI (mm_sm (mm_nl T) T.nR))))))
    (fun _ _ => False) := by
  refine mm_ofX (cc := cL_returnShare) (nL := 3) (ret := some .int) (by decide) rfl (Nat.le_of_ble_eq_true rfl) hst ?_
  intro p e s m args below meth c ls F ht hr hN hl
  have hl : lv_has ls 3 [(0, .ref ((ad 0 0 0))), (1, .ref ou)] := hl
  refine lv_aload_n (pc := 0) F.1 F.2.1 dL_returnShare_0 rfl (lv_at hl 1 rfl) ?_
  refine lv_iconst (pc := 1) (v := nI 0) F.1 F.2.1 dL_returnShare_1 (by decide) ?_
  refine lv_aload_n (pc := 2) F.1 F.2.1 dL_returnShare_2 rfl (lv_at hl 0 rfl) ?_
  refine mm_runV (pc := 3) (As := []) (rest := [.int (nI 0), .ref ou]) F hN (a_returnShare l b D hst T z ad σ hX hW) mw_1145 mw_1146 mw_1147 mw_1 mw_1148 ⟨pmX6_returnShare, (Nat.le_of_ble_eq_true rfl), (Nat.le_of_ble_eq_true rfl)⟩ (mm_recv F.2.2.2.2.2.1 hN (mm_X0 hX) rfl) hl.1 rfl (Nat.le_of_ble_eq_true rfl) ⟨(Nat.le_of_ble_eq_true rfl), (Nat.le_of_ble_eq_true rfl)⟩ dL_returnShare_3
    (fun E9 σ9 H locs q9 ce9 hp9 hN hq9 hv9 hcl9 => ?_) (fun v9 σ9 H locs hp9 hN => ?_)
  ·
    obtain ⟨hq, hx9⟩ := hp9
    obtain ⟨hq, rfl⟩ := hq
    refine mm_catch F hN [] ⟨0, 8, 11, 114⟩ [] ht (fun _ h => absurd h List.not_mem_nil) (by decide) (by decide) mw_1131 mw_1143 hq9 hv9 hcl9 ?_
    refine W.eq (g2 := F0 m 11 ls [.ref q9]) rfl ?_
    refine W.widen (k := 6) (n := 40) (Nat.le_of_ble_eq_true rfl) (Nat.le_of_ble_eq_true rfl) ?_
    refine lv_astore_n (pc := 11) (lv' := [(2, .ref q9), (0, .ref ((ad 0 0 0))), (1, .ref ou)]) F.1 F.2.1 dL_returnShare_11 rfl hl (by decide) rfl (fun ls hl => ?_)
    refine lv_iconst (pc := 12) (v := nI 1) F.1 F.2.1 dL_returnShare_12 (by decide) ?_
    exact mm_iret (pc := 13) F hr hN (⟨by rw [hq], mm_Wd_no hx9 ho (if_neg (by rw [hq]; decide)) (by rw [hq]; decide)⟩) (Nat.le_of_ble_eq_true rfl) (Nat.le_of_ble_eq_true rfl) dL_returnShare_13
  ·
    obtain ⟨hq, rfl, hx9⟩ := hp9
    refine W.eq (g2 := F0 m 6 ls [.float (FP.fdiv (FP.i2f (nI (mm_sm (mm_nb9 T) T.nR))) (FP.i2f (nI (mm_sm (mm_nl T) T.nR)))), .int (nI 0), .ref ou]) rfl ?_
    refine W.widen (k := 6) (n := 40) (Nat.le_of_ble_eq_true rfl) (Nat.le_of_ble_eq_true rfl) ?_
    have ho9 := (mm_Xt.fr hx9) ou 2 _ (by decide) ho
    refine lv_f2d (pc := 6) F.1 F.2.1 dL_returnShare_6 (mm_f2dn (mm_shn hW hq)) ?_
    refine mm_dast (pc := 7) F hN (ho9) (j := 0) (rfl) (by decide) (by decide) dL_returnShare_7 (fun H locs hN => ?_)
    have hN : mm_N b D s (mm_u σ9 ou (mm_ard 2 2 1 (va_up g 0 (FP.f2d (FP.fdiv (FP.i2f (nI (mm_sm (mm_nb9 T) T.nR))) (FP.i2f (nI (mm_sm (mm_nl T) T.nR)))))))) _ _ := hN
    refine lv_goto (pc := 8) (tgt := 14) F.1 F.2.1 dL_returnShare_8 (by decide) ?_
    refine lv_iconst (pc := 14) (v := nI 0) F.1 F.2.1 dL_returnShare_14 (by decide) ?_
    exact mm_iret (pc := 15) F hr hN (⟨by rw [hq], mm_Wd_ok hx9 ho (if_pos hq) rfl⟩) (Nat.le_of_ble_eq_true rfl) (Nat.le_of_ble_eq_true rfl) dL_returnShare_15

/-! how many codes, and bounds kept -/
theorem mm_q_addressOf_lt {T : mm_T} {i : Nat} : mm_q_addressOf T i < 4 := by
  unfold mm_q_addressOf
  (repeat' split) <;> omega
theorem mm_q_reasonOf_lt {T : mm_T} {i : Nat} : mm_q_reasonOf T i < 4 := by
  unfold mm_q_reasonOf
  (repeat' split) <;> omega
theorem mm_q_strikes_lt {T : mm_T} {a : Nat} : mm_q_strikes T a < 4 := by
  unfold mm_q_strikes
  (repeat' split) <;> omega
theorem mm_q_paper_lt {T : mm_T} : mm_q_paper T < 4 := by
  unfold mm_q_paper
  (repeat' split) <;> omega
theorem mm_q_envelopes_lt {T : mm_T} {q : Nat} : mm_q_envelopes T q < 4 := by
  unfold mm_q_envelopes
  (repeat' split) <;> omega
theorem mm_q_pagesFor_lt {T : mm_T} {t : Nat} {f : Nat} : mm_q_pagesFor T t f < 4 := by
  unfold mm_q_pagesFor
  (repeat' split) <;> omega
theorem mm_q_outcome_lt {T : mm_T} {k : Nat} {i : Nat} : mm_q_outcome T k i < 4 := by
  unfold mm_q_outcome
  (repeat' split) <;> omega
theorem mm_q_letters_lt {T : mm_T} {k : Nat} : mm_q_letters T k < 4 := by
  unfold mm_q_letters
  (repeat' split) <;> omega
theorem mm_q_postedAt_lt {T : mm_T} {k : Nat} {j : Nat} : mm_q_postedAt T k j < 4 := by
  unfold mm_q_postedAt
  (repeat' split) <;> omega
theorem mm_q_proofAt_lt {T : mm_T} {k : Nat} {j : Nat} : mm_q_proofAt T k j < 4 := by
  unfold mm_q_proofAt
  (repeat' split) <;> omega
theorem mm_q_onRoute_lt {T : mm_T} {k : Nat} {te : Nat} : mm_q_onRoute T k te < 4 := by
  unfold mm_q_onRoute
  (repeat' split) <;> omega
theorem mm_q_postage_lt {T : mm_T} {k : Nat} {i : Nat} : mm_q_postage T k i < 4 := by
  unfold mm_q_postage
  (repeat' split) <;> omega
theorem mm_q_costOf_lt {T : mm_T} {k : Nat} : mm_q_costOf T k < 4 := by
  unfold mm_q_costOf
  (repeat' split) <;> omega
theorem mm_q_setFlags_lt {T : mm_T} {i : Nat} {f : Nat} : mm_q_setFlags T i f < 4 := by
  unfold mm_q_setFlags
  (repeat' split) <;> omega
theorem mm_q_suppress_lt {T : mm_T} {i : Nat} {ch : Nat} : mm_q_suppress T i ch < 4 := by
  unfold mm_q_suppress
  (repeat' split) <;> omega
theorem mm_q_allow_lt {T : mm_T} {i : Nat} : mm_q_allow T i < 4 := by
  unfold mm_q_allow
  (repeat' split) <;> omega
theorem mm_q_move_lt {T : mm_T} {i : Nat} {a : Nat} : mm_q_move T i a < 4 := by
  unfold mm_q_move
  (repeat' split) <;> omega
theorem mm_q_setBound_lt {T : mm_T} {n : Nat} : mm_q_setBound T n < 4 := by
  unfold mm_q_setBound
  (repeat' split) <;> omega
theorem mm_q_buyPaper_lt {T : mm_T} {n : Nat} : mm_q_buyPaper T n < 4 := by
  unfold mm_q_buyPaper
  (repeat' split) <;> omega
theorem mm_q_buyEnvelopes_lt {T : mm_T} {q : Nat} {n : Nat} : mm_q_buyEnvelopes T q n < 4 := by
  unfold mm_q_buyEnvelopes
  (repeat' split) <;> omega
theorem mm_q_comesBack_lt {T : mm_T} {k : Nat} {i : Nat} {ch : Nat} : mm_q_comesBack T k i ch < 4 := by
  unfold mm_q_comesBack
  (repeat' split) <;> omega
theorem mm_q_addAddress_lt {T : mm_T} {n : Nat} : mm_q_addAddress T n < 4 := by
  unfold mm_q_addAddress
  (repeat' split) <;> omega
theorem mm_q_addPerson_lt {T : mm_T} {a : Nat} {f : Nat} : mm_q_addPerson T a f < 4 := by
  unfold mm_q_addPerson
  (repeat' split) <;> omega
theorem mm_q_addTemplate_lt {T : mm_T} : mm_q_addTemplate T < 4 := by
  unfold mm_q_addTemplate
  (repeat' split) <;> omega
theorem mm_q_addPart_lt {T : mm_T} {t : Nat} {ln : Nat} {ne : Nat} {fo : Nat} : mm_q_addPart T t ln ne fo < 4 := by
  unfold mm_q_addPart
  (repeat' split) <;> omega
theorem mm_q_join_lt {T : mm_T} {a : Nat} {o2 : Nat} : mm_q_join T a o2 < 4 := by
  unfold mm_q_join
  (repeat' split) <;> omega
theorem mm_q_preview_lt {T : mm_T} {t : Nat} {hh : Nat} {i : Nat} : mm_q_preview T t hh i < 4 := by
  unfold mm_q_preview
  (repeat' split) <;> omega
theorem mm_q_previewAlone_lt {T : mm_T} {t : Nat} {hh : Nat} {i : Nat} : mm_q_previewAlone T t hh i < 4 := by
  unfold mm_q_previewAlone
  (repeat' split) <;> omega
theorem mm_q_returnShare_lt {T : mm_T} : mm_q_returnShare T < 4 := by
  unfold mm_q_returnShare
  (repeat' split) <;> omega
theorem mm_q_meanPages_lt {T : mm_T} : mm_q_meanPages T < 4 := by
  unfold mm_q_meanPages
  (repeat' split) <;> omega
theorem mm_q_isSound_lt {T : mm_T} : mm_q_isSound T < 4 := by
  unfold mm_q_isSound
  (repeat' split) <;> omega
theorem mm_q_run_lt {T : mm_T} {t : Nat} {hh : Nat} : mm_q_run T t hh < 4 := by
  unfold mm_q_run
  (repeat' split) <;> omega
theorem mm_wf_setFlags {T : mm_T} (hW : mm_WF T) (i : Nat) (zi : i < 2 ^ 32) (f : Nat) (zf : f < 2 ^ 32) : mm_WF (if mm_q_setFlags T i f = 0 then (T.w 5 (mm_u2 (T 5) i 0 f)) else T) := by
  split
  · rename_i hq
    unfold mm_q_setFlags at hq
    (repeat' split at hq) <;> try (exfalso; omega)
    rename_i h1 h2
    exact mm_F5 hW h2
  · exact hW
theorem mm_wf_suppress {T : mm_T} (hW : mm_WF T) (i : Nat) (zi : i < 2 ^ 32) (ch : Nat) (zch : ch < 65536) : mm_WF (if mm_q_suppress T i ch = 0 then (T.w 6 (mm_u2 (T 6) i 0 ch)) else T) := by
  split
  · rename_i hq
    unfold mm_q_suppress at hq
    (repeat' split at hq) <;> try (exfalso; omega)
    rename_i h1 h2
    exact mm_F6 hW zch
  · exact hW
theorem mm_wf_allow {T : mm_T} (hW : mm_WF T) (i : Nat) (zi : i < 2 ^ 32) : mm_WF (if mm_q_allow T i = 0 then (T.w 6 (mm_u2 (T 6) i 0 45)) else T) := by
  split
  · rename_i hq
    unfold mm_q_allow at hq
    (repeat' split at hq) <;> try (exfalso; omega)
    rename_i h1 h2
    exact mm_F6 hW (by decide)
  · exact hW
theorem mm_wf_move {T : mm_T} (hW : mm_WF T) (i : Nat) (zi : i < 2 ^ 32) (a : Nat) (za : a < 2 ^ 32) : mm_WF (if mm_q_move T i a = 0 then ((T.w 4 (mm_u2 (T 4) i 0 a)).w 6 (mm_u2 (T 6) i 0 (if T.re i = 109 then 45 else T.re i))) else T) := by
  split
  · rename_i hq
    unfold mm_q_move at hq
    (repeat' split at hq) <;> try (exfalso; omega)
    rename_i h1
    exact mm_G_move hW h1.1 h1.2.1
  · exact hW
theorem mm_wf_setBound {T : mm_T} (hW : mm_WF T) (n : Nat) (zn : n < 2 ^ 32) : mm_WF (if mm_q_setBound T n = 0 then (T.w 0 (mm_u2 (T 0) 5 0 n)) else T) := by
  split
  · rename_i hq
    unfold mm_q_setBound at hq
    (repeat' split at hq) <;> try (exfalso; omega)
    rename_i h1
    exact mm_F05 hW h1
  · exact hW
theorem mm_wf_buyPaper {T : mm_T} (hW : mm_WF T) (n : Nat) (zn : n < 2 ^ 32) : mm_WF (if mm_q_buyPaper T n = 0 then ((T.w 0 (mm_u2 (T 0) 4 0 (T.pa + n))).w 0 (mm_u2 (mm_u2 (T 0) 4 0 (T.pa + n)) 6 0 (T.b0 + n))) else T) := by
  split
  · rename_i hq
    unfold mm_q_buyPaper at hq
    (repeat' split at hq) <;> try (exfalso; omega)
    rename_i h1 h2
    exact mm_Fbp hW h2
  · exact hW
theorem mm_wf_buyEnv0 {T : mm_T} (hW : mm_WF T) (n : Nat) (zn : n < 2 ^ 32) : mm_WF (if mm_q_buyEnvelopes T 0 n = 0 then ((T.w 12 (mm_u2 (T 12) 0 0 (T.en 0 + n))).w 0 (mm_u2 (T 0) 7 0 (T 0 7 0 + n))) else T) := by
  split
  · rename_i hq
    unfold mm_q_buyEnvelopes at hq
    (repeat' split at hq) <;> try (exfalso; omega)
    rename_i h1 h2
    exact mm_Fbe0 hW h2
  · exact hW
theorem mm_wf_buyEnv1 {T : mm_T} (hW : mm_WF T) (n : Nat) (zn : n < 2 ^ 32) : mm_WF (if mm_q_buyEnvelopes T 1 n = 0 then ((T.w 12 (mm_u2 (T 12) 1 0 (T.en 1 + n))).w 0 (mm_u2 (T 0) 8 0 (T 0 8 0 + n))) else T) := by
  split
  · rename_i hq
    unfold mm_q_buyEnvelopes at hq
    (repeat' split at hq) <;> try (exfalso; omega)
    rename_i h1 h2
    exact mm_Fbe1 hW h2
  · exact hW
theorem mm_wf_comesBack {T : mm_T} (hW : mm_WF T) (k : Nat) (zk : k < 2 ^ 32) (i : Nat) (zi : i < 2 ^ 32) (ch : Nat) (zch : ch < 65536) : mm_WF (if mm_q_comesBack T k i ch = 0 then (if ch = 117 then (T.w 19 (mm_u2 (T 19) k i 1)).w 2 (mm_u2 (T 2) (T.ho i) 0 (T.sk (T.ho i) + 1)) else (T.w 19 (mm_u2 (T 19) k i 1)).w 6 (mm_u2 (T 6) i 0 ch)) else T) := by
  split
  · rename_i hq
    unfold mm_q_comesBack at hq
    (repeat' split at hq) <;> try (exfalso; omega)
    rename_i h1 h2 h3
    exact mm_G_back hW h1.1 h1.2 h3.1 zch
  · exact hW
theorem mm_wf_addAddress {T : mm_T} (hW : mm_WF T) (n : Nat) (zn : n < 2 ^ 32) : mm_WF (if mm_q_addAddress T n = 0 then (mm_t_addAddress T n) else T) := by
  split
  · rename_i hq
    unfold mm_q_addAddress at hq
    (repeat' split at hq) <;> try (exfalso; omega)
    rename_i h1 h2
    exact mm_G_addAddress hW h1 h2
  · exact hW
theorem mm_wf_addPerson {T : mm_T} (hW : mm_WF T) (a : Nat) (za : a < 2 ^ 32) (f : Nat) (zf : f < 2 ^ 32) : mm_WF (if mm_q_addPerson T a f = 0 then (mm_t_addPerson T a f) else T) := by
  split
  · rename_i hq
    unfold mm_q_addPerson at hq
    (repeat' split at hq) <;> try (exfalso; omega)
    rename_i h1 h2 h3
    exact mm_G_addPerson hW h1.1 h2 h3
  · exact hW
theorem mm_wf_addTemplate {T : mm_T} (hW : mm_WF T) : mm_WF (if mm_q_addTemplate T = 0 then (mm_t_addTemplate T) else T) := by
  split
  · rename_i hq
    unfold mm_q_addTemplate at hq
    (repeat' split at hq) <;> try (exfalso; omega)
    rename_i h1
    exact mm_G_addTemplate hW h1
  · exact hW
theorem mm_wf_addPart {T : mm_T} (hW : mm_WF T) (t : Nat) (zt : t < 2 ^ 32) (ln : Nat) (zln : ln < 2 ^ 32) (ne : Nat) (zne : ne < 2 ^ 32) (fo : Nat) (zfo : fo < 2 ^ 32) : mm_WF (if mm_q_addPart T t ln ne fo = 0 then (mm_t_addPart T t ln ne fo) else T) := by
  split
  · rename_i hq
    unfold mm_q_addPart at hq
    (repeat' split at hq) <;> try (exfalso; omega)
    rename_i h1 h2 h3
    exact mm_G_addPart hW h1 h2.1 h2.2.1 h2.2.2 h3.1
  · exact hW
theorem mm_wf_join {T : mm_T} (hW : mm_WF T) (a : Nat) (za : a < 2 ^ 32) (o2 : Nat) (zo2 : o2 < 2 ^ 32) : mm_WF (if mm_q_join T a o2 = 0 then (mm_t_join T a o2) else T) := by
  split
  · rename_i hq
    unfold mm_q_join at hq
    (repeat' split at hq) <;> try (exfalso; omega)
    rename_i h1 h2
    exact mm_G_join hW h1.1.1 h1.2.1
  · exact hW
theorem mm_wf_run {T : mm_T} (hW : mm_WF T) (t : Nat) (zt : t < 2 ^ 32) (hh : Nat) (zhh : hh < 2) : mm_WF (if mm_q_run T t hh = 0 then (mm_t_run T t hh) else T) := by
  split
  · rename_i hq
    unfold mm_q_run at hq
    (repeat' split at hq) <;> try (exfalso; omega)
    rename_i h1 h2
    exact mm_G_run hW h1 h2
  · exact hW
