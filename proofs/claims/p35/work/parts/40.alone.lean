theorem mm_obs_lt (T : mm_T) (t hh p : Nat) : mm_obs T t hh p < 200 := by
  unfold mm_obs
  repeat' split
  all_goals decide
section
variable {σ : mm_S} {T : mm_T} {z : mm_Z} {ad : Nat → Nat → Nat → Nat}
theorem mm_adA (h : mm_X σ T z ad) {a c : Nat} (ha : a < T.nA) (hc : c < T.nA) : ad 1 a 0 = ad 1 c 0 ↔ a = c :=
  ⟨fun e => (h.2 1 a 0 1 c 0 ⟨ha, rfl⟩ ⟨hc, rfl⟩ e).2.1, fun e => by rw [e]⟩
theorem mm_arr_ends (h : mm_X σ T z ad) (hW : mm_WF T) (hr : 0 < T.nR) {a : Nat} (ha : a < T.nA) {g : Nat → Nat} : mm_ex (fun i => decide (ad 1 (T.ho ((mm_po (T.oc (T.nR - 1)) (T.rc (T.nR - 1)) (T.rp (T.nR - 1))).getD i 0)) 0 = ad 1 a 0 ∧ mm_fa T ad (T.nR - 1) 6 ((mm_po (T.oc (T.nR - 1)) (T.rc (T.nR - 1)) (T.rp (T.nR - 1))).getD i 0) = 0)) ((mm_po (T.oc (T.nR - 1)) (T.rc (T.nR - 1)) (T.rp (T.nR - 1))).map g).length = mm_ends T a := by
  rw [List.length_map, mm_ends, decide_eq_true hr, Bool.true_and]
  refine (mm_po_ex (T.oc (T.nR - 1)) (T.rc (T.nR - 1)) (fun p => decide (ad 1 (T.ho p) 0 = ad 1 a 0 ∧ T.bk (T.nR - 1) p = 0)) (T.rp (T.nR - 1))).trans (mm_ex_eq ?_)
  have hrp := (hW.hru (T.nR - 1) (by omega)).1
  refine ⟨fun ⟨p, h1, h2⟩ => ⟨p, h1, ?_⟩, fun ⟨p, h1, h2⟩ => ⟨p, h1, ?_⟩⟩
  · rw [Bool.and_eq_true, decide_eq_true_iff, decide_eq_true_iff] at h2
    exact decide_eq_true ⟨h2.1, h2.2.2, (mm_adA h (hW.hpe p (by omega)).1 ha).mp h2.2.1⟩
  · rw [decide_eq_true_iff] at h2
    rw [Bool.and_eq_true, decide_eq_true_iff, decide_eq_true_iff]
    exact ⟨h2.1, (mm_adA h (hW.hpe p (by omega)).1 ha).mpr h2.2.2, h2.2.1⟩
end
set_option maxHeartbeats 4000000 in
set_option maxRecDepth 100000 in
theorem c_stays (l : Launch) (b : Nat) (D : mm_D) (hst : l.stackTraces = false) (T : mm_T) (z : mm_Z) (ad : Nat → Nat → Nat → Nat) (σ : mm_S) (hX : mm_X σ T z ad) (hW : mm_WF T) (a : Nat) (ha : a < T.nA) : mm_K l b D yX6_staysBad (.code yX6_staysBad cX6_staysBad 2 (some .boolean)) ({ frames := 4, cells := 0, slots := 0, locals := 120 } : Room) [.ref ((ad 0 0 0)), .ref ((ad 1 a 0))] σ
    (fun v σ2 => v = some (.int (nI (if ¬ (nI (T.sk a) < nI 2) ∧ mm_ends T a = false then 1 else 0))) ∧ σ2 = σ)
    (fun _ _ => False) := by
  refine mm_of (cc := cX6_staysBad) (nL := 2) (ret := (some .boolean)) (by decide) rfl (Nat.le_of_ble_eq_true rfl) hst ?_
  intro p e s m args below meth c ls F ht hr hin hN hl
  have hl : lv_has ls 2 [(0, .ref ((ad 0 0 0))), (1, .ref ((ad 1 a 0)))] := hl
  have wnA := hW.hnA
  have wnP := hW.hnP
  have wnT := hW.hnT
  have wnR := hW.hnR
  have wpa := hW.hpa
  have wbo := hW.hbo
  have wen0 := hW.hen 0
  have wen1 := hW.hen 1
  refine lv_aload_n (pc := 0) F.1 F.2.1 dX6_staysBad_0 rfl (lv_at hl 1 rfl) ?_
  refine mm_get (pc := 1) F hN (mm_XA hX (i := a) (by omega)) (ci := 0) rfl 2 (by decide) mw_227 rfl dX6_staysBad_1 ?_
  refine lv_iconst (pc := 4) (v := nI 2) F.1 F.2.1 dX6_staysBad_4 (by decide) ?_
  refine lv_icmp_ge (pc := 5) (tgt := 10) F.1 F.2.1 dX6_staysBad_5 (by decide) (fun cz5 => ?_) (fun cz5 => ?_)
  ·
    refine lv_aload_n (pc := 10) F.1 F.2.1 dX6_staysBad_10 rfl (lv_at hl 0 rfl) ?_
    refine mm_get (pc := 11) F hN (mm_X0 hX) (ci := 6) rfl 3 (by decide) mw_88 rfl dX6_staysBad_11 ?_
    refine mm_runV (pc := 14) (As := []) (rest := []) F hN (c_ALisEmpty l b D hst 0 _ _ _ (mm_XL4 hX)) mw_567 mw_568 mw_569 mw_4 mw_570 ⟨pmJx4a65c_isEmpty_aae02, (Nat.le_of_ble_eq_true rfl), (Nat.le_of_ble_eq_true rfl)⟩ (mm_recvL F.2.2.2.2.2.1 hN (mm_XL4 hX)) hl.1 rfl (Nat.le_of_ble_eq_true rfl) ⟨(Nat.le_of_ble_eq_true rfl), (Nat.le_of_ble_eq_true rfl)⟩ dX6_staysBad_14
      (fun _ _ _ _ _ _ h9 => False.elim h9)
      (fun v9 σ9 H locs hp9 hN => ?_)
    obtain ⟨rfl, h9⟩ := hp9
    rw [h9] at hN
    refine W.eq (g2 := F0 m 17 ls [.int (if ((List.range T.nR).map (fun q => ad 5 q 0)).length = 0 then nI 1 else nI 0)]) rfl ?_
    refine W.widen (k := 0) (n := 0) (Nat.le_of_ble_eq_true rfl) (Nat.le_of_ble_eq_true rfl) ?_
    by_cases hnr : T.nR = 0
    ·
      refine W.eq (g2 := F0 m 17 ls [.int (nI 1)]) (by rw [mm_rgl, if_pos hnr]) ?_
      have hen : mm_ends T a = false := by rw [mm_ends, decide_eq_false (by omega), Bool.false_and]
      refine mm_if_ne (pc := 17) F (tgt := 46) (by omega) dX6_staysBad_17 (by decide) (fun cz17 => ?_) (fun h9 => absurd h9 (by decide))
      refine lv_iconst (pc := 46) (v := nI 1) F.1 F.2.1 dX6_staysBad_46 (by decide) ?_
      refine lv_goto (pc := 47) (tgt := 51) F.1 F.2.1 dX6_staysBad_47 (by decide) ?_
      exact mm_zret (pc := 51) F (ty := .boolean) hr hN (by decide) (⟨by rw [if_pos ⟨Int32.not_lt.mpr cz5, hen⟩], rfl⟩) (Nat.le_of_ble_eq_true rfl) (Nat.le_of_ble_eq_true rfl) dX6_staysBad_51
    ·
      refine W.eq (g2 := F0 m 17 ls [.int (nI 0)]) (by rw [mm_rgl, if_neg hnr]) ?_
      have hrn : T.nR - 1 < T.nR := by omega
      refine mm_if_ne (pc := 17) F (tgt := 46) (by omega) dX6_staysBad_17 (by decide) (fun h9 => absurd h9 (by decide)) (fun cz17 => ?_)
      refine lv_aload_n (pc := 20) F.1 F.2.1 dX6_staysBad_20 rfl (lv_at hl 0 rfl) ?_
      refine mm_get (pc := 21) F hN (mm_X0 hX) (ci := 6) rfl 3 (by decide) mw_88 rfl dX6_staysBad_21 ?_
      refine lv_aload_n (pc := 24) F.1 F.2.1 dX6_staysBad_24 rfl (lv_at hl 0 rfl) ?_
      refine mm_get (pc := 25) F hN (mm_X0 hX) (ci := 6) rfl 3 (by decide) mw_88 rfl dX6_staysBad_25 ?_
      refine mm_runV (pc := 28) (As := []) (rest := [.ref ((ad 0 4 0))]) F hN (c_sz l b D hst 0 _ T.nR _ _ (mm_XL4 hX) mm_rgl) mw_196 mw_197 mw_198 mw_4 mw_199 ⟨pmJx4a65c_size_8abf5, (Nat.le_of_ble_eq_true rfl), (Nat.le_of_ble_eq_true rfl)⟩ (mm_recvL F.2.2.2.2.2.1 hN (mm_XL4 hX)) hl.1 rfl (Nat.le_of_ble_eq_true rfl) ⟨(Nat.le_of_ble_eq_true rfl), (Nat.le_of_ble_eq_true rfl)⟩ dX6_staysBad_28
        (fun _ _ _ _ _ _ h9 => False.elim h9)
        (fun v9 σ9 H locs hp9 hN => ?_)
      obtain ⟨rfl, h9⟩ := hp9
      rw [h9] at hN
      refine W.eq (g2 := F0 m 31 ls [.int (nI T.nR), .ref ((ad 0 4 0))]) rfl ?_
      refine W.widen (k := 0) (n := 0) (Nat.le_of_ble_eq_true rfl) (Nat.le_of_ble_eq_true rfl) ?_
      refine lv_iconst (pc := 31) (v := nI 1) F.1 F.2.1 dX6_staysBad_31 (by decide) ?_
      refine mm_isub (pc := 32) F (z := nI (T.nR - 1)) (pk_sub (by omega)) dX6_staysBad_32 ?_
      refine mm_runV (pc := 33) (As := [.int (nI (T.nR - 1))]) (rest := []) F hN (c_ALget l b D hst 0 _ (T.nR - 1) (ad 5 (T.nR - 1) 0) _ _ (mm_XL4 hX) (mm_rg (by omega))) mw_357 mw_358 mw_359 mw_4 mw_360 ⟨pmJx4a65c_get_915e3, (Nat.le_of_ble_eq_true rfl), (Nat.le_of_ble_eq_true rfl)⟩ (mm_recvL F.2.2.2.2.2.1 hN (mm_XL4 hX)) hl.1 rfl (Nat.le_of_ble_eq_true rfl) ⟨(Nat.le_of_ble_eq_true rfl), (Nat.le_of_ble_eq_true rfl)⟩ dX6_staysBad_33
        (fun _ _ _ _ _ _ h9 => False.elim h9)
        (fun v9 σ9 H locs hp9 hN => ?_)
      obtain ⟨rfl, h9⟩ := hp9
      rw [h9] at hN
      refine W.eq (g2 := F0 m 36 ls [.ref ((ad 5 (T.nR - 1) 0))]) rfl ?_
      refine W.widen (k := 0) (n := 0) (Nat.le_of_ble_eq_true rfl) (Nat.le_of_ble_eq_true rfl) ?_
      refine mm_cast (pc := 36) F hN (mm_XR hX (i := (T.nR - 1)) (by omega)) (ci := 3) rfl mw_571 dX6_staysBad_36 ?_
      refine lv_aload_n (pc := 39) F.1 F.2.1 dX6_staysBad_39 rfl (lv_at hl 1 rfl) ?_
      have hG : ∀ i, i < ((mm_po (T.oc (T.nR - 1)) (T.rc (T.nR - 1)) (T.rp (T.nR - 1))).map (fun p => ad 7 (T.nR - 1) p)).length → ∃ x1 x2 x3 : Value, σ (mm_fa T ad (T.nR - 1) 1 ((mm_po (T.oc (T.nR - 1)) (T.rc (T.nR - 1)) (T.rp (T.nR - 1))).getD i 0)) = mm_obj 0 2 [.ref (ad 1 (T.ho ((mm_po (T.oc (T.nR - 1)) (T.rc (T.nR - 1)) (T.rp (T.nR - 1))).getD i 0)) 0), x1, x2, x3] := fun i hi => by
        have hpl := (mm_po_lt (T.oc (T.nR - 1)) (T.rc (T.nR - 1)) (T.rp (T.nR - 1)) _ (mm_gmem (i := i) (by rw [List.length_map] at hi; exact hi))).1
        exact ⟨_, _, _, mm_XP hX (i := (mm_po (T.oc (T.nR - 1)) (T.rc (T.nR - 1)) (T.rp (T.nR - 1))).getD i 0) (by have := (hW.hru (T.nR - 1) hrn).1; omega)⟩
      refine mm_runV (pc := 40) (As := [.ref ((ad 1 a 0))]) (rest := []) F hN (c_arrived l b D hst 0 (ad 5 (T.nR - 1) 0) (T.rb (T.nR - 1)) (ad 6 (T.nR - 1) 0) (ad 6 (T.nR - 1) 1) (ad 6 (T.nR - 1) 2) ((mm_po (T.oc (T.nR - 1)) (T.rc (T.nR - 1)) (T.rp (T.nR - 1))).map (fun p => ad 7 (T.nR - 1) p)) (fun c9 i => mm_fa T ad (T.nR - 1) c9 ((mm_po (T.oc (T.nR - 1)) (T.rc (T.nR - 1)) (T.rp (T.nR - 1))).getD i 0)) σ (mm_XR hX hrn) (mm_XQ hX hrn) (mm_X_po hX hW hrn) (fun i => ad 1 (T.ho ((mm_po (T.oc (T.nR - 1)) (T.rc (T.nR - 1)) (T.rp (T.nR - 1))).getD i 0)) 0) (ad 1 a 0) hG) mw_948 mw_949 mw_950 mw_29 mw_951 ⟨pmX3_hasArrivedAt, (Nat.le_of_ble_eq_true rfl), (Nat.le_of_ble_eq_true rfl)⟩ (mm_recv F.2.2.2.2.2.1 hN (mm_XR hX hrn) rfl) hl.1 rfl (Nat.le_of_ble_eq_true rfl) ⟨(Nat.le_of_ble_eq_true rfl), (Nat.le_of_ble_eq_true rfl)⟩ dX6_staysBad_40
        (fun _ _ _ _ _ _ h9 => False.elim h9)
        (fun v9 σ9 H locs hp9 hN => ?_)
      obtain ⟨rfl, h9⟩ := hp9
      rw [h9] at hN
      refine W.eq (g2 := F0 m 43 ls [.int (nI (if mm_ex (fun i => decide (ad 1 (T.ho ((mm_po (T.oc (T.nR - 1)) (T.rc (T.nR - 1)) (T.rp (T.nR - 1))).getD i 0)) 0 = ad 1 a 0 ∧ mm_fa T ad (T.nR - 1) 6 ((mm_po (T.oc (T.nR - 1)) (T.rc (T.nR - 1)) (T.rp (T.nR - 1))).getD i 0) = 0)) ((mm_po (T.oc (T.nR - 1)) (T.rc (T.nR - 1)) (T.rp (T.nR - 1))).map (fun p => ad 7 (T.nR - 1) p)).length = true then 1 else 0))]) rfl ?_
      refine W.widen (k := 0) (n := 0) (Nat.le_of_ble_eq_true rfl) (Nat.le_of_ble_eq_true rfl) ?_
      by_cases hen : mm_ends T a = true
      ·
        refine W.eq (g2 := F0 m 43 ls [.int (nI 1)]) (by rw [mm_arr_ends hX hW (by omega) ha, if_pos hen]) ?_
        refine mm_if_ne (pc := 43) F (tgt := 50) (by omega) dX6_staysBad_43 (by decide) (fun cz43 => ?_) (fun h9 => absurd h9 (by decide))
        refine lv_iconst (pc := 50) (v := nI 0) F.1 F.2.1 dX6_staysBad_50 (by decide) ?_
        exact mm_zret (pc := 51) F (ty := .boolean) hr hN (by decide) (⟨by rw [if_neg (fun q => by rw [hen] at q; cases q.2)], rfl⟩) (Nat.le_of_ble_eq_true rfl) (Nat.le_of_ble_eq_true rfl) dX6_staysBad_51
      ·
        refine W.eq (g2 := F0 m 43 ls [.int (nI 0)]) (by rw [mm_arr_ends hX hW (by omega) ha, if_neg hen]) ?_
        refine mm_if_ne (pc := 43) F (tgt := 50) (by omega) dX6_staysBad_43 (by decide) (fun h9 => absurd h9 (by decide)) (fun cz43 => ?_)
        refine lv_iconst (pc := 46) (v := nI 1) F.1 F.2.1 dX6_staysBad_46 (by decide) ?_
        refine lv_goto (pc := 47) (tgt := 51) F.1 F.2.1 dX6_staysBad_47 (by decide) ?_
        exact mm_zret (pc := 51) F (ty := .boolean) hr hN (by decide) (⟨by rw [if_pos ⟨Int32.not_lt.mpr cz5, by cases hq : mm_ends T a with | true => exact absurd hq hen | false => rfl⟩], rfl⟩) (Nat.le_of_ble_eq_true rfl) (Nat.le_of_ble_eq_true rfl) dX6_staysBad_51
  ·
    refine lv_iconst (pc := 8) (v := nI 0) F.1 F.2.1 dX6_staysBad_8 (by decide) ?_
    exact mm_zret (pc := 9) F (ty := .boolean) hr hN (by decide) (⟨by rw [if_neg (fun q => q.1 (Int32.not_le.mp cz5))], rfl⟩) (Nat.le_of_ble_eq_true rfl) (Nat.le_of_ble_eq_true rfl) dX6_staysBad_9

set_option maxHeartbeats 4000000 in
set_option maxRecDepth 100000 in
theorem c_served (l : Launch) (b : Nat) (D : mm_D) (hst : l.stackTraces = false) (T : mm_T) (z : mm_Z) (ad : Nat → Nat → Nat → Nat) (σ : mm_S) (hX : mm_X σ T z ad) (hW : mm_WF T) (t i : Nat) (ht2 : t < T.nT) (hi2 : i < T.nP) : mm_K l b D yX6_isHouseholdServedBefore (.code yX6_isHouseholdServedBefore cX6_isHouseholdServedBefore 6 (some .boolean)) ({ frames := 4, cells := 0, slots := 0, locals := 120 } : Room) [.ref ((ad 0 0 0)), .ref ((ad 3 t 0)), .int (nI i)] σ
    (fun v σ2 => v = some (.int (nI (if mm_sec T t i = true then 1 else 0))) ∧ σ2 = σ)
    (fun _ _ => False) := by
  refine mm_of (cc := cX6_isHouseholdServedBefore) (nL := 6) (ret := (some .boolean)) (by decide) rfl (Nat.le_of_ble_eq_true rfl) hst ?_
  intro p e s m args below meth c ls F ht hr hin hN hl
  have hl : lv_has ls 6 [(0, .ref ((ad 0 0 0))), (1, .ref ((ad 3 t 0))), (2, .int (nI i))] := hl
  have wnA := hW.hnA
  have wnP := hW.hnP
  have wnT := hW.hnT
  have wnR := hW.hnR
  have wpa := hW.hpa
  have wbo := hW.hbo
  have wen0 := hW.hen 0
  have wen1 := hW.hen 1
  have whi := (hW.hpe i hi2).1
  refine lv_aload_n (pc := 0) F.1 F.2.1 dX6_isHouseholdServedBefore_0 rfl (lv_at hl 0 rfl) ?_
  refine mm_get (pc := 1) F hN (mm_X0 hX) (ci := 6) rfl 1 (by decide) mw_86 rfl dX6_isHouseholdServedBefore_1 ?_
  refine lv_iload_n (pc := 4) F.1 F.2.1 dX6_isHouseholdServedBefore_4 rfl (lv_at hl 2 rfl) ?_
  refine mm_runV (pc := 5) (As := [.int (nI i)]) (rest := []) F hN (c_ALget l b D hst 0 _ (i) (ad 2 i 0) _ _ (mm_XL2 hX) (mm_rg (by omega))) mw_357 mw_358 mw_359 mw_4 mw_360 ⟨pmJx4a65c_get_915e3, (Nat.le_of_ble_eq_true rfl), (Nat.le_of_ble_eq_true rfl)⟩ (mm_recvL F.2.2.2.2.2.1 hN (mm_XL2 hX)) hl.1 rfl (Nat.le_of_ble_eq_true rfl) ⟨(Nat.le_of_ble_eq_true rfl), (Nat.le_of_ble_eq_true rfl)⟩ dX6_isHouseholdServedBefore_5
    (fun _ _ _ _ _ _ h9 => False.elim h9)
    (fun v9 σ9 H locs hp9 hN => ?_)
  obtain ⟨rfl, h9⟩ := hp9
  rw [h9] at hN
  refine W.eq (g2 := F0 m 8 ls [.ref ((ad 2 i 0))]) rfl ?_
  refine W.widen (k := 0) (n := 0) (Nat.le_of_ble_eq_true rfl) (Nat.le_of_ble_eq_true rfl) ?_
  refine mm_cast (pc := 8) F hN (mm_XP hX (i := i) (by omega)) (ci := 2) rfl mw_373 dX6_isHouseholdServedBefore_8 ?_
  refine mm_get (pc := 11) F hN (mm_XP hX (i := i) (by omega)) (ci := 2) rfl 0 (by decide) mw_403 rfl dX6_isHouseholdServedBefore_11 ?_
  refine lv_astore_n (pc := 14) (lv' := [(3, .ref ((ad 1 (T.ho i) 0))), (0, .ref ((ad 0 0 0))), (1, .ref ((ad 3 t 0))), (2, .int (nI i))]) F.1 F.2.1 dX6_isHouseholdServedBefore_14 rfl hl (by decide) rfl (fun ls hl => ?_)
  refine lv_iconst (pc := 15) (v := nI 0) F.1 F.2.1 dX6_isHouseholdServedBefore_15 (by decide) ?_
  refine lv_istore (pc := 16) (lv' := [(4, .int (nI 0)), (3, .ref ((ad 1 (T.ho i) 0))), (0, .ref ((ad 0 0 0))), (1, .ref ((ad 3 t 0))), (2, .int (nI i))]) F.1 F.2.1 dX6_isHouseholdServedBefore_16 hl (by decide) rfl (fun ls hl => ?_)
  have lp18 : ∀ (k18 j : Nat) (ls : Array Slot) (H : Heap) (locs : List Loc), i < j + k18 → j ≤ i → (mm_ex (fun q => decide (T.ho q = T.ho i ∧ T.re q = 45 ∧ 0 < mm_pgs T t (T.fl q))) j = false) → mm_N b D s σ H locs → lv_has ls 6 [(0, .ref ((ad 0 0 0))), (1, .ref ((ad 3 t 0))), (2, .int (nI i)), (3, .ref ((ad 1 (T.ho i) 0))), (4, .int (nI j))] →
      W p l e ({ frames := 4, cells := 0, slots := 0, locals := 120 } : Room) s m args below meth c H locs (0) (0) (mm_Q b D (fun v σ2 => v = some (.int (nI (if mm_sec T t i = true then 1 else 0))) ∧ σ2 = σ) (fun _ _ => False) below args s ({ frames := 4, cells := 0, slots := 0, locals := 120 } : Room)) (F0 m 18 ls []) := by
    intro k18
    induction k18 with
    | zero => intro j  ls H locs hk18 hi18 hno hN hl; omega
    | succ k18 ih18 =>
      intro j  ls H locs hk18 hi18 hno hN hl
      refine lv_iload (pc := 18) F.1 F.2.1 dX6_isHouseholdServedBefore_18 (lv_at hl 4 rfl) ?_
      refine lv_iload_n (pc := 20) F.1 F.2.1 dX6_isHouseholdServedBefore_20 rfl (lv_at hl 2 rfl) ?_
      refine mm_icmp_ge (pc := 21) F (x := j) (y := i) (tgt := 75) (by omega) (by omega) dX6_isHouseholdServedBefore_21 (by decide) (fun cz21 => ?_) (fun cz21 => ?_)
      ·
        refine lv_iconst (pc := 75) (v := nI 0) F.1 F.2.1 dX6_isHouseholdServedBefore_75 (by decide) ?_
        exact mm_zret (pc := 76) F (ty := .boolean) hr hN (by decide) (⟨by rw [if_neg (fun q => by rw [show mm_sec T t i = false from by rw [← hno, show j = i from by omega]; rfl] at q; cases q)], rfl⟩) (Nat.le_of_ble_eq_true rfl) (Nat.le_of_ble_eq_true rfl) dX6_isHouseholdServedBefore_76
      ·
        have hj2 : j < T.nP := by omega
        obtain ⟨who, wfl, wre⟩ := hW.hpe j hj2
        have wpg : mm_pgs T t (T.fl j) ≤ 8 := mm_pgs_le hW ht2
        refine lv_aload_n (pc := 24) F.1 F.2.1 dX6_isHouseholdServedBefore_24 rfl (lv_at hl 0 rfl) ?_
        refine mm_get (pc := 25) F hN (mm_X0 hX) (ci := 6) rfl 1 (by decide) mw_86 rfl dX6_isHouseholdServedBefore_25 ?_
        refine lv_iload (pc := 28) F.1 F.2.1 dX6_isHouseholdServedBefore_28 (lv_at hl 4 rfl) ?_
        refine mm_runV (pc := 30) (As := [.int (nI j)]) (rest := []) F hN (c_ALget l b D hst 0 _ (j) (ad 2 j 0) _ _ (mm_XL2 hX) (mm_rg (by omega))) mw_357 mw_358 mw_359 mw_4 mw_360 ⟨pmJx4a65c_get_915e3, (Nat.le_of_ble_eq_true rfl), (Nat.le_of_ble_eq_true rfl)⟩ (mm_recvL F.2.2.2.2.2.1 hN (mm_XL2 hX)) hl.1 rfl (Nat.le_of_ble_eq_true rfl) ⟨(Nat.le_of_ble_eq_true rfl), (Nat.le_of_ble_eq_true rfl)⟩ dX6_isHouseholdServedBefore_30
          (fun _ _ _ _ _ _ h9 => False.elim h9)
          (fun v9 σ9 H locs hp9 hN => ?_)
        obtain ⟨rfl, h9⟩ := hp9
        rw [h9] at hN
        refine W.eq (g2 := F0 m 33 ls [.ref ((ad 2 j 0))]) rfl ?_
        refine W.widen (k := 0) (n := 0) (Nat.le_of_ble_eq_true rfl) (Nat.le_of_ble_eq_true rfl) ?_
        refine mm_cast (pc := 33) F hN (mm_XP hX (i := j) (by omega)) (ci := 2) rfl mw_373 dX6_isHouseholdServedBefore_33 ?_
        refine lv_astore (pc := 36) (lv' := [(5, .ref ((ad 2 j 0))), (0, .ref ((ad 0 0 0))), (1, .ref ((ad 3 t 0))), (2, .int (nI i)), (3, .ref ((ad 1 (T.ho i) 0))), (4, .int (nI j))]) F.1 F.2.1 dX6_isHouseholdServedBefore_36 hl (by decide) rfl (fun ls hl => ?_)
        refine lv_aload (pc := 38) F.1 F.2.1 dX6_isHouseholdServedBefore_38 (lv_at hl 0 rfl) ?_
        refine mm_get (pc := 40) F hN (mm_XP hX (i := j) (by omega)) (ci := 2) rfl 0 (by decide) mw_403 rfl dX6_isHouseholdServedBefore_40 ?_
        refine lv_aload_n (pc := 43) F.1 F.2.1 dX6_isHouseholdServedBefore_43 rfl (lv_at hl 4 rfl) ?_
        refine mm_acmp_ne (pc := 44) F (rx := (ad 1 (T.ho j) 0)) (ry := (ad 1 (T.ho i) 0)) (tgt := 69) dX6_isHouseholdServedBefore_44 (by decide) (fun cz44 => ?_) (fun cz44 => ?_)
        ·
          refine lv_iinc (pc := 69) (v := nI (j + 1)) (lv' := [(4, .int (nI (j + 1))), (5, .ref ((ad 2 j 0))), (0, .ref ((ad 0 0 0))), (1, .ref ((ad 3 t 0))), (2, .int (nI i)), (3, .ref ((ad 1 (T.ho i) 0)))]) F.1 F.2.1 dX6_isHouseholdServedBefore_69 hl (k := 5) rfl (by rw [← nI_add]; rfl) (by decide) rfl (fun ls hl => ?_)
          refine lv_goto (pc := 72) (tgt := 18) F.1 F.2.1 dX6_isHouseholdServedBefore_72 (by decide) ?_
          exact ih18 (j + 1) ls _ _ (by omega) (by omega) (mm_ex_no hno (fun q9 => by have := decide_eq_true_iff.mp q9; exact cz44 (by rw [this.1]))) hN (lv_sub hl [2, 3, 4, 5, 0] rfl)
        ·
          have hho : T.ho j = T.ho i := (mm_adA hX who whi).mp cz44
          refine lv_aload (pc := 47) F.1 F.2.1 dX6_isHouseholdServedBefore_47 (lv_at hl 0 rfl) ?_
          refine mm_runV (pc := 49) (As := []) (rest := []) F hN (c_isSupp l b D hst 0 (ad 2 j 0) (ad 1 (T.ho j) 0) (T.fl j) (T.re j) (z.oc j) wre σ (mm_XP hX hj2)) mw_428 mw_429 mw_430 mw_25 mw_431 ⟨pmX2_isSuppressed, (Nat.le_of_ble_eq_true rfl), (Nat.le_of_ble_eq_true rfl)⟩ (mm_recv F.2.2.2.2.2.1 hN (mm_XP hX hj2) rfl) hl.1 rfl (Nat.le_of_ble_eq_true rfl) ⟨(Nat.le_of_ble_eq_true rfl), (Nat.le_of_ble_eq_true rfl)⟩ dX6_isHouseholdServedBefore_49
            (fun _ _ _ _ _ _ h9 => False.elim h9)
            (fun v9 σ9 H locs hp9 hN => ?_)
          obtain ⟨rfl, h9⟩ := hp9
          rw [h9] at hN
          refine W.eq (g2 := F0 m 52 ls [.int (nI (if T.re j = 45 then 0 else 1))]) rfl ?_
          refine W.widen (k := 0) (n := 0) (Nat.le_of_ble_eq_true rfl) (Nat.le_of_ble_eq_true rfl) ?_
          by_cases hre : T.re j = 45
          ·
            refine W.eq (g2 := F0 m 52 ls [.int (nI 0)]) (by rw [if_pos hre]) ?_
            refine mm_if_ne (pc := 52) F (tgt := 69) (by omega) dX6_isHouseholdServedBefore_52 (by decide) (fun h9 => absurd h9 (by decide)) (fun cz52 => ?_)
            refine lv_aload_n (pc := 55) F.1 F.2.1 dX6_isHouseholdServedBefore_55 rfl (lv_at hl 2 rfl) ?_
            refine lv_aload (pc := 56) F.1 F.2.1 dX6_isHouseholdServedBefore_56 (lv_at hl 0 rfl) ?_
            refine mm_get (pc := 58) F hN (mm_XP hX (i := j) (by omega)) (ci := 2) rfl 1 (by decide) mw_407 rfl dX6_isHouseholdServedBefore_58 ?_
            refine mm_runV (pc := 61) (As := [.int (nI (T.fl j))]) (rest := []) F hN (c_pagesW l b D hst 0 (ad 3 t 0) (ad 4 t 0) (ad 4 t 1) (ad 4 t 2) (T.pc t) (T.us t) (T.fl j) (fun x => if x < 8 then mm_pgs T t x else 0) wfl σ (mm_XT hX ht2) (mm_XTp hX ht2)) mw_514 mw_515 mw_516 mw_28 mw_517 ⟨pmX5_pagesWith, (Nat.le_of_ble_eq_true rfl), (Nat.le_of_ble_eq_true rfl)⟩ (mm_recv F.2.2.2.2.2.1 hN (mm_XT hX ht2) rfl) hl.1 rfl (Nat.le_of_ble_eq_true rfl) ⟨(Nat.le_of_ble_eq_true rfl), (Nat.le_of_ble_eq_true rfl)⟩ dX6_isHouseholdServedBefore_61
              (fun _ _ _ _ _ _ h9 => False.elim h9)
              (fun v9 σ9 H locs hp9 hN => ?_)
            obtain ⟨rfl, h9⟩ := hp9
            rw [h9] at hN
            refine W.eq (g2 := F0 m 64 ls [.int (nI ((fun x => if x < 8 then mm_pgs T t x else 0) (T.fl j)))]) rfl ?_
            refine W.widen (k := 0) (n := 0) (Nat.le_of_ble_eq_true rfl) (Nat.le_of_ble_eq_true rfl) ?_
            refine W.eq (g2 := F0 m 64 ls [.int (nI (mm_pgs T t (T.fl j)))]) (congrArg (fun q => F0 m 64 ls (Value.int (nI q) :: [])) (if_pos wfl)) ?_
            refine mm_if_le (pc := 64) F (tgt := 69) (by omega) dX6_isHouseholdServedBefore_64 (by decide) (fun cz64 => ?_) (fun cz64 => ?_)
            ·
              refine lv_iinc (pc := 69) (v := nI (j + 1)) (lv' := [(4, .int (nI (j + 1))), (5, .ref ((ad 2 j 0))), (0, .ref ((ad 0 0 0))), (1, .ref ((ad 3 t 0))), (2, .int (nI i)), (3, .ref ((ad 1 (T.ho i) 0)))]) F.1 F.2.1 dX6_isHouseholdServedBefore_69 hl (k := 5) rfl (by rw [← nI_add]; rfl) (by decide) rfl (fun ls hl => ?_)
              refine lv_goto (pc := 72) (tgt := 18) F.1 F.2.1 dX6_isHouseholdServedBefore_72 (by decide) ?_
              exact ih18 (j + 1) ls _ _ (by omega) (by omega) (mm_ex_no hno (fun q9 => by have := (decide_eq_true_iff.mp q9).2.2; omega)) hN (lv_sub hl [2, 3, 4, 5, 0] rfl)
            ·
              refine lv_iconst (pc := 67) (v := nI 1) F.1 F.2.1 dX6_isHouseholdServedBefore_67 (by decide) ?_
              exact mm_zret (pc := 68) F (ty := .boolean) hr hN (by decide) (⟨by rw [if_pos (show mm_sec T t i = true from mm_ex_of (i := j) (by omega) (decide_eq_true ⟨hho, hre, by omega⟩))], rfl⟩) (Nat.le_of_ble_eq_true rfl) (Nat.le_of_ble_eq_true rfl) dX6_isHouseholdServedBefore_68
          ·
            refine W.eq (g2 := F0 m 52 ls [.int (nI 1)]) (by rw [if_neg hre]) ?_
            refine mm_if_ne (pc := 52) F (tgt := 69) (by omega) dX6_isHouseholdServedBefore_52 (by decide) (fun cz52 => ?_) (fun h9 => absurd h9 (by decide))
            refine lv_iinc (pc := 69) (v := nI (j + 1)) (lv' := [(4, .int (nI (j + 1))), (5, .ref ((ad 2 j 0))), (0, .ref ((ad 0 0 0))), (1, .ref ((ad 3 t 0))), (2, .int (nI i)), (3, .ref ((ad 1 (T.ho i) 0)))]) F.1 F.2.1 dX6_isHouseholdServedBefore_69 hl (k := 5) rfl (by rw [← nI_add]; rfl) (by decide) rfl (fun ls hl => ?_)
            refine lv_goto (pc := 72) (tgt := 18) F.1 F.2.1 dX6_isHouseholdServedBefore_72 (by decide) ?_
            exact ih18 (j + 1) ls _ _ (by omega) (by omega) (mm_ex_no hno (fun q9 => by have := decide_eq_true_iff.mp q9; exact hre this.2.1)) hN (lv_sub hl [2, 3, 4, 5, 0] rfl)
  exact lp18 (i + 1) 0 ls _ _ (by omega) (by omega) (rfl) hN (lv_sub hl [2, 3, 4, 1, 0] rfl)

set_option maxHeartbeats 4000000 in
set_option maxRecDepth 100000 in
theorem c_obst (l : Launch) (b : Nat) (D : mm_D) (hst : l.stackTraces = false) (T : mm_T) (z : mm_Z) (ad : Nat → Nat → Nat → Nat) (σ : mm_S) (hX : mm_X σ T z ad) (hW : mm_WF T) (t i hh : Nat) (ht2 : t < T.nT) (hi2 : i < T.nP) (hh2 : hh < 2) : mm_K l b D yX6_obstacleFor (.code yX6_obstacleFor cX6_obstacleFor 5 (some .char)) ({ frames := 5, cells := 0, slots := 0, locals := 150 } : Room) [.ref ((ad 0 0 0)), .ref ((ad 3 t 0)), .int (nI hh), .int (nI i)] σ
    (fun v σ2 => v = some (.int (nI (mm_obs T t hh i))) ∧ σ2 = σ)
    (fun _ _ => False) := by
  refine mm_of (cc := cX6_obstacleFor) (nL := 5) (ret := (some .char)) (by decide) rfl (Nat.le_of_ble_eq_true rfl) hst ?_
  intro p e s m args below meth c ls F ht hr hin hN hl
  have hl : lv_has ls 5 [(0, .ref ((ad 0 0 0))), (1, .ref ((ad 3 t 0))), (2, .int (nI hh)), (3, .int (nI i))] := hl
  have wnA := hW.hnA
  have wnP := hW.hnP
  have wnT := hW.hnT
  have wnR := hW.hnR
  have wpa := hW.hpa
  have wbo := hW.hbo
  have wen0 := hW.hen 0
  have wen1 := hW.hen 1
  obtain ⟨who, wfl, wre⟩ := hW.hpe i hi2
  have wpg : mm_pgs T t (T.fl i) ≤ 8 := mm_pgs_le hW ht2
  refine lv_aload_n (pc := 0) F.1 F.2.1 dX6_obstacleFor_0 rfl (lv_at hl 0 rfl) ?_
  refine mm_get (pc := 1) F hN (mm_X0 hX) (ci := 6) rfl 1 (by decide) mw_86 rfl dX6_obstacleFor_1 ?_
  refine lv_iload_n (pc := 4) F.1 F.2.1 dX6_obstacleFor_4 rfl (lv_at hl 3 rfl) ?_
  refine mm_runV (pc := 5) (As := [.int (nI i)]) (rest := []) F hN (c_ALget l b D hst 0 _ (i) (ad 2 i 0) _ _ (mm_XL2 hX) (mm_rg (by omega))) mw_357 mw_358 mw_359 mw_4 mw_360 ⟨pmJx4a65c_get_915e3, (Nat.le_of_ble_eq_true rfl), (Nat.le_of_ble_eq_true rfl)⟩ (mm_recvL F.2.2.2.2.2.1 hN (mm_XL2 hX)) hl.1 rfl (Nat.le_of_ble_eq_true rfl) ⟨(Nat.le_of_ble_eq_true rfl), (Nat.le_of_ble_eq_true rfl)⟩ dX6_obstacleFor_5
    (fun _ _ _ _ _ _ h9 => False.elim h9)
    (fun v9 σ9 H locs hp9 hN => ?_)
  obtain ⟨rfl, h9⟩ := hp9
  rw [h9] at hN
  refine W.eq (g2 := F0 m 8 ls [.ref ((ad 2 i 0))]) rfl ?_
  refine W.widen (k := 0) (n := 0) (Nat.le_of_ble_eq_true rfl) (Nat.le_of_ble_eq_true rfl) ?_
  refine mm_cast (pc := 8) F hN (mm_XP hX (i := i) (by omega)) (ci := 2) rfl mw_373 dX6_obstacleFor_8 ?_
  refine lv_astore (pc := 11) (lv' := [(4, .ref ((ad 2 i 0))), (0, .ref ((ad 0 0 0))), (1, .ref ((ad 3 t 0))), (2, .int (nI hh)), (3, .int (nI i))]) F.1 F.2.1 dX6_obstacleFor_11 hl (by decide) rfl (fun ls hl => ?_)
  refine lv_aload (pc := 13) F.1 F.2.1 dX6_obstacleFor_13 (lv_at hl 0 rfl) ?_
  refine mm_runV (pc := 15) (As := []) (rest := []) F hN (c_isSupp l b D hst 0 (ad 2 i 0) (ad 1 (T.ho i) 0) (T.fl i) (T.re i) (z.oc i) wre σ (mm_XP hX hi2)) mw_428 mw_429 mw_430 mw_25 mw_431 ⟨pmX2_isSuppressed, (Nat.le_of_ble_eq_true rfl), (Nat.le_of_ble_eq_true rfl)⟩ (mm_recv F.2.2.2.2.2.1 hN (mm_XP hX hi2) rfl) hl.1 rfl (Nat.le_of_ble_eq_true rfl) ⟨(Nat.le_of_ble_eq_true rfl), (Nat.le_of_ble_eq_true rfl)⟩ dX6_obstacleFor_15
    (fun _ _ _ _ _ _ h9 => False.elim h9)
    (fun v9 σ9 H locs hp9 hN => ?_)
  obtain ⟨rfl, h9⟩ := hp9
  rw [h9] at hN
  refine W.eq (g2 := F0 m 18 ls [.int (nI (if T.re i = 45 then 0 else 1))]) rfl ?_
  refine W.widen (k := 0) (n := 0) (Nat.le_of_ble_eq_true rfl) (Nat.le_of_ble_eq_true rfl) ?_
  by_cases hre : T.re i = 45
  ·
    refine W.eq (g2 := F0 m 18 ls [.int (nI 0)]) (by rw [if_pos hre]) ?_
    refine mm_if_eq (pc := 18) F (tgt := 24) (by omega) dX6_obstacleFor_18 (by decide) (fun cz18 => ?_) (fun h9 => absurd h9 (by decide))
    refine lv_aload_n (pc := 24) F.1 F.2.1 dX6_obstacleFor_24 rfl (lv_at hl 1 rfl) ?_
    refine lv_aload (pc := 25) F.1 F.2.1 dX6_obstacleFor_25 (lv_at hl 0 rfl) ?_
    refine mm_get (pc := 27) F hN (mm_XP hX (i := i) (by omega)) (ci := 2) rfl 0 (by decide) mw_403 rfl dX6_obstacleFor_27 ?_
    refine mm_runV (pc := 30) (As := [.ref ((ad 1 (T.ho i) 0))]) (rest := []) F hN (c_stays l b D hst T z ad σ hX hW (T.ho i) who) mw_944 mw_946 mw_p17 mw_1 mw_947 ⟨pmX6_staysBad, (Nat.le_of_ble_eq_true rfl), (Nat.le_of_ble_eq_true rfl)⟩ (mm_recv F.2.2.2.2.2.1 hN (mm_X0 hX) rfl) hl.1 rfl (Nat.le_of_ble_eq_true rfl) ⟨(Nat.le_of_ble_eq_true rfl), (Nat.le_of_ble_eq_true rfl)⟩ dX6_obstacleFor_30
      (fun _ _ _ _ _ _ h9 => False.elim h9)
      (fun v9 σ9 H locs hp9 hN => ?_)
    obtain ⟨rfl, h9⟩ := hp9
    rw [h9] at hN
    refine W.eq (g2 := F0 m 33 ls [.int (nI (if ¬ (nI (T.sk (T.ho i)) < nI 2) ∧ mm_ends T (T.ho i) = false then 1 else 0))]) rfl ?_
    refine W.widen (k := 0) (n := 0) (Nat.le_of_ble_eq_true rfl) (Nat.le_of_ble_eq_true rfl) ?_
    by_cases hbad : ¬ (nI (T.sk (T.ho i)) < nI 2) ∧ mm_ends T (T.ho i) = false
    ·
      refine W.eq (g2 := F0 m 33 ls [.int (nI 1)]) (by rw [if_pos hbad]) ?_
      refine mm_if_eq (pc := 33) F (tgt := 39) (by omega) dX6_obstacleFor_33 (by decide) (fun h9 => absurd h9 (by decide)) (fun cz33 => ?_)
      refine lv_bipush (pc := 36) (v := nI 98) F.1 F.2.1 dX6_obstacleFor_36 (by decide) ?_
      exact mm_zret (pc := 38) F (ty := .char) hr hN (by decide) (⟨by rw [mm_obs, if_neg (fun q => q hre), if_pos hbad], rfl⟩) (Nat.le_of_ble_eq_true rfl) (Nat.le_of_ble_eq_true rfl) dX6_obstacleFor_38
    ·
      refine W.eq (g2 := F0 m 33 ls [.int (nI 0)]) (by rw [if_neg hbad]) ?_
      refine mm_if_eq (pc := 33) F (tgt := 39) (by omega) dX6_obstacleFor_33 (by decide) (fun cz33 => ?_) (fun h9 => absurd h9 (by decide))
      refine lv_aload_n (pc := 39) F.1 F.2.1 dX6_obstacleFor_39 rfl (lv_at hl 2 rfl) ?_
      refine lv_aload (pc := 40) F.1 F.2.1 dX6_obstacleFor_40 (lv_at hl 0 rfl) ?_
      refine mm_get (pc := 42) F hN (mm_XP hX (i := i) (by omega)) (ci := 2) rfl 1 (by decide) mw_407 rfl dX6_obstacleFor_42 ?_
      refine mm_runV (pc := 45) (As := [.int (nI (T.fl i))]) (rest := []) F hN (c_pagesW l b D hst 0 (ad 3 t 0) (ad 4 t 0) (ad 4 t 1) (ad 4 t 2) (T.pc t) (T.us t) (T.fl i) (fun x => if x < 8 then mm_pgs T t x else 0) wfl σ (mm_XT hX ht2) (mm_XTp hX ht2)) mw_514 mw_515 mw_516 mw_28 mw_517 ⟨pmX5_pagesWith, (Nat.le_of_ble_eq_true rfl), (Nat.le_of_ble_eq_true rfl)⟩ (mm_recv F.2.2.2.2.2.1 hN (mm_XT hX ht2) rfl) hl.1 rfl (Nat.le_of_ble_eq_true rfl) ⟨(Nat.le_of_ble_eq_true rfl), (Nat.le_of_ble_eq_true rfl)⟩ dX6_obstacleFor_45
        (fun _ _ _ _ _ _ h9 => False.elim h9)
        (fun v9 σ9 H locs hp9 hN => ?_)
      obtain ⟨rfl, h9⟩ := hp9
      rw [h9] at hN
      refine W.eq (g2 := F0 m 48 ls [.int (nI ((fun x => if x < 8 then mm_pgs T t x else 0) (T.fl i)))]) rfl ?_
      refine W.widen (k := 0) (n := 0) (Nat.le_of_ble_eq_true rfl) (Nat.le_of_ble_eq_true rfl) ?_
      refine W.eq (g2 := F0 m 48 ls [.int (nI (mm_pgs T t (T.fl i)))]) (congrArg (fun q => F0 m 48 ls (Value.int (nI q) :: [])) (if_pos wfl)) ?_
      refine mm_if_ne (pc := 48) F (tgt := 54) (by omega) dX6_obstacleFor_48 (by decide) (fun cz48 => ?_) (fun cz48 => ?_)
      ·
        refine lv_iload_n (pc := 54) F.1 F.2.1 dX6_obstacleFor_54 rfl (lv_at hl 3 rfl) ?_
        refine mm_if_eq (pc := 55) F (tgt := 70) (by omega) dX6_obstacleFor_55 (by decide) (fun cz55 => ?_) (fun cz55 => ?_)
        ·
          refine lv_bipush (pc := 70) (v := nI 45) F.1 F.2.1 dX6_obstacleFor_70 (by decide) ?_
          exact mm_zret (pc := 72) F (ty := .char) hr hN (by decide) (⟨by rw [mm_obs, if_neg (fun q => q hre), if_neg hbad, if_neg cz48, if_neg (fun q => q.1 cz55)], rfl⟩) (Nat.le_of_ble_eq_true rfl) (Nat.le_of_ble_eq_true rfl) dX6_obstacleFor_72
        ·
          refine lv_aload_n (pc := 58) F.1 F.2.1 dX6_obstacleFor_58 rfl (lv_at hl 1 rfl) ?_
          refine lv_aload_n (pc := 59) F.1 F.2.1 dX6_obstacleFor_59 rfl (lv_at hl 2 rfl) ?_
          refine lv_iload_n (pc := 60) F.1 F.2.1 dX6_obstacleFor_60 rfl (lv_at hl 4 rfl) ?_
          refine mm_runV (pc := 61) (As := [.ref ((ad 3 t 0)), .int (nI i)]) (rest := []) F hN (c_served l b D hst T z ad σ hX hW t i ht2 hi2) mw_952 mw_954 mw_p18 mw_1 mw_955 ⟨pmX6_isHouseholdServedBefore, (Nat.le_of_ble_eq_true rfl), (Nat.le_of_ble_eq_true rfl)⟩ (mm_recv F.2.2.2.2.2.1 hN (mm_X0 hX) rfl) hl.1 rfl (Nat.le_of_ble_eq_true rfl) ⟨(Nat.le_of_ble_eq_true rfl), (Nat.le_of_ble_eq_true rfl)⟩ dX6_obstacleFor_61
            (fun _ _ _ _ _ _ h9 => False.elim h9)
            (fun v9 σ9 H locs hp9 hN => ?_)
          obtain ⟨rfl, h9⟩ := hp9
          rw [h9] at hN
          refine W.eq (g2 := F0 m 64 ls [.int (nI (if mm_sec T t i = true then 1 else 0))]) rfl ?_
          refine W.widen (k := 0) (n := 0) (Nat.le_of_ble_eq_true rfl) (Nat.le_of_ble_eq_true rfl) ?_
          by_cases hsec : mm_sec T t i = true
          ·
            refine W.eq (g2 := F0 m 64 ls [.int (nI 1)]) (by rw [if_pos hsec]) ?_
            refine mm_if_eq (pc := 64) F (tgt := 70) (by omega) dX6_obstacleFor_64 (by decide) (fun h9 => absurd h9 (by decide)) (fun cz64 => ?_)
            refine lv_bipush (pc := 67) (v := nI 104) F.1 F.2.1 dX6_obstacleFor_67 (by decide) ?_
            exact mm_zret (pc := 69) F (ty := .char) hr hN (by decide) (⟨by rw [mm_obs, if_neg (fun q => q hre), if_neg hbad, if_neg cz48, if_pos ⟨cz55, hsec⟩], rfl⟩) (Nat.le_of_ble_eq_true rfl) (Nat.le_of_ble_eq_true rfl) dX6_obstacleFor_69
          ·
            refine W.eq (g2 := F0 m 64 ls [.int (nI 0)]) (by rw [if_neg hsec]) ?_
            refine mm_if_eq (pc := 64) F (tgt := 70) (by omega) dX6_obstacleFor_64 (by decide) (fun cz64 => ?_) (fun h9 => absurd h9 (by decide))
            refine lv_bipush (pc := 70) (v := nI 45) F.1 F.2.1 dX6_obstacleFor_70 (by decide) ?_
            exact mm_zret (pc := 72) F (ty := .char) hr hN (by decide) (⟨by rw [mm_obs, if_neg (fun q => q hre), if_neg hbad, if_neg cz48, if_neg (fun q => hsec q.2)], rfl⟩) (Nat.le_of_ble_eq_true rfl) (Nat.le_of_ble_eq_true rfl) dX6_obstacleFor_72
      ·
        refine lv_bipush (pc := 51) (v := nI 101) F.1 F.2.1 dX6_obstacleFor_51 (by decide) ?_
        exact mm_zret (pc := 53) F (ty := .char) hr hN (by decide) (⟨by rw [mm_obs, if_neg (fun q => q hre), if_neg hbad, if_pos cz48], rfl⟩) (Nat.le_of_ble_eq_true rfl) (Nat.le_of_ble_eq_true rfl) dX6_obstacleFor_53
  ·
    refine W.eq (g2 := F0 m 18 ls [.int (nI 1)]) (by rw [if_neg hre]) ?_
    refine mm_if_eq (pc := 18) F (tgt := 24) (by omega) dX6_obstacleFor_18 (by decide) (fun h9 => absurd h9 (by decide)) (fun cz18 => ?_)
    refine lv_bipush (pc := 21) (v := nI 115) F.1 F.2.1 dX6_obstacleFor_21 (by decide) ?_
    exact mm_zret (pc := 23) F (ty := .char) hr hN (by decide) (⟨by rw [mm_obs, if_pos hre], rfl⟩) (Nat.le_of_ble_eq_true rfl) (Nat.le_of_ble_eq_true rfl) dX6_obstacleFor_23

set_option maxHeartbeats 4000000 in
set_option maxRecDepth 100000 in
theorem c_alone (l : Launch) (b : Nat) (D : mm_D) (hst : l.stackTraces = false) (T : mm_T) (z : mm_Z) (ad : Nat → Nat → Nat → Nat) (σ : mm_S) (hX : mm_X σ T z ad) (hW : mm_WF T) (t i hh : Nat) (ht2 : t < T.nT) (hi2 : i < T.nP) (hh2 : hh < 2) : mm_K l b D yX6_outcomeAlone (.code yX6_outcomeAlone cX6_outcomeAlone 6 (some .char)) ({ frames := 6, cells := 0, slots := 0, locals := 190 } : Room) [.ref ((ad 0 0 0)), .ref ((ad 3 t 0)), .int (nI hh), .int (nI i)] σ
    (fun v σ2 => v = some (.int (nI (mm_oc T t hh i))) ∧ ∃ z2 : mm_Z, mm_X σ2 T z2 ad ∧ mm_Fr 0 σ σ2 ∧ z2 3 = z 3)
    (fun _ _ => False) := by
  refine mm_of (cc := cX6_outcomeAlone) (nL := 6) (ret := (some .char)) (by decide) rfl (Nat.le_of_ble_eq_true rfl) hst ?_
  intro p e s m args below meth c ls F ht hr hin hN hl
  have hl : lv_has ls 6 [(0, .ref ((ad 0 0 0))), (1, .ref ((ad 3 t 0))), (2, .int (nI hh)), (3, .int (nI i))] := hl
  have wnA := hW.hnA
  have wnP := hW.hnP
  have wnT := hW.hnT
  have wnR := hW.hnR
  have wpa := hW.hpa
  have wbo := hW.hbo
  have wen0 := hW.hen 0
  have wen1 := hW.hen 1
  obtain ⟨who, wfl, wre⟩ := hW.hpe i hi2
  have wpg : mm_pgs T t (T.fl i) ≤ 8 := mm_pgs_le hW ht2
  refine lv_aload_n (pc := 0) F.1 F.2.1 dX6_outcomeAlone_0 rfl (lv_at hl 0 rfl) ?_
  refine lv_aload_n (pc := 1) F.1 F.2.1 dX6_outcomeAlone_1 rfl (lv_at hl 1 rfl) ?_
  refine lv_iload_n (pc := 2) F.1 F.2.1 dX6_outcomeAlone_2 rfl (lv_at hl 2 rfl) ?_
  refine lv_iload_n (pc := 3) F.1 F.2.1 dX6_outcomeAlone_3 rfl (lv_at hl 3 rfl) ?_
  refine mm_runV (pc := 4) (As := [.ref ((ad 3 t 0)), .int (nI hh), .int (nI i)]) (rest := []) F hN (c_obst l b D hst T z ad σ hX hW t i hh ht2 hi2 hh2) mw_940 mw_942 mw_p16 mw_1 mw_943 ⟨pmX6_obstacleFor, (Nat.le_of_ble_eq_true rfl), (Nat.le_of_ble_eq_true rfl)⟩ (mm_recv F.2.2.2.2.2.1 hN (mm_X0 hX) rfl) hl.1 rfl (Nat.le_of_ble_eq_true rfl) ⟨(Nat.le_of_ble_eq_true rfl), (Nat.le_of_ble_eq_true rfl)⟩ dX6_outcomeAlone_4
    (fun _ _ _ _ _ _ h9 => False.elim h9)
    (fun v9 σ9 H locs hp9 hN => ?_)
  obtain ⟨rfl, h9⟩ := hp9
  rw [h9] at hN
  refine W.eq (g2 := F0 m 7 ls [.int (nI (mm_obs T t hh i))]) rfl ?_
  refine W.widen (k := 0) (n := 0) (Nat.le_of_ble_eq_true rfl) (Nat.le_of_ble_eq_true rfl) ?_
  have hobi := mm_obs_lt T t hh i
  refine lv_istore (pc := 7) (lv' := [(4, .int (nI (mm_obs T t hh i))), (0, .ref ((ad 0 0 0))), (1, .ref ((ad 3 t 0))), (2, .int (nI hh)), (3, .int (nI i))]) F.1 F.2.1 dX6_outcomeAlone_7 hl (by decide) rfl (fun ls hl => ?_)
  refine lv_iload (pc := 9) F.1 F.2.1 dX6_outcomeAlone_9 (lv_at hl 0 rfl) ?_
  refine lv_bipush (pc := 11) (v := nI 45) F.1 F.2.1 dX6_outcomeAlone_11 (by decide) ?_
  refine mm_icmp_eq (pc := 13) F (x := mm_obs T t hh i) (y := 45) (tgt := 19) (by omega) (by omega) dX6_outcomeAlone_13 (by decide) (fun cz13 => ?_) (fun cz13 => ?_)
  ·
    refine lv_aload_n (pc := 19) F.1 F.2.1 dX6_outcomeAlone_19 rfl (lv_at hl 1 rfl) ?_
    refine mm_get (pc := 20) F hN (mm_X0 hX) (ci := 6) rfl 6 (by decide) mw_91 rfl dX6_outcomeAlone_20 ?_
    refine lv_aload_n (pc := 23) F.1 F.2.1 dX6_outcomeAlone_23 rfl (lv_at hl 1 rfl) ?_
    refine mm_get (pc := 24) F hN (mm_X0 hX) (ci := 6) rfl 4 (by decide) mw_89 rfl dX6_outcomeAlone_24 ?_
    refine mm_runV (pc := 27) (As := [.ref ((ad 0 5 0))]) (rest := []) F hN (c_copyS l b D hst 0 (ad 0 7 0) (ad 0 5 0) (z.l0) (z.l1) (z.l2) (T.pa) (T.en 0) (T.en 1) _ (mm_X7 hX) (mm_X5 hX) (mm_X_ne (k := 0) (i := 5) (j := 0) (k' := 0) (i' := 7) (j' := 0) hX ⟨by decide, rfl⟩ ⟨by decide, rfl⟩ (by decide))) mw_573 mw_574 mw_575 mw_5 mw_576 ⟨pmX4_copyFrom, (Nat.le_of_ble_eq_true rfl), (Nat.le_of_ble_eq_true rfl)⟩ (mm_recv F.2.2.2.2.2.1 hN (mm_X7 hX) rfl) hl.1 rfl (Nat.le_of_ble_eq_true rfl) ⟨(Nat.le_of_ble_eq_true rfl), (Nat.le_of_ble_eq_true rfl)⟩ dX6_outcomeAlone_27
      (fun _ _ _ _ _ _ h9 => False.elim h9)
      (fun v9 σc H locs hp9 hN => ?_)
    obtain ⟨rfl, hσc⟩ := hp9
    refine W.eq (g2 := F0 m 30 ls []) rfl ?_
    refine W.widen (k := 0) (n := 0) (Nat.le_of_ble_eq_true rfl) (Nat.le_of_ble_eq_true rfl) ?_
    have hXc := mm_Xz0 hX (a := T.pa) (c := T.en 0) (e := T.en 1)
    rw [← hσc] at hXc
    have hFc : mm_Fr 0 σ σc := by rw [hσc]; exact mm_Fr.u (mm_X7 hX)
    obtain ⟨zc, ezc⟩ : ∃ q, q = mm_zl z (T.pa) (T.en 0) (T.en 1) := ⟨_, rfl⟩
    rw [← ezc] at hXc
    refine lv_iconst (pc := 30) (v := nI 0) F.1 F.2.1 dX6_outcomeAlone_30 (by decide) ?_
    refine lv_istore (pc := 31) (lv' := [(5, .int (nI 0)), (4, .int (nI (mm_obs T t hh i))), (0, .ref ((ad 0 0 0))), (1, .ref ((ad 3 t 0))), (2, .int (nI hh)), (3, .int (nI i))]) F.1 F.2.1 dX6_outcomeAlone_31 hl (by decide) rfl (fun ls hl => ?_)
    have lp33 : ∀ (k33 j : Nat) (σj : mm_S) (zj : mm_Z) (ls : Array Slot) (H : Heap) (locs : List Loc), i < j + k33 → j ≤ i → (mm_X σj T zj ad) → (mm_Fr 0 σ σj) → (zj 0 0 = (mm_lf T t hh j).1 ∧ zj 0 1 = (mm_lf T t hh j).2.1 ∧ zj 0 2 = (mm_lf T t hh j).2.2) → (zj 3 = z 3) → mm_N b D s σj H locs → lv_has ls 6 [(0, .ref ((ad 0 0 0))), (1, .ref ((ad 3 t 0))), (2, .int (nI hh)), (3, .int (nI i)), (5, .int (nI j))] →
        W p l e ({ frames := 6, cells := 0, slots := 0, locals := 190 } : Room) s m args below meth c H locs (0) (0) (mm_Q b D (fun v σ2 => v = some (.int (nI (mm_oc T t hh i))) ∧ ∃ z2 : mm_Z, mm_X σ2 T z2 ad ∧ mm_Fr 0 σ σ2 ∧ z2 3 = z 3) (fun _ _ => False) below args s ({ frames := 6, cells := 0, slots := 0, locals := 190 } : Room)) (F0 m 33 ls []) := by
      intro k33
      induction k33 with
      | zero => intro j σj zj ls H locs hk33 hi33 hXj hFj hlj hzj hN hl; omega
      | succ k33 ih33 =>
        intro j σj zj ls H locs hk33 hi33 hXj hFj hlj hzj hN hl
        have hle := mm_lf_le hW t hh j
        obtain ⟨z0, z1, z2⟩ := hlj
        refine lv_iload (pc := 33) F.1 F.2.1 dX6_outcomeAlone_33 (lv_at hl 4 rfl) ?_
        refine lv_iload_n (pc := 35) F.1 F.2.1 dX6_outcomeAlone_35 rfl (lv_at hl 3 rfl) ?_
        refine mm_icmp_ge (pc := 36) F (x := j) (y := i) (tgt := 85) (by omega) (by omega) dX6_outcomeAlone_36 (by decide) (fun cz36 => ?_) (fun cz36 => ?_)
        ·
          have hji : j = i := by omega
          rw [hji] at z0 z1 z2 hle
          refine lv_aload_n (pc := 85) F.1 F.2.1 dX6_outcomeAlone_85 rfl (lv_at hl 0 rfl) ?_
          refine mm_get (pc := 86) F hN (mm_X0 hXj) (ci := 6) rfl 6 (by decide) mw_91 rfl dX6_outcomeAlone_86 ?_
          refine lv_aload_n (pc := 89) F.1 F.2.1 dX6_outcomeAlone_89 rfl (lv_at hl 1 rfl) ?_
          refine lv_aload_n (pc := 90) F.1 F.2.1 dX6_outcomeAlone_90 rfl (lv_at hl 0 rfl) ?_
          refine mm_get (pc := 91) F hN (mm_X0 hXj) (ci := 6) rfl 1 (by decide) mw_86 rfl dX6_outcomeAlone_91 ?_
          refine lv_iload_n (pc := 94) F.1 F.2.1 dX6_outcomeAlone_94 rfl (lv_at hl 3 rfl) ?_
          refine mm_runV (pc := 95) (As := [.int (nI i)]) (rest := [.ref ((ad 3 t 0)), .ref ((ad 0 7 0))]) F hN (c_ALget l b D hst 0 _ (i) (ad 2 i 0) _ _ (mm_XL2 hXj) (mm_rg (by omega))) mw_357 mw_358 mw_359 mw_4 mw_360 ⟨pmJx4a65c_get_915e3, (Nat.le_of_ble_eq_true rfl), (Nat.le_of_ble_eq_true rfl)⟩ (mm_recvL F.2.2.2.2.2.1 hN (mm_XL2 hXj)) hl.1 rfl (Nat.le_of_ble_eq_true rfl) ⟨(Nat.le_of_ble_eq_true rfl), (Nat.le_of_ble_eq_true rfl)⟩ dX6_outcomeAlone_95
            (fun _ _ _ _ _ _ h9 => False.elim h9)
            (fun v9 σ9 H locs hp9 hN => ?_)
          obtain ⟨rfl, h9⟩ := hp9
          rw [h9] at hN
          refine W.eq (g2 := F0 m 98 ls [.ref ((ad 2 i 0)), .ref ((ad 3 t 0)), .ref ((ad 0 7 0))]) rfl ?_
          refine W.widen (k := 0) (n := 0) (Nat.le_of_ble_eq_true rfl) (Nat.le_of_ble_eq_true rfl) ?_
          refine mm_cast (pc := 98) F hN (mm_XP hXj (i := i) (by omega)) (ci := 2) rfl mw_373 dX6_outcomeAlone_98 ?_
          refine mm_get (pc := 101) F hN (mm_XP hXj (i := i) (by omega)) (ci := 2) rfl 1 (by decide) mw_407 rfl dX6_outcomeAlone_101 ?_
          refine mm_runV (pc := 104) (As := [.int (nI (T.fl i))]) (rest := [.ref ((ad 0 7 0))]) F hN (c_pagesW l b D hst 0 (ad 3 t 0) (ad 4 t 0) (ad 4 t 1) (ad 4 t 2) (T.pc t) (T.us t) (T.fl i) (fun x => if x < 8 then mm_pgs T t x else 0) wfl σj (mm_XT hXj ht2) (mm_XTp hXj ht2)) mw_514 mw_515 mw_516 mw_28 mw_517 ⟨pmX5_pagesWith, (Nat.le_of_ble_eq_true rfl), (Nat.le_of_ble_eq_true rfl)⟩ (mm_recv F.2.2.2.2.2.1 hN (mm_XT hXj ht2) rfl) hl.1 rfl (Nat.le_of_ble_eq_true rfl) ⟨(Nat.le_of_ble_eq_true rfl), (Nat.le_of_ble_eq_true rfl)⟩ dX6_outcomeAlone_104
            (fun _ _ _ _ _ _ h9 => False.elim h9)
            (fun v9 σ9 H locs hp9 hN => ?_)
          obtain ⟨rfl, h9⟩ := hp9
          rw [h9] at hN
          refine W.eq (g2 := F0 m 107 ls [.int (nI ((fun x => if x < 8 then mm_pgs T t x else 0) (T.fl i))), .ref ((ad 0 7 0))]) rfl ?_
          refine W.widen (k := 0) (n := 0) (Nat.le_of_ble_eq_true rfl) (Nat.le_of_ble_eq_true rfl) ?_
          refine W.eq (g2 := F0 m 107 ls [.int (nI (mm_pgs T t (T.fl i))), .ref ((ad 0 7 0))]) (congrArg (fun q => F0 m 107 ls (Value.int (nI q) :: [.ref ((ad 0 7 0))])) (if_pos wfl)) ?_
          refine mm_runV (pc := 107) (As := [.int (nI (mm_pgs T t (T.fl i)))]) (rest := []) F hN (c_take l b D hst (mm_pgs T t (T.fl i)) 0 (ad 0 7 0) (zj.l0) (zj.l1) (zj.l2) _ (mm_X7 hXj) (by show _ ≤ 100 ∧ zj 0 0 ≤ 1000000 ∧ zj 0 1 ≤ 1000000 ∧ zj 0 2 ≤ 1000000; omega)) mw_581 mw_582 mw_583 mw_5 mw_584 ⟨pmX4_take, (Nat.le_of_ble_eq_true rfl), (Nat.le_of_ble_eq_true rfl)⟩ (mm_recv F.2.2.2.2.2.1 hN (mm_X7 hXj) rfl) hl.1 rfl (Nat.le_of_ble_eq_true rfl) ⟨(Nat.le_of_ble_eq_true rfl), (Nat.le_of_ble_eq_true rfl)⟩ dX6_outcomeAlone_107
            (fun _ _ _ _ _ _ h9 => False.elim h9)
            (fun v9 σ9 H locs hp9 hN => ?_)
          obtain ⟨rfl, hσ9⟩ := hp9
          refine W.eq (g2 := F0 m 110 ls [.int (nI (if mm_pgs T t (T.fl i) ≤ zj.l0 ∧ 1 ≤ (if 3 < mm_pgs T t (T.fl i) then zj.l2 else zj.l1) then 1 else 0))]) rfl ?_
          refine W.widen (k := 0) (n := 0) (Nat.le_of_ble_eq_true rfl) (Nat.le_of_ble_eq_true rfl) ?_
          by_cases ht110 : mm_pgs T t (T.fl i) ≤ zj.l0 ∧ 1 ≤ (if 3 < mm_pgs T t (T.fl i) then zj.l2 else zj.l1)
          ·
            refine W.eq (g2 := F0 m 110 ls [.int (nI 1)]) (by rw [if_pos ht110]) ?_
            rw [if_pos ht110] at hσ9
            have hf9 : mm_fit (mm_lf T t hh i) (mm_pgs T t (T.fl i)) := by
              have q := ht110
              rw [show zj.l0 = _ from z0, show zj.l1 = _ from z1, show zj.l2 = _ from z2] at q
              exact q
            have hX9 := mm_Xz0 hXj (a := zj.l0 - mm_pgs T t (T.fl i)) (c := if 3 < mm_pgs T t (T.fl i) then zj.l1 else zj.l1 - 1) (e := if 3 < mm_pgs T t (T.fl i) then zj.l2 - 1 else zj.l2)
            rw [← hσ9] at hX9
            have hF9 : mm_Fr 0 σj σ9 := by rw [hσ9]; exact mm_Fr.u (mm_X7 hXj)
            refine mm_if_eq (pc := 110) F (tgt := 118) (by omega) dX6_outcomeAlone_110 (by decide) (fun h9 => absurd h9 (by decide)) (fun cz110 => ?_)
            refine lv_bipush (pc := 113) (v := nI 108) F.1 F.2.1 dX6_outcomeAlone_113 (by decide) ?_
            refine lv_goto (pc := 115) (tgt := 120) F.1 F.2.1 dX6_outcomeAlone_115 (by decide) ?_
            exact mm_zret (pc := 120) F (ty := .char) hr hN (by decide) (⟨by rw [mm_oc, if_neg (fun q => q cz13), if_pos hf9], _, hX9, hFj.tr hF9, hzj⟩) (Nat.le_of_ble_eq_true rfl) (Nat.le_of_ble_eq_true rfl) dX6_outcomeAlone_120
          ·
            refine W.eq (g2 := F0 m 110 ls [.int (nI 0)]) (by rw [if_neg ht110]) ?_
            rw [if_neg ht110] at hσ9
            have hf9 : ¬ mm_fit (mm_lf T t hh i) (mm_pgs T t (T.fl i)) := by
              have q := ht110
              rw [show zj.l0 = _ from z0, show zj.l1 = _ from z1, show zj.l2 = _ from z2] at q
              exact q
            rw [hσ9] at hN
            refine mm_if_eq (pc := 110) F (tgt := 118) (by omega) dX6_outcomeAlone_110 (by decide) (fun cz110 => ?_) (fun h9 => absurd h9 (by decide))
            refine lv_bipush (pc := 118) (v := nI 112) F.1 F.2.1 dX6_outcomeAlone_118 (by decide) ?_
            exact mm_zret (pc := 120) F (ty := .char) hr hN (by decide) (⟨by rw [mm_oc, if_neg (fun q => q cz13), if_neg hf9], zj, hXj, hFj, hzj⟩) (Nat.le_of_ble_eq_true rfl) (Nat.le_of_ble_eq_true rfl) dX6_outcomeAlone_120
        ·
          have hj2 : j < T.nP := by omega
          obtain ⟨whoj, wflj, wrej⟩ := hW.hpe j hj2
          have wpgj : mm_pgs T t (T.fl j) ≤ 8 := mm_pgs_le hW ht2
          refine lv_aload_n (pc := 39) F.1 F.2.1 dX6_outcomeAlone_39 rfl (lv_at hl 0 rfl) ?_
          refine lv_aload_n (pc := 40) F.1 F.2.1 dX6_outcomeAlone_40 rfl (lv_at hl 1 rfl) ?_
          refine lv_iload_n (pc := 41) F.1 F.2.1 dX6_outcomeAlone_41 rfl (lv_at hl 2 rfl) ?_
          refine lv_iload (pc := 42) F.1 F.2.1 dX6_outcomeAlone_42 (lv_at hl 4 rfl) ?_
          refine mm_runV (pc := 44) (As := [.ref ((ad 3 t 0)), .int (nI hh), .int (nI j)]) (rest := []) F hN (c_obst l b D hst T zj ad σj hXj hW t j hh ht2 hj2 hh2) mw_940 mw_942 mw_p16 mw_1 mw_943 ⟨pmX6_obstacleFor, (Nat.le_of_ble_eq_true rfl), (Nat.le_of_ble_eq_true rfl)⟩ (mm_recv F.2.2.2.2.2.1 hN (mm_X0 hXj) rfl) hl.1 rfl (Nat.le_of_ble_eq_true rfl) ⟨(Nat.le_of_ble_eq_true rfl), (Nat.le_of_ble_eq_true rfl)⟩ dX6_outcomeAlone_44
            (fun _ _ _ _ _ _ h9 => False.elim h9)
            (fun v9 σ9 H locs hp9 hN => ?_)
          obtain ⟨rfl, h9⟩ := hp9
          rw [h9] at hN
          refine W.eq (g2 := F0 m 47 ls [.int (nI (mm_obs T t hh j))]) rfl ?_
          refine W.widen (k := 0) (n := 0) (Nat.le_of_ble_eq_true rfl) (Nat.le_of_ble_eq_true rfl) ?_
          have hobj := mm_obs_lt T t hh j
          refine lv_bipush (pc := 47) (v := nI 45) F.1 F.2.1 dX6_outcomeAlone_47 (by decide) ?_
          refine mm_icmp_ne (pc := 49) F (x := mm_obs T t hh j) (y := 45) (tgt := 79) (by omega) (by omega) dX6_outcomeAlone_49 (by decide) (fun cz49 => ?_) (fun cz49 => ?_)
          ·
            refine lv_iinc (pc := 79) (v := nI (j + 1)) (lv' := [(5, .int (nI (j + 1))), (0, .ref ((ad 0 0 0))), (1, .ref ((ad 3 t 0))), (2, .int (nI hh)), (3, .int (nI i))]) F.1 F.2.1 dX6_outcomeAlone_79 hl (k := 4) rfl (by rw [← nI_add]; rfl) (by decide) rfl (fun ls hl => ?_)
            refine lv_goto (pc := 82) (tgt := 33) F.1 F.2.1 dX6_outcomeAlone_82 (by decide) ?_
            exact ih33 (j + 1) σj zj ls _ _ (by omega) (by omega) (hXj) (hFj) (by rw [show mm_lf T t hh (j + 1) = mm_lf T t hh j from by rw [mm_lf, if_neg (fun q => cz49 q.1)]]; exact ⟨z0, z1, z2⟩) (hzj) hN (lv_sub hl [1, 2, 3, 4, 0] rfl)
          ·
            refine lv_aload_n (pc := 52) F.1 F.2.1 dX6_outcomeAlone_52 rfl (lv_at hl 0 rfl) ?_
            refine mm_get (pc := 53) F hN (mm_X0 hXj) (ci := 6) rfl 6 (by decide) mw_91 rfl dX6_outcomeAlone_53 ?_
            refine lv_aload_n (pc := 56) F.1 F.2.1 dX6_outcomeAlone_56 rfl (lv_at hl 1 rfl) ?_
            refine lv_aload_n (pc := 57) F.1 F.2.1 dX6_outcomeAlone_57 rfl (lv_at hl 0 rfl) ?_
            refine mm_get (pc := 58) F hN (mm_X0 hXj) (ci := 6) rfl 1 (by decide) mw_86 rfl dX6_outcomeAlone_58 ?_
            refine lv_iload (pc := 61) F.1 F.2.1 dX6_outcomeAlone_61 (lv_at hl 4 rfl) ?_
            refine mm_runV (pc := 63) (As := [.int (nI j)]) (rest := [.ref ((ad 3 t 0)), .ref ((ad 0 7 0))]) F hN (c_ALget l b D hst 0 _ (j) (ad 2 j 0) _ _ (mm_XL2 hXj) (mm_rg (by omega))) mw_357 mw_358 mw_359 mw_4 mw_360 ⟨pmJx4a65c_get_915e3, (Nat.le_of_ble_eq_true rfl), (Nat.le_of_ble_eq_true rfl)⟩ (mm_recvL F.2.2.2.2.2.1 hN (mm_XL2 hXj)) hl.1 rfl (Nat.le_of_ble_eq_true rfl) ⟨(Nat.le_of_ble_eq_true rfl), (Nat.le_of_ble_eq_true rfl)⟩ dX6_outcomeAlone_63
              (fun _ _ _ _ _ _ h9 => False.elim h9)
              (fun v9 σ9 H locs hp9 hN => ?_)
            obtain ⟨rfl, h9⟩ := hp9
            rw [h9] at hN
            refine W.eq (g2 := F0 m 66 ls [.ref ((ad 2 j 0)), .ref ((ad 3 t 0)), .ref ((ad 0 7 0))]) rfl ?_
            refine W.widen (k := 0) (n := 0) (Nat.le_of_ble_eq_true rfl) (Nat.le_of_ble_eq_true rfl) ?_
            refine mm_cast (pc := 66) F hN (mm_XP hXj (i := j) (by omega)) (ci := 2) rfl mw_373 dX6_outcomeAlone_66 ?_
            refine mm_get (pc := 69) F hN (mm_XP hXj (i := j) (by omega)) (ci := 2) rfl 1 (by decide) mw_407 rfl dX6_outcomeAlone_69 ?_
            refine mm_runV (pc := 72) (As := [.int (nI (T.fl j))]) (rest := [.ref ((ad 0 7 0))]) F hN (c_pagesW l b D hst 0 (ad 3 t 0) (ad 4 t 0) (ad 4 t 1) (ad 4 t 2) (T.pc t) (T.us t) (T.fl j) (fun x => if x < 8 then mm_pgs T t x else 0) wflj σj (mm_XT hXj ht2) (mm_XTp hXj ht2)) mw_514 mw_515 mw_516 mw_28 mw_517 ⟨pmX5_pagesWith, (Nat.le_of_ble_eq_true rfl), (Nat.le_of_ble_eq_true rfl)⟩ (mm_recv F.2.2.2.2.2.1 hN (mm_XT hXj ht2) rfl) hl.1 rfl (Nat.le_of_ble_eq_true rfl) ⟨(Nat.le_of_ble_eq_true rfl), (Nat.le_of_ble_eq_true rfl)⟩ dX6_outcomeAlone_72
              (fun _ _ _ _ _ _ h9 => False.elim h9)
              (fun v9 σ9 H locs hp9 hN => ?_)
            obtain ⟨rfl, h9⟩ := hp9
            rw [h9] at hN
            refine W.eq (g2 := F0 m 75 ls [.int (nI ((fun x => if x < 8 then mm_pgs T t x else 0) (T.fl j))), .ref ((ad 0 7 0))]) rfl ?_
            refine W.widen (k := 0) (n := 0) (Nat.le_of_ble_eq_true rfl) (Nat.le_of_ble_eq_true rfl) ?_
            refine W.eq (g2 := F0 m 75 ls [.int (nI (mm_pgs T t (T.fl j))), .ref ((ad 0 7 0))]) (congrArg (fun q => F0 m 75 ls (Value.int (nI q) :: [.ref ((ad 0 7 0))])) (if_pos wflj)) ?_
            refine mm_runV (pc := 75) (As := [.int (nI (mm_pgs T t (T.fl j)))]) (rest := []) F hN (c_take l b D hst (mm_pgs T t (T.fl j)) 0 (ad 0 7 0) (zj.l0) (zj.l1) (zj.l2) _ (mm_X7 hXj) (by show _ ≤ 100 ∧ zj 0 0 ≤ 1000000 ∧ zj 0 1 ≤ 1000000 ∧ zj 0 2 ≤ 1000000; omega)) mw_581 mw_582 mw_583 mw_5 mw_584 ⟨pmX4_take, (Nat.le_of_ble_eq_true rfl), (Nat.le_of_ble_eq_true rfl)⟩ (mm_recv F.2.2.2.2.2.1 hN (mm_X7 hXj) rfl) hl.1 rfl (Nat.le_of_ble_eq_true rfl) ⟨(Nat.le_of_ble_eq_true rfl), (Nat.le_of_ble_eq_true rfl)⟩ dX6_outcomeAlone_75
              (fun _ _ _ _ _ _ h9 => False.elim h9)
              (fun v9 σ9 H locs hp9 hN => ?_)
            obtain ⟨rfl, hσ9⟩ := hp9
            refine W.eq (g2 := F0 m 78 ls [.int (nI (if mm_pgs T t (T.fl j) ≤ zj.l0 ∧ 1 ≤ (if 3 < mm_pgs T t (T.fl j) then zj.l2 else zj.l1) then 1 else 0))]) rfl ?_
            refine W.widen (k := 0) (n := 0) (Nat.le_of_ble_eq_true rfl) (Nat.le_of_ble_eq_true rfl) ?_
            by_cases ht78 : mm_pgs T t (T.fl j) ≤ zj.l0 ∧ 1 ≤ (if 3 < mm_pgs T t (T.fl j) then zj.l2 else zj.l1)
            ·
              refine W.eq (g2 := F0 m 78 ls [.int (nI 1)]) (by rw [if_pos ht78]) ?_
              rw [if_pos ht78] at hσ9
              have hf9 : mm_fit (mm_lf T t hh j) (mm_pgs T t (T.fl j)) := by
                have q := ht78
                rw [show zj.l0 = _ from z0, show zj.l1 = _ from z1, show zj.l2 = _ from z2] at q
                exact q
              have hX9 := mm_Xz0 hXj (a := zj.l0 - mm_pgs T t (T.fl j)) (c := if 3 < mm_pgs T t (T.fl j) then zj.l1 else zj.l1 - 1) (e := if 3 < mm_pgs T t (T.fl j) then zj.l2 - 1 else zj.l2)
              rw [← hσ9] at hX9
              have hF9 : mm_Fr 0 σj σ9 := by rw [hσ9]; exact mm_Fr.u (mm_X7 hXj)
              have hl9 : mm_lf T t hh (j + 1) = mm_tk (mm_lf T t hh j) (mm_pgs T t (T.fl j)) := by rw [mm_lf, if_pos ⟨cz49, hf9⟩]
              refine lv_pop (pc := 78) F.1 F.2.1 dX6_outcomeAlone_78 rfl ?_
              refine lv_iinc (pc := 79) (v := nI (j + 1)) (lv' := [(5, .int (nI (j + 1))), (0, .ref ((ad 0 0 0))), (1, .ref ((ad 3 t 0))), (2, .int (nI hh)), (3, .int (nI i))]) F.1 F.2.1 dX6_outcomeAlone_79 hl (k := 4) rfl (by rw [← nI_add]; rfl) (by decide) rfl (fun ls hl => ?_)
              refine lv_goto (pc := 82) (tgt := 33) F.1 F.2.1 dX6_outcomeAlone_82 (by decide) ?_
              exact ih33 (j + 1) σ9 _ ls _ _ (by omega) (by omega) (hX9) (hFj.tr hF9) (⟨by rw [hl9]; exact congrArg (· - mm_pgs T t (T.fl j)) z0, by rw [hl9]; show (if 3 < mm_pgs T t (T.fl j) then zj 0 1 else zj 0 1 - 1) = _; rw [z1]; rfl, by rw [hl9]; show (if 3 < mm_pgs T t (T.fl j) then zj 0 2 - 1 else zj 0 2) = _; rw [z2]; rfl⟩) (hzj) hN (lv_sub hl [1, 2, 3, 4, 0] rfl)
            ·
              refine W.eq (g2 := F0 m 78 ls [.int (nI 0)]) (by rw [if_neg ht78]) ?_
              rw [if_neg ht78] at hσ9
              have hf9 : ¬ mm_fit (mm_lf T t hh j) (mm_pgs T t (T.fl j)) := by
                have q := ht78
                rw [show zj.l0 = _ from z0, show zj.l1 = _ from z1, show zj.l2 = _ from z2] at q
                exact q
              rw [hσ9] at hN
              have hl9 : mm_lf T t hh (j + 1) = mm_lf T t hh j := by rw [mm_lf, if_neg (fun q => hf9 q.2)]
              refine lv_pop (pc := 78) F.1 F.2.1 dX6_outcomeAlone_78 rfl ?_
              refine lv_iinc (pc := 79) (v := nI (j + 1)) (lv' := [(5, .int (nI (j + 1))), (0, .ref ((ad 0 0 0))), (1, .ref ((ad 3 t 0))), (2, .int (nI hh)), (3, .int (nI i))]) F.1 F.2.1 dX6_outcomeAlone_79 hl (k := 4) rfl (by rw [← nI_add]; rfl) (by decide) rfl (fun ls hl => ?_)
              refine lv_goto (pc := 82) (tgt := 33) F.1 F.2.1 dX6_outcomeAlone_82 (by decide) ?_
              exact ih33 (j + 1) σj zj ls _ _ (by omega) (by omega) (hXj) (hFj) (⟨by rw [hl9]; exact z0, by rw [hl9]; exact z1, by rw [hl9]; exact z2⟩) (hzj) hN (lv_sub hl [1, 2, 3, 4, 0] rfl)
    exact lp33 (i + 1) 0 σc zc ls _ _ (by omega) (by omega) (hXc) (hFc) (by rw [ezc]; exact ⟨rfl, rfl, rfl⟩) (by rw [ezc]; rfl) hN (lv_sub hl [2, 3, 4, 5, 0] rfl)
  ·
    refine lv_iload (pc := 16) F.1 F.2.1 dX6_outcomeAlone_16 (lv_at hl 0 rfl) ?_
    exact mm_zret (pc := 18) F (ty := .char) hr hN (mm_narC (by omega)) (⟨by rw [mm_oc, if_pos cz13], z, hX, mm_Fr.rf, rfl⟩) (Nat.le_of_ble_eq_true rfl) (Nat.le_of_ble_eq_true rfl) dX6_outcomeAlone_18

def mm_q_preview (T : mm_T) (t : Nat) (hh : Nat) (i : Nat) : Nat := if t < T.nT ∧ i < T.nP then 0 else 1
set_option maxHeartbeats 4000000 in
set_option maxRecDepth 100000 in
theorem a_preview (l : Launch) (b : Nat) (D : mm_D) (hst : l.stackTraces = false) (T : mm_T) (z : mm_Z) (ad : Nat → Nat → Nat → Nat) (σ : mm_S) (hX : mm_X σ T z ad) (hW : mm_WF T) (t : Nat) (zt : t < 2 ^ 32) (hh : Nat) (zhh : hh < 2) (i : Nat) (zi : i < 2 ^ 32) : mm_K l b D yX6_preview (.code yX6_preview cX6_preview 6 (some .char)) ({ frames := 8, cells := 6, slots := 40, locals := 220 } : Room) [.ref ((ad 0 0 0)), .int (nI t), .int (nI hh), .int (nI i)] σ
    (fun v σ2 => mm_q_preview T t hh i = 0 ∧ v = some (.int (nI (mm_oc T t hh i))) ∧ mm_Xt σ σ2 (T) (ad 0 0 0))
    (fun E σ2 => ((mm_q_preview T t hh i = 1 ∧ E = "java/lang/IndexOutOfBoundsException")) ∧ mm_Xt σ σ2 T (ad 0 0 0)) := by
  refine mm_of (cc := cX6_preview) (nL := 6) (ret := (some .char)) (by decide) rfl (Nat.le_of_ble_eq_true rfl) hst ?_
  intro p e s m args below meth c ls F ht hr hin hN hl
  have hl : lv_has ls 6 [(0, .ref ((ad 0 0 0))), (1, .int (nI t)), (2, .int (nI hh)), (3, .int (nI i))] := hl
  have wnA := hW.hnA
  have wnP := hW.hnP
  have wnT := hW.hnT
  have wnR := hW.hnR
  have wpa := hW.hpa
  have wbo := hW.hbo
  have wen0 := hW.hen 0
  have wen1 := hW.hen 1
  refine lv_aload_n (pc := 0) F.1 F.2.1 dX6_preview_0 rfl (lv_at hl 0 rfl) ?_
  refine lv_iload_n (pc := 1) F.1 F.2.1 dX6_preview_1 rfl (lv_at hl 1 rfl) ?_
  refine mm_runV (pc := 2) (As := [.int (nI t)]) (rest := []) F hN (c_templateAt l b D hst T z ad σ hX hW t (by omega)) mw_492 mw_494 mw_p6 mw_1 mw_495 ⟨pmX6_templateAt, (Nat.le_of_ble_eq_true rfl), (Nat.le_of_ble_eq_true rfl)⟩ (mm_recv F.2.2.2.2.2.1 hN (mm_X0 hX) rfl) hl.1 rfl (Nat.le_of_ble_eq_true rfl) ⟨(Nat.le_of_ble_eq_true rfl), (Nat.le_of_ble_eq_true rfl)⟩ dX6_preview_2
    (fun E9 σ9 H9 l9 q9 ce9 hp9 hN9 hq9 hv9 hcl9 => mm_out F ht hN9 (by obtain ⟨g1, g2, g3⟩ := hp9; exact ⟨⟨by unfold mm_q_preview; (repeat' split) <;> omega, g1⟩, mm_Xt.rf hX g3⟩) hq9 hv9 hcl9 (Nat.le_of_ble_eq_true rfl) (Nat.le_of_ble_eq_true rfl))
    (fun v9 σ9 H locs hp9 hN => ?_)
  obtain ⟨htn, rfl, h9⟩ := hp9
  refine W.eq (g2 := F0 m 5 ls [.ref ((ad 3 t 0))]) rfl ?_
  refine W.widen (k := 1) (n := 6) (Nat.le_of_ble_eq_true rfl) (Nat.le_of_ble_eq_true rfl) ?_
  rw [h9] at hN
  refine lv_astore (pc := 5) (lv' := [(4, .ref ((ad 3 t 0))), (0, .ref ((ad 0 0 0))), (1, .int (nI t)), (2, .int (nI hh)), (3, .int (nI i))]) F.1 F.2.1 dX6_preview_5 hl (by decide) rfl (fun ls hl => ?_)
  refine lv_aload_n (pc := 7) F.1 F.2.1 dX6_preview_7 rfl (lv_at hl 1 rfl) ?_
  refine lv_iload_n (pc := 8) F.1 F.2.1 dX6_preview_8 rfl (lv_at hl 4 rfl) ?_
  refine mm_runV (pc := 9) (As := [.int (nI i)]) (rest := []) F hN (c_personAt l b D hst T z ad σ hX hW i (by omega)) mw_378 mw_380 mw_p5 mw_1 mw_381 ⟨pmX6_personAt, (Nat.le_of_ble_eq_true rfl), (Nat.le_of_ble_eq_true rfl)⟩ (mm_recv F.2.2.2.2.2.1 hN (mm_X0 hX) rfl) hl.1 rfl (Nat.le_of_ble_eq_true rfl) ⟨(Nat.le_of_ble_eq_true rfl), (Nat.le_of_ble_eq_true rfl)⟩ dX6_preview_9
    (fun E9 σ9 H9 l9 q9 ce9 hp9 hN9 hq9 hv9 hcl9 => mm_out F ht hN9 (by obtain ⟨g1, g2, g3⟩ := hp9; exact ⟨⟨by unfold mm_q_preview; (repeat' split) <;> omega, g1⟩, mm_Xt.rf hX g3⟩) hq9 hv9 hcl9 (Nat.le_of_ble_eq_true rfl) (Nat.le_of_ble_eq_true rfl))
    (fun v9 σ9 H locs hp9 hN => ?_)
  obtain ⟨hpn, rfl, h9⟩ := hp9
  refine W.eq (g2 := F0 m 12 ls [.ref ((ad 2 i 0))]) rfl ?_
  refine W.widen (k := 2) (n := 12) (Nat.le_of_ble_eq_true rfl) (Nat.le_of_ble_eq_true rfl) ?_
  rw [h9] at hN
  obtain ⟨who, wfl, wre⟩ := hW.hpe i hpn
  refine lv_astore (pc := 12) (lv' := [(5, .ref ((ad 2 i 0))), (4, .ref ((ad 3 t 0))), (0, .ref ((ad 0 0 0))), (1, .int (nI t)), (2, .int (nI hh)), (3, .int (nI i))]) F.1 F.2.1 dX6_preview_12 hl (by decide) rfl (fun ls hl => ?_)
  refine lv_aload_n (pc := 14) F.1 F.2.1 dX6_preview_14 rfl (lv_at hl 2 rfl) ?_
  refine lv_aload (pc := 15) F.1 F.2.1 dX6_preview_15 (lv_at hl 1 rfl) ?_
  refine lv_iload_n (pc := 17) F.1 F.2.1 dX6_preview_17 rfl (lv_at hl 4 rfl) ?_
  refine mm_runV (pc := 18) (As := [.ref ((ad 3 t 0)), .int (nI hh)]) (rest := []) F hN (c_goes l b D hst T z ad σ hX hW t hh htn zhh) mw_555 mw_557 mw_p8 mw_1 mw_558 ⟨pmX6_goThroughPeople, (Nat.le_of_ble_eq_true rfl), (Nat.le_of_ble_eq_true rfl)⟩ (mm_recv F.2.2.2.2.2.1 hN (mm_X0 hX) rfl) hl.1 rfl (Nat.le_of_ble_eq_true rfl) ⟨(Nat.le_of_ble_eq_true rfl), (Nat.le_of_ble_eq_true rfl)⟩ dX6_preview_18
    (fun _ _ _ _ _ _ h9 => False.elim h9)
    (fun v9 σb H locs hp9 hN => ?_)
  obtain ⟨rfl, zb, hXb, hFb, hIb, hob⟩ := hp9
  refine W.eq (g2 := F0 m 21 ls []) rfl ?_
  refine W.widen (k := 2) (n := 12) (Nat.le_of_ble_eq_true rfl) (Nat.le_of_ble_eq_true rfl) ?_
  refine lv_aload (pc := 21) F.1 F.2.1 dX6_preview_21 (lv_at hl 0 rfl) ?_
  refine mm_get (pc := 23) F hN (mm_XP hXb (i := i) (by omega)) (ci := 2) rfl 3 (by decide) mw_411 rfl dX6_preview_23 ?_
  have ho9 : zb.oc i = mm_oc T t hh i := hob i hpn
  exact mm_zret (pc := 26) F (ty := .char) hr hN (mm_narC (by rw [ho9]; exact mm_oc_lt T t hh i)) (⟨by unfold mm_q_preview; (repeat' split) <;> omega, by rw [ho9], zb, ad, hXb, rfl, hFb⟩) (Nat.le_of_ble_eq_true rfl) (Nat.le_of_ble_eq_true rfl) dX6_preview_26

def mm_q_previewAlone (T : mm_T) (t : Nat) (hh : Nat) (i : Nat) : Nat := if t < T.nT ∧ i < T.nP then 0 else 1
set_option maxHeartbeats 4000000 in
set_option maxRecDepth 100000 in
theorem a_previewAlone (l : Launch) (b : Nat) (D : mm_D) (hst : l.stackTraces = false) (T : mm_T) (z : mm_Z) (ad : Nat → Nat → Nat → Nat) (σ : mm_S) (hX : mm_X σ T z ad) (hW : mm_WF T) (t : Nat) (zt : t < 2 ^ 32) (hh : Nat) (zhh : hh < 2) (i : Nat) (zi : i < 2 ^ 32) : mm_K l b D yX6_previewAlone (.code yX6_previewAlone cX6_previewAlone 5 (some .char)) ({ frames := 8, cells := 6, slots := 40, locals := 220 } : Room) [.ref ((ad 0 0 0)), .int (nI t), .int (nI hh), .int (nI i)] σ
    (fun v σ2 => mm_q_previewAlone T t hh i = 0 ∧ v = some (.int (nI (mm_oc T t hh i))) ∧ mm_Xt σ σ2 (T) (ad 0 0 0))
    (fun E σ2 => ((mm_q_previewAlone T t hh i = 1 ∧ E = "java/lang/IndexOutOfBoundsException")) ∧ mm_Xt σ σ2 T (ad 0 0 0)) := by
  refine mm_of (cc := cX6_previewAlone) (nL := 5) (ret := (some .char)) (by decide) rfl (Nat.le_of_ble_eq_true rfl) hst ?_
  intro p e s m args below meth c ls F ht hr hin hN hl
  have hl : lv_has ls 5 [(0, .ref ((ad 0 0 0))), (1, .int (nI t)), (2, .int (nI hh)), (3, .int (nI i))] := hl
  have wnA := hW.hnA
  have wnP := hW.hnP
  have wnT := hW.hnT
  have wnR := hW.hnR
  have wpa := hW.hpa
  have wbo := hW.hbo
  have wen0 := hW.hen 0
  have wen1 := hW.hen 1
  refine lv_aload_n (pc := 0) F.1 F.2.1 dX6_previewAlone_0 rfl (lv_at hl 0 rfl) ?_
  refine lv_iload_n (pc := 1) F.1 F.2.1 dX6_previewAlone_1 rfl (lv_at hl 1 rfl) ?_
  refine mm_runV (pc := 2) (As := [.int (nI t)]) (rest := []) F hN (c_templateAt l b D hst T z ad σ hX hW t (by omega)) mw_492 mw_494 mw_p6 mw_1 mw_495 ⟨pmX6_templateAt, (Nat.le_of_ble_eq_true rfl), (Nat.le_of_ble_eq_true rfl)⟩ (mm_recv F.2.2.2.2.2.1 hN (mm_X0 hX) rfl) hl.1 rfl (Nat.le_of_ble_eq_true rfl) ⟨(Nat.le_of_ble_eq_true rfl), (Nat.le_of_ble_eq_true rfl)⟩ dX6_previewAlone_2
    (fun E9 σ9 H9 l9 q9 ce9 hp9 hN9 hq9 hv9 hcl9 => mm_out F ht hN9 (by obtain ⟨g1, g2, g3⟩ := hp9; exact ⟨⟨by unfold mm_q_previewAlone; (repeat' split) <;> omega, g1⟩, mm_Xt.rf hX g3⟩) hq9 hv9 hcl9 (Nat.le_of_ble_eq_true rfl) (Nat.le_of_ble_eq_true rfl))
    (fun v9 σ9 H locs hp9 hN => ?_)
  obtain ⟨htn, rfl, h9⟩ := hp9
  refine W.eq (g2 := F0 m 5 ls [.ref ((ad 3 t 0))]) rfl ?_
  refine W.widen (k := 1) (n := 6) (Nat.le_of_ble_eq_true rfl) (Nat.le_of_ble_eq_true rfl) ?_
  rw [h9] at hN
  refine lv_astore (pc := 5) (lv' := [(4, .ref ((ad 3 t 0))), (0, .ref ((ad 0 0 0))), (1, .int (nI t)), (2, .int (nI hh)), (3, .int (nI i))]) F.1 F.2.1 dX6_previewAlone_5 hl (by decide) rfl (fun ls hl => ?_)
  refine lv_aload_n (pc := 7) F.1 F.2.1 dX6_previewAlone_7 rfl (lv_at hl 1 rfl) ?_
  refine lv_iload_n (pc := 8) F.1 F.2.1 dX6_previewAlone_8 rfl (lv_at hl 4 rfl) ?_
  refine mm_runV (pc := 9) (As := [.int (nI i)]) (rest := []) F hN (c_personAt l b D hst T z ad σ hX hW i (by omega)) mw_378 mw_380 mw_p5 mw_1 mw_381 ⟨pmX6_personAt, (Nat.le_of_ble_eq_true rfl), (Nat.le_of_ble_eq_true rfl)⟩ (mm_recv F.2.2.2.2.2.1 hN (mm_X0 hX) rfl) hl.1 rfl (Nat.le_of_ble_eq_true rfl) ⟨(Nat.le_of_ble_eq_true rfl), (Nat.le_of_ble_eq_true rfl)⟩ dX6_previewAlone_9
    (fun E9 σ9 H9 l9 q9 ce9 hp9 hN9 hq9 hv9 hcl9 => mm_out F ht hN9 (by obtain ⟨g1, g2, g3⟩ := hp9; exact ⟨⟨by unfold mm_q_previewAlone; (repeat' split) <;> omega, g1⟩, mm_Xt.rf hX g3⟩) hq9 hv9 hcl9 (Nat.le_of_ble_eq_true rfl) (Nat.le_of_ble_eq_true rfl))
    (fun v9 σ9 H locs hp9 hN => ?_)
  obtain ⟨hpn, rfl, h9⟩ := hp9
  refine W.eq (g2 := F0 m 12 ls [.ref ((ad 2 i 0))]) rfl ?_
  refine W.widen (k := 2) (n := 12) (Nat.le_of_ble_eq_true rfl) (Nat.le_of_ble_eq_true rfl) ?_
  rw [h9] at hN
  obtain ⟨who, wfl, wre⟩ := hW.hpe i hpn
  refine lv_pop (pc := 12) F.1 F.2.1 dX6_previewAlone_12 rfl ?_
  refine lv_aload_n (pc := 13) F.1 F.2.1 dX6_previewAlone_13 rfl (lv_at hl 1 rfl) ?_
  refine lv_aload (pc := 14) F.1 F.2.1 dX6_previewAlone_14 (lv_at hl 0 rfl) ?_
  refine lv_iload_n (pc := 16) F.1 F.2.1 dX6_previewAlone_16 rfl (lv_at hl 3 rfl) ?_
  refine lv_iload_n (pc := 17) F.1 F.2.1 dX6_previewAlone_17 rfl (lv_at hl 4 rfl) ?_
  refine mm_runV (pc := 18) (As := [.ref ((ad 3 t 0)), .int (nI hh), .int (nI i)]) (rest := []) F hN (c_alone l b D hst T z ad σ hX hW t i hh htn hpn zhh) mw_936 mw_938 mw_p15 mw_1 mw_939 ⟨pmX6_outcomeAlone, (Nat.le_of_ble_eq_true rfl), (Nat.le_of_ble_eq_true rfl)⟩ (mm_recv F.2.2.2.2.2.1 hN (mm_X0 hX) rfl) hl.1 rfl (Nat.le_of_ble_eq_true rfl) ⟨(Nat.le_of_ble_eq_true rfl), (Nat.le_of_ble_eq_true rfl)⟩ dX6_previewAlone_18
    (fun _ _ _ _ _ _ h9 => False.elim h9)
    (fun v9 σb H locs hp9 hN => ?_)
  obtain ⟨rfl, zb, hXb, hFb, -⟩ := hp9
  refine W.eq (g2 := F0 m 21 ls [.int (nI (mm_oc T t hh i))]) rfl ?_
  refine W.widen (k := 2) (n := 12) (Nat.le_of_ble_eq_true rfl) (Nat.le_of_ble_eq_true rfl) ?_
  exact mm_zret (pc := 21) F (ty := .char) hr hN (mm_narC (mm_oc_lt T t hh i)) (⟨by unfold mm_q_previewAlone; (repeat' split) <;> omega, rfl, zb, ad, hXb, rfl, hFb⟩) (Nat.le_of_ble_eq_true rfl) (Nat.le_of_ble_eq_true rfl) dX6_previewAlone_21

