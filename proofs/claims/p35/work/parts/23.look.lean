theorem mm_tI {x : Nat} (h : x < 2 ^ 32) : (nI x).toInt = if x < 2 ^ 31 then (x : Int) else (x : Int) - 2 ^ 32 := by
  show (Int32.ofNat x).toInt = _
  rw [Int32.toInt_ofNat']
  rw [show (Int32.size : Nat) = 2 ^ 32 from rfl]
  unfold Int.bmod
  have e : (x : Int) % ((2 ^ 32 : Nat) : Int) = x := Int.emod_eq_of_lt (by omega) (by omega)
  show (if (x : Int) % ((2 ^ 32 : Nat) : Int) < (((2 ^ 32 : Nat) : Int) + 1) / 2 then (x : Int) % ((2 ^ 32 : Nat) : Int) else (x : Int) % ((2 ^ 32 : Nat) : Int) - ((2 ^ 32 : Nat) : Int)) = _
  rw [e]
  split <;> split <;> omega
theorem mm_ltB {x y : Nat} (hx : x < 2 ^ 32) (hy : y < 2 ^ 31) : nI x < nI y ↔ (2 ^ 31 ≤ x ∨ x < y) := by
  rw [Int32.lt_iff_toInt_lt, mm_tI hx, nI_toInt hy]
  split <;> omega
theorem mm_leB {x y : Nat} (hx : x < 2 ^ 32) (hy : y < 2 ^ 31) : nI x ≤ nI y ↔ (2 ^ 31 ≤ x ∨ x ≤ y) := by
  rw [Int32.le_iff_toInt_le, mm_tI hx, nI_toInt hy]
  split <;> omega
theorem mm_gtB {x y : Nat} (hx : x < 2 ^ 32) (hy : y < 2 ^ 31) : nI y < nI x ↔ (x < 2 ^ 31 ∧ y < x) := by
  rw [Int32.lt_iff_toInt_lt, mm_tI hx, nI_toInt hy]
  split <;> omega
theorem mm_geB {x y : Nat} (hx : x < 2 ^ 32) (hy : y < 2 ^ 31) : nI y ≤ nI x ↔ (x < 2 ^ 31 ∧ y ≤ x) := by
  rw [Int32.le_iff_toInt_le, mm_tI hx, nI_toInt hy]
  split <;> omega
theorem mm_eqB {x y : Nat} (hx : x < 2 ^ 32) (hy : y < 2 ^ 32) : nI x = nI y ↔ x = y := by
  rw [← Int32.toInt_inj, mm_tI hx, mm_tI hy]
  split <;> split <;> omega
section
variable {p : Program} {l : Launch} {e : Env} {R : Room} {s : State} {m : MethodId} {args : Array Value} {below : List Frame} {meth : Method} {c : Code} {H : Heap} {locs : List Loc} {cells slots : Nat} {Q : State → Prop}
variable {cc : ByteArray} {pc : Nat} {ls : Array Slot} {rest : List Value} {b : Nat} {D : mm_D} {own : String} {nL : Nat}
theorem mm_icmp_ltB (F : mm_F p l s m args meth c b D own cc nL) {x y : Nat} {off : Int} {tgt : Nat} (hx : x < 2 ^ 32) (hy : y < 2 ^ 31) (hdg : decode cc pc = .ok (.if_icmp .lt off, 3)) (ht : (pc : Int) + off = (tgt : Int)) (kt : (2 ^ 31 ≤ x ∨ x < y) → W p l e R s m args below meth c H locs cells slots Q (F0 m tgt ls rest)) (kf : (x < 2 ^ 31 ∧ y ≤ x) → W p l e R s m args below meth c H locs cells slots Q (F0 m (pc + 3) ls rest)) : W p l e R s m args below meth c H locs cells slots Q (F0 m pc ls (.int (nI y) :: .int (nI x) :: rest)) :=
  lv_icmp_lt F.1 F.2.1 hdg ht (fun h => kt ((mm_ltB hx hy).mp h)) (fun h => kf (by have := mt (mm_ltB hx hy).mpr h; omega))
theorem mm_icmp_geB (F : mm_F p l s m args meth c b D own cc nL) {x y : Nat} {off : Int} {tgt : Nat} (hx : x < 2 ^ 32) (hy : y < 2 ^ 31) (hdg : decode cc pc = .ok (.if_icmp .ge off, 3)) (ht : (pc : Int) + off = (tgt : Int)) (kt : (x < 2 ^ 31 ∧ y ≤ x) → W p l e R s m args below meth c H locs cells slots Q (F0 m tgt ls rest)) (kf : (2 ^ 31 ≤ x ∨ x < y) → W p l e R s m args below meth c H locs cells slots Q (F0 m (pc + 3) ls rest)) : W p l e R s m args below meth c H locs cells slots Q (F0 m pc ls (.int (nI y) :: .int (nI x) :: rest)) :=
  lv_icmp_ge F.1 F.2.1 hdg ht (fun h => kt ((mm_geB hx hy).mp h)) (fun h => kf (by have := mt (mm_geB hx hy).mpr h; omega))
theorem mm_icmp_gtB (F : mm_F p l s m args meth c b D own cc nL) {x y : Nat} {off : Int} {tgt : Nat} (hx : x < 2 ^ 32) (hy : y < 2 ^ 31) (hdg : decode cc pc = .ok (.if_icmp .gt off, 3)) (ht : (pc : Int) + off = (tgt : Int)) (kt : (x < 2 ^ 31 ∧ y < x) → W p l e R s m args below meth c H locs cells slots Q (F0 m tgt ls rest)) (kf : (2 ^ 31 ≤ x ∨ x ≤ y) → W p l e R s m args below meth c H locs cells slots Q (F0 m (pc + 3) ls rest)) : W p l e R s m args below meth c H locs cells slots Q (F0 m pc ls (.int (nI y) :: .int (nI x) :: rest)) :=
  lv_icmp_gt F.1 F.2.1 hdg ht (fun h => kt ((mm_gtB hx hy).mp h)) (fun h => kf (by have := mt (mm_gtB hx hy).mpr h; omega))
theorem mm_icmp_leB (F : mm_F p l s m args meth c b D own cc nL) {x y : Nat} {off : Int} {tgt : Nat} (hx : x < 2 ^ 32) (hy : y < 2 ^ 31) (hdg : decode cc pc = .ok (.if_icmp .le off, 3)) (ht : (pc : Int) + off = (tgt : Int)) (kt : (2 ^ 31 ≤ x ∨ x ≤ y) → W p l e R s m args below meth c H locs cells slots Q (F0 m tgt ls rest)) (kf : (x < 2 ^ 31 ∧ y < x) → W p l e R s m args below meth c H locs cells slots Q (F0 m (pc + 3) ls rest)) : W p l e R s m args below meth c H locs cells slots Q (F0 m pc ls (.int (nI y) :: .int (nI x) :: rest)) :=
  lv_icmp_le F.1 F.2.1 hdg ht (fun h => kt ((mm_leB hx hy).mp h)) (fun h => kf (by have := mt (mm_leB hx hy).mpr h; omega))
theorem mm_icmp_eqB (F : mm_F p l s m args meth c b D own cc nL) {x y : Nat} {off : Int} {tgt : Nat} (hx : x < 2 ^ 32) (hy : y < 2 ^ 32) (hdg : decode cc pc = .ok (.if_icmp .eq off, 3)) (ht : (pc : Int) + off = (tgt : Int)) (kt : x = y → W p l e R s m args below meth c H locs cells slots Q (F0 m tgt ls rest)) (kf : ¬ x = y → W p l e R s m args below meth c H locs cells slots Q (F0 m (pc + 3) ls rest)) : W p l e R s m args below meth c H locs cells slots Q (F0 m pc ls (.int (nI y) :: .int (nI x) :: rest)) :=
  lv_icmp_eq F.1 F.2.1 hdg ht (fun h => kt ((mm_eqB hx hy).mp h)) (fun h => kf (mt (mm_eqB hx hy).mpr h))
theorem mm_icmp_neB (F : mm_F p l s m args meth c b D own cc nL) {x y : Nat} {off : Int} {tgt : Nat} (hx : x < 2 ^ 32) (hy : y < 2 ^ 32) (hdg : decode cc pc = .ok (.if_icmp .ne off, 3)) (ht : (pc : Int) + off = (tgt : Int)) (kt : ¬ x = y → W p l e R s m args below meth c H locs cells slots Q (F0 m tgt ls rest)) (kf : x = y → W p l e R s m args below meth c H locs cells slots Q (F0 m (pc + 3) ls rest)) : W p l e R s m args below meth c H locs cells slots Q (F0 m pc ls (.int (nI y) :: .int (nI x) :: rest)) :=
  lv_icmp_ne F.1 F.2.1 hdg ht (fun h => kt (mt (mm_eqB hx hy).mpr h)) (fun h => kf ((mm_eqB hx hy).mp h))
theorem mm_if_ltB (F : mm_F p l s m args meth c b D own cc nL) {x : Nat} {off : Int} {tgt : Nat} (hx : x < 2 ^ 32) (hdg : decode cc pc = .ok (.ifCond .lt off, 3)) (ht : (pc : Int) + off = (tgt : Int)) (kt : 2 ^ 31 ≤ x → W p l e R s m args below meth c H locs cells slots Q (F0 m tgt ls rest)) (kf : x < 2 ^ 31 → W p l e R s m args below meth c H locs cells slots Q (F0 m (pc + 3) ls rest)) : W p l e R s m args below meth c H locs cells slots Q (F0 m pc ls (.int (nI x) :: rest)) :=
  lv_if_lt F.1 F.2.1 hdg ht (fun h => kt (by have := (mm_ltB (y := 0) hx (by decide)).mp h; omega)) (fun h => kf (by have := mt (mm_ltB (y := 0) hx (by decide)).mpr h; omega))
theorem mm_if_geB (F : mm_F p l s m args meth c b D own cc nL) {x : Nat} {off : Int} {tgt : Nat} (hx : x < 2 ^ 32) (hdg : decode cc pc = .ok (.ifCond .ge off, 3)) (ht : (pc : Int) + off = (tgt : Int)) (kt : x < 2 ^ 31 → W p l e R s m args below meth c H locs cells slots Q (F0 m tgt ls rest)) (kf : 2 ^ 31 ≤ x → W p l e R s m args below meth c H locs cells slots Q (F0 m (pc + 3) ls rest)) : W p l e R s m args below meth c H locs cells slots Q (F0 m pc ls (.int (nI x) :: rest)) :=
  lv_if_ge F.1 F.2.1 hdg ht (fun h => kt (by have := (mm_geB (y := 0) hx (by decide)).mp h; omega)) (fun h => kf (by have := mt (mm_geB (y := 0) hx (by decide)).mpr h; omega))
theorem mm_if_eqB (F : mm_F p l s m args meth c b D own cc nL) {x : Nat} {off : Int} {tgt : Nat} (hx : x < 2 ^ 32) (hdg : decode cc pc = .ok (.ifCond .eq off, 3)) (ht : (pc : Int) + off = (tgt : Int)) (kt : x = 0 → W p l e R s m args below meth c H locs cells slots Q (F0 m tgt ls rest)) (kf : ¬ x = 0 → W p l e R s m args below meth c H locs cells slots Q (F0 m (pc + 3) ls rest)) : W p l e R s m args below meth c H locs cells slots Q (F0 m pc ls (.int (nI x) :: rest)) :=
  lv_if_eq F.1 F.2.1 hdg ht (fun h => kt ((mm_eqB (y := 0) hx (by decide)).mp h)) (fun h => kf (mt (mm_eqB (y := 0) hx (by decide)).mpr h))
theorem mm_if_neB (F : mm_F p l s m args meth c b D own cc nL) {x : Nat} {off : Int} {tgt : Nat} (hx : x < 2 ^ 32) (hdg : decode cc pc = .ok (.ifCond .ne off, 3)) (ht : (pc : Int) + off = (tgt : Int)) (kt : ¬ x = 0 → W p l e R s m args below meth c H locs cells slots Q (F0 m tgt ls rest)) (kf : x = 0 → W p l e R s m args below meth c H locs cells slots Q (F0 m (pc + 3) ls rest)) : W p l e R s m args below meth c H locs cells slots Q (F0 m pc ls (.int (nI x) :: rest)) :=
  lv_if_ne F.1 F.2.1 hdg ht (fun h => kt (mt (mm_eqB (y := 0) hx (by decide)).mpr h)) (fun h => kf ((mm_eqB (y := 0) hx (by decide)).mp h))
end
section
variable {σ : mm_S} {T : mm_T} {z : mm_Z} {ad : Nat → Nat → Nat → Nat} {i j : Nat}
theorem mm_X0 (h : mm_X σ T z ad) : σ (ad 0 0 0) = mm_obj 0 6 [.ref ((ad 0 1 0)), .ref ((ad 0 2 0)), .ref ((ad 0 3 0)), .ref ((ad 0 4 0)), .ref ((ad 0 5 0)), .ref ((ad 0 6 0)), .ref ((ad 0 7 0)), .int (nI T.bo)] := h.1 0 0 0 ⟨by decide, rfl⟩
theorem mm_XL1 (h : mm_X σ T z ad) : σ (ad 0 1 0) = mm_lst 0 ((List.range T.nA).map (fun q => ad 1 q 0)) := h.1 0 1 0 ⟨by decide, rfl⟩
theorem mm_XL2 (h : mm_X σ T z ad) : σ (ad 0 2 0) = mm_lst 0 ((List.range T.nP).map (fun q => ad 2 q 0)) := h.1 0 2 0 ⟨by decide, rfl⟩
theorem mm_XL3 (h : mm_X σ T z ad) : σ (ad 0 3 0) = mm_lst 0 ((List.range T.nT).map (fun q => ad 3 q 0)) := h.1 0 3 0 ⟨by decide, rfl⟩
theorem mm_XL4 (h : mm_X σ T z ad) : σ (ad 0 4 0) = mm_lst 0 ((List.range T.nR).map (fun q => ad 5 q 0)) := h.1 0 4 0 ⟨by decide, rfl⟩
theorem mm_X5 (h : mm_X σ T z ad) : σ (ad 0 5 0) = mm_obj 0 4 [.int (nI T.pa), .int (nI (T.en 0)), .int (nI (T.en 1))] := h.1 0 5 0 ⟨by decide, rfl⟩
theorem mm_X6 (h : mm_X σ T z ad) : σ (ad 0 6 0) = mm_obj 0 4 [.int (nI T.b0), .int (nI T.b1), .int (nI T.b2)] := h.1 0 6 0 ⟨by decide, rfl⟩
theorem mm_X7 (h : mm_X σ T z ad) : σ (ad 0 7 0) = mm_obj 0 4 [.int (nI z.l0), .int (nI z.l1), .int (nI z.l2)] := h.1 0 7 0 ⟨by decide, rfl⟩
theorem mm_XA (h : mm_X σ T z ad) (hi : i < T.nA) : σ (ad 1 i 0) = mm_obj 0 0 [.int (nI i), .int (nI (T.co i)), .int (nI (T.sk i)), .int (nI (T.go i)), .int (nI (z.sk i)), .int (nI (z.sv i))] := h.1 1 i 0 ⟨hi, rfl⟩
theorem mm_XP (h : mm_X σ T z ad) (hi : i < T.nP) : σ (ad 2 i 0) = mm_obj 0 2 [.ref ((ad 1 (T.ho i) 0)), .int (nI (T.fl i)), .int (nI (T.re i)), .int (nI (z.oc i))] := h.1 2 i 0 ⟨hi, rfl⟩
theorem mm_XT (h : mm_X σ T z ad) (hi : i < T.nT) : σ (ad 3 i 0) = mm_obj 0 5 [.ref ((ad 4 i 0)), .ref ((ad 4 i 1)), .ref ((ad 4 i 2)), .int (nI (T.pc i)), .int (nI (T.us i))] := h.1 3 i 0 ⟨hi, rfl⟩
theorem mm_XTa (h : mm_X σ T z ad) (hi : i < T.nT) : σ (ad 4 i 0) = mm_a8 0 (fun x => if x < 8 then mm_pts T i x else 0) := h.1 4 i 0 ⟨hi, by decide⟩
theorem mm_XTp (h : mm_X σ T z ad) (hi : i < T.nT) : σ (ad 4 i 1) = mm_a8 0 (fun x => if x < 8 then mm_pgs T i x else 0) := h.1 4 i 1 ⟨hi, by decide⟩
theorem mm_XTl (h : mm_X σ T z ad) (hi : i < T.nT) : σ (ad 4 i 2) = mm_a8 0 (fun x => if x < 8 then (mm_ly T i x (T.pc i)).2 else 0) := h.1 4 i 2 ⟨hi, by decide⟩
theorem mm_XR (h : mm_X σ T z ad) (hi : i < T.nR) : σ (ad 5 i 0) = mm_obj 0 3 [.int (nI (T.rb i)), .ref ((ad 6 i 0)), .ref ((ad 6 i 1)), .ref ((ad 6 i 2))] := h.1 5 i 0 ⟨hi, rfl⟩
theorem mm_XE (h : mm_X σ T z ad) (hi : i < T.nR) : σ (ad 6 i 0) = mm_lst 0 ((List.range (T.rp i)).map (fun p => ad 7 i p)) := h.1 6 i 0 ⟨hi, by decide⟩
theorem mm_XQ (h : mm_X σ T z ad) (hi : i < T.nR) : σ (ad 6 i 1) = mm_lst 0 ((mm_po (T.oc i) (T.rc i) (T.rp i)).map (fun p => ad 7 i p)) := h.1 6 i 1 ⟨hi, by decide⟩
theorem mm_XU (h : mm_X σ T z ad) (hi : i < T.nR) : σ (ad 6 i 2) = mm_lst 0 ((mm_pl (mm_fr T i) (T.rp i) 8).map (fun p => ad 7 i p)) := h.1 6 i 2 ⟨hi, by decide⟩
theorem mm_XN (h : mm_X σ T z ad) (hi : i < T.nR) (hj : j < T.rp i) : σ (ad 7 i j) = mm_obj 0 1 [.int (nI j), .ref ((ad 2 j 0)), .int (nI (T.oc i j)), .int (nI (T.rc i j)), .int (nI (T.pg i j)), .int (nI (T.rt i j)), .int (nI (T.bk i j))] := h.1 7 i j ⟨hi, hj⟩
end
theorem mm_mg {L : List Nat} {g : Nat → Nat} {i : Nat} (h : i < L.length) : (L.map g)[i]? = some (g (L.getD i 0)) := by
  rw [List.getElem?_map, mm_gd h]; rfl
theorem c_sz (l : Launch) (b : Nat) (D : mm_D) (hst : l.stackTraces = false) (o a n : Nat) (L : List Nat) (σ : mm_S) (hl0 : σ a = mm_lst o L) (hn : L.length = n) : mm_K l b D yJx4a65c_size_8abf5 (.code yJx4a65c_size_8abf5 cJx4a65c_size_8abf5 1 (some .int)) ({ frames := 0, cells := 0, slots := 0, locals := 0 } : Room) [.ref a] σ (fun v σ2 => v = some (.int (nI n)) ∧ σ2 = σ) (fun _ _ => False) := by
  subst hn
  exact c_ALsize l b D hst o a L σ hl0
set_option maxHeartbeats 4000000 in
set_option maxRecDepth 100000 in
theorem c_addressAt (l : Launch) (b : Nat) (D : mm_D) (hst : l.stackTraces = false) (T : mm_T) (z : mm_Z) (ad : Nat → Nat → Nat → Nat) (σ : mm_S) (hX : mm_X σ T z ad) (hW : mm_WF T) (a : Nat) (ha : a < 2 ^ 32) : mm_K l b D yX6_addressAt (.code yX6_addressAt cX6_addressAt 3 (some (.object "Mailmerge$Address"))) ({ frames := 6, cells := 1, slots := 6, locals := 100 } : Room) [.ref ((ad 0 0 0)), .int (nI a)] σ
    (fun v σ2 => a < T.nA ∧ T.go a = 0 ∧ v = some (.ref (ad 1 a 0)) ∧ σ2 = σ)
    (fun E σ2 => E = "java/lang/IndexOutOfBoundsException" ∧ ¬ (a < T.nA ∧ T.go a = 0) ∧ σ2 = σ) := by
  refine mm_of (cc := cX6_addressAt) (nL := 3) (ret := (some (.object "Mailmerge$Address"))) (by decide) rfl (Nat.le_of_ble_eq_true rfl) hst ?_
  intro p e s m args below meth c ls F ht hr hin hN hl
  have hl : lv_has ls 3 [(0, .ref ((ad 0 0 0))), (1, .int (nI a))] := hl
  have wnA := hW.hnA
  have wnP := hW.hnP
  have wnT := hW.hnT
  have wnR := hW.hnR
  have wpa := hW.hpa
  have wbo := hW.hbo
  have wen0 := hW.hen 0
  have wen1 := hW.hen 1
  refine lv_iload_n (pc := 0) F.1 F.2.1 dX6_addressAt_0 rfl (lv_at hl 1 rfl) ?_
  refine mm_if_ltB (pc := 1) F (tgt := 15) (by omega) dX6_addressAt_1 (by decide) (fun cz1 => ?_) (fun cz1 => ?_)
  ·
    exact mm_throwW F ht hN (by decide) (mm_tIOB mw_354) mw_344 mw_9 (List.mem_of_getElem? (i := 2) rfl) hl.1 dX6_addressAt_15 dX6_addressAt_18 dX6_addressAt_19 dX6_addressAt_22 dX6_addressAt_25 ⟨(Nat.le_of_ble_eq_true rfl), (Nat.le_of_ble_eq_true rfl), (Nat.le_of_ble_eq_true rfl), (Nat.le_of_ble_eq_true rfl)⟩ (⟨rfl, by omega, rfl⟩) (Nat.le_of_ble_eq_true rfl) (Nat.le_of_ble_eq_true rfl)
  ·
    refine lv_iload_n (pc := 4) F.1 F.2.1 dX6_addressAt_4 rfl (lv_at hl 1 rfl) ?_
    refine lv_aload_n (pc := 5) F.1 F.2.1 dX6_addressAt_5 rfl (lv_at hl 0 rfl) ?_
    refine mm_get (pc := 6) F hN (mm_X0 hX) (ci := 6) rfl 0 (by decide) mw_85 rfl dX6_addressAt_6 ?_
    refine mm_runV (pc := 9) (As := []) (rest := [.int (nI a)]) F hN (c_sz l b D hst 0 _ T.nA _ _ (mm_XL1 hX) mm_rgl) mw_196 mw_197 mw_198 mw_4 mw_199 ⟨pmJx4a65c_size_8abf5, (Nat.le_of_ble_eq_true rfl), (Nat.le_of_ble_eq_true rfl)⟩ (mm_recvL F.2.2.2.2.2.1 hN (mm_XL1 hX)) hl.1 rfl (Nat.le_of_ble_eq_true rfl) ⟨(Nat.le_of_ble_eq_true rfl), (Nat.le_of_ble_eq_true rfl)⟩ dX6_addressAt_9
      (fun _ _ _ _ _ _ h9 => False.elim h9)
      (fun v9 σ9 H locs hp9 hN => ?_)
    obtain ⟨rfl, h9⟩ := hp9
    rw [h9] at hN
    refine W.eq (g2 := F0 m 12 ls [.int (nI T.nA), .int (nI a)]) rfl ?_
    refine W.widen (k := 0) (n := 0) (Nat.le_of_ble_eq_true rfl) (Nat.le_of_ble_eq_true rfl) ?_
    refine mm_icmp_ltB (pc := 12) F (x := a) (y := T.nA) (tgt := 26) (by omega) (by omega) dX6_addressAt_12 (by decide) (fun cz12 => ?_) (fun cz12 => ?_)
    ·
      have wgo := hW.had a (by omega)
      refine lv_aload_n (pc := 26) F.1 F.2.1 dX6_addressAt_26 rfl (lv_at hl 0 rfl) ?_
      refine mm_get (pc := 27) F hN (mm_X0 hX) (ci := 6) rfl 0 (by decide) mw_85 rfl dX6_addressAt_27 ?_
      refine lv_iload_n (pc := 30) F.1 F.2.1 dX6_addressAt_30 rfl (lv_at hl 1 rfl) ?_
      refine mm_runV (pc := 31) (As := [.int (nI a)]) (rest := []) F hN (c_ALget l b D hst 0 _ (a) (ad 1 a 0) _ _ (mm_XL1 hX) (mm_rg (by omega))) mw_357 mw_358 mw_359 mw_4 mw_360 ⟨pmJx4a65c_get_915e3, (Nat.le_of_ble_eq_true rfl), (Nat.le_of_ble_eq_true rfl)⟩ (mm_recvL F.2.2.2.2.2.1 hN (mm_XL1 hX)) hl.1 rfl (Nat.le_of_ble_eq_true rfl) ⟨(Nat.le_of_ble_eq_true rfl), (Nat.le_of_ble_eq_true rfl)⟩ dX6_addressAt_31
        (fun _ _ _ _ _ _ h9 => False.elim h9)
        (fun v9 σ9 H locs hp9 hN => ?_)
      obtain ⟨rfl, h9⟩ := hp9
      rw [h9] at hN
      refine W.eq (g2 := F0 m 34 ls [.ref ((ad 1 a 0))]) rfl ?_
      refine W.widen (k := 0) (n := 0) (Nat.le_of_ble_eq_true rfl) (Nat.le_of_ble_eq_true rfl) ?_
      refine mm_cast (pc := 34) F hN (mm_XA hX (i := a) (by omega)) (ci := 0) rfl mw_216 dX6_addressAt_34 ?_
      refine lv_astore_n (pc := 37) (lv' := [(2, .ref ((ad 1 a 0))), (0, .ref ((ad 0 0 0))), (1, .int (nI a))]) F.1 F.2.1 dX6_addressAt_37 rfl hl (by decide) rfl (fun ls hl => ?_)
      refine lv_aload_n (pc := 38) F.1 F.2.1 dX6_addressAt_38 rfl (lv_at hl 0 rfl) ?_
      refine mm_get (pc := 39) F hN (mm_XA hX (i := a) (by omega)) (ci := 0) rfl 3 (by decide) mw_228 rfl dX6_addressAt_39 ?_
      refine mm_if_eq (pc := 42) F (tgt := 56) (by omega) dX6_addressAt_42 (by decide) (fun cz42 => ?_) (fun cz42 => ?_)
      ·
        refine lv_aload_n (pc := 56) F.1 F.2.1 dX6_addressAt_56 rfl (lv_at hl 0 rfl) ?_
        exact mm_aret (pc := 57) F hr (Or.inl ⟨_, rfl⟩) hN (⟨by omega, cz42, rfl, rfl⟩) (Nat.le_of_ble_eq_true rfl) (Nat.le_of_ble_eq_true rfl) dX6_addressAt_57
      ·
        exact mm_throwW F ht hN (by decide) (mm_tIOB mw_354) mw_344 mw_9 (List.mem_of_getElem? (i := 3) rfl) hl.1 dX6_addressAt_45 dX6_addressAt_48 dX6_addressAt_49 dX6_addressAt_52 dX6_addressAt_55 ⟨(Nat.le_of_ble_eq_true rfl), (Nat.le_of_ble_eq_true rfl), (Nat.le_of_ble_eq_true rfl), (Nat.le_of_ble_eq_true rfl)⟩ (⟨rfl, by omega, rfl⟩) (Nat.le_of_ble_eq_true rfl) (Nat.le_of_ble_eq_true rfl)
    ·
      exact mm_throwW F ht hN (by decide) (mm_tIOB mw_354) mw_344 mw_9 (List.mem_of_getElem? (i := 2) rfl) hl.1 dX6_addressAt_15 dX6_addressAt_18 dX6_addressAt_19 dX6_addressAt_22 dX6_addressAt_25 ⟨(Nat.le_of_ble_eq_true rfl), (Nat.le_of_ble_eq_true rfl), (Nat.le_of_ble_eq_true rfl), (Nat.le_of_ble_eq_true rfl)⟩ (⟨rfl, by omega, rfl⟩) (Nat.le_of_ble_eq_true rfl) (Nat.le_of_ble_eq_true rfl)

set_option maxHeartbeats 4000000 in
set_option maxRecDepth 100000 in
theorem c_personAt (l : Launch) (b : Nat) (D : mm_D) (hst : l.stackTraces = false) (T : mm_T) (z : mm_Z) (ad : Nat → Nat → Nat → Nat) (σ : mm_S) (hX : mm_X σ T z ad) (hW : mm_WF T) (a : Nat) (ha : a < 2 ^ 32) : mm_K l b D yX6_personAt (.code yX6_personAt cX6_personAt 2 (some (.object "Mailmerge$Person"))) ({ frames := 6, cells := 1, slots := 6, locals := 100 } : Room) [.ref ((ad 0 0 0)), .int (nI a)] σ
    (fun v σ2 => a < T.nP ∧ v = some (.ref (ad 2 a 0)) ∧ σ2 = σ)
    (fun E σ2 => E = "java/lang/IndexOutOfBoundsException" ∧ ¬ (a < T.nP) ∧ σ2 = σ) := by
  refine mm_of (cc := cX6_personAt) (nL := 2) (ret := (some (.object "Mailmerge$Person"))) (by decide) rfl (Nat.le_of_ble_eq_true rfl) hst ?_
  intro p e s m args below meth c ls F ht hr hin hN hl
  have hl : lv_has ls 2 [(0, .ref ((ad 0 0 0))), (1, .int (nI a))] := hl
  have wnA := hW.hnA
  have wnP := hW.hnP
  have wnT := hW.hnT
  have wnR := hW.hnR
  have wpa := hW.hpa
  have wbo := hW.hbo
  have wen0 := hW.hen 0
  have wen1 := hW.hen 1
  refine lv_iload_n (pc := 0) F.1 F.2.1 dX6_personAt_0 rfl (lv_at hl 1 rfl) ?_
  refine mm_if_ltB (pc := 1) F (tgt := 15) (by omega) dX6_personAt_1 (by decide) (fun cz1 => ?_) (fun cz1 => ?_)
  ·
    exact mm_throwW F ht hN (by decide) (mm_tIOB mw_354) mw_344 mw_9 (List.mem_of_getElem? (i := 7) rfl) hl.1 dX6_personAt_15 dX6_personAt_18 dX6_personAt_19 dX6_personAt_22 dX6_personAt_25 ⟨(Nat.le_of_ble_eq_true rfl), (Nat.le_of_ble_eq_true rfl), (Nat.le_of_ble_eq_true rfl), (Nat.le_of_ble_eq_true rfl)⟩ (⟨rfl, by omega, rfl⟩) (Nat.le_of_ble_eq_true rfl) (Nat.le_of_ble_eq_true rfl)
  ·
    refine lv_iload_n (pc := 4) F.1 F.2.1 dX6_personAt_4 rfl (lv_at hl 1 rfl) ?_
    refine lv_aload_n (pc := 5) F.1 F.2.1 dX6_personAt_5 rfl (lv_at hl 0 rfl) ?_
    refine mm_get (pc := 6) F hN (mm_X0 hX) (ci := 6) rfl 1 (by decide) mw_86 rfl dX6_personAt_6 ?_
    refine mm_runV (pc := 9) (As := []) (rest := [.int (nI a)]) F hN (c_sz l b D hst 0 _ T.nP _ _ (mm_XL2 hX) mm_rgl) mw_196 mw_197 mw_198 mw_4 mw_199 ⟨pmJx4a65c_size_8abf5, (Nat.le_of_ble_eq_true rfl), (Nat.le_of_ble_eq_true rfl)⟩ (mm_recvL F.2.2.2.2.2.1 hN (mm_XL2 hX)) hl.1 rfl (Nat.le_of_ble_eq_true rfl) ⟨(Nat.le_of_ble_eq_true rfl), (Nat.le_of_ble_eq_true rfl)⟩ dX6_personAt_9
      (fun _ _ _ _ _ _ h9 => False.elim h9)
      (fun v9 σ9 H locs hp9 hN => ?_)
    obtain ⟨rfl, h9⟩ := hp9
    rw [h9] at hN
    refine W.eq (g2 := F0 m 12 ls [.int (nI T.nP), .int (nI a)]) rfl ?_
    refine W.widen (k := 0) (n := 0) (Nat.le_of_ble_eq_true rfl) (Nat.le_of_ble_eq_true rfl) ?_
    refine mm_icmp_ltB (pc := 12) F (x := a) (y := T.nP) (tgt := 26) (by omega) (by omega) dX6_personAt_12 (by decide) (fun cz12 => ?_) (fun cz12 => ?_)
    ·
      refine lv_aload_n (pc := 26) F.1 F.2.1 dX6_personAt_26 rfl (lv_at hl 0 rfl) ?_
      refine mm_get (pc := 27) F hN (mm_X0 hX) (ci := 6) rfl 1 (by decide) mw_86 rfl dX6_personAt_27 ?_
      refine lv_iload_n (pc := 30) F.1 F.2.1 dX6_personAt_30 rfl (lv_at hl 1 rfl) ?_
      refine mm_runV (pc := 31) (As := [.int (nI a)]) (rest := []) F hN (c_ALget l b D hst 0 _ (a) (ad 2 a 0) _ _ (mm_XL2 hX) (mm_rg (by omega))) mw_357 mw_358 mw_359 mw_4 mw_360 ⟨pmJx4a65c_get_915e3, (Nat.le_of_ble_eq_true rfl), (Nat.le_of_ble_eq_true rfl)⟩ (mm_recvL F.2.2.2.2.2.1 hN (mm_XL2 hX)) hl.1 rfl (Nat.le_of_ble_eq_true rfl) ⟨(Nat.le_of_ble_eq_true rfl), (Nat.le_of_ble_eq_true rfl)⟩ dX6_personAt_31
        (fun _ _ _ _ _ _ h9 => False.elim h9)
        (fun v9 σ9 H locs hp9 hN => ?_)
      obtain ⟨rfl, h9⟩ := hp9
      rw [h9] at hN
      refine W.eq (g2 := F0 m 34 ls [.ref ((ad 2 a 0))]) rfl ?_
      refine W.widen (k := 0) (n := 0) (Nat.le_of_ble_eq_true rfl) (Nat.le_of_ble_eq_true rfl) ?_
      refine mm_cast (pc := 34) F hN (mm_XP hX (i := a) (by omega)) (ci := 2) rfl mw_373 dX6_personAt_34 ?_
      exact mm_aret (pc := 37) F hr (Or.inl ⟨_, rfl⟩) hN (⟨by omega, rfl, rfl⟩) (Nat.le_of_ble_eq_true rfl) (Nat.le_of_ble_eq_true rfl) dX6_personAt_37
    ·
      exact mm_throwW F ht hN (by decide) (mm_tIOB mw_354) mw_344 mw_9 (List.mem_of_getElem? (i := 7) rfl) hl.1 dX6_personAt_15 dX6_personAt_18 dX6_personAt_19 dX6_personAt_22 dX6_personAt_25 ⟨(Nat.le_of_ble_eq_true rfl), (Nat.le_of_ble_eq_true rfl), (Nat.le_of_ble_eq_true rfl), (Nat.le_of_ble_eq_true rfl)⟩ (⟨rfl, by omega, rfl⟩) (Nat.le_of_ble_eq_true rfl) (Nat.le_of_ble_eq_true rfl)

set_option maxHeartbeats 4000000 in
set_option maxRecDepth 100000 in
theorem c_templateAt (l : Launch) (b : Nat) (D : mm_D) (hst : l.stackTraces = false) (T : mm_T) (z : mm_Z) (ad : Nat → Nat → Nat → Nat) (σ : mm_S) (hX : mm_X σ T z ad) (hW : mm_WF T) (a : Nat) (ha : a < 2 ^ 32) : mm_K l b D yX6_templateAt (.code yX6_templateAt cX6_templateAt 2 (some (.object "Mailmerge$Template"))) ({ frames := 6, cells := 1, slots := 6, locals := 100 } : Room) [.ref ((ad 0 0 0)), .int (nI a)] σ
    (fun v σ2 => a < T.nT ∧ v = some (.ref (ad 3 a 0)) ∧ σ2 = σ)
    (fun E σ2 => E = "java/lang/IndexOutOfBoundsException" ∧ ¬ (a < T.nT) ∧ σ2 = σ) := by
  refine mm_of (cc := cX6_templateAt) (nL := 2) (ret := (some (.object "Mailmerge$Template"))) (by decide) rfl (Nat.le_of_ble_eq_true rfl) hst ?_
  intro p e s m args below meth c ls F ht hr hin hN hl
  have hl : lv_has ls 2 [(0, .ref ((ad 0 0 0))), (1, .int (nI a))] := hl
  have wnA := hW.hnA
  have wnP := hW.hnP
  have wnT := hW.hnT
  have wnR := hW.hnR
  have wpa := hW.hpa
  have wbo := hW.hbo
  have wen0 := hW.hen 0
  have wen1 := hW.hen 1
  refine lv_iload_n (pc := 0) F.1 F.2.1 dX6_templateAt_0 rfl (lv_at hl 1 rfl) ?_
  refine mm_if_ltB (pc := 1) F (tgt := 15) (by omega) dX6_templateAt_1 (by decide) (fun cz1 => ?_) (fun cz1 => ?_)
  ·
    exact mm_throwW F ht hN (by decide) (mm_tIOB mw_354) mw_344 mw_9 (List.mem_of_getElem? (i := 11) rfl) hl.1 dX6_templateAt_15 dX6_templateAt_18 dX6_templateAt_19 dX6_templateAt_22 dX6_templateAt_25 ⟨(Nat.le_of_ble_eq_true rfl), (Nat.le_of_ble_eq_true rfl), (Nat.le_of_ble_eq_true rfl), (Nat.le_of_ble_eq_true rfl)⟩ (⟨rfl, by omega, rfl⟩) (Nat.le_of_ble_eq_true rfl) (Nat.le_of_ble_eq_true rfl)
  ·
    refine lv_iload_n (pc := 4) F.1 F.2.1 dX6_templateAt_4 rfl (lv_at hl 1 rfl) ?_
    refine lv_aload_n (pc := 5) F.1 F.2.1 dX6_templateAt_5 rfl (lv_at hl 0 rfl) ?_
    refine mm_get (pc := 6) F hN (mm_X0 hX) (ci := 6) rfl 2 (by decide) mw_87 rfl dX6_templateAt_6 ?_
    refine mm_runV (pc := 9) (As := []) (rest := [.int (nI a)]) F hN (c_sz l b D hst 0 _ T.nT _ _ (mm_XL3 hX) mm_rgl) mw_196 mw_197 mw_198 mw_4 mw_199 ⟨pmJx4a65c_size_8abf5, (Nat.le_of_ble_eq_true rfl), (Nat.le_of_ble_eq_true rfl)⟩ (mm_recvL F.2.2.2.2.2.1 hN (mm_XL3 hX)) hl.1 rfl (Nat.le_of_ble_eq_true rfl) ⟨(Nat.le_of_ble_eq_true rfl), (Nat.le_of_ble_eq_true rfl)⟩ dX6_templateAt_9
      (fun _ _ _ _ _ _ h9 => False.elim h9)
      (fun v9 σ9 H locs hp9 hN => ?_)
    obtain ⟨rfl, h9⟩ := hp9
    rw [h9] at hN
    refine W.eq (g2 := F0 m 12 ls [.int (nI T.nT), .int (nI a)]) rfl ?_
    refine W.widen (k := 0) (n := 0) (Nat.le_of_ble_eq_true rfl) (Nat.le_of_ble_eq_true rfl) ?_
    refine mm_icmp_ltB (pc := 12) F (x := a) (y := T.nT) (tgt := 26) (by omega) (by omega) dX6_templateAt_12 (by decide) (fun cz12 => ?_) (fun cz12 => ?_)
    ·
      refine lv_aload_n (pc := 26) F.1 F.2.1 dX6_templateAt_26 rfl (lv_at hl 0 rfl) ?_
      refine mm_get (pc := 27) F hN (mm_X0 hX) (ci := 6) rfl 2 (by decide) mw_87 rfl dX6_templateAt_27 ?_
      refine lv_iload_n (pc := 30) F.1 F.2.1 dX6_templateAt_30 rfl (lv_at hl 1 rfl) ?_
      refine mm_runV (pc := 31) (As := [.int (nI a)]) (rest := []) F hN (c_ALget l b D hst 0 _ (a) (ad 3 a 0) _ _ (mm_XL3 hX) (mm_rg (by omega))) mw_357 mw_358 mw_359 mw_4 mw_360 ⟨pmJx4a65c_get_915e3, (Nat.le_of_ble_eq_true rfl), (Nat.le_of_ble_eq_true rfl)⟩ (mm_recvL F.2.2.2.2.2.1 hN (mm_XL3 hX)) hl.1 rfl (Nat.le_of_ble_eq_true rfl) ⟨(Nat.le_of_ble_eq_true rfl), (Nat.le_of_ble_eq_true rfl)⟩ dX6_templateAt_31
        (fun _ _ _ _ _ _ h9 => False.elim h9)
        (fun v9 σ9 H locs hp9 hN => ?_)
      obtain ⟨rfl, h9⟩ := hp9
      rw [h9] at hN
      refine W.eq (g2 := F0 m 34 ls [.ref ((ad 3 a 0))]) rfl ?_
      refine W.widen (k := 0) (n := 0) (Nat.le_of_ble_eq_true rfl) (Nat.le_of_ble_eq_true rfl) ?_
      refine mm_cast (pc := 34) F hN (mm_XT hX (i := a) (by omega)) (ci := 5) rfl mw_461 dX6_templateAt_34 ?_
      exact mm_aret (pc := 37) F hr (Or.inl ⟨_, rfl⟩) hN (⟨by omega, rfl, rfl⟩) (Nat.le_of_ble_eq_true rfl) (Nat.le_of_ble_eq_true rfl) dX6_templateAt_37
    ·
      exact mm_throwW F ht hN (by decide) (mm_tIOB mw_354) mw_344 mw_9 (List.mem_of_getElem? (i := 11) rfl) hl.1 dX6_templateAt_15 dX6_templateAt_18 dX6_templateAt_19 dX6_templateAt_22 dX6_templateAt_25 ⟨(Nat.le_of_ble_eq_true rfl), (Nat.le_of_ble_eq_true rfl), (Nat.le_of_ble_eq_true rfl), (Nat.le_of_ble_eq_true rfl)⟩ (⟨rfl, by omega, rfl⟩) (Nat.le_of_ble_eq_true rfl) (Nat.le_of_ble_eq_true rfl)

set_option maxHeartbeats 4000000 in
set_option maxRecDepth 100000 in
theorem c_runAt (l : Launch) (b : Nat) (D : mm_D) (hst : l.stackTraces = false) (T : mm_T) (z : mm_Z) (ad : Nat → Nat → Nat → Nat) (σ : mm_S) (hX : mm_X σ T z ad) (hW : mm_WF T) (a : Nat) (ha : a < 2 ^ 32) : mm_K l b D yX6_runAt (.code yX6_runAt cX6_runAt 2 (some (.object "Mailmerge$Run"))) ({ frames := 6, cells := 1, slots := 6, locals := 100 } : Room) [.ref ((ad 0 0 0)), .int (nI a)] σ
    (fun v σ2 => a < T.nR ∧ v = some (.ref (ad 5 a 0)) ∧ σ2 = σ)
    (fun E σ2 => E = "java/lang/IndexOutOfBoundsException" ∧ ¬ (a < T.nR) ∧ σ2 = σ) := by
  refine mm_of (cc := cX6_runAt) (nL := 2) (ret := (some (.object "Mailmerge$Run"))) (by decide) rfl (Nat.le_of_ble_eq_true rfl) hst ?_
  intro p e s m args below meth c ls F ht hr hin hN hl
  have hl : lv_has ls 2 [(0, .ref ((ad 0 0 0))), (1, .int (nI a))] := hl
  have wnA := hW.hnA
  have wnP := hW.hnP
  have wnT := hW.hnT
  have wnR := hW.hnR
  have wpa := hW.hpa
  have wbo := hW.hbo
  have wen0 := hW.hen 0
  have wen1 := hW.hen 1
  refine lv_iload_n (pc := 0) F.1 F.2.1 dX6_runAt_0 rfl (lv_at hl 1 rfl) ?_
  refine mm_if_ltB (pc := 1) F (tgt := 15) (by omega) dX6_runAt_1 (by decide) (fun cz1 => ?_) (fun cz1 => ?_)
  ·
    exact mm_throwW F ht hN (by decide) (mm_tIOB mw_354) mw_344 mw_9 (List.mem_of_getElem? (i := 17) rfl) hl.1 dX6_runAt_15 dX6_runAt_18 dX6_runAt_19 dX6_runAt_22 dX6_runAt_25 ⟨(Nat.le_of_ble_eq_true rfl), (Nat.le_of_ble_eq_true rfl), (Nat.le_of_ble_eq_true rfl), (Nat.le_of_ble_eq_true rfl)⟩ (⟨rfl, by omega, rfl⟩) (Nat.le_of_ble_eq_true rfl) (Nat.le_of_ble_eq_true rfl)
  ·
    refine lv_iload_n (pc := 4) F.1 F.2.1 dX6_runAt_4 rfl (lv_at hl 1 rfl) ?_
    refine lv_aload_n (pc := 5) F.1 F.2.1 dX6_runAt_5 rfl (lv_at hl 0 rfl) ?_
    refine mm_get (pc := 6) F hN (mm_X0 hX) (ci := 6) rfl 3 (by decide) mw_88 rfl dX6_runAt_6 ?_
    refine mm_runV (pc := 9) (As := []) (rest := [.int (nI a)]) F hN (c_sz l b D hst 0 _ T.nR _ _ (mm_XL4 hX) mm_rgl) mw_196 mw_197 mw_198 mw_4 mw_199 ⟨pmJx4a65c_size_8abf5, (Nat.le_of_ble_eq_true rfl), (Nat.le_of_ble_eq_true rfl)⟩ (mm_recvL F.2.2.2.2.2.1 hN (mm_XL4 hX)) hl.1 rfl (Nat.le_of_ble_eq_true rfl) ⟨(Nat.le_of_ble_eq_true rfl), (Nat.le_of_ble_eq_true rfl)⟩ dX6_runAt_9
      (fun _ _ _ _ _ _ h9 => False.elim h9)
      (fun v9 σ9 H locs hp9 hN => ?_)
    obtain ⟨rfl, h9⟩ := hp9
    rw [h9] at hN
    refine W.eq (g2 := F0 m 12 ls [.int (nI T.nR), .int (nI a)]) rfl ?_
    refine W.widen (k := 0) (n := 0) (Nat.le_of_ble_eq_true rfl) (Nat.le_of_ble_eq_true rfl) ?_
    refine mm_icmp_ltB (pc := 12) F (x := a) (y := T.nR) (tgt := 26) (by omega) (by omega) dX6_runAt_12 (by decide) (fun cz12 => ?_) (fun cz12 => ?_)
    ·
      refine lv_aload_n (pc := 26) F.1 F.2.1 dX6_runAt_26 rfl (lv_at hl 0 rfl) ?_
      refine mm_get (pc := 27) F hN (mm_X0 hX) (ci := 6) rfl 3 (by decide) mw_88 rfl dX6_runAt_27 ?_
      refine lv_iload_n (pc := 30) F.1 F.2.1 dX6_runAt_30 rfl (lv_at hl 1 rfl) ?_
      refine mm_runV (pc := 31) (As := [.int (nI a)]) (rest := []) F hN (c_ALget l b D hst 0 _ (a) (ad 5 a 0) _ _ (mm_XL4 hX) (mm_rg (by omega))) mw_357 mw_358 mw_359 mw_4 mw_360 ⟨pmJx4a65c_get_915e3, (Nat.le_of_ble_eq_true rfl), (Nat.le_of_ble_eq_true rfl)⟩ (mm_recvL F.2.2.2.2.2.1 hN (mm_XL4 hX)) hl.1 rfl (Nat.le_of_ble_eq_true rfl) ⟨(Nat.le_of_ble_eq_true rfl), (Nat.le_of_ble_eq_true rfl)⟩ dX6_runAt_31
        (fun _ _ _ _ _ _ h9 => False.elim h9)
        (fun v9 σ9 H locs hp9 hN => ?_)
      obtain ⟨rfl, h9⟩ := hp9
      rw [h9] at hN
      refine W.eq (g2 := F0 m 34 ls [.ref ((ad 5 a 0))]) rfl ?_
      refine W.widen (k := 0) (n := 0) (Nat.le_of_ble_eq_true rfl) (Nat.le_of_ble_eq_true rfl) ?_
      refine mm_cast (pc := 34) F hN (mm_XR hX (i := a) (by omega)) (ci := 3) rfl mw_571 dX6_runAt_34 ?_
      exact mm_aret (pc := 37) F hr (Or.inl ⟨_, rfl⟩) hN (⟨by omega, rfl, rfl⟩) (Nat.le_of_ble_eq_true rfl) (Nat.le_of_ble_eq_true rfl) dX6_runAt_37
    ·
      exact mm_throwW F ht hN (by decide) (mm_tIOB mw_354) mw_344 mw_9 (List.mem_of_getElem? (i := 17) rfl) hl.1 dX6_runAt_15 dX6_runAt_18 dX6_runAt_19 dX6_runAt_22 dX6_runAt_25 ⟨(Nat.le_of_ble_eq_true rfl), (Nat.le_of_ble_eq_true rfl), (Nat.le_of_ble_eq_true rfl), (Nat.le_of_ble_eq_true rfl)⟩ (⟨rfl, by omega, rfl⟩) (Nat.le_of_ble_eq_true rfl) (Nat.le_of_ble_eq_true rfl)

