/-! what a run leaves -/
def mm_rw (f : Nat → Nat → Nat) (r n : Nat) (g : Nat → Nat) : Nat → Nat → Nat := fun a j => if a = r ∧ j < n then g j else f a j
theorem mm_rw_row {f : Nat → Nat → Nat} {r n a : Nat} {g : Nat → Nat} (h : a ≠ r) : mm_rw f r n g a = f a := by
  funext j
  exact if_neg (fun e => h e.1)
theorem mm_rw_at {f : Nat → Nat → Nat} {r n j : Nat} {g : Nat → Nat} (h : j < n) : mm_rw f r n g r j = g j := if_pos ⟨rfl, h⟩
/-- the strikes, where the first i addresses have kept their drafts -/
def mm_ke (T : mm_T) (i : Nat) : Nat → Nat → Nat := fun a j => if a < i ∧ j = 0 ∧ mm_ends T a = true then 0 else T 2 a j
theorem mm_ke0 {T : mm_T} : T.w 2 (mm_ke T 0) = T := mm_ws (by
  funext p j
  exact if_neg (fun e => absurd e.1 (Nat.not_lt_zero _)))
theorem mm_ke1 {T : mm_T} {i v : Nat} (h : v = (if mm_ends T i = true then 0 else T.sk i)) : mm_u2 (mm_ke T i) i 0 v = mm_ke T (i + 1) := by
  funext p j
  by_cases e : p = i ∧ j = 0
  · obtain ⟨rfl, rfl⟩ := e
    rw [mm_u2_at, h, mm_ke]
    by_cases g : mm_ends T p = true
    · rw [if_pos g, if_pos ⟨Nat.lt_succ_self _, rfl, g⟩]
    · rw [if_neg g, if_neg (fun q => g q.2.2)]
  · rw [mm_u2, if_neg e, mm_ke, mm_ke]
    by_cases g : p < i ∧ j = 0 ∧ mm_ends T p = true
    · rw [if_pos g, if_pos ⟨Nat.lt_succ_of_lt g.1, g.2⟩]
    · rw [if_neg g, if_neg (fun q => g ⟨by
        have := q.1
        have : p ≠ i := fun z => e ⟨z, q.2.1⟩
        omega, q.2⟩)]
def mm_rPs (T : mm_T) (t hh p : Nat) : Nat := mm_cf (mm_sm (fun q => if mm_oc T t hh q = 108 ∧ T.co (T.ho q) / 10 = T.co (T.ho p) / 10 then 1 else 0) T.nP) T.bo (mm_pgs T t (T.fl p))
abbrev mm_tq1 (T : mm_T) : mm_T := T.w 2 (mm_ke T T.nA)
abbrev mm_tq2 (T : mm_T) (a c e : Nat) : mm_T := (T.w 0 (mm_u2 (T 0) 4 0 a)).w 12 (mm_u2 (mm_u2 (T 12) 0 0 c) 1 0 e)
/-- the numbers before the run is kept -/
def mm_tqA (T : mm_T) (t hh : Nat) : mm_T := (mm_tq2 (mm_tq1 T) (mm_lf T t hh T.nP).1 (mm_lf T t hh T.nP).2.1 (mm_lf T t hh T.nP).2.2).w 11 (mm_u2 (T 11) t 0 1)
def mm_t_run (T : mm_T) (t hh : Nat) : mm_T :=
  (((((((((mm_tqA T t hh).w 0 (mm_u2 (mm_u2 (T 0) 4 0 (mm_lf T t hh T.nP).1) 3 0 (T.nR + 1))).w 13 (mm_u2 (T 13) T.nR 0 T.nP)).w 20 (mm_u2 (T 20) T.nR 0 T.bo)).w 14 (mm_rw (T 14) T.nR T.nP (mm_oc T t hh))).w 15
    (mm_rw (T 15) T.nR T.nP (fun p => mm_pgs T t (T.fl p)))).w 16 (mm_rw (T 16) T.nR T.nP (fun p => T.co (T.ho p)))).w 17 (mm_rw (T 17) T.nR T.nP (fun p => mm_pts T t (T.fl p)))).w 18 (mm_rw (T 18) T.nR T.nP (mm_rPs T t hh))).w 19 (mm_rw (T 19) T.nR T.nP (fun _ => 0))
theorem mm_v5b {T : mm_T} {z : mm_Z} {ad : Nat → Nat → Nat → Nat} {a c e : Nat} : ∀ k' i' j', mm_lv T k' i' j' → ¬ (k' = 0 ∧ i' = 5 ∧ j' = 0) → mm_ct (mm_tq2 T a c e) z ad k' i' j' = mm_ct T z ad k' i' j'
  | 0, 0, j', hl, hn => rfl
  | 0, 1, j', hl, hn => rfl
  | 0, 2, j', hl, hn => rfl
  | 0, 3, j', hl, hn => rfl
  | 0, 4, j', hl, hn => rfl
  | 0, 5, j', hl, hn => absurd ⟨rfl, rfl, hl.2⟩ hn
  | 0, 6, j', hl, hn => rfl
  | 0, 7, j', hl, hn => rfl
  | 0, i' + 8, j', hl, hn => absurd hl.1 (by omega)
  | 1, i', j', hl, hn => rfl
  | 2, i', j', hl, hn => rfl
  | 3, i', j', hl, hn => rfl
  | 4, i', j', hl, hn => rfl
  | 5, i', j', hl, hn => rfl
  | 6, i', j', hl, hn => rfl
  | 7, i', j', hl, hn => rfl
  | n + 8, i', j', hl, hn => False.elim hl
/-- the places of a new run -/
def mm_aR (ad : Nat → Nat → Nat → Nat) (n q0 eL pL qL : Nat) (en : Nat → Nat) : Nat → Nat → Nat → Nat := fun k i j => if k = 5 ∧ i = n ∧ j = 0 then q0 else if k = 6 ∧ i = n then (if j = 0 then eL else if j = 1 then pL else qL) else if k = 7 ∧ i = n then en j else ad k i j
section
variable {ad : Nat → Nat → Nat → Nat} {n q0 eL pL qL k i j : Nat} {en : Nat → Nat}
theorem mm_aR5 : mm_aR ad n q0 eL pL qL en 5 n 0 = q0 := if_pos ⟨rfl, rfl, rfl⟩
theorem mm_aR6 : mm_aR ad n q0 eL pL qL en 6 n j = (if j = 0 then eL else if j = 1 then pL else qL) := by
  rw [mm_aR, if_neg (fun e => absurd e.1 (by decide)), if_pos ⟨rfl, rfl⟩]
theorem mm_aR7 : mm_aR ad n q0 eL pL qL en 7 n j = en j := by
  rw [mm_aR, if_neg (fun e => absurd e.1 (by decide)), if_neg (fun e => absurd e.1 (by decide)), if_pos ⟨rfl, rfl⟩]
theorem mm_aRn (h : i ≠ n) : mm_aR ad n q0 eL pL qL en k i j = ad k i j := by
  rw [mm_aR, if_neg (fun e => h e.2.1), if_neg (fun e => h e.2), if_neg (fun e => h e.2)]
theorem mm_aRk (h5 : k ≠ 5) (h6 : k ≠ 6) (h7 : k ≠ 7) : mm_aR ad n q0 eL pL qL en k i j = ad k i j := by
  rw [mm_aR, if_neg (fun e => h5 e.1), if_neg (fun e => h6 e.1), if_neg (fun e => h7 e.1)]
end
section
variable {T : mm_T} {t hh r : Nat}
theorem mm_tr_o (h : r ≠ T.nR) : (mm_t_run T t hh).oc r = T.oc r ∧ (mm_t_run T t hh).rc r = T.rc r ∧ (mm_t_run T t hh).pg r = T.pg r ∧ (mm_t_run T t hh).rt r = T.rt r ∧ (mm_t_run T t hh).bk r = T.bk r ∧ (mm_t_run T t hh).ps r = T.ps r ∧ (mm_t_run T t hh).rp r = T.rp r ∧ (mm_t_run T t hh).rb r = T.rb r :=
  ⟨mm_rw_row h, mm_rw_row h, mm_rw_row h, mm_rw_row h, mm_rw_row h, mm_rw_row h, if_neg (fun e => h e.1), if_neg (fun e => h e.1)⟩
theorem mm_tr_n {p : Nat} (h : p < T.nP) : (mm_t_run T t hh).oc T.nR p = mm_oc T t hh p ∧ (mm_t_run T t hh).rc T.nR p = T.co (T.ho p) ∧ (mm_t_run T t hh).pg T.nR p = mm_pgs T t (T.fl p) ∧ (mm_t_run T t hh).rt T.nR p = mm_pts T t (T.fl p) ∧ (mm_t_run T t hh).bk T.nR p = 0 ∧ (mm_t_run T t hh).ps T.nR p = mm_rPs T t hh p :=
  ⟨mm_rw_at h, mm_rw_at (g := fun p => T.co (T.ho p)) h, mm_rw_at (g := fun p => mm_pgs T t (T.fl p)) h, mm_rw_at (g := fun p => mm_pts T t (T.fl p)) h, mm_rw_at (g := fun _ => 0) h, mm_rw_at h⟩
theorem mm_tr_r : (mm_t_run T t hh).rp T.nR = T.nP ∧ (mm_t_run T t hh).rb T.nR = T.bo := ⟨if_pos ⟨rfl, rfl⟩, if_pos ⟨rfl, rfl⟩⟩
end
theorem mm_it_cg {f g : Nat → Nat → Nat} (h2 : f 2 = g 2) (h5 : f 5 = g 5) (se : Nat) : mm_it f se = mm_it g se := by
  funext i
  unfold mm_it
  rw [h2, h5]
theorem mm_pl_cg {f g : Nat → Nat → Nat} (h2 : f 2 = g 2) (h5 : f 5 = g 5) (n : Nat) : ∀ k, mm_hd f n k = mm_hd g n k ∧ mm_pl f n k = mm_pl g n k
  | 0 => ⟨rfl, rfl⟩
  | k + 1 => by
    obtain ⟨i1, i2⟩ := mm_pl_cg h2 h5 n k
    refine ⟨?_, ?_⟩
    · show (if (mm_bs (mm_it f (mm_hd f n k)) n).1 = 0 then mm_hd f n k else mm_hd f n k ||| f 5 ((mm_bs (mm_it f (mm_hd f n k)) n).1 - 1)) = (if (mm_bs (mm_it g (mm_hd g n k)) n).1 = 0 then mm_hd g n k else mm_hd g n k ||| g 5 ((mm_bs (mm_it g (mm_hd g n k)) n).1 - 1))
      rw [i1, mm_it_cg h2 h5, h5]
    · show (if (mm_bs (mm_it f (mm_hd f n k)) n).1 = 0 then mm_pl f n k else mm_pl f n k ++ [(mm_bs (mm_it f (mm_hd f n k)) n).1 - 1]) = (if (mm_bs (mm_it g (mm_hd g n k)) n).1 = 0 then mm_pl g n k else mm_pl g n k ++ [(mm_bs (mm_it g (mm_hd g n k)) n).1 - 1])
      rw [i1, i2, mm_it_cg h2 h5]
/-- a run that is being made -/
def mm_R (σ : mm_S) (T' : mm_T) (ad : Nat → Nat → Nat → Nat) (r q0 eL pL qL : Nat) (L3 : List Nat) (en : Nat → Nat) (i : Nat) : Prop :=
  σ q0 = mm_obj 0 3 [.int (nI (T'.rb r)), .ref eL, .ref pL, .ref qL] ∧ σ eL = mm_lst 0 ((List.range i).map en) ∧ σ pL = mm_lst 0 ((mm_po (T'.oc r) (T'.rc r) i).map en) ∧ σ qL = mm_lst 0 L3 ∧ ∀ p, p < i → σ (en p) = mm_eo 0 (mm_fa T' ad r) p
theorem mm_R_en {σ : mm_S} {T' : mm_T} {ad : Nat → Nat → Nat → Nat} {r i : Nat} {en : Nat → Nat} (h : ∀ p, p < i → σ (en p) = mm_eo 0 (mm_fa T' ad r) p) (hB : ∀ p, p < i → T'.oc r p < 65536 ∧ T'.rc r p < 100 ∧ T'.pg r p ≤ 8 ∧ T'.rt r p < 256 ∧ T'.bk r p < 2) {M : List Nat} (hM : ∀ p ∈ M, p < i) (hn : M.length ≤ 24) :
    mm_en σ 0 (M.map en) (fun k c => mm_fa T' ad r k (M.getD c 0)) := by
  refine ⟨by rw [List.length_map]; exact hn, fun c hc => ?_⟩
  rw [List.length_map] at hc
  have hp := hM _ (mm_gmem hc)
  obtain ⟨w1, w2, w3, w4, w5⟩ := hB _ hp
  rw [mm_gdm hc]
  exact ⟨h _ hp, w1, w2, Nat.lt_of_le_of_lt w3 (by decide), w4, w5⟩
theorem mm_map_ins (g : Nat → Nat) (x : Nat) : ∀ (L : List Nat) (k : Nat), (L.insertIdx k x).map g = (L.map g).insertIdx k (g x)
  | L, 0 => by rw [List.insertIdx_zero, List.insertIdx_zero, List.map_cons]
  | [], k + 1 => rfl
  | a :: L, k + 1 => by rw [List.insertIdx_succ_cons, List.map_cons, List.map_cons, List.insertIdx_succ_cons, mm_map_ins g x L k]
theorem mm_X_fr {σb σ : mm_S} {T Tb : mm_T} {z zb : mm_Z} {ad : Nat → Nat → Nat → Nat} (hb : mm_X σb Tb zb ad) (hv : mm_lv T = mm_lv Tb) (h : mm_X σ T z ad) {a : Nat} {x : Option (Nat × mm_e)} (ha : σb a = none) : mm_X (mm_u σ a x) T z ad :=
  ⟨fun k i j hl => by
    rw [mm_u_ne (fun e => by have := hb.1 k i j (hv ▸ hl); rw [e, ha] at this; cases this)]
    exact h.1 k i j hl, h.2⟩
/-- an entry more -/
theorem mm_R_step {σ : mm_S} {T' : mm_T} {ad : Nat → Nat → Nat → Nat} {r q0 eL pL qL i y : Nat} {en : Nat → Nat} (h : mm_R σ T' ad r q0 eL pL qL [] en i) (hy : σ y = none) (n1 : pL ≠ eL) (n2 : qL ≠ eL) (n3 : qL ≠ pL) :
    mm_R (if T'.oc r i = 108 then mm_u (mm_u (mm_u σ y (mm_eo 0 (mm_fa T' ad r) i)) eL (mm_lst 0 ((List.range i).map en ++ [y]))) pL (mm_lst 0 (((mm_po (T'.oc r) (T'.rc r) i).map en).insertIdx (mm_sm (fun c => if mm_fa T' ad r 3 ((mm_po (T'.oc r) (T'.rc r) i).getD c 0) ≤ T'.rc r i then 1 else 0) ((mm_po (T'.oc r) (T'.rc r) i).map en).length) y)) else mm_u (mm_u σ y (mm_eo 0 (mm_fa T' ad r) i)) eL (mm_lst 0 ((List.range i).map en ++ [y]))) T' ad r q0 eL pL qL [] (mm_up en i y) (i + 1) := by
  obtain ⟨h1, h2, h3, h4, h5⟩ := h
  have y1 : q0 ≠ y := fun e => by rw [e, hy] at h1; cases h1
  have y2 : eL ≠ y := fun e => by rw [e, hy] at h2; cases h2
  have y3 : pL ≠ y := fun e => by rw [e, hy] at h3; cases h3
  have y4 : qL ≠ y := fun e => by rw [e, hy] at h4; cases h4
  have q1 : q0 ≠ eL := fun e => by rw [e, h2] at h1; cases h1
  have q2 : q0 ≠ pL := fun e => by rw [e, h3] at h1; cases h1
  have en0 : ∀ p, p < i → mm_up en i y p = en p := fun p hp => if_neg (by omega)
  have en1 : mm_up en i y i = y := if_pos rfl
  have e2 : mm_lst 0 ((List.range i).map en ++ [y]) = mm_lst 0 ((List.range (i + 1)).map (mm_up en i y)) := by rw [mm_rg_app en0 en1]
  have e3 : (mm_po (T'.oc r) (T'.rc r) i).map en = (mm_po (T'.oc r) (T'.rc r) i).map (mm_up en i y) := List.map_congr_left (fun p hp => (en0 p (mm_po_lt _ _ _ p hp).1).symm)
  have g5 : ∀ p, p < i → en p ≠ y ∧ en p ≠ eL ∧ en p ≠ pL := fun p hp => ⟨(fun e => by have := h5 p hp; rw [e, hy] at this; cases this), (fun e => by have := h5 p hp; rw [e, h2] at this; cases this), (fun e => by have := h5 p hp; rw [e, h3] at this; cases this)⟩
  have f5 : ∀ p, p < i + 1 → mm_u (mm_u σ y (mm_eo 0 (mm_fa T' ad r) i)) eL (mm_lst 0 ((List.range i).map en ++ [y])) (mm_up en i y p) = mm_eo 0 (mm_fa T' ad r) p := fun p hp => by
    by_cases e : p = i
    · rw [e, en1, mm_u_ne (Ne.symm y2), mm_u_eq]
    · rw [en0 p (by omega), mm_u_ne (g5 p (by omega)).2.1, mm_u_ne (g5 p (by omega)).1]
      exact h5 p (by omega)
  have hpo : mm_po (T'.oc r) (T'.rc r) (i + 1) = if T'.oc r i = 108 then (mm_po (T'.oc r) (T'.rc r) i).insertIdx (mm_sm (fun c => if T'.rc r ((mm_po (T'.oc r) (T'.rc r) i).getD c 0) ≤ T'.rc r i then 1 else 0) (mm_po (T'.oc r) (T'.rc r) i).length) i else mm_po (T'.oc r) (T'.rc r) i := rfl
  by_cases ho : T'.oc r i = 108
  · rw [if_pos ho]
    rw [if_pos ho] at hpo
    refine ⟨?_, ?_, ?_, ?_, fun p hp => ?_⟩
    · rw [mm_u_ne q2, mm_u_ne q1, mm_u_ne y1]
      exact h1
    · rw [mm_u_ne (Ne.symm n1), mm_u_eq]
      exact e2
    · rw [mm_u_eq, hpo, mm_map_ins, en1, ← e3, List.length_map]
      rfl
    · rw [mm_u_ne n3, mm_u_ne n2, mm_u_ne y4]
      exact h4
    · rw [mm_u_ne (fun e => ?_)]
      · exact f5 p hp
      · by_cases e' : p = i
        · rw [e', en1] at e
          exact y3 e.symm
        · rw [en0 p (by omega)] at e
          exact (g5 p (by omega)).2.2 e
  · rw [if_neg ho]
    rw [if_neg ho] at hpo
    refine ⟨?_, ?_, ?_, ?_, f5⟩
    · rw [mm_u_ne q1, mm_u_ne y1]
      exact h1
    · rw [mm_u_eq]
      exact e2
    · rw [mm_u_ne n1, mm_u_ne y3, hpo, ← e3]
      exact h3
    · rw [mm_u_ne n2, mm_u_ne y4]
      exact h4
theorem mm_ctR {T : mm_T} {z : mm_Z} {ad : Nat → Nat → Nat → Nat} {t hh q0 eL pL qL : Nat} {en : Nat → Nat} : ∀ k i j, mm_lv T k i j → ¬ (k = 0 ∧ i = 4 ∧ j = 0) → mm_ct (mm_t_run T t hh) z (mm_aR ad T.nR q0 eL pL qL en) k i j = mm_ct (mm_tqA T t hh) z ad k i j
  | 0, 0, j, hl, hn => rfl
  | 0, 1, j, hl, hn => rfl
  | 0, 2, j, hl, hn => rfl
  | 0, 3, j, hl, hn => rfl
  | 0, 4, j, hl, hn => absurd ⟨rfl, rfl, hl.2⟩ hn
  | 0, 5, j, hl, hn => rfl
  | 0, 6, j, hl, hn => rfl
  | 0, 7, j, hl, hn => rfl
  | 0, i + 8, j, hl, hn => absurd hl.1 (by omega)
  | 1, i, j, hl, hn => rfl
  | 2, i, j, hl, hn => rfl
  | 3, i, j, hl, hn => rfl
  | 4, i, j, hl, hn => rfl
  | 5, i, j, hl, hn => by
    have hi : i ≠ T.nR := Nat.ne_of_lt hl.1
    show mm_O 3 [.int (nI ((mm_t_run T t hh).rb i)), .ref (mm_aR ad T.nR q0 eL pL qL en 6 i 0), .ref (mm_aR ad T.nR q0 eL pL qL en 6 i 1), .ref (mm_aR ad T.nR q0 eL pL qL en 6 i 2)] = _
    rw [mm_aRn hi, mm_aRn hi, mm_aRn hi, (mm_tr_o hi).2.2.2.2.2.2.2] <;> rfl
  | 6, i, j, hl, hn => by
    have hi : i ≠ T.nR := Nat.ne_of_lt hl.1
    obtain ⟨e1, e2, e3, e4, e5, e6, e7, e8⟩ := mm_tr_o (t := t) (hh := hh) hi
    have ea : (fun p => mm_aR ad T.nR q0 eL pL qL en 7 i p) = fun p => ad 7 i p := funext fun p => mm_aRn hi
    match j with
    | 0 =>
      show mm_L ((List.range ((mm_t_run T t hh).rp i)).map (fun p => mm_aR ad T.nR q0 eL pL qL en 7 i p)) = mm_L ((List.range (T.rp i)).map (fun p => ad 7 i p))
      rw [ea, e7]
    | 1 =>
      show mm_L ((mm_po ((mm_t_run T t hh).oc i) ((mm_t_run T t hh).rc i) ((mm_t_run T t hh).rp i)).map (fun p => mm_aR ad T.nR q0 eL pL qL en 7 i p)) = mm_L ((mm_po (T.oc i) (T.rc i) (T.rp i)).map (fun p => ad 7 i p))
      rw [ea, e7, e1, e2]
    | j + 2 =>
      show mm_L ((mm_pl (mm_fe ((mm_t_run T t hh).oc i) ((mm_t_run T t hh).rc i) ((mm_t_run T t hh).pg i) ((mm_t_run T t hh).rt i) (fun _ => 0)) ((mm_t_run T t hh).rp i) 8).map (fun p => mm_aR ad T.nR q0 eL pL qL en 7 i p)) = mm_L ((mm_pl (mm_fe (T.oc i) (T.rc i) (T.pg i) (T.rt i) (fun _ => 0)) (T.rp i) 8).map (fun p => ad 7 i p))
      rw [ea, e7, e1, e2, e3, e4]
  | 7, i, j, hl, hn => by
    have hi : i ≠ T.nR := Nat.ne_of_lt hl.1
    obtain ⟨e1, e2, e3, e4, e5, e6, e7, e8⟩ := mm_tr_o (t := t) (hh := hh) hi
    show mm_O 1 [.int (nI j), .ref (ad 2 j 0), .int (nI ((mm_t_run T t hh).oc i j)), .int (nI ((mm_t_run T t hh).rc i j)), .int (nI ((mm_t_run T t hh).pg i j)), .int (nI ((mm_t_run T t hh).rt i j)), .int (nI ((mm_t_run T t hh).bk i j))] = mm_O 1 [.int (nI j), .ref (ad 2 j 0), .int (nI (T.oc i j)), .int (nI (T.rc i j)), .int (nI (T.pg i j)), .int (nI (T.rt i j)), .int (nI (T.bk i j))]
    rw [e1, e2, e3, e4, e5]
  | n + 8, i, j, hl, hn => False.elim hl
theorem mm_Xrun {σb σ : mm_S} {T : mm_T} {z : mm_Z} {ad : Nat → Nat → Nat → Nat} {t hh q0 eL pL qL : Nat} {en : Nat → Nat} (hb : mm_X σb T z ad) (hX : mm_X σ (mm_tqA T t hh) z ad)
    (hR : mm_R σ (mm_t_run T t hh) ad T.nR q0 eL pL qL ((mm_pl (mm_fa (mm_t_run T t hh) ad T.nR) T.nP 8).map en) en T.nP) (b0 : σb q0 = none) (b1 : σb eL = none) (b2 : σb pL = none) (b3 : σb qL = none) (b4 : ∀ p, p < T.nP → σb (en p) = none) (n1 : pL ≠ eL) (n2 : qL ≠ eL) (n3 : qL ≠ pL) (hP : T.nP ≤ 24) :
    mm_X (mm_u σ (ad 0 4 0) (mm_lst 0 ((List.range T.nR).map (fun q => ad 5 q 0) ++ [q0]))) (mm_t_run T t hh) z (mm_aR ad T.nR q0 eL pL qL en) := by
  obtain ⟨h1, h2, h3, h4, h5⟩ := hR
  have hN : ∀ x, σb x = none → ∀ k i j, mm_lv T k i j → ad k i j ≠ x := fun x hx k i j hl e => by have := hb.1 k i j hl; rw [e, hx] at this; cases this
  have l4 : mm_lv T 0 4 0 := ⟨by decide, rfl⟩
  have hpr : (mm_t_run T t hh).rp T.nR = T.nP := mm_tr_r.1
  refine mm_X_mk (fun k i j => (k = 5 ∧ i = T.nR ∧ j = 0) ∨ (k = 6 ∧ i = T.nR ∧ j < 3) ∨ (k = 7 ∧ i = T.nR ∧ j < T.nP)) hb ?_ (fun k i j hl => ?_) (fun k i j hl => ?_) ?_ ?_
  · intro k i j hl
    match k, hl with
    | 0, hl => exact Or.inl hl
    | 1, hl => exact Or.inl hl
    | 2, hl => exact Or.inl hl
    | 3, hl => exact Or.inl hl
    | 4, hl => exact Or.inl hl
    | 5, hl =>
      have h1 : i < T.nR + 1 := hl.1
      by_cases e : i = T.nR
      · exact Or.inr (Or.inl ⟨rfl, e, hl.2⟩)
      · exact Or.inl ⟨by omega, hl.2⟩
    | 6, hl =>
      have h1 : i < T.nR + 1 := hl.1
      by_cases e : i = T.nR
      · exact Or.inr (Or.inr (Or.inl ⟨rfl, e, hl.2⟩))
      · exact Or.inl ⟨by omega, hl.2⟩
    | 7, hl =>
      have h1 : i < T.nR + 1 := hl.1
      have h2 : j < (mm_t_run T t hh).rp i := hl.2
      by_cases e : i = T.nR
      · rw [e, hpr] at h2
        exact Or.inr (Or.inr (Or.inr ⟨rfl, e, h2⟩))
      · rw [(mm_tr_o e).2.2.2.2.2.2.1] at h2
        exact Or.inl ⟨by omega, h2⟩
    | n + 8, hl => exact False.elim hl
  · by_cases e5 : k = 5
    · subst e5; exact mm_aRn (Nat.ne_of_lt hl.1)
    · by_cases e6 : k = 6
      · subst e6; exact mm_aRn (Nat.ne_of_lt hl.1)
      · by_cases e7 : k = 7
        · subst e7; exact mm_aRn (Nat.ne_of_lt hl.1)
        · exact mm_aRk e5 e6 e7
  · by_cases e : k = 0 ∧ i = 4 ∧ j = 0
    · obtain ⟨rfl, rfl, rfl⟩ := e
      rw [mm_u_eq]
      show mm_lst 0 _ = mm_lst 0 ((List.range (T.nR + 1)).map (fun c => mm_aR ad T.nR q0 eL pL qL en 5 c 0))
      rw [mm_rg_app (g' := fun c => mm_aR ad T.nR q0 eL pL qL en 5 c 0) (fun c hc => mm_aRn (Nat.ne_of_lt hc)) mm_aR5]
    · rw [mm_u_ne (mm_X_ne (k' := 0) (i' := 4) (j' := 0) hb hl l4 e), hX.1 k i j hl, mm_ctR k i j hl e]
  · rintro k i j (⟨rfl, rfl, rfl⟩ | ⟨rfl, rfl, h⟩ | ⟨rfl, rfl, h⟩)
    · rw [mm_aR5]
      refine ⟨?_, b0⟩
      rw [mm_u_ne (Ne.symm (hN _ b0 0 4 0 l4)), h1]
      show _ = mm_obj 0 3 [.int (nI ((mm_t_run T t hh).rb T.nR)), .ref (mm_aR ad T.nR q0 eL pL qL en 6 T.nR 0), .ref (mm_aR ad T.nR q0 eL pL qL en 6 T.nR 1), .ref (mm_aR ad T.nR q0 eL pL qL en 6 T.nR 2)]
      rw [mm_aR6, mm_aR6, mm_aR6] <;> rfl
    · have ea : (fun p => mm_aR ad T.nR q0 eL pL qL en 7 T.nR p) = en := funext fun p => mm_aR7
      rw [mm_aR6]
      rcases (show j = 0 ∨ j = 1 ∨ j = 2 by omega) with rfl | rfl | rfl
      · refine ⟨?_, b1⟩
        show mm_u _ _ _ eL = mm_lst 0 ((List.range ((mm_t_run T t hh).rp T.nR)).map (fun p => mm_aR ad T.nR q0 eL pL qL en 7 T.nR p))
        rw [mm_u_ne (Ne.symm (hN _ b1 0 4 0 l4)), h2, ea, hpr]
      · refine ⟨?_, b2⟩
        show mm_u _ _ _ pL = mm_lst 0 ((mm_po ((mm_t_run T t hh).oc T.nR) ((mm_t_run T t hh).rc T.nR) ((mm_t_run T t hh).rp T.nR)).map (fun p => mm_aR ad T.nR q0 eL pL qL en 7 T.nR p))
        rw [mm_u_ne (Ne.symm (hN _ b2 0 4 0 l4)), h3, ea, hpr]
      · refine ⟨?_, b3⟩
        show mm_u _ _ _ qL = mm_lst 0 ((mm_pl (mm_fr (mm_t_run T t hh) T.nR) ((mm_t_run T t hh).rp T.nR) 8).map (fun p => mm_aR ad T.nR q0 eL pL qL en 7 T.nR p))
        rw [mm_u_ne (Ne.symm (hN _ b3 0 4 0 l4)), h4, ea, hpr, (mm_pl_cg (f := mm_fa (mm_t_run T t hh) ad T.nR) (g := mm_fr (mm_t_run T t hh) T.nR) rfl rfl T.nP 8).2]
    · rw [mm_aR7]
      refine ⟨?_, b4 j h⟩
      rw [mm_u_ne (Ne.symm (hN _ (b4 j h) 0 4 0 l4)), h5 j h]
      rfl
  · have d1 : q0 ≠ eL := fun e => by rw [e, h2] at h1; cases h1
    have d2 : q0 ≠ pL := fun e => by rw [e, h3] at h1; cases h1
    have d3 : q0 ≠ qL := fun e => by rw [e, h4] at h1; cases h1
    have d4 : ∀ p, p < T.nP → en p ≠ q0 ∧ en p ≠ eL ∧ en p ≠ pL ∧ en p ≠ qL := fun p hp => ⟨(fun e => by have := h5 p hp; rw [e, h1] at this; cases this), (fun e => by have := h5 p hp; rw [e, h2] at this; cases this), (fun e => by have := h5 p hp; rw [e, h3] at this; cases this), (fun e => by have := h5 p hp; rw [e, h4] at this; cases this)⟩
    have d5 : ∀ p c, p < T.nP → c < T.nP → en p = en c → p = c := fun p c hp hc e => by
      have g1 := h5 p hp
      rw [e, h5 c hc] at g1
      injection g1 with g1
      injection g1 with _ g1
      injection g1 with g1
      injection g1 with g1
      injection g1 with _ g1
      injection g1 with g1 _
      injection g1 with g1
      exact ((mm_eqB (x := c) (y := p) (by omega) (by omega)).mp g1).symm
    rintro k i j k' i' j' (⟨rfl, rfl, rfl⟩ | ⟨rfl, rfl, h⟩ | ⟨rfl, rfl, h⟩) (⟨rfl, rfl, rfl⟩ | ⟨rfl, rfl, h'⟩ | ⟨rfl, rfl, h'⟩) e
    · exact ⟨rfl, rfl, rfl⟩
    · rw [mm_aR5, mm_aR6] at e
      rcases (show j' = 0 ∨ j' = 1 ∨ j' = 2 by omega) with rfl | rfl | rfl
      · exact absurd e d1
      · exact absurd e d2
      · exact absurd e d3
    · rw [mm_aR5, mm_aR7] at e
      exact absurd e.symm (d4 j' h').1
    · rw [mm_aR5, mm_aR6] at e
      rcases (show j = 0 ∨ j = 1 ∨ j = 2 by omega) with rfl | rfl | rfl
      · exact absurd e.symm d1
      · exact absurd e.symm d2
      · exact absurd e.symm d3
    · rw [mm_aR6, mm_aR6] at e
      rcases (show j = 0 ∨ j = 1 ∨ j = 2 by omega) with rfl | rfl | rfl <;> rcases (show j' = 0 ∨ j' = 1 ∨ j' = 2 by omega) with rfl | rfl | rfl <;>
        first | exact ⟨rfl, rfl, rfl⟩ | exact absurd e n1 | exact absurd e.symm n1 | exact absurd e n2 | exact absurd e.symm n2 | exact absurd e n3 | exact absurd e.symm n3
    · rw [mm_aR6, mm_aR7] at e
      rcases (show j = 0 ∨ j = 1 ∨ j = 2 by omega) with rfl | rfl | rfl
      · exact absurd e.symm (d4 j' h').2.1
      · exact absurd e.symm (d4 j' h').2.2.1
      · exact absurd e.symm (d4 j' h').2.2.2
    · rw [mm_aR5, mm_aR7] at e
      exact absurd e (d4 j h).1
    · rw [mm_aR6, mm_aR7] at e
      rcases (show j' = 0 ∨ j' = 1 ∨ j' = 2 by omega) with rfl | rfl | rfl
      · exact absurd e (d4 j h).2.1
      · exact absurd e (d4 j h).2.2.1
      · exact absurd e (d4 j h).2.2.2
    · rw [mm_aR7, mm_aR7] at e
      exact ⟨rfl, rfl, d5 j j' h h' e⟩
