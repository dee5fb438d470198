/-! THE LAW: rules for its calls, and what holds between them. My own text. -/
theorem rng_at (a b : va_W) : (List.range' 0 a.length).map (fun i => (a ++ b)[i]?) = a.map some := by
  refine List.ext_getElem (by simp) fun i h1 h2 => ?_
  have hi : i < a.length := by simpa using h1
  rw [List.getElem_map, List.getElem_map, List.getElem_range', Nat.zero_add, Nat.one_mul, List.getElem?_append_left hi, List.getElem?_eq_getElem hi]
theorem rng_bt (a b : va_W) : (List.range' a.length b.length).map (fun i => (a ++ b)[i]?) = b.map some := by
  refine List.ext_getElem (by simp) fun i h1 h2 => ?_
  have hi : i < b.length := by simpa using h1
  rw [List.getElem_map, List.getElem_map, List.getElem_range', Nat.one_mul, List.getElem?_append_right (by omega), Nat.add_sub_cancel_left, List.getElem?_eq_getElem hi]
theorem asc_rng : ∀ (n k : Nat), asc k (List.range' k n) = true
  | 0, _ => rfl
  | n + 1, k => by
    rw [List.range'_succ]
    simp only [asc, Bool.and_eq_true, decide_eq_true_eq]
    exact ⟨Nat.le_refl _, asc_rng n (k + 1)⟩
theorem asc_weak : ∀ (is : List Nat) {k j : Nat}, asc k is = true → j ≤ k → asc j is = true
  | [], _, _, _, _ => rfl
  | i :: is, k, j, h, hj => by
    simp only [asc, Bool.and_eq_true, decide_eq_true_eq] at h ⊢
    exact ⟨by omega, h.2⟩
section LCALL
variable {p : Program} {l : Launch} {e : Env} {R : Room} {s : State} {m : MethodId} {args : Array Value} {below : List Frame} {meth : Method} {c : Code} {H : Heap} {locs : List Loc} {cells slots : Nat} {Q : State → Prop}
variable {cc bytes : ByteArray} {nL pc index maxL n : Nat} {ls : Array Slot} {rest As st0 : List Value} {b : Nat} {y : MethodName} {Ts ws : List Cond} {own C : String} {D : va_G} {tys : List (ClassId × FieldType)} {A : Nat → Prop} {wc wr w' : va_W} {rm : Room} {ret : Option FieldType}
/-- a call with the first part of the world, which comes back behind the other -/
theorem clR {r : Int32} (X : Cx p m c cc nL s args Ts own D tys A) (hM : CtI l y ws rm D tys (.ref b :: As) wc w' r) (cw : CallW R s args own C index y bytes maxL ret ws rm 0 0 n) {ci : Nat} {vc : vw_C} {fs : List Value} (hc : vwCl[ci]? = some vc) (hcC : vc.1 = C) {k0 : Nat} (he : wc[k0]? = some (b, .inr (ci, fs))) (hw : Wd D A s.heap H locs (wc ++ wr)) (ha : w'.map Prod.fst = wc.map Prod.fst) (hlen : As.length = n) (hsize : ls.size = nL) (hst : st0 = As.reverse ++ .ref b :: rest) (hW : (rest.map fun v => v.category).sum ≤ 8) (hdg : decode cc pc = .ok (.invokevirtual index, 3)) (hf : cells ≤ R.cells ∧ slots ≤ R.slots)
    (kk : ∀ (H1 : Heap) (locs1 : List Loc), Wd D A s.heap H1 locs1 (wr ++ w') → W p l e R s m args below meth c H1 locs1 cells slots Q (F0 m (pc + 3) ls (.int r :: rest))) : W p l e R s m args below meth c H locs cells slots Q (F0 m pc ls st0) := by
  obtain ⟨S, hK, hA, hN⟩ := X
  obtain ⟨hP, hD, hS⟩ := hw
  have hC := rng_at wc wr
  have hR := rng_bt wc wr
  have hnC := asc_nd _ _ (asc_rng wc.length 0)
  have hnR := asc_nd _ _ (asc_rng wr.length wc.length)
  have hdis : ∀ i ∈ List.range' wc.length wr.length, i ∉ List.range' 0 wc.length := by
    intro i h1 h2
    rw [List.mem_range'_1] at h1 h2
    omega
  have hPc : va_P D vwCl wc H := fun k q hq => hP k q (by
    have hk : k < wc.length := (List.getElem?_eq_some_iff.mp hq).1
    rw [List.getElem?_append_left hk]
    exact hq)
  have hDc := hD.sub _ hnC hC
  have hFc := va_free hD hS hA _ hC
  subst hst
  have hrun := va_runV (l := l) (e := e) (below := below) (meth := meth) (H := H) (locs := locs) (cells := cells) (slots := slots) (g := F0 m pc ls _) (rest := rest) S (hM H.size) cw ⟨cP_blind, (by rw [← hcC]; exact va_recv hK hPc hc he), fun U hU hWU => ⟨rfl, by rw [hU], by rw [hU]; exact hPc, ⟨va_K.moved hWU.alike hK, KN.moved hWU hN⟩, hDc.weaken (fun _ _ _ _ => trivial)⟩⟩ rfl hlen hsize rfl (lv_room hW) hdg hf
  refine va_calli hrun hS (fun q _ h => hFc q h) hFc (fun r2 u t H1 locs1 ht hvm hpo hB hz1 hk1 hS1 => ?_)
  subst hpo
  have hP1 : va_P D vwCl w' t.heap := hB
  rw [ht] at hP1
  have hD0 : va_D (fun _ => True) wc := hDc.weaken (fun _ _ _ _ => trivial)
  have hD1 : va_D (va_A wc H.size) w' := va_D_fst (hD0.self (sz := H.size)) ha
  obtain ⟨hP2, hD2⟩ := va_join hP hD _ _ hC hR hnR hdis hk1 hFc hP1 hD1
  exact kk H1 locs1 ⟨hP2, hD2, hS1⟩
/-- a constructor's call, its object the last cell of the world -/
theorem clIR {mc ms : Nat} {w'' : (Nat → Nat) → va_W} (X : Cx p m c cc nL s args Ts own D tys A) (hM : CtN l y ws rm D tys b wc w'' mc ms) (cw : CallB R s args own index y bytes maxL none ws rm mc ms n ∧ y.name = "<init>" ∧ (Cond.instanceMethod y).before args s = true) (hw : Wd D A s.heap H locs (wr ++ wc)) (hlen : 0 = n) (hsize : ls.size = nL) (hst : st0 = .ref b :: rest) (hW : (rest.map fun v => v.category).sum ≤ 8) (hdg : decode cc pc = .ok (.invokespecial index, 3)) (hf : cells + mc ≤ R.cells ∧ slots + ms ≤ R.slots)
    (kk : ∀ (a : Nat → Nat) (H1 : Heap) (locs1 : List Loc), a 0 = b → Wd D A s.heap H1 locs1 (wr ++ w'' a) → W p l e R s m args below meth c H1 locs1 (cells + mc) (slots + ms) Q (F0 m (pc + 3) ls rest)) : W p l e R s m args below meth c H locs cells slots Q (F0 m pc ls st0) :=
  clI X hM cw hw (List.range' wr.length wc.length) (List.range' 0 wr.length) (rng_bt wr wc) (rng_at wr wc) (asc_nd _ _ (asc_rng wc.length wr.length)) (asc_nd _ _ (asc_rng wr.length 0)) (by
    intro i h1 h2
    rw [List.mem_range'_1] at h1 h2
    omega) hlen hsize hst hW hdg hf kk
end LCALL
theorem arr_of {s : State} {args : Array Value} {ty : FieldType} (h : (Cond.arrayClass ty).before args s = true) : ∃ cA : ClassId, ArrOfT s cA ty ∧ s.vm.findClass ("[" ++ ty.toString) = some cA := by
  obtain ⟨cA, kA, comp, h1, h2, h3⟩ := Cond.arrayClass_spec h
  exact ⟨cA, fun n z => ⟨fun k h => (by cases h), kA, h2, comp, h3⟩, h1⟩
set_option maxRecDepth 20000 in
theorem nests_in : ∀ w ∈ nests, w ∈ lw_tbl := mem_pl _ [135, 137, 172, 174, 170, 158, 164, 162, 160, 220, 223, 168, 176, 178, 180, 55, 100, 51, 53, 47, 49, 219, 99, 97, 222, 101, 56, 42, 72, 86, 127, 151, 496, 457, 309, 387] (by decide +kernel)
theorem KN_of {s : State} {b : Nat} (hts : ∀ w ∈ lw_tbl, w.before #[Value.ref b] s = true) : KN s := fun w hw => va_Nw.of (isNest_on (nests_ok w hw)) (hts w (nests_in w hw))
theorem in_plus {i k L : Nat} (h : i + k < L) (hL : L < 2 ^ 31) : vp_in (nI i + nI k) L := by
  rw [nI_add]
  exact vp_in_nI h hL
theorem rOK.zero {cn : Nat} {S V T F : Nat → Int32} (h : rOK cn S V T F) : rOK 0 S V T F := ⟨by omega, fun j hj => absurd hj (by omega), fun j hj => absurd hj (by omega), h.2.2.2⟩
theorem IR_none {cn : Nat} {b ord io so : Nat → Nat} {S V T F mb rst inO sd bgn msz pool : Nat → Int32} : IR cn 0 0 0 b ord io so S V T F mb rst inO sd 0 0 0 0 0 0 bgn msz pool := ⟨rfl, rfl, rfl, rfl, rfl, rfl, by omega, by omega, by omega, by omega, fun _ => ⟨rfl, rfl⟩, fun h => absurd h (by omega)⟩
theorem IP_none {n : Nat} {b : Nat → Nat} {tr st tks tkn : Nat → Int32} (h : st 0 = nI 0) : IP n 0 b tr st 0 0 (-1) 0 tks tkn := ⟨rfl, rfl, h, by omega, Or.inl ⟨rfl, rfl, rfl⟩⟩
theorem IR.turn {cn n c al : Nat} {b ord io so : Nat → Nat} {S V T T' F mb rst inO sd : Nat → Int32} {rIn rMade rA mMade mRuns mAll : Int32} {bgn msz pool : Nat → Int32} (h : IR cn n c al b ord io so S V T F mb rst inO sd rIn rMade rA mMade mRuns mAll bgn msz pool) (e : 0 < n → T' = T) : IR cn n c al b ord io so S V T' F mb rst inO sd rIn rMade rA mMade mRuns mAll bgn msz pool := by
  obtain ⟨h1, h2, h3, h4, h5, h6, h7, h8, h9, h10, h11, h12⟩ := h
  exact ⟨h1, h2, h3, h4, h5, h6, h7, h8, h9, h10, h11, fun hn => by rw [e hn]; exact h12 hn⟩
theorem IR.fall {cn n c al : Nat} {b ord io so : Nat → Nat} {S V T F F' mb rst inO sd : Nat → Int32} {rIn rMade rA mMade mRuns mAll : Int32} {bgn msz pool : Nat → Int32} (h : IR cn n c al b ord io so S V T F mb rst inO sd rIn rMade rA mMade mRuns mAll bgn msz pool) (e : 0 < n → F' = F) : IR cn n c al b ord io so S V T F' mb rst inO sd rIn rMade rA mMade mRuns mAll bgn msz pool := by
  obtain ⟨h1, h2, h3, h4, h5, h6, h7, h8, h9, h10, h11, h12⟩ := h
  exact ⟨h1, h2, h3, h4, h5, h6, h7, h8, h9, h10, h11, fun hn => by rw [e hn]; exact h12 hn⟩
def LI (cI cJ cZ : ClassId) (aG aW aH aR aP aC aO aM : Nat → Nat) (w : va_W) : Prop := ∃ (cn n c1 al mg p1 : Nat) (bf ord io so sf : Nat → Nat) (W_sorts : (Nat → Int32)) (W_values : (Nat → Int32)) (W_turns : (Nat → Int32)) (W_falling : (Nat → Int32)) (H_items : (Nat → Int64)) (H_size : Int32) (R_members : (Nat → Int32)) (R_starts : (Nat → Int32)) (R_inOrder : (Nat → Int32)) (R_standing : (Nat → Int32)) (R_heads : (Nat → Int32)) (R_tails : (Nat → Int32)) (R_rowsInAll : Int32) (R_made : Int32) (R_all : Int32) (R_filled : Int32) (P_takenRuns : (Nat → Int32)) (P_starts : (Nat → Int32)) (P_queued : (Nat → Int32)) (P_merges : Int32) (P_told : Int32) (C_sampled : (Nat → Int32)) (C_sampleStandings : (Nat → Int32)) (C_sizes : (Nat → Int32)) (C_ends : (Nat → Int32)) (C_lies : (Nat → Int32)) (C_merged : (Nat → Int32)) (C_reached : (Nat → Int32)) (C_done : (Nat → Int32)) (C_mergedBy : (Nat → Int32)) (C_parts : Int32) (C_samples : Int32) (C_bound : Int32) (C_ticks : Int32) (C_mergedInAll : Int32) (C_mergedAgain : Int32) (O_paces : (Nat → Int32)) (O_up : (Nat → Int32)) (M_made : Int32) (M_runs : Int32) (M_allRuns : Int32) (M_begin : (Nat → Int32)) (M_size : (Nat → Int32)) (M_pool : (Nat → Int32)) (M_pooled : Int32) (M_ways : Int32) (M_merges : Int32) (M_takes : (Nat → Int32)) (M_taken : (Nat → Int32)) (M_parts : Int32) (M_every : Int32) (M_samples : Int32) (M_sample : (Nat → Int32)) (M_ends : (Nat → Int32)) (M_partSize : (Nat → Int32)) (M_merged : (Nat → Int32)) (M_most : (Nat → Int32)) (M_done : (Nat → Int32)) (M_on : (Nat → Int32)) (M_ticks : Int32) (M_mergedAll : Int32) (M_again : Int32) (M_paces : (Nat → Int32)) (M_up : (Nat → Int32)) (M_byHost : (Nat → Int32)) (M_heap : (Nat → Int32)) (M_used : (Nat → Int32)) (M_planned : (Nat → Int32)) (M_gone : (Nat → Int32)), rOK cn W_sorts W_values W_turns W_falling ∧ IR cn n c1 al bf ord io so W_sorts W_values W_turns W_falling R_members R_starts R_inOrder R_standing R_rowsInAll R_made R_all M_made M_runs M_allRuns M_begin M_size M_pool ∧ IP n mg bf P_takenRuns P_starts P_merges P_told M_ways M_merges M_takes M_taken ∧ IC n p1 sf C_sizes C_ends C_lies C_merged C_reached C_done C_mergedBy C_parts C_samples C_bound C_ticks C_mergedInAll C_mergedAgain M_parts M_every M_samples M_ends M_partSize M_merged M_most M_done M_on M_ticks M_mergedAll M_again M_byHost ∧ IO O_paces O_up M_paces M_up ∧ w = w_GWHRPCO aG aW aH aR aP aC aO cI cJ cZ W_sorts W_values W_turns W_falling (nI cn) H_items H_size R_members R_starts R_inOrder R_standing R_heads R_tails R_rowsInAll R_made R_all R_filled P_takenRuns P_starts P_queued P_merges P_told C_sampled C_sampleStandings C_sizes C_ends C_lies C_merged C_reached C_done C_mergedBy C_parts C_samples C_bound C_ticks C_mergedInAll C_mergedAgain O_paces O_up ++ w_M aM cI cJ cZ W_sorts W_values (nI cn) W_turns W_falling M_made M_runs M_allRuns M_begin M_size M_pool M_pooled M_ways M_merges M_takes M_taken M_parts M_every M_samples M_sample M_ends M_partSize M_merged M_most M_done M_on M_ticks M_mergedAll M_again M_paces M_up M_byHost M_heap M_used M_planned M_gone
