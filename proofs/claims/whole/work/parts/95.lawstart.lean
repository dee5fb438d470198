/-! THE LAW: its start. -/
theorem t0_eq : upd (upd (upd (upd (fun _ => 0) (0 : Int32).toNatClampNeg 0) (1 : Int32).toNatClampNeg 1) (2 : Int32).toNatClampNeg 2) (3 : Int32).toNatClampNeg 3 = upd (upd (upd (upd (fun _ => (0 : Int32)) 0 0) 1 1) 2 2) 3 3 := by
  have a0 : (0 : Int32).toNatClampNeg = 0 := by decide
  have a1 : (1 : Int32).toNatClampNeg = 1 := by decide
  have a2 : (2 : Int32).toNatClampNeg = 2 := by decide
  have a3 : (3 : Int32).toNatClampNeg = 3 := by decide
  rw [a0, a1, a2, a3]
theorem rOK_0 : rOK 0 (fun _ => 0) (fun _ => 0) (upd (upd (upd (upd (fun _ => 0) (0 : Int32).toNatClampNeg 0) (1 : Int32).toNatClampNeg 1) (2 : Int32).toNatClampNeg 2) (3 : Int32).toNatClampNeg 3) (fun _ => 0) := by
  rw [t0_eq]
  have l0 : (nI 0).toInt = 0 := by decide
  have l1 : (nI 1).toInt = 1 := by decide
  have l2 : (nI 2).toInt = 2 := by decide
  have l3 : (nI 3).toInt = 3 := by decide
  have u := fun j (hj : j < 4) => ups4 (T := fun _ => 0) (a := 0) (b := 1) (c := 2) (d := 3) (by decide) (by decide) (by decide) (by decide) (by decide) (by decide) (by decide) (by decide) (by decide) (by decide) hj
  refine ⟨by omega, fun j hj => absurd hj (by omega), fun j hj => absurd hj (by omega), fun j hj => ?_, fun i j hi hj e => ?_, fun j hj => Or.inl rfl⟩
  · rcases u j hj with ⟨-, q⟩ | ⟨-, q⟩ | ⟨-, q⟩ | ⟨-, q⟩ <;> rw [q] <;> decide
  · rcases u i hi with ⟨x, q⟩ | ⟨x, q⟩ | ⟨x, q⟩ | ⟨x, q⟩ <;> rcases u j hj with ⟨y, p⟩ | ⟨y, p⟩ | ⟨y, p⟩ | ⟨y, p⟩ <;> rw [q, p] at e <;> first | (rw [x, y]; done) | (simp only [l0, l1, l2, l3] at e; omega)
theorem init_paces {N : Nat} : ∀ (f j : Nat) (pc up : Nat → Int32), j ≤ 8 → 8 - j < f → (∀ k, k < j → pc k = 10) → ∃ (pc' up' : Nat → Int32), l_X2_init_22 N f (nI j) pc up = some (pc', up') ∧ l_X7_init_282 N f (nI j) pc up = some (pc', up') ∧ ∀ k, k < 8 → pc' k = 10
  | 0, j, pc, up, _, hf, _ => absurd hf (by omega)
  | f + 1, j, pc, up, hj, hf, h => by
    rw [l_X2_init_22, l_X7_init_282]
    by_cases q : 8 ≤ j
    · have e : j = 8 := by omega
      have q8 : (8 : Int32) ≤ nI j := nI_le (a := 8) q (by omega)
      rw [if_pos q8, if_pos q8]
      rw [e] at h
      exact ⟨pc, up, rfl, rfl, h⟩
    · have q8 : ¬ (8 : Int32) ≤ nI j := nI_ge (b := 8) (by omega) (by decide)
      have gj : ∀ {β : Type} {X : Option β}, gd (ix (nI j) 8) X = X := gd_nI (by omega) (by decide)
      rw [if_neg q8, if_neg q8]
      simp only [gj, nl_e, nI_1]
      rw [nI_clamp (show j < 2 ^ 31 by omega)]
      refine init_paces f (j + 1) _ _ (by omega) (by omega) fun k hk => ?_
      by_cases z : k = j
      · rw [z, pk_us]
      · rw [pk_un z]
        exact h k (by omega)
theorem init_place {N : Nat} (hN : 1000 ≤ N) : l_X7_init_262 N N 0 (fun _ => 0) = some (upd (upd (upd (upd (fun _ => 0) (0 : Int32).toNatClampNeg 0) (1 : Int32).toNatClampNeg 1) (2 : Int32).toNatClampNeg 2) (3 : Int32).toNatClampNeg 3) := by
  have a1 : (0 : Int32) + 1 = 1 := by decide
  have a2 : (1 : Int32) + 1 = 2 := by decide
  have a3 : (2 : Int32) + 1 = 3 := by decide
  have a4 : (3 : Int32) + 1 = 4 := by decide
  obtain ⟨M, e⟩ : ∃ M, N = M + 5 := ⟨N - 5, by omega⟩
  have h : ∀ K : Nat, l_X7_init_262 K (M + 5) 0 (fun _ => 0) = some (upd (upd (upd (upd (fun _ => 0) (0 : Int32).toNatClampNeg 0) (1 : Int32).toNatClampNeg 1) (2 : Int32).toNatClampNeg 2) (3 : Int32).toNatClampNeg 3) := by
    intro K
    rw [l_X7_init_262, if_neg (by decide), gd_t (by decide), nl_e, a1, l_X7_init_262, if_neg (by decide), gd_t (by decide), nl_e, a2, l_X7_init_262, if_neg (by decide), gd_t (by decide), nl_e, a3, l_X7_init_262, if_neg (by decide), gd_t (by decide), nl_e, a4, l_X7_init_262, if_pos (by decide)]
  have h2 := h N
  rw [← e] at h2
  exact h2
theorem init_both {N : Nat} (hN : 1000 ≤ N) : ∃ (pc up : Nat → Int32), f_X2_init N = some (pc, up) ∧ f_X7_init N = some ((upd (upd (upd (upd (fun _ => 0) (0 : Int32).toNatClampNeg 0) (1 : Int32).toNatClampNeg 1) (2 : Int32).toNatClampNeg 2) (3 : Int32).toNatClampNeg 3), pc, up) ∧ ∀ k, k < 8 → pc k = 10 := by
  obtain ⟨pc, up, r1, r2, r3⟩ := init_paces (N := N) N 0 (fun _ => 0) (fun _ => 0) (by omega) (by omega) (fun k hk => absurd hk (by omega))
  have r1' : l_X2_init_22 N N 0 (fun _ => 0) (fun _ => 0) = some (pc, up) := r1
  have r2' : l_X7_init_282 N N 0 (fun _ => 0) (fun _ => 0) = some (pc, up) := r2
  refine ⟨pc, up, ?_, ?_, r3⟩
  · unfold f_X2_init
    rw [bd2_eq r1']
  · unfold f_X7_init
    rw [bd1_eq (init_place hN), bd2_eq r2']
set_option maxHeartbeats 4000000 in
set_option maxRecDepth 100000 in
theorem whole_start {p : Program} {e : Env} {s : State} {m : MethodId} {below : List Frame} {meth : Method} {c : Code} (l : Launch) {b L : Nat} {xs : Nat → Int32} (hL : L ≤ 3072) (C0 : lw_At p s m meth c b L xs) : W p l e room_1 s m #[Value.ref b] below meth c s.heap [] 0 0 (lw_Z below #[Value.ref b] s) (entryFrame m ([Value.ref b] : List Value).toArray 4) := by
  obtain ⟨hx, hb, hr, hml, hown, hts, hX, hbl, hlocks, hgv⟩ := id C0
  have hA : ∀ q : Nat, s.heap.size ≤ q → (fun q : Nat => s.heap.size ≤ q) q := fun _ h => h
  have hbA : ¬ (fun q : Nat => s.heap.size ≤ q) b := Nat.not_le.mpr hbl
  obtain ⟨k0, iS0, hKn0⟩ := u_known (C := RX0) (T := TX0) (N := 15) (n := 15) hts inX0 (hts _ (List.mem_of_getElem? (i := 150) (by decide +kernel) : Cond.instantiable RX0 15 ∈ lw_tbl))
  obtain ⟨k1, iS1, hKn1⟩ := u_known (C := RX1) (T := TX1) (N := 2) (n := 2) hts inX1 (hts _ (List.mem_of_getElem? (i := 71) (by decide +kernel) : Cond.instantiable RX1 2 ∈ lw_tbl))
  obtain ⟨k2, iS2, hKn2⟩ := u_known (C := RX2) (T := TX2) (N := 2) (n := 2) hts inX2 (hts _ (List.mem_of_getElem? (i := 213) (by decide +kernel) : Cond.instantiable RX2 2 ∈ lw_tbl))
  obtain ⟨k3, iS3, hKn3⟩ := u_known (C := RX3) (T := TX3) (N := 5) (n := 5) hts inX3 (hts _ (List.mem_of_getElem? (i := 126) (by decide +kernel) : Cond.instantiable RX3 5 ∈ lw_tbl))
  obtain ⟨k4, iS4, hKn4⟩ := u_known (C := RX4) (T := TX4) (N := 5) (n := 5) hts inX4 (hts _ (List.mem_of_getElem? (i := 41) (by decide +kernel) : Cond.instantiable RX4 5 ∈ lw_tbl))
  obtain ⟨k5, iS5, hKn5⟩ := u_known (C := RX5) (T := TX5) (N := 10) (n := 10) hts inX5 (hts _ (List.mem_of_getElem? (i := 85) (by decide +kernel) : Cond.instantiable RX5 10 ∈ lw_tbl))
  obtain ⟨k6, iS6, hKn6⟩ := u_known (C := RX6) (T := TX6) (N := 6) (n := 6) hts inX6 (hts _ (List.mem_of_getElem? (i := 33) (by decide +kernel) : Cond.instantiable RX6 6 ∈ lw_tbl))
  obtain ⟨k7, iS7, hKn7⟩ := u_known (C := RX7) (T := TX7) (N := 36) (n := 36) hts inX7 (hts _ (List.mem_of_getElem? (i := 606) (by decide +kernel) : Cond.instantiable RX7 36 ∈ lw_tbl))
  obtain ⟨dC, dI, hKc⟩ : ∃ (dC : Nat → ClassId) (dI : Nat → Nat → Nat), ∀ (k : Nat) (q : vw_C), vwCl[k]? = some q → u_Kn s q.1 q.2.1 q.2.2 (dC k) (dI k) := by
    refine ⟨fun k => match k with | 0 => k0 | 1 => k1 | 2 => k2 | 3 => k3 | 4 => k4 | 5 => k5 | 6 => k6 | _ => k7, fun k => match k with | 0 => iS0 | 1 => iS1 | 2 => iS2 | 3 => iS3 | 4 => iS4 | 5 => iS5 | 6 => iS6 | _ => iS7, ?_⟩
    intro k q hq
    match k, hq with
    | 0, hq => cases hq; exact hKn0
    | 1, hq => cases hq; exact hKn1
    | 2, hq => cases hq; exact hKn2
    | 3, hq => cases hq; exact hKn3
    | 4, hq => cases hq; exact hKn4
    | 5, hq => cases hq; exact hKn5
    | 6, hq => cases hq; exact hKn6
    | 7, hq => cases hq; exact hKn7
    | k + 8, hq => simp [vwCl] at hq
  obtain ⟨cI, aI1, aI2⟩ := arr_of (hts _ (List.mem_of_getElem? (i := 68) (by decide +kernel) : Cond.arrayClass .int ∈ lw_tbl))
  obtain ⟨cJ, aJ1, aJ2⟩ := arr_of (hts _ (List.mem_of_getElem? (i := 83) (by decide +kernel) : Cond.arrayClass .long ∈ lw_tbl))
  obtain ⟨cZ, aZ1, aZ2⟩ := arr_of (hts _ (List.mem_of_getElem? (i := 69) (by decide +kernel) : Cond.arrayClass .boolean ∈ lw_tbl))
  have hK : va_K (dC, dI) vwCl (tyl cI cJ cZ) s := by
    refine ⟨hKc, fun k q hq => ?_⟩
    match k, hq with
    | 0, hq => cases hq; exact ⟨aI1, aI2⟩
    | 1, hq => cases hq; exact ⟨aJ1, aJ2⟩
    | 2, hq => cases hq; exact ⟨aZ1, aZ2⟩
    | k + 3, hq => simp [tyl] at hq
  have X : Cx p m c cL_law 4 s #[Value.ref b] wsL_law RL (dC, dI) (tyl cI cJ cZ) (fun q : Nat => s.heap.size ≤ q) := ⟨⟨hx, hb, hml, hown, fun w hw => hts w (wsL_law_in w hw)⟩, hK, hA, KN_of hts⟩
  have htw : ∀ w ∈ wsL_law, w.before #[Value.ref b] s = true := fun w hw => hts w (wsL_law_in w hw)
  have hw : Wd (dC, dI) (fun q : Nat => s.heap.size ≤ q) s.heap s.heap [] [] := ⟨fun k q h => by simp at h, ⟨fun i j p q h => by simp at h, fun k q h => by simp at h⟩, va_S.rf⟩
  obtain ⟨pc0, up0, i1, i2, i3⟩ := init_both (N := 5000) (by decide)
  have hl := lv_entry ([.ref b]) (n := 4) (Nat.le_of_ble_eq_true rfl)
  rw [lg_entry_eq]
  generalize (lg_sl ([.ref b]) ++ List.replicate (4 - (lg_sl ([.ref b])).length) Slot.unset).toArray = ls at hl ⊢
  have hl : lv_has ls 4 [(0, .ref b)] := hl
  refine g_new X (T := TX6) (N := 6) (ci := 6) (fs := [.null, .null, .null, .null, .null, .null]) inlX6 tyX6 tyX6_ok (hts _ (List.mem_of_getElem? (i := 32) (by decide +kernel) : Cond.classLink RL 7 RX6 ∈ lw_tbl)) (hts _ (List.mem_of_getElem? (i := 33) (by decide +kernel) : Cond.instantiable RX6 6 ∈ lw_tbl)) (hts _ (List.mem_of_getElem? (i := 22) (by decide +kernel) : Cond.initialized RX6 ∈ lw_tbl)) hw rfl (fun j hj => by rcases (show j = 0 ∨ j = 1 ∨ j = 2 ∨ j = 3 ∨ j = 4 ∨ j = 5 by omega) with rfl | rfl | rfl | rfl | rfl | rfl <;> rfl) (Nat.le_of_ble_eq_true rfl) (Nat.le_of_ble_eq_true rfl) dL_law_0 (fun q0 H hw => ?_)
  refine lv_dup hx hb dL_law_3 rfl ?_
  refine clIR (rest := [.ref q0]) (wr := []) X (c_X6_init l dC dI cI cJ cZ 5000 i1 q0) (cwI 0 htw gL_law_X6_init rfl rfl rfl (hts _ (List.mem_of_getElem? (i := 22) (by decide +kernel) : Cond.initialized RX6 ∈ lw_tbl)) (hts _ (List.mem_of_getElem? (i := 34) (by decide +kernel) : Cond.methodLink RL 9 yX6_init ∈ lw_tbl)) (hts _ (List.mem_of_getElem? (i := 35) (by decide +kernel) : Cond.instanceMethod yX6_init ∈ lw_tbl)) rfl (by decide +kernel) ⟨Nat.le_of_ble_eq_true rfl, Nat.le_of_ble_eq_true rfl⟩) hw rfl hl.1 rfl (Nat.le_of_ble_eq_true rfl) dL_law_4 ⟨Nat.le_of_ble_eq_true rfl, Nat.le_of_ble_eq_true rfl⟩ (fun a H locs ea hw2 => ?_)
  clear hw
  subst ea
  have hw : Wd (dC, dI) (fun q : Nat => s.heap.size ≤ q) s.heap H locs (w_GWHRPCO (fun _ => a 0) (fun k => a (k + 1)) (fun k => a (k + 6)) (fun k => a (k + 8)) (fun k => a (k + 15)) (fun k => a (k + 19)) (fun k => a (k + 29)) cI cJ cZ (fun _ => 0) (fun _ => 0) (upd (upd (upd (upd (fun _ => 0) (0 : Int32).toNatClampNeg 0) (1 : Int32).toNatClampNeg 1) (2 : Int32).toNatClampNeg 2) (3 : Int32).toNatClampNeg 3) (fun _ => 0) 0 (fun _ => 0) 0 (fun _ => 0) (fun _ => 0) (fun _ => 0) (fun _ => 0) (fun _ => 0) (fun _ => 0) 0 0 0 0 (fun _ => 0) (fun _ => 0) (fun _ => 0) 0 0 (fun _ => 0) (fun _ => 0) (fun _ => 0) (fun _ => 0) (fun _ => 0) (fun _ => 0) (fun _ => 0) (fun _ => 0) (fun _ => 0) 0 0 0 0 0 0 pc0 up0) := hw2
  clear hw2
  refine lv_astore_n (lv' := [(1, .ref (a 0)), (0, .ref b)]) hx hb dL_law_7 rfl hl (by decide) rfl (fun ls hl => ?_)
  refine g_new X (T := TX7) (N := 36) (ci := 7) (fs := [.null, .null, .int 0, .null, .null, .int 0, .int 0, .int 0, .null, .null, .null, .int 0, .int 0, .int 0, .null, .null, .int 0, .int 0, .int 0, .null, .null, .null, .null, .null, .null, .null, .int 0, .int 0, .int 0, .null, .null, .null, .null, .null, .null, .null]) inlX7 tyX7 tyX7_ok (hts _ (List.mem_of_getElem? (i := 605) (by decide +kernel) : Cond.classLink RL 10 RX7 ∈ lw_tbl)) (hts _ (List.mem_of_getElem? (i := 606) (by decide +kernel) : Cond.instantiable RX7 36 ∈ lw_tbl)) (hts _ (List.mem_of_getElem? (i := 29) (by decide +kernel) : Cond.initialized RX7 ∈ lw_tbl)) hw rfl (fun j hj => by rcases (show j = 0 ∨ j = 1 ∨ j = 2 ∨ j = 3 ∨ j = 4 ∨ j = 5 ∨ j = 6 ∨ j = 7 ∨ j = 8 ∨ j = 9 ∨ j = 10 ∨ j = 11 ∨ j = 12 ∨ j = 13 ∨ j = 14 ∨ j = 15 ∨ j = 16 ∨ j = 17 ∨ j = 18 ∨ j = 19 ∨ j = 20 ∨ j = 21 ∨ j = 22 ∨ j = 23 ∨ j = 24 ∨ j = 25 ∨ j = 26 ∨ j = 27 ∨ j = 28 ∨ j = 29 ∨ j = 30 ∨ j = 31 ∨ j = 32 ∨ j = 33 ∨ j = 34 ∨ j = 35 by omega) with rfl | rfl | rfl | rfl | rfl | rfl | rfl | rfl | rfl | rfl | rfl | rfl | rfl | rfl | rfl | rfl | rfl | rfl | rfl | rfl | rfl | rfl | rfl | rfl | rfl | rfl | rfl | rfl | rfl | rfl | rfl | rfl | rfl | rfl | rfl | rfl <;> rfl) (Nat.le_of_ble_eq_true rfl) (Nat.le_of_ble_eq_true rfl) dL_law_8 (fun q1 H hw => ?_)
  refine lv_dup hx hb dL_law_11 rfl ?_
  refine clIR (rest := [.ref q1]) (wr := (w_GWHRPCO (fun _ => a 0) (fun k => a (k + 1)) (fun k => a (k + 6)) (fun k => a (k + 8)) (fun k => a (k + 15)) (fun k => a (k + 19)) (fun k => a (k + 29)) cI cJ cZ (fun _ => 0) (fun _ => 0) (upd (upd (upd (upd (fun _ => 0) (0 : Int32).toNatClampNeg 0) (1 : Int32).toNatClampNeg 1) (2 : Int32).toNatClampNeg 2) (3 : Int32).toNatClampNeg 3) (fun _ => 0) 0 (fun _ => 0) 0 (fun _ => 0) (fun _ => 0) (fun _ => 0) (fun _ => 0) (fun _ => 0) (fun _ => 0) 0 0 0 0 (fun _ => 0) (fun _ => 0) (fun _ => 0) 0 0 (fun _ => 0) (fun _ => 0) (fun _ => 0) (fun _ => 0) (fun _ => 0) (fun _ => 0) (fun _ => 0) (fun _ => 0) (fun _ => 0) 0 0 0 0 0 0 pc0 up0)) X (c_X7_init l dC dI cI cJ cZ 5000 i2 q1) (cwI 0 htw gL_law_X7_init rfl rfl rfl (hts _ (List.mem_of_getElem? (i := 29) (by decide +kernel) : Cond.initialized RX7 ∈ lw_tbl)) (hts _ (List.mem_of_getElem? (i := 607) (by decide +kernel) : Cond.methodLink RL 12 yX7_init ∈ lw_tbl)) (hts _ (List.mem_of_getElem? (i := 608) (by decide +kernel) : Cond.instanceMethod yX7_init ∈ lw_tbl)) rfl (by decide +kernel) ⟨Nat.le_of_ble_eq_true rfl, Nat.le_of_ble_eq_true rfl⟩) hw rfl hl.1 rfl (Nat.le_of_ble_eq_true rfl) dL_law_12 ⟨Nat.le_of_ble_eq_true rfl, Nat.le_of_ble_eq_true rfl⟩ (fun a2 H locs ea2 hw2 => ?_)
  clear hw
  subst ea2
  have hw : Wd (dC, dI) (fun q : Nat => s.heap.size ≤ q) s.heap H locs ((w_GWHRPCO (fun _ => a 0) (fun k => a (k + 1)) (fun k => a (k + 6)) (fun k => a (k + 8)) (fun k => a (k + 15)) (fun k => a (k + 19)) (fun k => a (k + 29)) cI cJ cZ (fun _ => 0) (fun _ => 0) (upd (upd (upd (upd (fun _ => 0) (0 : Int32).toNatClampNeg 0) (1 : Int32).toNatClampNeg 1) (2 : Int32).toNatClampNeg 2) (3 : Int32).toNatClampNeg 3) (fun _ => 0) 0 (fun _ => 0) 0 (fun _ => 0) (fun _ => 0) (fun _ => 0) (fun _ => 0) (fun _ => 0) (fun _ => 0) 0 0 0 0 (fun _ => 0) (fun _ => 0) (fun _ => 0) 0 0 (fun _ => 0) (fun _ => 0) (fun _ => 0) (fun _ => 0) (fun _ => 0) (fun _ => 0) (fun _ => 0) (fun _ => 0) (fun _ => 0) 0 0 0 0 0 0 pc0 up0) ++ (w_M a2 cI cJ cZ (fun _ => 0) (fun _ => 0) 0 (upd (upd (upd (upd (fun _ => 0) (0 : Int32).toNatClampNeg 0) (1 : Int32).toNatClampNeg 1) (2 : Int32).toNatClampNeg 2) (3 : Int32).toNatClampNeg 3) (fun _ => 0) 0 0 0 (fun _ => 0) (fun _ => 0) (fun _ => 0) 0 (-1) 0 (fun _ => 0) (fun _ => 0) 0 0 0 (fun _ => 0) (fun _ => 0) (fun _ => 0) (fun _ => 0) (fun _ => 0) (fun _ => 0) (fun _ => 0) 0 0 0 pc0 up0 (fun _ => 0) (fun _ => 0) (fun _ => 0) (fun _ => 0) (fun _ => 0))) := hw2
  clear hw2
  refine lv_astore_n (lv' := [(2, .ref (a2 0)), (1, .ref (a 0)), (0, .ref b)]) hx hb dL_law_15 rfl hl (by decide) rfl (fun ls hl => ?_)
  refine lv_iconst (v := 0) hx hb dL_law_16 (by decide) ?_
  refine lv_istore_n (lv' := [(3, .int (nI 0)), (2, .ref (a2 0)), (1, .ref (a 0)), (0, .ref b)]) hx hb dL_law_17 rfl hl (by decide) rfl (fun ls hl => ?_)
  refine law_loop (N := 5000) l (aG := fun _ => a 0) (aW := fun k => a (k + 1)) (aH := fun k => a (k + 6)) (aR := fun k => a (k + 8)) (aP := fun k => a (k + 15)) (aC := fun k => a (k + 19)) (aO := fun k => a (k + 29)) (aM := a2) (Nat.le_refl _) X hX hbl hbA hL ⟨Nat.le_of_ble_eq_true rfl, Nat.le_of_ble_eq_true rfl⟩ ⟨Nat.le_of_ble_eq_true rfl, Nat.le_of_ble_eq_true rfl⟩ hr hlocks (L + 1) 0 H locs _ ls (by omega) (by omega) ?_ hw hl
  exact LI_mk cI cJ cZ _ _ _ _ _ _ _ _ 0 0 0 0 0 0 (fun _ => 0) (fun _ => 0) (fun _ => 0) (fun _ => 0) (fun _ => 0) (fun _ => 0) (fun _ => 0) (upd (upd (upd (upd (fun _ => 0) (0 : Int32).toNatClampNeg 0) (1 : Int32).toNatClampNeg 1) (2 : Int32).toNatClampNeg 2) (3 : Int32).toNatClampNeg 3) (fun _ => 0) (fun _ => 0) 0 (fun _ => 0) (fun _ => 0) (fun _ => 0) (fun _ => 0) (fun _ => 0) (fun _ => 0) 0 0 0 0 (fun _ => 0) (fun _ => 0) (fun _ => 0) 0 0 (fun _ => 0) (fun _ => 0) (fun _ => 0) (fun _ => 0) (fun _ => 0) (fun _ => 0) (fun _ => 0) (fun _ => 0) (fun _ => 0) 0 0 0 0 0 0 pc0 up0 0 0 0 (fun _ => 0) (fun _ => 0) (fun _ => 0) 0 (-1) 0 (fun _ => 0) (fun _ => 0) 0 0 0 (fun _ => 0) (fun _ => 0) (fun _ => 0) (fun _ => 0) (fun _ => 0) (fun _ => 0) (fun _ => 0) 0 0 0 pc0 up0 (fun _ => 0) (fun _ => 0) (fun _ => 0) (fun _ => 0) (fun _ => 0) rOK_0 IR_none (IP_none rfl) (IC.gone (fun _ _ => rfl)) ⟨fun _ _ => rfl, fun _ _ => rfl, fun k hk => ⟨10, i3 k hk, by omega⟩⟩
