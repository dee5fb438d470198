/-! THE LAW: its cases, laid by program. -/
set_option maxHeartbeats 4000000 in
set_option maxRecDepth 100000 in
theorem lo_cut {p : Program} {e : Env} {s : State} {m : MethodId} {below : List Frame} {meth : Method} {c : Code} {Q : State → Prop} {H : Heap} {locs : List Loc} {ls : Array Slot} {cells slots : Nat} (l : Launch) {b L i N : Nat} {xs : Nat → Int32} {dC : Nat → ClassId} {dI : Nat → Nat → Nat} {cI cJ cZ : ClassId} {aG aW aH aR aP aC aO aM : Nat → Nat} {A : Nat → Prop} {w : va_W} (hN : 5000 ≤ N) (X : Cx p m c cL_law 4 s #[Value.ref b] wsL_law RL (dC, dI) (tyl cI cJ cZ) A) (hX : va_X b L xs s s.heap) (hbl : b < s.heap.size) (hbA : ¬ A b) (hi : i + 6 ≤ L) (hL : L ≤ 3072) (hf : cells ≤ room_1.cells ∧ slots ≤ room_1.slots) (hI : LI cI cJ cZ aG aW aH aR aP aC aO aM w) (hw : Wd (dC, dI) A s.heap H locs w) (hl : lv_has ls 4 [(3, .int (nI i)), (2, .ref (aM 0)), (1, .ref (aG 0)), (0, .ref b)])
    (kk : ∀ (H : Heap) (locs : List Loc) (w : va_W), LI cI cJ cZ aG aW aH aR aP aC aO aM w → Wd (dC, dI) A s.heap H locs w → W p l e room_1 s m #[Value.ref b] below meth c H locs cells slots Q (F0 m 913 ls [])) : W p l e room_1 s m #[Value.ref b] below meth c H locs cells slots Q (F0 m 640 ls []) := by
  obtain ⟨hx, hb, hml, hown, hts⟩ := X.1
  have hin1 : vp_in (nI i + 1) L := in_plus (k := 1) (by omega) (by omega)
  have hin2 : vp_in (nI i + 2) L := in_plus (k := 2) (by omega) (by omega)
  refine LI_el hI ?_
  intro cn n c1 al mg p1 bf ord io so sf W_sorts W_values W_turns W_falling H_items H_size R_members R_starts R_inOrder R_standing R_heads R_tails R_rowsInAll R_made R_all R_filled P_takenRuns P_starts P_queued P_merges P_told C_sampled C_sampleStandings C_sizes C_ends C_lies C_merged C_reached C_done C_mergedBy C_parts C_samples C_bound C_ticks C_mergedInAll C_mergedAgain O_paces O_up M_made M_runs M_allRuns M_begin M_size M_pool M_pooled M_ways M_merges M_takes M_taken M_parts M_every M_samples M_sample M_ends M_partSize M_merged M_most M_done M_on M_ticks M_mergedAll M_again M_paces M_up M_byHost M_heap M_used M_planned M_gone hr hR hP hC hO hweq
  subst hweq
  rcases st_cut (N := N) (p := 0) (s := fun _ => 0) (by omega) hr hR hO C_sampled C_sampleStandings C_sizes C_ends C_lies C_merged C_reached C_done C_mergedBy C_parts C_samples C_bound C_ticks C_mergedInAll C_mergedAgain M_parts M_every M_samples M_sample M_ends M_partSize M_merged M_most M_done M_on M_ticks M_mergedAll M_again M_byHost (xs (nI i + 1).toNatClampNeg) (xs (nI i + 2).toNatClampNeg) with ⟨r, e1, e2⟩ | ⟨r, p', s', c_sampled', c_samplestandings', c_sizes', c_ends', c_lies', c_merged', c_reached', c_done', c_mergedby', c_parts', c_samples', c_bound', c_ticks', c_mergedinall', c_mergedagain', m_parts', m_every', m_samples', m_sample', m_ends', m_partsize', m_merged', m_most', m_done', m_on', m_ticks', m_mergedall', m_again', m_byhost', e1, e2, g1⟩
  · refine lv_aload_n hx hb dL_law_640 rfl (lv_at hl 2 rfl) ?_
    refine lv_aload_n hx hb dL_law_641 rfl (lv_at hl 3 rfl) ?_
    refine lv_iload_n hx hb dL_law_642 rfl (lv_at hl 0 rfl) ?_
    refine lv_iconst (v := 1) hx hb dL_law_643 (by decide) ?_
    refine lv_iadd hx hb dL_law_644 ?_
    refine va_sld hx hb hX hbl hbA hw.2.2 hin1 dL_law_645 ?_
    refine lv_aload_n hx hb dL_law_646 rfl (lv_at hl 3 rfl) ?_
    refine lv_iload_n hx hb dL_law_647 rfl (lv_at hl 0 rfl) ?_
    refine lv_iconst (v := 2) hx hb dL_law_648 (by decide) ?_
    refine lv_iadd hx hb dL_law_649 ?_
    refine va_sld hx hb hX hbl hbA hw.2.2 hin2 dL_law_650 ?_
    refine clR (As := [.int (xs (nI i + 1).toNatClampNeg), .int (xs (nI i + 2).toNatClampNeg)]) (rest := []) X (c_X6_cut l dC dI cI cJ cZ aG aW aH aR aP aC aO N W_sorts W_values W_turns W_falling (nI cn) H_items H_size R_members R_starts R_inOrder R_standing R_heads R_tails R_rowsInAll R_made R_all R_filled P_takenRuns P_starts P_queued P_merges P_told C_sampled C_sampleStandings C_sizes C_ends C_lies C_merged C_reached C_done C_mergedBy C_parts C_samples C_bound C_ticks C_mergedInAll C_mergedAgain O_paces O_up (xs (nI i + 1).toNatClampNeg) (xs (nI i + 2).toNatClampNeg) e1) (cwV 2 hts gL_law_X6_cut rfl rfl rfl (by decide +kernel) ⟨Nat.le_of_ble_eq_true rfl, Nat.le_of_ble_eq_true rfl⟩) (ci := 6) (k0 := 0) rfl rfl rfl hw rfl rfl hl.1 rfl (Nat.le_of_ble_eq_true rfl) dL_law_651 hf (fun H locs hw => ?_)
    refine lv_aload_n hx hb dL_law_654 rfl (lv_at hl 1 rfl) ?_
    refine lv_aload_n hx hb dL_law_655 rfl (lv_at hl 3 rfl) ?_
    refine lv_iload_n hx hb dL_law_656 rfl (lv_at hl 0 rfl) ?_
    refine lv_iconst (v := 1) hx hb dL_law_657 (by decide) ?_
    refine lv_iadd hx hb dL_law_658 ?_
    refine va_sld hx hb hX hbl hbA hw.2.2 hin1 dL_law_659 ?_
    refine lv_aload_n hx hb dL_law_660 rfl (lv_at hl 3 rfl) ?_
    refine lv_iload_n hx hb dL_law_661 rfl (lv_at hl 0 rfl) ?_
    refine lv_iconst (v := 2) hx hb dL_law_662 (by decide) ?_
    refine lv_iadd hx hb dL_law_663 ?_
    refine va_sld hx hb hX hbl hbA hw.2.2 hin2 dL_law_664 ?_
    refine clR (As := [.int (xs (nI i + 1).toNatClampNeg), .int (xs (nI i + 2).toNatClampNeg)]) (rest := [.int r]) X (c_X7_cut l dC dI cI cJ cZ aM N W_sorts W_values (nI cn) W_turns W_falling M_made M_runs M_allRuns M_begin M_size M_pool M_pooled M_ways M_merges M_takes M_taken M_parts M_every M_samples M_sample M_ends M_partSize M_merged M_most M_done M_on M_ticks M_mergedAll M_again M_paces M_up M_byHost M_heap M_used M_planned M_gone (xs (nI i + 1).toNatClampNeg) (xs (nI i + 2).toNatClampNeg) e2) (cwV 2 hts gL_law_X7_cut rfl rfl rfl (by decide +kernel) ⟨Nat.le_of_ble_eq_true rfl, Nat.le_of_ble_eq_true rfl⟩) (ci := 7) (k0 := 0) rfl rfl rfl hw rfl rfl hl.1 rfl (Nat.le_of_ble_eq_true rfl) dL_law_665 hf (fun H locs hw => ?_)
    refine lv_icmp_eq (tgt := 913) hx hb dL_law_668 (by decide) (fun _ => ?_) (fun h => absurd rfl h)
    exact kk _ _ _ (LI_mk cI cJ cZ aG aW aH aR aP aC aO aM cn n c1 al mg p1 bf ord io so sf W_sorts W_values W_turns W_falling H_items H_size R_members R_starts R_inOrder R_standing R_heads R_tails R_rowsInAll R_made R_all R_filled P_takenRuns P_starts P_queued P_merges P_told C_sampled C_sampleStandings C_sizes C_ends C_lies C_merged C_reached C_done C_mergedBy C_parts C_samples C_bound C_ticks C_mergedInAll C_mergedAgain O_paces O_up M_made M_runs M_allRuns M_begin M_size M_pool M_pooled M_ways M_merges M_takes M_taken M_parts M_every M_samples M_sample M_ends M_partSize M_merged M_most M_done M_on M_ticks M_mergedAll M_again M_paces M_up M_byHost M_heap M_used M_planned M_gone hr hR hP hC hO) hw
  · refine lv_aload_n hx hb dL_law_640 rfl (lv_at hl 2 rfl) ?_
    refine lv_aload_n hx hb dL_law_641 rfl (lv_at hl 3 rfl) ?_
    refine lv_iload_n hx hb dL_law_642 rfl (lv_at hl 0 rfl) ?_
    refine lv_iconst (v := 1) hx hb dL_law_643 (by decide) ?_
    refine lv_iadd hx hb dL_law_644 ?_
    refine va_sld hx hb hX hbl hbA hw.2.2 hin1 dL_law_645 ?_
    refine lv_aload_n hx hb dL_law_646 rfl (lv_at hl 3 rfl) ?_
    refine lv_iload_n hx hb dL_law_647 rfl (lv_at hl 0 rfl) ?_
    refine lv_iconst (v := 2) hx hb dL_law_648 (by decide) ?_
    refine lv_iadd hx hb dL_law_649 ?_
    refine va_sld hx hb hX hbl hbA hw.2.2 hin2 dL_law_650 ?_
    refine clR (As := [.int (xs (nI i + 1).toNatClampNeg), .int (xs (nI i + 2).toNatClampNeg)]) (rest := []) X (c_X6_cut l dC dI cI cJ cZ aG aW aH aR aP aC aO N W_sorts W_values W_turns W_falling (nI cn) H_items H_size R_members R_starts R_inOrder R_standing R_heads R_tails R_rowsInAll R_made R_all R_filled P_takenRuns P_starts P_queued P_merges P_told C_sampled C_sampleStandings C_sizes C_ends C_lies C_merged C_reached C_done C_mergedBy C_parts C_samples C_bound C_ticks C_mergedInAll C_mergedAgain O_paces O_up (xs (nI i + 1).toNatClampNeg) (xs (nI i + 2).toNatClampNeg) e1) (cwV 2 hts gL_law_X6_cut rfl rfl rfl (by decide +kernel) ⟨Nat.le_of_ble_eq_true rfl, Nat.le_of_ble_eq_true rfl⟩) (ci := 6) (k0 := 0) rfl rfl rfl hw rfl rfl hl.1 rfl (Nat.le_of_ble_eq_true rfl) dL_law_651 hf (fun H locs hw => ?_)
    refine lv_aload_n hx hb dL_law_654 rfl (lv_at hl 1 rfl) ?_
    refine lv_aload_n hx hb dL_law_655 rfl (lv_at hl 3 rfl) ?_
    refine lv_iload_n hx hb dL_law_656 rfl (lv_at hl 0 rfl) ?_
    refine lv_iconst (v := 1) hx hb dL_law_657 (by decide) ?_
    refine lv_iadd hx hb dL_law_658 ?_
    refine va_sld hx hb hX hbl hbA hw.2.2 hin1 dL_law_659 ?_
    refine lv_aload_n hx hb dL_law_660 rfl (lv_at hl 3 rfl) ?_
    refine lv_iload_n hx hb dL_law_661 rfl (lv_at hl 0 rfl) ?_
    refine lv_iconst (v := 2) hx hb dL_law_662 (by decide) ?_
    refine lv_iadd hx hb dL_law_663 ?_
    refine va_sld hx hb hX hbl hbA hw.2.2 hin2 dL_law_664 ?_
    refine clR (As := [.int (xs (nI i + 1).toNatClampNeg), .int (xs (nI i + 2).toNatClampNeg)]) (rest := [.int r]) X (c_X7_cut l dC dI cI cJ cZ aM N W_sorts W_values (nI cn) W_turns W_falling M_made M_runs M_allRuns M_begin M_size M_pool M_pooled M_ways M_merges M_takes M_taken M_parts M_every M_samples M_sample M_ends M_partSize M_merged M_most M_done M_on M_ticks M_mergedAll M_again M_paces M_up M_byHost M_heap M_used M_planned M_gone (xs (nI i + 1).toNatClampNeg) (xs (nI i + 2).toNatClampNeg) e2) (cwV 2 hts gL_law_X7_cut rfl rfl rfl (by decide +kernel) ⟨Nat.le_of_ble_eq_true rfl, Nat.le_of_ble_eq_true rfl⟩) (ci := 7) (k0 := 0) rfl rfl rfl hw rfl rfl hl.1 rfl (Nat.le_of_ble_eq_true rfl) dL_law_665 hf (fun H locs hw => ?_)
    refine lv_icmp_eq (tgt := 913) hx hb dL_law_668 (by decide) (fun _ => ?_) (fun h => absurd rfl h)
    exact kk _ _ _ (LI_mk cI cJ cZ aG aW aH aR aP aC aO aM cn n c1 al mg p' bf ord io so s' W_sorts W_values W_turns W_falling H_items H_size R_members R_starts R_inOrder R_standing R_heads R_tails R_rowsInAll R_made R_all R_filled P_takenRuns P_starts P_queued P_merges P_told c_sampled' c_samplestandings' c_sizes' c_ends' c_lies' c_merged' c_reached' c_done' c_mergedby' c_parts' c_samples' c_bound' c_ticks' c_mergedinall' c_mergedagain' O_paces O_up M_made M_runs M_allRuns M_begin M_size M_pool M_pooled M_ways M_merges M_takes M_taken m_parts' m_every' m_samples' m_sample' m_ends' m_partsize' m_merged' m_most' m_done' m_on' m_ticks' m_mergedall' m_again' M_paces M_up m_byhost' M_heap M_used M_planned M_gone hr hR hP g1 hO) hw
set_option maxHeartbeats 4000000 in
set_option maxRecDepth 100000 in
theorem lo_bound {p : Program} {e : Env} {s : State} {m : MethodId} {below : List Frame} {meth : Method} {c : Code} {Q : State → Prop} {H : Heap} {locs : List Loc} {ls : Array Slot} {cells slots : Nat} (l : Launch) {b L i N : Nat} {xs : Nat → Int32} {dC : Nat → ClassId} {dI : Nat → Nat → Nat} {cI cJ cZ : ClassId} {aG aW aH aR aP aC aO aM : Nat → Nat} {A : Nat → Prop} {w : va_W} (hN : 5000 ≤ N) (X : Cx p m c cL_law 4 s #[Value.ref b] wsL_law RL (dC, dI) (tyl cI cJ cZ) A) (hX : va_X b L xs s s.heap) (hbl : b < s.heap.size) (hbA : ¬ A b) (hi : i + 6 ≤ L) (hL : L ≤ 3072) (hf : cells ≤ room_1.cells ∧ slots ≤ room_1.slots) (hI : LI cI cJ cZ aG aW aH aR aP aC aO aM w) (hw : Wd (dC, dI) A s.heap H locs w) (hl : lv_has ls 4 [(3, .int (nI i)), (2, .ref (aM 0)), (1, .ref (aG 0)), (0, .ref b)])
    (kk : ∀ (H : Heap) (locs : List Loc) (w : va_W), LI cI cJ cZ aG aW aH aR aP aC aO aM w → Wd (dC, dI) A s.heap H locs w → W p l e room_1 s m #[Value.ref b] below meth c H locs cells slots Q (F0 m 913 ls [])) : W p l e room_1 s m #[Value.ref b] below meth c H locs cells slots Q (F0 m 673 ls []) := by
  obtain ⟨hx, hb, hml, hown, hts⟩ := X.1
  refine LI_el hI ?_
  intro cn n c1 al mg p1 bf ord io so sf W_sorts W_values W_turns W_falling H_items H_size R_members R_starts R_inOrder R_standing R_heads R_tails R_rowsInAll R_made R_all R_filled P_takenRuns P_starts P_queued P_merges P_told C_sampled C_sampleStandings C_sizes C_ends C_lies C_merged C_reached C_done C_mergedBy C_parts C_samples C_bound C_ticks C_mergedInAll C_mergedAgain O_paces O_up M_made M_runs M_allRuns M_begin M_size M_pool M_pooled M_ways M_merges M_takes M_taken M_parts M_every M_samples M_sample M_ends M_partSize M_merged M_most M_done M_on M_ticks M_mergedAll M_again M_paces M_up M_byHost M_heap M_used M_planned M_gone hr hR hP hC hO hweq
  subst hweq
  obtain ⟨r, e1, e2⟩ := st_bound N hC
  have e2x : f_X7_bound N M_runs M_parts M_every M_samples = some r := by rw [hR.2.1]; exact e2
  refine lv_aload_n hx hb dL_law_673 rfl (lv_at hl 2 rfl) ?_
  refine clR (As := []) (rest := []) X (c_X6_bound l dC dI cI cJ cZ aG aW aH aR aP aC aO N W_sorts W_values W_turns W_falling (nI cn) H_items H_size R_members R_starts R_inOrder R_standing R_heads R_tails R_rowsInAll R_made R_all R_filled P_takenRuns P_starts P_queued P_merges P_told C_sampled C_sampleStandings C_sizes C_ends C_lies C_merged C_reached C_done C_mergedBy C_parts C_samples C_bound C_ticks C_mergedInAll C_mergedAgain O_paces O_up  e1) (cwV 0 hts gL_law_X6_bound rfl rfl rfl (by decide +kernel) ⟨Nat.le_of_ble_eq_true rfl, Nat.le_of_ble_eq_true rfl⟩) (ci := 6) (k0 := 0) rfl rfl rfl hw rfl rfl hl.1 rfl (Nat.le_of_ble_eq_true rfl) dL_law_674 hf (fun H locs hw => ?_)
  refine lv_aload_n hx hb dL_law_677 rfl (lv_at hl 1 rfl) ?_
  refine clR (As := []) (rest := [.int r]) X (c_X7_bound l dC dI cI cJ cZ aM N W_sorts W_values (nI cn) W_turns W_falling M_made M_runs M_allRuns M_begin M_size M_pool M_pooled M_ways M_merges M_takes M_taken M_parts M_every M_samples M_sample M_ends M_partSize M_merged M_most M_done M_on M_ticks M_mergedAll M_again M_paces M_up M_byHost M_heap M_used M_planned M_gone  e2x) (cwV 0 hts gL_law_X7_bound rfl rfl rfl (by decide +kernel) ⟨Nat.le_of_ble_eq_true rfl, Nat.le_of_ble_eq_true rfl⟩) (ci := 7) (k0 := 0) rfl rfl rfl hw rfl rfl hl.1 rfl (Nat.le_of_ble_eq_true rfl) dL_law_678 hf (fun H locs hw => ?_)
  refine lv_icmp_eq (tgt := 913) hx hb dL_law_681 (by decide) (fun _ => ?_) (fun h => absurd rfl h)
  exact kk _ _ _ (LI_mk cI cJ cZ aG aW aH aR aP aC aO aM cn n c1 al mg p1 bf ord io so sf W_sorts W_values W_turns W_falling H_items H_size R_members R_starts R_inOrder R_standing R_heads R_tails R_rowsInAll R_made R_all R_filled P_takenRuns P_starts P_queued P_merges P_told C_sampled C_sampleStandings C_sizes C_ends C_lies C_merged C_reached C_done C_mergedBy C_parts C_samples C_bound C_ticks C_mergedInAll C_mergedAgain O_paces O_up M_made M_runs M_allRuns M_begin M_size M_pool M_pooled M_ways M_merges M_takes M_taken M_parts M_every M_samples M_sample M_ends M_partSize M_merged M_most M_done M_on M_ticks M_mergedAll M_again M_paces M_up M_byHost M_heap M_used M_planned M_gone hr hR hP hC hO) hw
set_option maxHeartbeats 4000000 in
set_option maxRecDepth 100000 in
theorem lo_part {p : Program} {e : Env} {s : State} {m : MethodId} {below : List Frame} {meth : Method} {c : Code} {Q : State → Prop} {H : Heap} {locs : List Loc} {ls : Array Slot} {cells slots : Nat} (l : Launch) {b L i N : Nat} {xs : Nat → Int32} {dC : Nat → ClassId} {dI : Nat → Nat → Nat} {cI cJ cZ : ClassId} {aG aW aH aR aP aC aO aM : Nat → Nat} {A : Nat → Prop} {w : va_W} (hN : 5000 ≤ N) (X : Cx p m c cL_law 4 s #[Value.ref b] wsL_law RL (dC, dI) (tyl cI cJ cZ) A) (hX : va_X b L xs s s.heap) (hbl : b < s.heap.size) (hbA : ¬ A b) (hi : i + 6 ≤ L) (hL : L ≤ 3072) (hf : cells ≤ room_1.cells ∧ slots ≤ room_1.slots) (hI : LI cI cJ cZ aG aW aH aR aP aC aO aM w) (hw : Wd (dC, dI) A s.heap H locs w) (hl : lv_has ls 4 [(3, .int (nI i)), (2, .ref (aM 0)), (1, .ref (aG 0)), (0, .ref b)])
    (kk : ∀ (H : Heap) (locs : List Loc) (w : va_W), LI cI cJ cZ aG aW aH aR aP aC aO aM w → Wd (dC, dI) A s.heap H locs w → W p l e room_1 s m #[Value.ref b] below meth c H locs cells slots Q (F0 m 913 ls [])) : W p l e room_1 s m #[Value.ref b] below meth c H locs cells slots Q (F0 m 686 ls []) := by
  obtain ⟨hx, hb, hml, hown, hts⟩ := X.1
  have hin1 : vp_in (nI i + 1) L := in_plus (k := 1) (by omega) (by omega)
  have hin2 : vp_in (nI i + 2) L := in_plus (k := 2) (by omega) (by omega)
  refine LI_el hI ?_
  intro cn n c1 al mg p1 bf ord io so sf W_sorts W_values W_turns W_falling H_items H_size R_members R_starts R_inOrder R_standing R_heads R_tails R_rowsInAll R_made R_all R_filled P_takenRuns P_starts P_queued P_merges P_told C_sampled C_sampleStandings C_sizes C_ends C_lies C_merged C_reached C_done C_mergedBy C_parts C_samples C_bound C_ticks C_mergedInAll C_mergedAgain O_paces O_up M_made M_runs M_allRuns M_begin M_size M_pool M_pooled M_ways M_merges M_takes M_taken M_parts M_every M_samples M_sample M_ends M_partSize M_merged M_most M_done M_on M_ticks M_mergedAll M_again M_paces M_up M_byHost M_heap M_used M_planned M_gone hr hR hP hC hO hweq
  subst hweq
  obtain ⟨r, e1, e2⟩ := st_part N hC (xs (nI i + 1).toNatClampNeg) (xs (nI i + 2).toNatClampNeg)
  refine lv_aload_n hx hb dL_law_686 rfl (lv_at hl 2 rfl) ?_
  refine lv_aload_n hx hb dL_law_687 rfl (lv_at hl 3 rfl) ?_
  refine lv_iload_n hx hb dL_law_688 rfl (lv_at hl 0 rfl) ?_
  refine lv_iconst (v := 1) hx hb dL_law_689 (by decide) ?_
  refine lv_iadd hx hb dL_law_690 ?_
  refine va_sld hx hb hX hbl hbA hw.2.2 hin1 dL_law_691 ?_
  refine lv_aload_n hx hb dL_law_692 rfl (lv_at hl 3 rfl) ?_
  refine lv_iload_n hx hb dL_law_693 rfl (lv_at hl 0 rfl) ?_
  refine lv_iconst (v := 2) hx hb dL_law_694 (by decide) ?_
  refine lv_iadd hx hb dL_law_695 ?_
  refine va_sld hx hb hX hbl hbA hw.2.2 hin2 dL_law_696 ?_
  refine clR (As := [.int (xs (nI i + 1).toNatClampNeg), .int (xs (nI i + 2).toNatClampNeg)]) (rest := []) X (c_X6_part l dC dI cI cJ cZ aG aW aH aR aP aC aO N W_sorts W_values W_turns W_falling (nI cn) H_items H_size R_members R_starts R_inOrder R_standing R_heads R_tails R_rowsInAll R_made R_all R_filled P_takenRuns P_starts P_queued P_merges P_told C_sampled C_sampleStandings C_sizes C_ends C_lies C_merged C_reached C_done C_mergedBy C_parts C_samples C_bound C_ticks C_mergedInAll C_mergedAgain O_paces O_up (xs (nI i + 1).toNatClampNeg) (xs (nI i + 2).toNatClampNeg) e1) (cwV 2 hts gL_law_X6_part rfl rfl rfl (by decide +kernel) ⟨Nat.le_of_ble_eq_true rfl, Nat.le_of_ble_eq_true rfl⟩) (ci := 6) (k0 := 0) rfl rfl rfl hw rfl rfl hl.1 rfl (Nat.le_of_ble_eq_true rfl) dL_law_697 hf (fun H locs hw => ?_)
  refine lv_aload_n hx hb dL_law_700 rfl (lv_at hl 1 rfl) ?_
  refine lv_aload_n hx hb dL_law_701 rfl (lv_at hl 3 rfl) ?_
  refine lv_iload_n hx hb dL_law_702 rfl (lv_at hl 0 rfl) ?_
  refine lv_iconst (v := 1) hx hb dL_law_703 (by decide) ?_
  refine lv_iadd hx hb dL_law_704 ?_
  refine va_sld hx hb hX hbl hbA hw.2.2 hin1 dL_law_705 ?_
  refine lv_aload_n hx hb dL_law_706 rfl (lv_at hl 3 rfl) ?_
  refine lv_iload_n hx hb dL_law_707 rfl (lv_at hl 0 rfl) ?_
  refine lv_iconst (v := 2) hx hb dL_law_708 (by decide) ?_
  refine lv_iadd hx hb dL_law_709 ?_
  refine va_sld hx hb hX hbl hbA hw.2.2 hin2 dL_law_710 ?_
  refine clR (As := [.int (xs (nI i + 1).toNatClampNeg), .int (xs (nI i + 2).toNatClampNeg)]) (rest := [.int r]) X (c_X7_part l dC dI cI cJ cZ aM N W_sorts W_values (nI cn) W_turns W_falling M_made M_runs M_allRuns M_begin M_size M_pool M_pooled M_ways M_merges M_takes M_taken M_parts M_every M_samples M_sample M_ends M_partSize M_merged M_most M_done M_on M_ticks M_mergedAll M_again M_paces M_up M_byHost M_heap M_used M_planned M_gone (xs (nI i + 1).toNatClampNeg) (xs (nI i + 2).toNatClampNeg) e2) (cwV 2 hts gL_law_X7_part rfl rfl rfl (by decide +kernel) ⟨Nat.le_of_ble_eq_true rfl, Nat.le_of_ble_eq_true rfl⟩) (ci := 7) (k0 := 0) rfl rfl rfl hw rfl rfl hl.1 rfl (Nat.le_of_ble_eq_true rfl) dL_law_711 hf (fun H locs hw => ?_)
  refine lv_icmp_eq (tgt := 913) hx hb dL_law_714 (by decide) (fun _ => ?_) (fun h => absurd rfl h)
  exact kk _ _ _ (LI_mk cI cJ cZ aG aW aH aR aP aC aO aM cn n c1 al mg p1 bf ord io so sf W_sorts W_values W_turns W_falling H_items H_size R_members R_starts R_inOrder R_standing R_heads R_tails R_rowsInAll R_made R_all R_filled P_takenRuns P_starts P_queued P_merges P_told C_sampled C_sampleStandings C_sizes C_ends C_lies C_merged C_reached C_done C_mergedBy C_parts C_samples C_bound C_ticks C_mergedInAll C_mergedAgain O_paces O_up M_made M_runs M_allRuns M_begin M_size M_pool M_pooled M_ways M_merges M_takes M_taken M_parts M_every M_samples M_sample M_ends M_partSize M_merged M_most M_done M_on M_ticks M_mergedAll M_again M_paces M_up M_byHost M_heap M_used M_planned M_gone hr hR hP hC hO) hw
