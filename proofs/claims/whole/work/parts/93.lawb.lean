/-! THE LAW: its cases, laid by program. -/
set_option maxHeartbeats 4000000 in
set_option maxRecDepth 100000 in
theorem lo_row {p : Program} {e : Env} {s : State} {m : MethodId} {below : List Frame} {meth : Method} {c : Code} {Q : State → Prop} {H : Heap} {locs : List Loc} {ls : Array Slot} {cells slots : Nat} (l : Launch) {b L i N : Nat} {xs : Nat → Int32} {dC : Nat → ClassId} {dI : Nat → Nat → Nat} {cI cJ cZ : ClassId} {aG aW aH aR aP aC aO aM : Nat → Nat} {A : Nat → Prop} {w : va_W} (hN : 5000 ≤ N) (X : Cx p m c cL_law 4 s #[Value.ref b] wsL_law RL (dC, dI) (tyl cI cJ cZ) A) (hX : va_X b L xs s s.heap) (hbl : b < s.heap.size) (hbA : ¬ A b) (hi : i + 6 ≤ L) (hL : L ≤ 3072) (hf : cells ≤ room_1.cells ∧ slots ≤ room_1.slots) (hI : LI cI cJ cZ aG aW aH aR aP aC aO aM w) (hw : Wd (dC, dI) A s.heap H locs w) (hl : lv_has ls 4 [(3, .int (nI i)), (2, .ref (aM 0)), (1, .ref (aG 0)), (0, .ref b)])
    (kk : ∀ (H : Heap) (locs : List Loc) (w : va_W), LI cI cJ cZ aG aW aH aR aP aC aO aM w → Wd (dC, dI) A s.heap H locs w → W p l e room_1 s m #[Value.ref b] below meth c H locs cells slots Q (F0 m 913 ls [])) : W p l e room_1 s m #[Value.ref b] below meth c H locs cells slots Q (F0 m 367 ls []) := by
  obtain ⟨hx, hb, hml, hown, hts⟩ := X.1
  have hin1 : vp_in (nI i + 1) L := in_plus (k := 1) (by omega) (by omega)
  have hin2 : vp_in (nI i + 2) L := in_plus (k := 2) (by omega) (by omega)
  refine LI_el hI ?_
  intro cn n c1 al mg p1 bf ord io so sf W_sorts W_values W_turns W_falling H_items H_size R_members R_starts R_inOrder R_standing R_heads R_tails R_rowsInAll R_made R_all R_filled P_takenRuns P_starts P_queued P_merges P_told C_sampled C_sampleStandings C_sizes C_ends C_lies C_merged C_reached C_done C_mergedBy C_parts C_samples C_bound C_ticks C_mergedInAll C_mergedAgain O_paces O_up M_made M_runs M_allRuns M_begin M_size M_pool M_pooled M_ways M_merges M_takes M_taken M_parts M_every M_samples M_sample M_ends M_partSize M_merged M_most M_done M_on M_ticks M_mergedAll M_again M_paces M_up M_byHost M_heap M_used M_planned M_gone hr hR hP hC hO hweq
  subst hweq
  obtain ⟨r, e1, e2⟩ := st_row N hr (xs (nI i + 1).toNatClampNeg) (xs (nI i + 2).toNatClampNeg)
  refine lv_aload_n hx hb dL_law_367 rfl (lv_at hl 2 rfl) ?_
  refine lv_aload_n hx hb dL_law_368 rfl (lv_at hl 3 rfl) ?_
  refine lv_iload_n hx hb dL_law_369 rfl (lv_at hl 0 rfl) ?_
  refine lv_iconst (v := 1) hx hb dL_law_370 (by decide) ?_
  refine lv_iadd hx hb dL_law_371 ?_
  refine va_sld hx hb hX hbl hbA hw.2.2 hin1 dL_law_372 ?_
  refine lv_aload_n hx hb dL_law_373 rfl (lv_at hl 3 rfl) ?_
  refine lv_iload_n hx hb dL_law_374 rfl (lv_at hl 0 rfl) ?_
  refine lv_iconst (v := 2) hx hb dL_law_375 (by decide) ?_
  refine lv_iadd hx hb dL_law_376 ?_
  refine va_sld hx hb hX hbl hbA hw.2.2 hin2 dL_law_377 ?_
  refine clR (As := [.int (xs (nI i + 1).toNatClampNeg), .int (xs (nI i + 2).toNatClampNeg)]) (rest := []) X (c_X6_row l dC dI cI cJ cZ aG aW aH aR aP aC aO N W_sorts W_values W_turns W_falling (nI cn) H_items H_size R_members R_starts R_inOrder R_standing R_heads R_tails R_rowsInAll R_made R_all R_filled P_takenRuns P_starts P_queued P_merges P_told C_sampled C_sampleStandings C_sizes C_ends C_lies C_merged C_reached C_done C_mergedBy C_parts C_samples C_bound C_ticks C_mergedInAll C_mergedAgain O_paces O_up (xs (nI i + 1).toNatClampNeg) (xs (nI i + 2).toNatClampNeg) e1) (cwV 2 hts gL_law_X6_row rfl rfl rfl (by decide +kernel) ⟨Nat.le_of_ble_eq_true rfl, Nat.le_of_ble_eq_true rfl⟩) (ci := 6) (k0 := 0) rfl rfl rfl hw rfl rfl hl.1 rfl (Nat.le_of_ble_eq_true rfl) dL_law_378 hf (fun H locs hw => ?_)
  refine lv_aload_n hx hb dL_law_381 rfl (lv_at hl 1 rfl) ?_
  refine lv_aload_n hx hb dL_law_382 rfl (lv_at hl 3 rfl) ?_
  refine lv_iload_n hx hb dL_law_383 rfl (lv_at hl 0 rfl) ?_
  refine lv_iconst (v := 1) hx hb dL_law_384 (by decide) ?_
  refine lv_iadd hx hb dL_law_385 ?_
  refine va_sld hx hb hX hbl hbA hw.2.2 hin1 dL_law_386 ?_
  refine lv_aload_n hx hb dL_law_387 rfl (lv_at hl 3 rfl) ?_
  refine lv_iload_n hx hb dL_law_388 rfl (lv_at hl 0 rfl) ?_
  refine lv_iconst (v := 2) hx hb dL_law_389 (by decide) ?_
  refine lv_iadd hx hb dL_law_390 ?_
  refine va_sld hx hb hX hbl hbA hw.2.2 hin2 dL_law_391 ?_
  refine clR (As := [.int (xs (nI i + 1).toNatClampNeg), .int (xs (nI i + 2).toNatClampNeg)]) (rest := [.int r]) X (c_X7_row l dC dI cI cJ cZ aM N W_sorts W_values (nI cn) W_turns W_falling M_made M_runs M_allRuns M_begin M_size M_pool M_pooled M_ways M_merges M_takes M_taken M_parts M_every M_samples M_sample M_ends M_partSize M_merged M_most M_done M_on M_ticks M_mergedAll M_again M_paces M_up M_byHost M_heap M_used M_planned M_gone (xs (nI i + 1).toNatClampNeg) (xs (nI i + 2).toNatClampNeg) e2) (cwV 2 hts gL_law_X7_row rfl rfl rfl (by decide +kernel) ⟨Nat.le_of_ble_eq_true rfl, Nat.le_of_ble_eq_true rfl⟩) (ci := 7) (k0 := 0) rfl rfl rfl hw rfl rfl hl.1 rfl (Nat.le_of_ble_eq_true rfl) dL_law_392 hf (fun H locs hw => ?_)
  refine lv_icmp_eq (tgt := 913) hx hb dL_law_395 (by decide) (fun _ => ?_) (fun h => absurd rfl h)
  exact kk _ _ _ (LI_mk cI cJ cZ aG aW aH aR aP aC aO aM cn n c1 al mg p1 bf ord io so sf W_sorts W_values W_turns W_falling H_items H_size R_members R_starts R_inOrder R_standing R_heads R_tails R_rowsInAll R_made R_all R_filled P_takenRuns P_starts P_queued P_merges P_told C_sampled C_sampleStandings C_sizes C_ends C_lies C_merged C_reached C_done C_mergedBy C_parts C_samples C_bound C_ticks C_mergedInAll C_mergedAgain O_paces O_up M_made M_runs M_allRuns M_begin M_size M_pool M_pooled M_ways M_merges M_takes M_taken M_parts M_every M_samples M_sample M_ends M_partSize M_merged M_most M_done M_on M_ticks M_mergedAll M_again M_paces M_up M_byHost M_heap M_used M_planned M_gone hr hR hP hC hO) hw
set_option maxHeartbeats 4000000 in
set_option maxRecDepth 100000 in
theorem lo_against {p : Program} {e : Env} {s : State} {m : MethodId} {below : List Frame} {meth : Method} {c : Code} {Q : State → Prop} {H : Heap} {locs : List Loc} {ls : Array Slot} {cells slots : Nat} (l : Launch) {b L i N : Nat} {xs : Nat → Int32} {dC : Nat → ClassId} {dI : Nat → Nat → Nat} {cI cJ cZ : ClassId} {aG aW aH aR aP aC aO aM : Nat → Nat} {A : Nat → Prop} {w : va_W} (hN : 5000 ≤ N) (X : Cx p m c cL_law 4 s #[Value.ref b] wsL_law RL (dC, dI) (tyl cI cJ cZ) A) (hX : va_X b L xs s s.heap) (hbl : b < s.heap.size) (hbA : ¬ A b) (hi : i + 6 ≤ L) (hL : L ≤ 3072) (hf : cells ≤ room_1.cells ∧ slots ≤ room_1.slots) (hI : LI cI cJ cZ aG aW aH aR aP aC aO aM w) (hw : Wd (dC, dI) A s.heap H locs w) (hl : lv_has ls 4 [(3, .int (nI i)), (2, .ref (aM 0)), (1, .ref (aG 0)), (0, .ref b)])
    (kk : ∀ (H : Heap) (locs : List Loc) (w : va_W), LI cI cJ cZ aG aW aH aR aP aC aO aM w → Wd (dC, dI) A s.heap H locs w → W p l e room_1 s m #[Value.ref b] below meth c H locs cells slots Q (F0 m 913 ls [])) : W p l e room_1 s m #[Value.ref b] below meth c H locs cells slots Q (F0 m 400 ls []) := by
  obtain ⟨hx, hb, hml, hown, hts⟩ := X.1
  have hin1 : vp_in (nI i + 1) L := in_plus (k := 1) (by omega) (by omega)
  have hin2 : vp_in (nI i + 2) L := in_plus (k := 2) (by omega) (by omega)
  refine LI_el hI ?_
  intro cn n c1 al mg p1 bf ord io so sf W_sorts W_values W_turns W_falling H_items H_size R_members R_starts R_inOrder R_standing R_heads R_tails R_rowsInAll R_made R_all R_filled P_takenRuns P_starts P_queued P_merges P_told C_sampled C_sampleStandings C_sizes C_ends C_lies C_merged C_reached C_done C_mergedBy C_parts C_samples C_bound C_ticks C_mergedInAll C_mergedAgain O_paces O_up M_made M_runs M_allRuns M_begin M_size M_pool M_pooled M_ways M_merges M_takes M_taken M_parts M_every M_samples M_sample M_ends M_partSize M_merged M_most M_done M_on M_ticks M_mergedAll M_again M_paces M_up M_byHost M_heap M_used M_planned M_gone hr hR hP hC hO hweq
  subst hweq
  obtain ⟨r, e1, e2⟩ := st_against N hr (xs (nI i + 1).toNatClampNeg) (xs (nI i + 2).toNatClampNeg)
  refine lv_aload_n hx hb dL_law_400 rfl (lv_at hl 2 rfl) ?_
  refine lv_aload_n hx hb dL_law_401 rfl (lv_at hl 3 rfl) ?_
  refine lv_iload_n hx hb dL_law_402 rfl (lv_at hl 0 rfl) ?_
  refine lv_iconst (v := 1) hx hb dL_law_403 (by decide) ?_
  refine lv_iadd hx hb dL_law_404 ?_
  refine va_sld hx hb hX hbl hbA hw.2.2 hin1 dL_law_405 ?_
  refine lv_aload_n hx hb dL_law_406 rfl (lv_at hl 3 rfl) ?_
  refine lv_iload_n hx hb dL_law_407 rfl (lv_at hl 0 rfl) ?_
  refine lv_iconst (v := 2) hx hb dL_law_408 (by decide) ?_
  refine lv_iadd hx hb dL_law_409 ?_
  refine va_sld hx hb hX hbl hbA hw.2.2 hin2 dL_law_410 ?_
  refine clR (As := [.int (xs (nI i + 1).toNatClampNeg), .int (xs (nI i + 2).toNatClampNeg)]) (rest := []) X (c_X6_against l dC dI cI cJ cZ aG aW aH aR aP aC aO N W_sorts W_values W_turns W_falling (nI cn) H_items H_size R_members R_starts R_inOrder R_standing R_heads R_tails R_rowsInAll R_made R_all R_filled P_takenRuns P_starts P_queued P_merges P_told C_sampled C_sampleStandings C_sizes C_ends C_lies C_merged C_reached C_done C_mergedBy C_parts C_samples C_bound C_ticks C_mergedInAll C_mergedAgain O_paces O_up (xs (nI i + 1).toNatClampNeg) (xs (nI i + 2).toNatClampNeg) e1) (cwV 2 hts gL_law_X6_against rfl rfl rfl (by decide +kernel) ⟨Nat.le_of_ble_eq_true rfl, Nat.le_of_ble_eq_true rfl⟩) (ci := 6) (k0 := 0) rfl rfl rfl hw rfl rfl hl.1 rfl (Nat.le_of_ble_eq_true rfl) dL_law_411 hf (fun H locs hw => ?_)
  refine lv_aload_n hx hb dL_law_414 rfl (lv_at hl 1 rfl) ?_
  refine lv_aload_n hx hb dL_law_415 rfl (lv_at hl 3 rfl) ?_
  refine lv_iload_n hx hb dL_law_416 rfl (lv_at hl 0 rfl) ?_
  refine lv_iconst (v := 1) hx hb dL_law_417 (by decide) ?_
  refine lv_iadd hx hb dL_law_418 ?_
  refine va_sld hx hb hX hbl hbA hw.2.2 hin1 dL_law_419 ?_
  refine lv_aload_n hx hb dL_law_420 rfl (lv_at hl 3 rfl) ?_
  refine lv_iload_n hx hb dL_law_421 rfl (lv_at hl 0 rfl) ?_
  refine lv_iconst (v := 2) hx hb dL_law_422 (by decide) ?_
  refine lv_iadd hx hb dL_law_423 ?_
  refine va_sld hx hb hX hbl hbA hw.2.2 hin2 dL_law_424 ?_
  refine clR (As := [.int (xs (nI i + 1).toNatClampNeg), .int (xs (nI i + 2).toNatClampNeg)]) (rest := [.int r]) X (c_X7_against l dC dI cI cJ cZ aM N W_sorts W_values (nI cn) W_turns W_falling M_made M_runs M_allRuns M_begin M_size M_pool M_pooled M_ways M_merges M_takes M_taken M_parts M_every M_samples M_sample M_ends M_partSize M_merged M_most M_done M_on M_ticks M_mergedAll M_again M_paces M_up M_byHost M_heap M_used M_planned M_gone (xs (nI i + 1).toNatClampNeg) (xs (nI i + 2).toNatClampNeg) e2) (cwV 2 hts gL_law_X7_against rfl rfl rfl (by decide +kernel) ⟨Nat.le_of_ble_eq_true rfl, Nat.le_of_ble_eq_true rfl⟩) (ci := 7) (k0 := 0) rfl rfl rfl hw rfl rfl hl.1 rfl (Nat.le_of_ble_eq_true rfl) dL_law_425 hf (fun H locs hw => ?_)
  refine lv_icmp_eq (tgt := 913) hx hb dL_law_428 (by decide) (fun _ => ?_) (fun h => absurd rfl h)
  exact kk _ _ _ (LI_mk cI cJ cZ aG aW aH aR aP aC aO aM cn n c1 al mg p1 bf ord io so sf W_sorts W_values W_turns W_falling H_items H_size R_members R_starts R_inOrder R_standing R_heads R_tails R_rowsInAll R_made R_all R_filled P_takenRuns P_starts P_queued P_merges P_told C_sampled C_sampleStandings C_sizes C_ends C_lies C_merged C_reached C_done C_mergedBy C_parts C_samples C_bound C_ticks C_mergedInAll C_mergedAgain O_paces O_up M_made M_runs M_allRuns M_begin M_size M_pool M_pooled M_ways M_merges M_takes M_taken M_parts M_every M_samples M_sample M_ends M_partSize M_merged M_most M_done M_on M_ticks M_mergedAll M_again M_paces M_up M_byHost M_heap M_used M_planned M_gone hr hR hP hC hO) hw
set_option maxHeartbeats 4000000 in
set_option maxRecDepth 100000 in
theorem lo_rank {p : Program} {e : Env} {s : State} {m : MethodId} {below : List Frame} {meth : Method} {c : Code} {Q : State → Prop} {H : Heap} {locs : List Loc} {ls : Array Slot} {cells slots : Nat} (l : Launch) {b L i N : Nat} {xs : Nat → Int32} {dC : Nat → ClassId} {dI : Nat → Nat → Nat} {cI cJ cZ : ClassId} {aG aW aH aR aP aC aO aM : Nat → Nat} {A : Nat → Prop} {w : va_W} (hN : 5000 ≤ N) (X : Cx p m c cL_law 4 s #[Value.ref b] wsL_law RL (dC, dI) (tyl cI cJ cZ) A) (hX : va_X b L xs s s.heap) (hbl : b < s.heap.size) (hbA : ¬ A b) (hi : i + 6 ≤ L) (hL : L ≤ 3072) (hf : cells ≤ room_1.cells ∧ slots ≤ room_1.slots) (hI : LI cI cJ cZ aG aW aH aR aP aC aO aM w) (hw : Wd (dC, dI) A s.heap H locs w) (hl : lv_has ls 4 [(3, .int (nI i)), (2, .ref (aM 0)), (1, .ref (aG 0)), (0, .ref b)])
    (kk : ∀ (H : Heap) (locs : List Loc) (w : va_W), LI cI cJ cZ aG aW aH aR aP aC aO aM w → Wd (dC, dI) A s.heap H locs w → W p l e room_1 s m #[Value.ref b] below meth c H locs cells slots Q (F0 m 913 ls [])) : W p l e room_1 s m #[Value.ref b] below meth c H locs cells slots Q (F0 m 433 ls []) := by
  obtain ⟨hx, hb, hml, hown, hts⟩ := X.1
  have hin1 : vp_in (nI i + 1) L := in_plus (k := 1) (by omega) (by omega)
  refine LI_el hI ?_
  intro cn n c1 al mg p1 bf ord io so sf W_sorts W_values W_turns W_falling H_items H_size R_members R_starts R_inOrder R_standing R_heads R_tails R_rowsInAll R_made R_all R_filled P_takenRuns P_starts P_queued P_merges P_told C_sampled C_sampleStandings C_sizes C_ends C_lies C_merged C_reached C_done C_mergedBy C_parts C_samples C_bound C_ticks C_mergedInAll C_mergedAgain O_paces O_up M_made M_runs M_allRuns M_begin M_size M_pool M_pooled M_ways M_merges M_takes M_taken M_parts M_every M_samples M_sample M_ends M_partSize M_merged M_most M_done M_on M_ticks M_mergedAll M_again M_paces M_up M_byHost M_heap M_used M_planned M_gone hr hR hP hC hO hweq
  subst hweq
  obtain ⟨r, e1, e2⟩ := st_rank (N := N) (by omega) hr (xs (nI i + 1).toNatClampNeg)
  refine lv_aload_n hx hb dL_law_433 rfl (lv_at hl 2 rfl) ?_
  refine lv_aload_n hx hb dL_law_434 rfl (lv_at hl 3 rfl) ?_
  refine lv_iload_n hx hb dL_law_435 rfl (lv_at hl 0 rfl) ?_
  refine lv_iconst (v := 1) hx hb dL_law_436 (by decide) ?_
  refine lv_iadd hx hb dL_law_437 ?_
  refine va_sld hx hb hX hbl hbA hw.2.2 hin1 dL_law_438 ?_
  refine clR (As := [.int (xs (nI i + 1).toNatClampNeg)]) (rest := []) X (c_X6_rank l dC dI cI cJ cZ aG aW aH aR aP aC aO N W_sorts W_values W_turns W_falling (nI cn) H_items H_size R_members R_starts R_inOrder R_standing R_heads R_tails R_rowsInAll R_made R_all R_filled P_takenRuns P_starts P_queued P_merges P_told C_sampled C_sampleStandings C_sizes C_ends C_lies C_merged C_reached C_done C_mergedBy C_parts C_samples C_bound C_ticks C_mergedInAll C_mergedAgain O_paces O_up (xs (nI i + 1).toNatClampNeg) e1) (cwV 1 hts gL_law_X6_rank rfl rfl rfl (by decide +kernel) ⟨Nat.le_of_ble_eq_true rfl, Nat.le_of_ble_eq_true rfl⟩) (ci := 6) (k0 := 0) rfl rfl rfl hw rfl rfl hl.1 rfl (Nat.le_of_ble_eq_true rfl) dL_law_439 hf (fun H locs hw => ?_)
  refine lv_aload_n hx hb dL_law_442 rfl (lv_at hl 1 rfl) ?_
  refine lv_aload_n hx hb dL_law_443 rfl (lv_at hl 3 rfl) ?_
  refine lv_iload_n hx hb dL_law_444 rfl (lv_at hl 0 rfl) ?_
  refine lv_iconst (v := 1) hx hb dL_law_445 (by decide) ?_
  refine lv_iadd hx hb dL_law_446 ?_
  refine va_sld hx hb hX hbl hbA hw.2.2 hin1 dL_law_447 ?_
  refine clR (As := [.int (xs (nI i + 1).toNatClampNeg)]) (rest := [.int r]) X (c_X7_rank l dC dI cI cJ cZ aM N W_sorts W_values (nI cn) W_turns W_falling M_made M_runs M_allRuns M_begin M_size M_pool M_pooled M_ways M_merges M_takes M_taken M_parts M_every M_samples M_sample M_ends M_partSize M_merged M_most M_done M_on M_ticks M_mergedAll M_again M_paces M_up M_byHost M_heap M_used M_planned M_gone (xs (nI i + 1).toNatClampNeg) e2) (cwV 1 hts gL_law_X7_rank rfl rfl rfl (by decide +kernel) ⟨Nat.le_of_ble_eq_true rfl, Nat.le_of_ble_eq_true rfl⟩) (ci := 7) (k0 := 0) rfl rfl rfl hw rfl rfl hl.1 rfl (Nat.le_of_ble_eq_true rfl) dL_law_448 hf (fun H locs hw => ?_)
  refine lv_icmp_eq (tgt := 913) hx hb dL_law_451 (by decide) (fun _ => ?_) (fun h => absurd rfl h)
  exact kk _ _ _ (LI_mk cI cJ cZ aG aW aH aR aP aC aO aM cn n c1 al mg p1 bf ord io so sf W_sorts W_values W_turns W_falling H_items H_size R_members R_starts R_inOrder R_standing R_heads R_tails R_rowsInAll R_made R_all R_filled P_takenRuns P_starts P_queued P_merges P_told C_sampled C_sampleStandings C_sizes C_ends C_lies C_merged C_reached C_done C_mergedBy C_parts C_samples C_bound C_ticks C_mergedInAll C_mergedAgain O_paces O_up M_made M_runs M_allRuns M_begin M_size M_pool M_pooled M_ways M_merges M_takes M_taken M_parts M_every M_samples M_sample M_ends M_partSize M_merged M_most M_done M_on M_ticks M_mergedAll M_again M_paces M_up M_byHost M_heap M_used M_planned M_gone hr hR hP hC hO) hw
set_option maxHeartbeats 4000000 in
set_option maxRecDepth 100000 in
theorem lo_runs {p : Program} {e : Env} {s : State} {m : MethodId} {below : List Frame} {meth : Method} {c : Code} {Q : State → Prop} {H : Heap} {locs : List Loc} {ls : Array Slot} {cells slots : Nat} (l : Launch) {b L i N : Nat} {xs : Nat → Int32} {dC : Nat → ClassId} {dI : Nat → Nat → Nat} {cI cJ cZ : ClassId} {aG aW aH aR aP aC aO aM : Nat → Nat} {A : Nat → Prop} {w : va_W} (hN : 5000 ≤ N) (X : Cx p m c cL_law 4 s #[Value.ref b] wsL_law RL (dC, dI) (tyl cI cJ cZ) A) (hX : va_X b L xs s s.heap) (hbl : b < s.heap.size) (hbA : ¬ A b) (hi : i + 6 ≤ L) (hL : L ≤ 3072) (hf : cells ≤ room_1.cells ∧ slots ≤ room_1.slots) (hI : LI cI cJ cZ aG aW aH aR aP aC aO aM w) (hw : Wd (dC, dI) A s.heap H locs w) (hl : lv_has ls 4 [(3, .int (nI i)), (2, .ref (aM 0)), (1, .ref (aG 0)), (0, .ref b)])
    (kk : ∀ (H : Heap) (locs : List Loc) (w : va_W), LI cI cJ cZ aG aW aH aR aP aC aO aM w → Wd (dC, dI) A s.heap H locs w → W p l e room_1 s m #[Value.ref b] below meth c H locs cells slots Q (F0 m 913 ls [])) : W p l e room_1 s m #[Value.ref b] below meth c H locs cells slots Q (F0 m 456 ls []) := by
  obtain ⟨hx, hb, hml, hown, hts⟩ := X.1
  have hin1 : vp_in (nI i + 1) L := in_plus (k := 1) (by omega) (by omega)
  refine LI_el hI ?_
  intro cn n c1 al mg p1 bf ord io so sf W_sorts W_values W_turns W_falling H_items H_size R_members R_starts R_inOrder R_standing R_heads R_tails R_rowsInAll R_made R_all R_filled P_takenRuns P_starts P_queued P_merges P_told C_sampled C_sampleStandings C_sizes C_ends C_lies C_merged C_reached C_done C_mergedBy C_parts C_samples C_bound C_ticks C_mergedInAll C_mergedAgain O_paces O_up M_made M_runs M_allRuns M_begin M_size M_pool M_pooled M_ways M_merges M_takes M_taken M_parts M_every M_samples M_sample M_ends M_partSize M_merged M_most M_done M_on M_ticks M_mergedAll M_again M_paces M_up M_byHost M_heap M_used M_planned M_gone hr hR hP hC hO hweq
  subst hweq
  rcases st_runs (N := N) (by omega) hr H_items H_size R_members R_starts R_inOrder R_standing R_rowsInAll R_made R_all R_filled P_merges P_told C_mergedBy C_parts C_samples C_bound C_ticks C_mergedInAll C_mergedAgain M_made M_runs M_allRuns M_begin M_size M_pool M_pooled M_ways M_merges M_parts M_samples M_heap (xs (nI i + 1).toNatClampNeg) with ⟨r, e1, e2⟩ | ⟨n', b', ord', io', so', it', sz', mb', rst', inO', sd', g', bgn', msz', pool', hp', e1, e2, g1, g2⟩
  · refine lv_aload_n hx hb dL_law_456 rfl (lv_at hl 2 rfl) ?_
    refine lv_aload_n hx hb dL_law_457 rfl (lv_at hl 3 rfl) ?_
    refine lv_iload_n hx hb dL_law_458 rfl (lv_at hl 0 rfl) ?_
    refine lv_iconst (v := 1) hx hb dL_law_459 (by decide) ?_
    refine lv_iadd hx hb dL_law_460 ?_
    refine va_sld hx hb hX hbl hbA hw.2.2 hin1 dL_law_461 ?_
    refine clR (As := [.int (xs (nI i + 1).toNatClampNeg)]) (rest := []) X (c_X6_runs l dC dI cI cJ cZ aG aW aH aR aP aC aO N W_sorts W_values W_turns W_falling (nI cn) H_items H_size R_members R_starts R_inOrder R_standing R_heads R_tails R_rowsInAll R_made R_all R_filled P_takenRuns P_starts P_queued P_merges P_told C_sampled C_sampleStandings C_sizes C_ends C_lies C_merged C_reached C_done C_mergedBy C_parts C_samples C_bound C_ticks C_mergedInAll C_mergedAgain O_paces O_up (xs (nI i + 1).toNatClampNeg) e1) (cwV 1 hts gL_law_X6_runs rfl rfl rfl (by decide +kernel) ⟨Nat.le_of_ble_eq_true rfl, Nat.le_of_ble_eq_true rfl⟩) (ci := 6) (k0 := 0) rfl rfl rfl hw rfl rfl hl.1 rfl (Nat.le_of_ble_eq_true rfl) dL_law_462 hf (fun H locs hw => ?_)
    refine lv_aload_n hx hb dL_law_465 rfl (lv_at hl 1 rfl) ?_
    refine lv_aload_n hx hb dL_law_466 rfl (lv_at hl 3 rfl) ?_
    refine lv_iload_n hx hb dL_law_467 rfl (lv_at hl 0 rfl) ?_
    refine lv_iconst (v := 1) hx hb dL_law_468 (by decide) ?_
    refine lv_iadd hx hb dL_law_469 ?_
    refine va_sld hx hb hX hbl hbA hw.2.2 hin1 dL_law_470 ?_
    refine clR (As := [.int (xs (nI i + 1).toNatClampNeg)]) (rest := [.int r]) X (c_X7_runs l dC dI cI cJ cZ aM N W_sorts W_values (nI cn) W_turns W_falling M_made M_runs M_allRuns M_begin M_size M_pool M_pooled M_ways M_merges M_takes M_taken M_parts M_every M_samples M_sample M_ends M_partSize M_merged M_most M_done M_on M_ticks M_mergedAll M_again M_paces M_up M_byHost M_heap M_used M_planned M_gone (xs (nI i + 1).toNatClampNeg) e2) (cwV 1 hts gL_law_X7_runs rfl rfl rfl (by decide +kernel) ⟨Nat.le_of_ble_eq_true rfl, Nat.le_of_ble_eq_true rfl⟩) (ci := 7) (k0 := 0) rfl rfl rfl hw rfl rfl hl.1 rfl (Nat.le_of_ble_eq_true rfl) dL_law_471 hf (fun H locs hw => ?_)
    refine lv_icmp_eq (tgt := 913) hx hb dL_law_474 (by decide) (fun _ => ?_) (fun h => absurd rfl h)
    exact kk _ _ _ (LI_mk cI cJ cZ aG aW aH aR aP aC aO aM cn n c1 al mg p1 bf ord io so sf W_sorts W_values W_turns W_falling H_items H_size R_members R_starts R_inOrder R_standing R_heads R_tails R_rowsInAll R_made R_all R_filled P_takenRuns P_starts P_queued P_merges P_told C_sampled C_sampleStandings C_sizes C_ends C_lies C_merged C_reached C_done C_mergedBy C_parts C_samples C_bound C_ticks C_mergedInAll C_mergedAgain O_paces O_up M_made M_runs M_allRuns M_begin M_size M_pool M_pooled M_ways M_merges M_takes M_taken M_parts M_every M_samples M_sample M_ends M_partSize M_merged M_most M_done M_on M_ticks M_mergedAll M_again M_paces M_up M_byHost M_heap M_used M_planned M_gone hr hR hP hC hO) hw
  · refine lv_aload_n hx hb dL_law_456 rfl (lv_at hl 2 rfl) ?_
    refine lv_aload_n hx hb dL_law_457 rfl (lv_at hl 3 rfl) ?_
    refine lv_iload_n hx hb dL_law_458 rfl (lv_at hl 0 rfl) ?_
    refine lv_iconst (v := 1) hx hb dL_law_459 (by decide) ?_
    refine lv_iadd hx hb dL_law_460 ?_
    refine va_sld hx hb hX hbl hbA hw.2.2 hin1 dL_law_461 ?_
    refine clR (As := [.int (xs (nI i + 1).toNatClampNeg)]) (rest := []) X (c_X6_runs l dC dI cI cJ cZ aG aW aH aR aP aC aO N W_sorts W_values W_turns W_falling (nI cn) H_items H_size R_members R_starts R_inOrder R_standing R_heads R_tails R_rowsInAll R_made R_all R_filled P_takenRuns P_starts P_queued P_merges P_told C_sampled C_sampleStandings C_sizes C_ends C_lies C_merged C_reached C_done C_mergedBy C_parts C_samples C_bound C_ticks C_mergedInAll C_mergedAgain O_paces O_up (xs (nI i + 1).toNatClampNeg) e1) (cwV 1 hts gL_law_X6_runs rfl rfl rfl (by decide +kernel) ⟨Nat.le_of_ble_eq_true rfl, Nat.le_of_ble_eq_true rfl⟩) (ci := 6) (k0 := 0) rfl rfl rfl hw rfl rfl hl.1 rfl (Nat.le_of_ble_eq_true rfl) dL_law_462 hf (fun H locs hw => ?_)
    refine lv_aload_n hx hb dL_law_465 rfl (lv_at hl 1 rfl) ?_
    refine lv_aload_n hx hb dL_law_466 rfl (lv_at hl 3 rfl) ?_
    refine lv_iload_n hx hb dL_law_467 rfl (lv_at hl 0 rfl) ?_
    refine lv_iconst (v := 1) hx hb dL_law_468 (by decide) ?_
    refine lv_iadd hx hb dL_law_469 ?_
    refine va_sld hx hb hX hbl hbA hw.2.2 hin1 dL_law_470 ?_
    refine clR (As := [.int (xs (nI i + 1).toNatClampNeg)]) (rest := [.int (nI n')]) X (c_X7_runs l dC dI cI cJ cZ aM N W_sorts W_values (nI cn) W_turns W_falling M_made M_runs M_allRuns M_begin M_size M_pool M_pooled M_ways M_merges M_takes M_taken M_parts M_every M_samples M_sample M_ends M_partSize M_merged M_most M_done M_on M_ticks M_mergedAll M_again M_paces M_up M_byHost M_heap M_used M_planned M_gone (xs (nI i + 1).toNatClampNeg) e2) (cwV 1 hts gL_law_X7_runs rfl rfl rfl (by decide +kernel) ⟨Nat.le_of_ble_eq_true rfl, Nat.le_of_ble_eq_true rfl⟩) (ci := 7) (k0 := 0) rfl rfl rfl hw rfl rfl hl.1 rfl (Nat.le_of_ble_eq_true rfl) dL_law_471 hf (fun H locs hw => ?_)
    refine lv_icmp_eq (tgt := 913) hx hb dL_law_474 (by decide) (fun _ => ?_) (fun h => absurd rfl h)
    exact kk _ _ _ (LI_mk cI cJ cZ aG aW aH aR aP aC aO aM cn n' cn n' 0 0 b' ord' io' so' (fun _ => 0) W_sorts W_values W_turns W_falling it' sz' mb' rst' inO' sd' R_heads R_tails (nI cn) (nI n') (nI n') (nI cn) P_takenRuns P_starts P_queued 0 0 C_sampled C_sampleStandings C_sizes C_ends C_lies C_merged C_reached C_done g' 0 0 0 0 0 0 O_paces O_up (if n' = 0 then 0 else 1) (nI n') (nI n') bgn' msz' pool' (nI cn) (-1) 0 M_takes M_taken 0 M_every 0 M_sample M_ends M_partSize M_merged M_most M_done M_on M_ticks M_mergedAll M_again M_paces M_up M_byHost hp' M_used M_planned M_gone hr g1 (IP_none hP.2.2.1) (IC.gone g2) hO) hw
set_option maxHeartbeats 4000000 in
set_option maxRecDepth 100000 in
theorem lo_length {p : Program} {e : Env} {s : State} {m : MethodId} {below : List Frame} {meth : Method} {c : Code} {Q : State → Prop} {H : Heap} {locs : List Loc} {ls : Array Slot} {cells slots : Nat} (l : Launch) {b L i N : Nat} {xs : Nat → Int32} {dC : Nat → ClassId} {dI : Nat → Nat → Nat} {cI cJ cZ : ClassId} {aG aW aH aR aP aC aO aM : Nat → Nat} {A : Nat → Prop} {w : va_W} (hN : 5000 ≤ N) (X : Cx p m c cL_law 4 s #[Value.ref b] wsL_law RL (dC, dI) (tyl cI cJ cZ) A) (hX : va_X b L xs s s.heap) (hbl : b < s.heap.size) (hbA : ¬ A b) (hi : i + 6 ≤ L) (hL : L ≤ 3072) (hf : cells ≤ room_1.cells ∧ slots ≤ room_1.slots) (hI : LI cI cJ cZ aG aW aH aR aP aC aO aM w) (hw : Wd (dC, dI) A s.heap H locs w) (hl : lv_has ls 4 [(3, .int (nI i)), (2, .ref (aM 0)), (1, .ref (aG 0)), (0, .ref b)])
    (kk : ∀ (H : Heap) (locs : List Loc) (w : va_W), LI cI cJ cZ aG aW aH aR aP aC aO aM w → Wd (dC, dI) A s.heap H locs w → W p l e room_1 s m #[Value.ref b] below meth c H locs cells slots Q (F0 m 913 ls [])) : W p l e room_1 s m #[Value.ref b] below meth c H locs cells slots Q (F0 m 479 ls []) := by
  obtain ⟨hx, hb, hml, hown, hts⟩ := X.1
  have hin1 : vp_in (nI i + 1) L := in_plus (k := 1) (by omega) (by omega)
  refine LI_el hI ?_
  intro cn n c1 al mg p1 bf ord io so sf W_sorts W_values W_turns W_falling H_items H_size R_members R_starts R_inOrder R_standing R_heads R_tails R_rowsInAll R_made R_all R_filled P_takenRuns P_starts P_queued P_merges P_told C_sampled C_sampleStandings C_sizes C_ends C_lies C_merged C_reached C_done C_mergedBy C_parts C_samples C_bound C_ticks C_mergedInAll C_mergedAgain O_paces O_up M_made M_runs M_allRuns M_begin M_size M_pool M_pooled M_ways M_merges M_takes M_taken M_parts M_every M_samples M_sample M_ends M_partSize M_merged M_most M_done M_on M_ticks M_mergedAll M_again M_paces M_up M_byHost M_heap M_used M_planned M_gone hr hR hP hC hO hweq
  subst hweq
  obtain ⟨r, e1, e2⟩ := st_length N hR (xs (nI i + 1).toNatClampNeg)
  refine lv_aload_n hx hb dL_law_479 rfl (lv_at hl 2 rfl) ?_
  refine lv_aload_n hx hb dL_law_480 rfl (lv_at hl 3 rfl) ?_
  refine lv_iload_n hx hb dL_law_481 rfl (lv_at hl 0 rfl) ?_
  refine lv_iconst (v := 1) hx hb dL_law_482 (by decide) ?_
  refine lv_iadd hx hb dL_law_483 ?_
  refine va_sld hx hb hX hbl hbA hw.2.2 hin1 dL_law_484 ?_
  refine clR (As := [.int (xs (nI i + 1).toNatClampNeg)]) (rest := []) X (c_X6_length l dC dI cI cJ cZ aG aW aH aR aP aC aO N W_sorts W_values W_turns W_falling (nI cn) H_items H_size R_members R_starts R_inOrder R_standing R_heads R_tails R_rowsInAll R_made R_all R_filled P_takenRuns P_starts P_queued P_merges P_told C_sampled C_sampleStandings C_sizes C_ends C_lies C_merged C_reached C_done C_mergedBy C_parts C_samples C_bound C_ticks C_mergedInAll C_mergedAgain O_paces O_up (xs (nI i + 1).toNatClampNeg) e1) (cwV 1 hts gL_law_X6_length rfl rfl rfl (by decide +kernel) ⟨Nat.le_of_ble_eq_true rfl, Nat.le_of_ble_eq_true rfl⟩) (ci := 6) (k0 := 0) rfl rfl rfl hw rfl rfl hl.1 rfl (Nat.le_of_ble_eq_true rfl) dL_law_485 hf (fun H locs hw => ?_)
  refine lv_aload_n hx hb dL_law_488 rfl (lv_at hl 1 rfl) ?_
  refine lv_aload_n hx hb dL_law_489 rfl (lv_at hl 3 rfl) ?_
  refine lv_iload_n hx hb dL_law_490 rfl (lv_at hl 0 rfl) ?_
  refine lv_iconst (v := 1) hx hb dL_law_491 (by decide) ?_
  refine lv_iadd hx hb dL_law_492 ?_
  refine va_sld hx hb hX hbl hbA hw.2.2 hin1 dL_law_493 ?_
  refine clR (As := [.int (xs (nI i + 1).toNatClampNeg)]) (rest := [.int r]) X (c_X7_length l dC dI cI cJ cZ aM N W_sorts W_values (nI cn) W_turns W_falling M_made M_runs M_allRuns M_begin M_size M_pool M_pooled M_ways M_merges M_takes M_taken M_parts M_every M_samples M_sample M_ends M_partSize M_merged M_most M_done M_on M_ticks M_mergedAll M_again M_paces M_up M_byHost M_heap M_used M_planned M_gone (xs (nI i + 1).toNatClampNeg) e2) (cwV 1 hts gL_law_X7_length rfl rfl rfl (by decide +kernel) ⟨Nat.le_of_ble_eq_true rfl, Nat.le_of_ble_eq_true rfl⟩) (ci := 7) (k0 := 0) rfl rfl rfl hw rfl rfl hl.1 rfl (Nat.le_of_ble_eq_true rfl) dL_law_494 hf (fun H locs hw => ?_)
  refine lv_icmp_eq (tgt := 913) hx hb dL_law_497 (by decide) (fun _ => ?_) (fun h => absurd rfl h)
  exact kk _ _ _ (LI_mk cI cJ cZ aG aW aH aR aP aC aO aM cn n c1 al mg p1 bf ord io so sf W_sorts W_values W_turns W_falling H_items H_size R_members R_starts R_inOrder R_standing R_heads R_tails R_rowsInAll R_made R_all R_filled P_takenRuns P_starts P_queued P_merges P_told C_sampled C_sampleStandings C_sizes C_ends C_lies C_merged C_reached C_done C_mergedBy C_parts C_samples C_bound C_ticks C_mergedInAll C_mergedAgain O_paces O_up M_made M_runs M_allRuns M_begin M_size M_pool M_pooled M_ways M_merges M_takes M_taken M_parts M_every M_samples M_sample M_ends M_partSize M_merged M_most M_done M_on M_ticks M_mergedAll M_again M_paces M_up M_byHost M_heap M_used M_planned M_gone hr hR hP hC hO) hw
set_option maxHeartbeats 4000000 in
set_option maxRecDepth 100000 in
theorem lo_at {p : Program} {e : Env} {s : State} {m : MethodId} {below : List Frame} {meth : Method} {c : Code} {Q : State → Prop} {H : Heap} {locs : List Loc} {ls : Array Slot} {cells slots : Nat} (l : Launch) {b L i N : Nat} {xs : Nat → Int32} {dC : Nat → ClassId} {dI : Nat → Nat → Nat} {cI cJ cZ : ClassId} {aG aW aH aR aP aC aO aM : Nat → Nat} {A : Nat → Prop} {w : va_W} (hN : 5000 ≤ N) (X : Cx p m c cL_law 4 s #[Value.ref b] wsL_law RL (dC, dI) (tyl cI cJ cZ) A) (hX : va_X b L xs s s.heap) (hbl : b < s.heap.size) (hbA : ¬ A b) (hi : i + 6 ≤ L) (hL : L ≤ 3072) (hf : cells ≤ room_1.cells ∧ slots ≤ room_1.slots) (hI : LI cI cJ cZ aG aW aH aR aP aC aO aM w) (hw : Wd (dC, dI) A s.heap H locs w) (hl : lv_has ls 4 [(3, .int (nI i)), (2, .ref (aM 0)), (1, .ref (aG 0)), (0, .ref b)])
    (kk : ∀ (H : Heap) (locs : List Loc) (w : va_W), LI cI cJ cZ aG aW aH aR aP aC aO aM w → Wd (dC, dI) A s.heap H locs w → W p l e room_1 s m #[Value.ref b] below meth c H locs cells slots Q (F0 m 913 ls [])) : W p l e room_1 s m #[Value.ref b] below meth c H locs cells slots Q (F0 m 502 ls []) := by
  obtain ⟨hx, hb, hml, hown, hts⟩ := X.1
  have hin1 : vp_in (nI i + 1) L := in_plus (k := 1) (by omega) (by omega)
  have hin2 : vp_in (nI i + 2) L := in_plus (k := 2) (by omega) (by omega)
  refine LI_el hI ?_
  intro cn n c1 al mg p1 bf ord io so sf W_sorts W_values W_turns W_falling H_items H_size R_members R_starts R_inOrder R_standing R_heads R_tails R_rowsInAll R_made R_all R_filled P_takenRuns P_starts P_queued P_merges P_told C_sampled C_sampleStandings C_sizes C_ends C_lies C_merged C_reached C_done C_mergedBy C_parts C_samples C_bound C_ticks C_mergedInAll C_mergedAgain O_paces O_up M_made M_runs M_allRuns M_begin M_size M_pool M_pooled M_ways M_merges M_takes M_taken M_parts M_every M_samples M_sample M_ends M_partSize M_merged M_most M_done M_on M_ticks M_mergedAll M_again M_paces M_up M_byHost M_heap M_used M_planned M_gone hr hR hP hC hO hweq
  subst hweq
  obtain ⟨r, e1, e2⟩ := st_at N hR (xs (nI i + 1).toNatClampNeg) (xs (nI i + 2).toNatClampNeg)
  refine lv_aload_n hx hb dL_law_502 rfl (lv_at hl 2 rfl) ?_
  refine lv_aload_n hx hb dL_law_503 rfl (lv_at hl 3 rfl) ?_
  refine lv_iload_n hx hb dL_law_504 rfl (lv_at hl 0 rfl) ?_
  refine lv_iconst (v := 1) hx hb dL_law_505 (by decide) ?_
  refine lv_iadd hx hb dL_law_506 ?_
  refine va_sld hx hb hX hbl hbA hw.2.2 hin1 dL_law_507 ?_
  refine lv_aload_n hx hb dL_law_508 rfl (lv_at hl 3 rfl) ?_
  refine lv_iload_n hx hb dL_law_509 rfl (lv_at hl 0 rfl) ?_
  refine lv_iconst (v := 2) hx hb dL_law_510 (by decide) ?_
  refine lv_iadd hx hb dL_law_511 ?_
  refine va_sld hx hb hX hbl hbA hw.2.2 hin2 dL_law_512 ?_
  refine clR (As := [.int (xs (nI i + 1).toNatClampNeg), .int (xs (nI i + 2).toNatClampNeg)]) (rest := []) X (c_X6_at l dC dI cI cJ cZ aG aW aH aR aP aC aO N W_sorts W_values W_turns W_falling (nI cn) H_items H_size R_members R_starts R_inOrder R_standing R_heads R_tails R_rowsInAll R_made R_all R_filled P_takenRuns P_starts P_queued P_merges P_told C_sampled C_sampleStandings C_sizes C_ends C_lies C_merged C_reached C_done C_mergedBy C_parts C_samples C_bound C_ticks C_mergedInAll C_mergedAgain O_paces O_up (xs (nI i + 1).toNatClampNeg) (xs (nI i + 2).toNatClampNeg) e1) (cwV 2 hts gL_law_X6_at rfl rfl rfl (by decide +kernel) ⟨Nat.le_of_ble_eq_true rfl, Nat.le_of_ble_eq_true rfl⟩) (ci := 6) (k0 := 0) rfl rfl rfl hw rfl rfl hl.1 rfl (Nat.le_of_ble_eq_true rfl) dL_law_513 hf (fun H locs hw => ?_)
  refine lv_aload_n hx hb dL_law_516 rfl (lv_at hl 1 rfl) ?_
  refine lv_aload_n hx hb dL_law_517 rfl (lv_at hl 3 rfl) ?_
  refine lv_iload_n hx hb dL_law_518 rfl (lv_at hl 0 rfl) ?_
  refine lv_iconst (v := 1) hx hb dL_law_519 (by decide) ?_
  refine lv_iadd hx hb dL_law_520 ?_
  refine va_sld hx hb hX hbl hbA hw.2.2 hin1 dL_law_521 ?_
  refine lv_aload_n hx hb dL_law_522 rfl (lv_at hl 3 rfl) ?_
  refine lv_iload_n hx hb dL_law_523 rfl (lv_at hl 0 rfl) ?_
  refine lv_iconst (v := 2) hx hb dL_law_524 (by decide) ?_
  refine lv_iadd hx hb dL_law_525 ?_
  refine va_sld hx hb hX hbl hbA hw.2.2 hin2 dL_law_526 ?_
  refine clR (As := [.int (xs (nI i + 1).toNatClampNeg), .int (xs (nI i + 2).toNatClampNeg)]) (rest := [.int r]) X (c_X7_at l dC dI cI cJ cZ aM N W_sorts W_values (nI cn) W_turns W_falling M_made M_runs M_allRuns M_begin M_size M_pool M_pooled M_ways M_merges M_takes M_taken M_parts M_every M_samples M_sample M_ends M_partSize M_merged M_most M_done M_on M_ticks M_mergedAll M_again M_paces M_up M_byHost M_heap M_used M_planned M_gone (xs (nI i + 1).toNatClampNeg) (xs (nI i + 2).toNatClampNeg) e2) (cwV 2 hts gL_law_X7_at rfl rfl rfl (by decide +kernel) ⟨Nat.le_of_ble_eq_true rfl, Nat.le_of_ble_eq_true rfl⟩) (ci := 7) (k0 := 0) rfl rfl rfl hw rfl rfl hl.1 rfl (Nat.le_of_ble_eq_true rfl) dL_law_527 hf (fun H locs hw => ?_)
  refine lv_icmp_eq (tgt := 913) hx hb dL_law_530 (by decide) (fun _ => ?_) (fun h => absurd rfl h)
  exact kk _ _ _ (LI_mk cI cJ cZ aG aW aH aR aP aC aO aM cn n c1 al mg p1 bf ord io so sf W_sorts W_values W_turns W_falling H_items H_size R_members R_starts R_inOrder R_standing R_heads R_tails R_rowsInAll R_made R_all R_filled P_takenRuns P_starts P_queued P_merges P_told C_sampled C_sampleStandings C_sizes C_ends C_lies C_merged C_reached C_done C_mergedBy C_parts C_samples C_bound C_ticks C_mergedInAll C_mergedAgain O_paces O_up M_made M_runs M_allRuns M_begin M_size M_pool M_pooled M_ways M_merges M_takes M_taken M_parts M_every M_samples M_sample M_ends M_partSize M_merged M_most M_done M_on M_ticks M_mergedAll M_again M_paces M_up M_byHost M_heap M_used M_planned M_gone hr hR hP hC hO) hw
