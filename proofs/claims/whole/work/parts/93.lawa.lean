/-! THE LAW: its cases, laid by program. -/
set_option maxHeartbeats 4000000 in
set_option maxRecDepth 100000 in
theorem lo_give {p : Program} {e : Env} {s : State} {m : MethodId} {below : List Frame} {meth : Method} {c : Code} {Q : State → Prop} {H : Heap} {locs : List Loc} {ls : Array Slot} {cells slots : Nat} (l : Launch) {b L i N : Nat} {xs : Nat → Int32} {dC : Nat → ClassId} {dI : Nat → Nat → Nat} {cI cJ cZ : ClassId} {aG aW aH aR aP aC aO aM : Nat → Nat} {A : Nat → Prop} {w : va_W} (hN : 5000 ≤ N) (X : Cx p m c cL_law 4 s #[Value.ref b] wsL_law RL (dC, dI) (tyl cI cJ cZ) A) (hX : va_X b L xs s s.heap) (hbl : b < s.heap.size) (hbA : ¬ A b) (hi : i + 6 ≤ L) (hL : L ≤ 3072) (hf : cells ≤ room_1.cells ∧ slots ≤ room_1.slots) (hI : LI cI cJ cZ aG aW aH aR aP aC aO aM w) (hw : Wd (dC, dI) A s.heap H locs w) (hl : lv_has ls 4 [(3, .int (nI i)), (2, .ref (aM 0)), (1, .ref (aG 0)), (0, .ref b)])
    (kk : ∀ (H : Heap) (locs : List Loc) (w : va_W), LI cI cJ cZ aG aW aH aR aP aC aO aM w → Wd (dC, dI) A s.heap H locs w → W p l e room_1 s m #[Value.ref b] below meth c H locs cells slots Q (F0 m 913 ls [])) : W p l e room_1 s m #[Value.ref b] below meth c H locs cells slots Q (F0 m 156 ls []) := by
  obtain ⟨hx, hb, hml, hown, hts⟩ := X.1
  have hin1 : vp_in (nI i + 1) L := in_plus (k := 1) (by omega) (by omega)
  have hin2 : vp_in (nI i + 2) L := in_plus (k := 2) (by omega) (by omega)
  refine LI_el hI ?_
  intro cn n c1 al mg p1 bf ord io so sf W_sorts W_values W_turns W_falling H_items H_size R_members R_starts R_inOrder R_standing R_heads R_tails R_rowsInAll R_made R_all R_filled P_takenRuns P_starts P_queued P_merges P_told C_sampled C_sampleStandings C_sizes C_ends C_lies C_merged C_reached C_done C_mergedBy C_parts C_samples C_bound C_ticks C_mergedInAll C_mergedAgain O_paces O_up M_made M_runs M_allRuns M_begin M_size M_pool M_pooled M_ways M_merges M_takes M_taken M_parts M_every M_samples M_sample M_ends M_partSize M_merged M_most M_done M_on M_ticks M_mergedAll M_again M_paces M_up M_byHost M_heap M_used M_planned M_gone hr hR hP hC hO hweq
  subst hweq
  obtain ⟨r, S', V', cn', e1, e2, g1, g2, g3⟩ := st_give N hr (xs (nI i + 1).toNatClampNeg) (xs (nI i + 2).toNatClampNeg)
  refine lv_aload_n hx hb dL_law_156 rfl (lv_at hl 2 rfl) ?_
  refine lv_aload_n hx hb dL_law_157 rfl (lv_at hl 3 rfl) ?_
  refine lv_iload_n hx hb dL_law_158 rfl (lv_at hl 0 rfl) ?_
  refine lv_iconst (v := 1) hx hb dL_law_159 (by decide) ?_
  refine lv_iadd hx hb dL_law_160 ?_
  refine va_sld hx hb hX hbl hbA hw.2.2 hin1 dL_law_161 ?_
  refine lv_aload_n hx hb dL_law_162 rfl (lv_at hl 3 rfl) ?_
  refine lv_iload_n hx hb dL_law_163 rfl (lv_at hl 0 rfl) ?_
  refine lv_iconst (v := 2) hx hb dL_law_164 (by decide) ?_
  refine lv_iadd hx hb dL_law_165 ?_
  refine va_sld hx hb hX hbl hbA hw.2.2 hin2 dL_law_166 ?_
  refine clR (As := [.int (xs (nI i + 1).toNatClampNeg), .int (xs (nI i + 2).toNatClampNeg)]) (rest := []) X (c_X6_give l dC dI cI cJ cZ aG aW aH aR aP aC aO N W_sorts W_values W_turns W_falling (nI cn) H_items H_size R_members R_starts R_inOrder R_standing R_heads R_tails R_rowsInAll R_made R_all R_filled P_takenRuns P_starts P_queued P_merges P_told C_sampled C_sampleStandings C_sizes C_ends C_lies C_merged C_reached C_done C_mergedBy C_parts C_samples C_bound C_ticks C_mergedInAll C_mergedAgain O_paces O_up (xs (nI i + 1).toNatClampNeg) (xs (nI i + 2).toNatClampNeg) e1) (cwV 2 hts gL_law_X6_give rfl rfl rfl (by decide +kernel) ⟨Nat.le_of_ble_eq_true rfl, Nat.le_of_ble_eq_true rfl⟩) (ci := 6) (k0 := 0) rfl rfl rfl hw rfl rfl hl.1 rfl (Nat.le_of_ble_eq_true rfl) dL_law_167 hf (fun H locs hw => ?_)
  refine lv_aload_n hx hb dL_law_170 rfl (lv_at hl 1 rfl) ?_
  refine lv_aload_n hx hb dL_law_171 rfl (lv_at hl 3 rfl) ?_
  refine lv_iload_n hx hb dL_law_172 rfl (lv_at hl 0 rfl) ?_
  refine lv_iconst (v := 1) hx hb dL_law_173 (by decide) ?_
  refine lv_iadd hx hb dL_law_174 ?_
  refine va_sld hx hb hX hbl hbA hw.2.2 hin1 dL_law_175 ?_
  refine lv_aload_n hx hb dL_law_176 rfl (lv_at hl 3 rfl) ?_
  refine lv_iload_n hx hb dL_law_177 rfl (lv_at hl 0 rfl) ?_
  refine lv_iconst (v := 2) hx hb dL_law_178 (by decide) ?_
  refine lv_iadd hx hb dL_law_179 ?_
  refine va_sld hx hb hX hbl hbA hw.2.2 hin2 dL_law_180 ?_
  refine clR (As := [.int (xs (nI i + 1).toNatClampNeg), .int (xs (nI i + 2).toNatClampNeg)]) (rest := [.int r]) X (c_X7_give l dC dI cI cJ cZ aM N W_sorts W_values (nI cn) W_turns W_falling M_made M_runs M_allRuns M_begin M_size M_pool M_pooled M_ways M_merges M_takes M_taken M_parts M_every M_samples M_sample M_ends M_partSize M_merged M_most M_done M_on M_ticks M_mergedAll M_again M_paces M_up M_byHost M_heap M_used M_planned M_gone (xs (nI i + 1).toNatClampNeg) (xs (nI i + 2).toNatClampNeg) e2) (cwV 2 hts gL_law_X7_give rfl rfl rfl (by decide +kernel) ⟨Nat.le_of_ble_eq_true rfl, Nat.le_of_ble_eq_true rfl⟩) (ci := 7) (k0 := 0) rfl rfl rfl hw rfl rfl hl.1 rfl (Nat.le_of_ble_eq_true rfl) dL_law_181 hf (fun H locs hw => ?_)
  refine lv_icmp_eq (tgt := 913) hx hb dL_law_184 (by decide) (fun _ => ?_) (fun h => absurd rfl h)
  exact kk _ _ _ (LI_mk cI cJ cZ aG aW aH aR aP aC aO aM cn' n c1 al mg p1 bf ord io so sf S' V' W_turns W_falling H_items H_size R_members R_starts R_inOrder R_standing R_heads R_tails R_rowsInAll R_made R_all R_filled P_takenRuns P_starts P_queued P_merges P_told C_sampled C_sampleStandings C_sizes C_ends C_lies C_merged C_reached C_done C_mergedBy C_parts C_samples C_bound C_ticks C_mergedInAll C_mergedAgain O_paces O_up M_made M_runs M_allRuns M_begin M_size M_pool M_pooled M_ways M_merges M_takes M_taken M_parts M_every M_samples M_sample M_ends M_partSize M_merged M_most M_done M_on M_ticks M_mergedAll M_again M_paces M_up M_byHost M_heap M_used M_planned M_gone g1 (hR.rows g2 g3) hP hC hO) hw
set_option maxHeartbeats 4000000 in
set_option maxRecDepth 100000 in
theorem lo_sow {p : Program} {e : Env} {s : State} {m : MethodId} {below : List Frame} {meth : Method} {c : Code} {Q : State → Prop} {H : Heap} {locs : List Loc} {ls : Array Slot} {cells slots : Nat} (l : Launch) {b L i N : Nat} {xs : Nat → Int32} {dC : Nat → ClassId} {dI : Nat → Nat → Nat} {cI cJ cZ : ClassId} {aG aW aH aR aP aC aO aM : Nat → Nat} {A : Nat → Prop} {w : va_W} (hN : 5000 ≤ N) (X : Cx p m c cL_law 4 s #[Value.ref b] wsL_law RL (dC, dI) (tyl cI cJ cZ) A) (hX : va_X b L xs s s.heap) (hbl : b < s.heap.size) (hbA : ¬ A b) (hi : i + 6 ≤ L) (hL : L ≤ 3072) (hf : cells ≤ room_1.cells ∧ slots ≤ room_1.slots) (hI : LI cI cJ cZ aG aW aH aR aP aC aO aM w) (hw : Wd (dC, dI) A s.heap H locs w) (hl : lv_has ls 4 [(3, .int (nI i)), (2, .ref (aM 0)), (1, .ref (aG 0)), (0, .ref b)])
    (kk : ∀ (H : Heap) (locs : List Loc) (w : va_W), LI cI cJ cZ aG aW aH aR aP aC aO aM w → Wd (dC, dI) A s.heap H locs w → W p l e room_1 s m #[Value.ref b] below meth c H locs cells slots Q (F0 m 913 ls [])) : W p l e room_1 s m #[Value.ref b] below meth c H locs cells slots Q (F0 m 189 ls []) := by
  obtain ⟨hx, hb, hml, hown, hts⟩ := X.1
  have hin1 : vp_in (nI i + 1) L := in_plus (k := 1) (by omega) (by omega)
  have hin2 : vp_in (nI i + 2) L := in_plus (k := 2) (by omega) (by omega)
  have hin3 : vp_in (nI i + 3) L := in_plus (k := 3) (by omega) (by omega)
  have hin4 : vp_in (nI i + 4) L := in_plus (k := 4) (by omega) (by omega)
  have hin5 : vp_in (nI i + 5) L := in_plus (k := 5) (by omega) (by omega)
  refine LI_el hI ?_
  intro cn n c1 al mg p1 bf ord io so sf W_sorts W_values W_turns W_falling H_items H_size R_members R_starts R_inOrder R_standing R_heads R_tails R_rowsInAll R_made R_all R_filled P_takenRuns P_starts P_queued P_merges P_told C_sampled C_sampleStandings C_sizes C_ends C_lies C_merged C_reached C_done C_mergedBy C_parts C_samples C_bound C_ticks C_mergedInAll C_mergedAgain O_paces O_up M_made M_runs M_allRuns M_begin M_size M_pool M_pooled M_ways M_merges M_takes M_taken M_parts M_every M_samples M_sample M_ends M_partSize M_merged M_most M_done M_on M_ticks M_mergedAll M_again M_paces M_up M_byHost M_heap M_used M_planned M_gone hr hR hP hC hO hweq
  subst hweq
  obtain ⟨r, S', V', cn', e1, e2, g1, g2, g3⟩ := st_sow (N := N) (by omega) hr (xs (nI i + 1).toNatClampNeg) (xs (nI i + 2).toNatClampNeg) (xs (nI i + 3).toNatClampNeg) (xs (nI i + 4).toNatClampNeg) (xs (nI i + 5).toNatClampNeg)
  refine lv_aload_n hx hb dL_law_189 rfl (lv_at hl 2 rfl) ?_
  refine lv_aload_n hx hb dL_law_190 rfl (lv_at hl 3 rfl) ?_
  refine lv_iload_n hx hb dL_law_191 rfl (lv_at hl 0 rfl) ?_
  refine lv_iconst (v := 1) hx hb dL_law_192 (by decide) ?_
  refine lv_iadd hx hb dL_law_193 ?_
  refine va_sld hx hb hX hbl hbA hw.2.2 hin1 dL_law_194 ?_
  refine lv_aload_n hx hb dL_law_195 rfl (lv_at hl 3 rfl) ?_
  refine lv_iload_n hx hb dL_law_196 rfl (lv_at hl 0 rfl) ?_
  refine lv_iconst (v := 2) hx hb dL_law_197 (by decide) ?_
  refine lv_iadd hx hb dL_law_198 ?_
  refine va_sld hx hb hX hbl hbA hw.2.2 hin2 dL_law_199 ?_
  refine lv_aload_n hx hb dL_law_200 rfl (lv_at hl 3 rfl) ?_
  refine lv_iload_n hx hb dL_law_201 rfl (lv_at hl 0 rfl) ?_
  refine lv_iconst (v := 3) hx hb dL_law_202 (by decide) ?_
  refine lv_iadd hx hb dL_law_203 ?_
  refine va_sld hx hb hX hbl hbA hw.2.2 hin3 dL_law_204 ?_
  refine lv_aload_n hx hb dL_law_205 rfl (lv_at hl 3 rfl) ?_
  refine lv_iload_n hx hb dL_law_206 rfl (lv_at hl 0 rfl) ?_
  refine lv_iconst (v := 4) hx hb dL_law_207 (by decide) ?_
  refine lv_iadd hx hb dL_law_208 ?_
  refine va_sld hx hb hX hbl hbA hw.2.2 hin4 dL_law_209 ?_
  refine lv_aload_n hx hb dL_law_210 rfl (lv_at hl 3 rfl) ?_
  refine lv_iload_n hx hb dL_law_211 rfl (lv_at hl 0 rfl) ?_
  refine lv_iconst (v := 5) hx hb dL_law_212 (by decide) ?_
  refine lv_iadd hx hb dL_law_213 ?_
  refine va_sld hx hb hX hbl hbA hw.2.2 hin5 dL_law_214 ?_
  refine clR (As := [.int (xs (nI i + 1).toNatClampNeg), .int (xs (nI i + 2).toNatClampNeg), .int (xs (nI i + 3).toNatClampNeg), .int (xs (nI i + 4).toNatClampNeg), .int (xs (nI i + 5).toNatClampNeg)]) (rest := []) X (c_X6_sow l dC dI cI cJ cZ aG aW aH aR aP aC aO N W_sorts W_values W_turns W_falling (nI cn) H_items H_size R_members R_starts R_inOrder R_standing R_heads R_tails R_rowsInAll R_made R_all R_filled P_takenRuns P_starts P_queued P_merges P_told C_sampled C_sampleStandings C_sizes C_ends C_lies C_merged C_reached C_done C_mergedBy C_parts C_samples C_bound C_ticks C_mergedInAll C_mergedAgain O_paces O_up (xs (nI i + 1).toNatClampNeg) (xs (nI i + 2).toNatClampNeg) (xs (nI i + 3).toNatClampNeg) (xs (nI i + 4).toNatClampNeg) (xs (nI i + 5).toNatClampNeg) e1) (cwV 5 hts gL_law_X6_sow rfl rfl rfl (by decide +kernel) ⟨Nat.le_of_ble_eq_true rfl, Nat.le_of_ble_eq_true rfl⟩) (ci := 6) (k0 := 0) rfl rfl rfl hw rfl rfl hl.1 rfl (Nat.le_of_ble_eq_true rfl) dL_law_215 hf (fun H locs hw => ?_)
  refine lv_aload_n hx hb dL_law_218 rfl (lv_at hl 1 rfl) ?_
  refine lv_aload_n hx hb dL_law_219 rfl (lv_at hl 3 rfl) ?_
  refine lv_iload_n hx hb dL_law_220 rfl (lv_at hl 0 rfl) ?_
  refine lv_iconst (v := 1) hx hb dL_law_221 (by decide) ?_
  refine lv_iadd hx hb dL_law_222 ?_
  refine va_sld hx hb hX hbl hbA hw.2.2 hin1 dL_law_223 ?_
  refine lv_aload_n hx hb dL_law_224 rfl (lv_at hl 3 rfl) ?_
  refine lv_iload_n hx hb dL_law_225 rfl (lv_at hl 0 rfl) ?_
  refine lv_iconst (v := 2) hx hb dL_law_226 (by decide) ?_
  refine lv_iadd hx hb dL_law_227 ?_
  refine va_sld hx hb hX hbl hbA hw.2.2 hin2 dL_law_228 ?_
  refine lv_aload_n hx hb dL_law_229 rfl (lv_at hl 3 rfl) ?_
  refine lv_iload_n hx hb dL_law_230 rfl (lv_at hl 0 rfl) ?_
  refine lv_iconst (v := 3) hx hb dL_law_231 (by decide) ?_
  refine lv_iadd hx hb dL_law_232 ?_
  refine va_sld hx hb hX hbl hbA hw.2.2 hin3 dL_law_233 ?_
  refine lv_aload_n hx hb dL_law_234 rfl (lv_at hl 3 rfl) ?_
  refine lv_iload_n hx hb dL_law_235 rfl (lv_at hl 0 rfl) ?_
  refine lv_iconst (v := 4) hx hb dL_law_236 (by decide) ?_
  refine lv_iadd hx hb dL_law_237 ?_
  refine va_sld hx hb hX hbl hbA hw.2.2 hin4 dL_law_238 ?_
  refine lv_aload_n hx hb dL_law_239 rfl (lv_at hl 3 rfl) ?_
  refine lv_iload_n hx hb dL_law_240 rfl (lv_at hl 0 rfl) ?_
  refine lv_iconst (v := 5) hx hb dL_law_241 (by decide) ?_
  refine lv_iadd hx hb dL_law_242 ?_
  refine va_sld hx hb hX hbl hbA hw.2.2 hin5 dL_law_243 ?_
  refine clR (As := [.int (xs (nI i + 1).toNatClampNeg), .int (xs (nI i + 2).toNatClampNeg), .int (xs (nI i + 3).toNatClampNeg), .int (xs (nI i + 4).toNatClampNeg), .int (xs (nI i + 5).toNatClampNeg)]) (rest := [.int r]) X (c_X7_sow l dC dI cI cJ cZ aM N W_sorts W_values (nI cn) W_turns W_falling M_made M_runs M_allRuns M_begin M_size M_pool M_pooled M_ways M_merges M_takes M_taken M_parts M_every M_samples M_sample M_ends M_partSize M_merged M_most M_done M_on M_ticks M_mergedAll M_again M_paces M_up M_byHost M_heap M_used M_planned M_gone (xs (nI i + 1).toNatClampNeg) (xs (nI i + 2).toNatClampNeg) (xs (nI i + 3).toNatClampNeg) (xs (nI i + 4).toNatClampNeg) (xs (nI i + 5).toNatClampNeg) e2) (cwV 5 hts gL_law_X7_sow rfl rfl rfl (by decide +kernel) ⟨Nat.le_of_ble_eq_true rfl, Nat.le_of_ble_eq_true rfl⟩) (ci := 7) (k0 := 0) rfl rfl rfl hw rfl rfl hl.1 rfl (Nat.le_of_ble_eq_true rfl) dL_law_244 hf (fun H locs hw => ?_)
  refine lv_icmp_eq (tgt := 913) hx hb dL_law_247 (by decide) (fun _ => ?_) (fun h => absurd rfl h)
  exact kk _ _ _ (LI_mk cI cJ cZ aG aW aH aR aP aC aO aM cn' n c1 al mg p1 bf ord io so sf S' V' W_turns W_falling H_items H_size R_members R_starts R_inOrder R_standing R_heads R_tails R_rowsInAll R_made R_all R_filled P_takenRuns P_starts P_queued P_merges P_told C_sampled C_sampleStandings C_sizes C_ends C_lies C_merged C_reached C_done C_mergedBy C_parts C_samples C_bound C_ticks C_mergedInAll C_mergedAgain O_paces O_up M_made M_runs M_allRuns M_begin M_size M_pool M_pooled M_ways M_merges M_takes M_taken M_parts M_every M_samples M_sample M_ends M_partSize M_merged M_most M_done M_on M_ticks M_mergedAll M_again M_paces M_up M_byHost M_heap M_used M_planned M_gone g1 (hR.rows g2 g3) hP hC hO) hw
set_option maxHeartbeats 4000000 in
set_option maxRecDepth 100000 in
theorem lo_clear {p : Program} {e : Env} {s : State} {m : MethodId} {below : List Frame} {meth : Method} {c : Code} {Q : State → Prop} {H : Heap} {locs : List Loc} {ls : Array Slot} {cells slots : Nat} (l : Launch) {b L i N : Nat} {xs : Nat → Int32} {dC : Nat → ClassId} {dI : Nat → Nat → Nat} {cI cJ cZ : ClassId} {aG aW aH aR aP aC aO aM : Nat → Nat} {A : Nat → Prop} {w : va_W} (hN : 5000 ≤ N) (X : Cx p m c cL_law 4 s #[Value.ref b] wsL_law RL (dC, dI) (tyl cI cJ cZ) A) (hX : va_X b L xs s s.heap) (hbl : b < s.heap.size) (hbA : ¬ A b) (hi : i + 6 ≤ L) (hL : L ≤ 3072) (hf : cells ≤ room_1.cells ∧ slots ≤ room_1.slots) (hI : LI cI cJ cZ aG aW aH aR aP aC aO aM w) (hw : Wd (dC, dI) A s.heap H locs w) (hl : lv_has ls 4 [(3, .int (nI i)), (2, .ref (aM 0)), (1, .ref (aG 0)), (0, .ref b)])
    (kk : ∀ (H : Heap) (locs : List Loc) (w : va_W), LI cI cJ cZ aG aW aH aR aP aC aO aM w → Wd (dC, dI) A s.heap H locs w → W p l e room_1 s m #[Value.ref b] below meth c H locs cells slots Q (F0 m 913 ls [])) : W p l e room_1 s m #[Value.ref b] below meth c H locs cells slots Q (F0 m 252 ls []) := by
  obtain ⟨hx, hb, hml, hown, hts⟩ := X.1
  refine LI_el hI ?_
  intro cn n c1 al mg p1 bf ord io so sf W_sorts W_values W_turns W_falling H_items H_size R_members R_starts R_inOrder R_standing R_heads R_tails R_rowsInAll R_made R_all R_filled P_takenRuns P_starts P_queued P_merges P_told C_sampled C_sampleStandings C_sizes C_ends C_lies C_merged C_reached C_done C_mergedBy C_parts C_samples C_bound C_ticks C_mergedInAll C_mergedAgain O_paces O_up M_made M_runs M_allRuns M_begin M_size M_pool M_pooled M_ways M_merges M_takes M_taken M_parts M_every M_samples M_sample M_ends M_partSize M_merged M_most M_done M_on M_ticks M_mergedAll M_again M_paces M_up M_byHost M_heap M_used M_planned M_gone hr hR hP hC hO hweq
  subst hweq
  obtain ⟨g', e1, e2, g1⟩ := st_clear (N := N) (by omega) (nI cn) C_mergedBy R_rowsInAll R_made R_all R_filled P_merges P_told C_parts C_samples C_bound C_ticks C_mergedInAll C_mergedAgain M_made M_runs M_allRuns M_ways M_merges M_parts M_samples
  refine lv_aload_n hx hb dL_law_252 rfl (lv_at hl 2 rfl) ?_
  refine clR (As := []) (rest := []) X (c_X6_clear l dC dI cI cJ cZ aG aW aH aR aP aC aO N W_sorts W_values W_turns W_falling (nI cn) H_items H_size R_members R_starts R_inOrder R_standing R_heads R_tails R_rowsInAll R_made R_all R_filled P_takenRuns P_starts P_queued P_merges P_told C_sampled C_sampleStandings C_sizes C_ends C_lies C_merged C_reached C_done C_mergedBy C_parts C_samples C_bound C_ticks C_mergedInAll C_mergedAgain O_paces O_up  e1) (cwV 0 hts gL_law_X6_clear rfl rfl rfl (by decide +kernel) ⟨Nat.le_of_ble_eq_true rfl, Nat.le_of_ble_eq_true rfl⟩) (ci := 6) (k0 := 0) rfl rfl rfl hw rfl rfl hl.1 rfl (Nat.le_of_ble_eq_true rfl) dL_law_253 hf (fun H locs hw => ?_)
  refine lv_aload_n hx hb dL_law_256 rfl (lv_at hl 1 rfl) ?_
  refine clR (As := []) (rest := [.int (nI cn)]) X (c_X7_clear l dC dI cI cJ cZ aM N W_sorts W_values (nI cn) W_turns W_falling M_made M_runs M_allRuns M_begin M_size M_pool M_pooled M_ways M_merges M_takes M_taken M_parts M_every M_samples M_sample M_ends M_partSize M_merged M_most M_done M_on M_ticks M_mergedAll M_again M_paces M_up M_byHost M_heap M_used M_planned M_gone  e2) (cwV 0 hts gL_law_X7_clear rfl rfl rfl (by decide +kernel) ⟨Nat.le_of_ble_eq_true rfl, Nat.le_of_ble_eq_true rfl⟩) (ci := 7) (k0 := 0) rfl rfl rfl hw rfl rfl hl.1 rfl (Nat.le_of_ble_eq_true rfl) dL_law_257 hf (fun H locs hw => ?_)
  refine lv_icmp_eq (tgt := 913) hx hb dL_law_260 (by decide) (fun _ => ?_) (fun h => absurd rfl h)
  exact kk _ _ _ (LI_mk cI cJ cZ aG aW aH aR aP aC aO aM 0 0 0 0 0 0 bf ord io so (fun _ => 0) W_sorts W_values W_turns W_falling H_items H_size R_members R_starts R_inOrder R_standing R_heads R_tails 0 0 0 0 P_takenRuns P_starts P_queued 0 0 C_sampled C_sampleStandings C_sizes C_ends C_lies C_merged C_reached C_done g' 0 0 0 0 0 0 O_paces O_up 0 0 0 M_begin M_size M_pool M_pooled (-1) 0 M_takes M_taken 0 M_every 0 M_sample M_ends M_partSize M_merged M_most M_done M_on M_ticks M_mergedAll M_again M_paces M_up M_byHost M_heap M_used M_planned M_gone hr.zero IR_none (IP_none hP.2.2.1) (IC.gone g1) hO) hw
set_option maxHeartbeats 4000000 in
set_option maxRecDepth 100000 in
theorem lo_order {p : Program} {e : Env} {s : State} {m : MethodId} {below : List Frame} {meth : Method} {c : Code} {Q : State → Prop} {H : Heap} {locs : List Loc} {ls : Array Slot} {cells slots : Nat} (l : Launch) {b L i N : Nat} {xs : Nat → Int32} {dC : Nat → ClassId} {dI : Nat → Nat → Nat} {cI cJ cZ : ClassId} {aG aW aH aR aP aC aO aM : Nat → Nat} {A : Nat → Prop} {w : va_W} (hN : 5000 ≤ N) (X : Cx p m c cL_law 4 s #[Value.ref b] wsL_law RL (dC, dI) (tyl cI cJ cZ) A) (hX : va_X b L xs s s.heap) (hbl : b < s.heap.size) (hbA : ¬ A b) (hi : i + 6 ≤ L) (hL : L ≤ 3072) (hf : cells ≤ room_1.cells ∧ slots ≤ room_1.slots) (hI : LI cI cJ cZ aG aW aH aR aP aC aO aM w) (hw : Wd (dC, dI) A s.heap H locs w) (hl : lv_has ls 4 [(3, .int (nI i)), (2, .ref (aM 0)), (1, .ref (aG 0)), (0, .ref b)])
    (kk : ∀ (H : Heap) (locs : List Loc) (w : va_W), LI cI cJ cZ aG aW aH aR aP aC aO aM w → Wd (dC, dI) A s.heap H locs w → W p l e room_1 s m #[Value.ref b] below meth c H locs cells slots Q (F0 m 913 ls [])) : W p l e room_1 s m #[Value.ref b] below meth c H locs cells slots Q (F0 m 265 ls []) := by
  obtain ⟨hx, hb, hml, hown, hts⟩ := X.1
  have hin1 : vp_in (nI i + 1) L := in_plus (k := 1) (by omega) (by omega)
  have hin2 : vp_in (nI i + 2) L := in_plus (k := 2) (by omega) (by omega)
  have hin3 : vp_in (nI i + 3) L := in_plus (k := 3) (by omega) (by omega)
  have hin4 : vp_in (nI i + 4) L := in_plus (k := 4) (by omega) (by omega)
  refine LI_el hI ?_
  intro cn n c1 al mg p1 bf ord io so sf W_sorts W_values W_turns W_falling H_items H_size R_members R_starts R_inOrder R_standing R_heads R_tails R_rowsInAll R_made R_all R_filled P_takenRuns P_starts P_queued P_merges P_told C_sampled C_sampleStandings C_sizes C_ends C_lies C_merged C_reached C_done C_mergedBy C_parts C_samples C_bound C_ticks C_mergedInAll C_mergedAgain O_paces O_up M_made M_runs M_allRuns M_begin M_size M_pool M_pooled M_ways M_merges M_takes M_taken M_parts M_every M_samples M_sample M_ends M_partSize M_merged M_most M_done M_on M_ticks M_mergedAll M_again M_paces M_up M_byHost M_heap M_used M_planned M_gone hr hR hP hC hO hweq
  subst hweq
  obtain ⟨r, T', e1, e2, g1, g2⟩ := st_order N hr hR.2.2.2.2.2.2.2.2.1 (xs (nI i + 1).toNatClampNeg) (xs (nI i + 2).toNatClampNeg) (xs (nI i + 3).toNatClampNeg) (xs (nI i + 4).toNatClampNeg)
  have e1x : f_X6_order N W_turns R_made (xs (nI i + 1).toNatClampNeg) (xs (nI i + 2).toNatClampNeg) (xs (nI i + 3).toNatClampNeg) (xs (nI i + 4).toNatClampNeg) = some (r, T') := by rw [hR.1]; exact e1
  have e2x : f_X7_order N W_turns M_made (xs (nI i + 1).toNatClampNeg) (xs (nI i + 2).toNatClampNeg) (xs (nI i + 3).toNatClampNeg) (xs (nI i + 4).toNatClampNeg) = some (r, T') := by rw [hR.2.2.1]; exact e2
  refine lv_aload_n hx hb dL_law_265 rfl (lv_at hl 2 rfl) ?_
  refine lv_aload_n hx hb dL_law_266 rfl (lv_at hl 3 rfl) ?_
  refine lv_iload_n hx hb dL_law_267 rfl (lv_at hl 0 rfl) ?_
  refine lv_iconst (v := 1) hx hb dL_law_268 (by decide) ?_
  refine lv_iadd hx hb dL_law_269 ?_
  refine va_sld hx hb hX hbl hbA hw.2.2 hin1 dL_law_270 ?_
  refine lv_aload_n hx hb dL_law_271 rfl (lv_at hl 3 rfl) ?_
  refine lv_iload_n hx hb dL_law_272 rfl (lv_at hl 0 rfl) ?_
  refine lv_iconst (v := 2) hx hb dL_law_273 (by decide) ?_
  refine lv_iadd hx hb dL_law_274 ?_
  refine va_sld hx hb hX hbl hbA hw.2.2 hin2 dL_law_275 ?_
  refine lv_aload_n hx hb dL_law_276 rfl (lv_at hl 3 rfl) ?_
  refine lv_iload_n hx hb dL_law_277 rfl (lv_at hl 0 rfl) ?_
  refine lv_iconst (v := 3) hx hb dL_law_278 (by decide) ?_
  refine lv_iadd hx hb dL_law_279 ?_
  refine va_sld hx hb hX hbl hbA hw.2.2 hin3 dL_law_280 ?_
  refine lv_aload_n hx hb dL_law_281 rfl (lv_at hl 3 rfl) ?_
  refine lv_iload_n hx hb dL_law_282 rfl (lv_at hl 0 rfl) ?_
  refine lv_iconst (v := 4) hx hb dL_law_283 (by decide) ?_
  refine lv_iadd hx hb dL_law_284 ?_
  refine va_sld hx hb hX hbl hbA hw.2.2 hin4 dL_law_285 ?_
  refine clR (As := [.int (xs (nI i + 1).toNatClampNeg), .int (xs (nI i + 2).toNatClampNeg), .int (xs (nI i + 3).toNatClampNeg), .int (xs (nI i + 4).toNatClampNeg)]) (rest := []) X (c_X6_order l dC dI cI cJ cZ aG aW aH aR aP aC aO N W_sorts W_values W_turns W_falling (nI cn) H_items H_size R_members R_starts R_inOrder R_standing R_heads R_tails R_rowsInAll R_made R_all R_filled P_takenRuns P_starts P_queued P_merges P_told C_sampled C_sampleStandings C_sizes C_ends C_lies C_merged C_reached C_done C_mergedBy C_parts C_samples C_bound C_ticks C_mergedInAll C_mergedAgain O_paces O_up (xs (nI i + 1).toNatClampNeg) (xs (nI i + 2).toNatClampNeg) (xs (nI i + 3).toNatClampNeg) (xs (nI i + 4).toNatClampNeg) e1x) (cwV 4 hts gL_law_X6_order rfl rfl rfl (by decide +kernel) ⟨Nat.le_of_ble_eq_true rfl, Nat.le_of_ble_eq_true rfl⟩) (ci := 6) (k0 := 0) rfl rfl rfl hw rfl rfl hl.1 rfl (Nat.le_of_ble_eq_true rfl) dL_law_286 hf (fun H locs hw => ?_)
  refine lv_aload_n hx hb dL_law_289 rfl (lv_at hl 1 rfl) ?_
  refine lv_aload_n hx hb dL_law_290 rfl (lv_at hl 3 rfl) ?_
  refine lv_iload_n hx hb dL_law_291 rfl (lv_at hl 0 rfl) ?_
  refine lv_iconst (v := 1) hx hb dL_law_292 (by decide) ?_
  refine lv_iadd hx hb dL_law_293 ?_
  refine va_sld hx hb hX hbl hbA hw.2.2 hin1 dL_law_294 ?_
  refine lv_aload_n hx hb dL_law_295 rfl (lv_at hl 3 rfl) ?_
  refine lv_iload_n hx hb dL_law_296 rfl (lv_at hl 0 rfl) ?_
  refine lv_iconst (v := 2) hx hb dL_law_297 (by decide) ?_
  refine lv_iadd hx hb dL_law_298 ?_
  refine va_sld hx hb hX hbl hbA hw.2.2 hin2 dL_law_299 ?_
  refine lv_aload_n hx hb dL_law_300 rfl (lv_at hl 3 rfl) ?_
  refine lv_iload_n hx hb dL_law_301 rfl (lv_at hl 0 rfl) ?_
  refine lv_iconst (v := 3) hx hb dL_law_302 (by decide) ?_
  refine lv_iadd hx hb dL_law_303 ?_
  refine va_sld hx hb hX hbl hbA hw.2.2 hin3 dL_law_304 ?_
  refine lv_aload_n hx hb dL_law_305 rfl (lv_at hl 3 rfl) ?_
  refine lv_iload_n hx hb dL_law_306 rfl (lv_at hl 0 rfl) ?_
  refine lv_iconst (v := 4) hx hb dL_law_307 (by decide) ?_
  refine lv_iadd hx hb dL_law_308 ?_
  refine va_sld hx hb hX hbl hbA hw.2.2 hin4 dL_law_309 ?_
  refine clR (As := [.int (xs (nI i + 1).toNatClampNeg), .int (xs (nI i + 2).toNatClampNeg), .int (xs (nI i + 3).toNatClampNeg), .int (xs (nI i + 4).toNatClampNeg)]) (rest := [.int r]) X (c_X7_order l dC dI cI cJ cZ aM N W_sorts W_values (nI cn) W_turns W_falling M_made M_runs M_allRuns M_begin M_size M_pool M_pooled M_ways M_merges M_takes M_taken M_parts M_every M_samples M_sample M_ends M_partSize M_merged M_most M_done M_on M_ticks M_mergedAll M_again M_paces M_up M_byHost M_heap M_used M_planned M_gone (xs (nI i + 1).toNatClampNeg) (xs (nI i + 2).toNatClampNeg) (xs (nI i + 3).toNatClampNeg) (xs (nI i + 4).toNatClampNeg) e2x) (cwV 4 hts gL_law_X7_order rfl rfl rfl (by decide +kernel) ⟨Nat.le_of_ble_eq_true rfl, Nat.le_of_ble_eq_true rfl⟩) (ci := 7) (k0 := 0) rfl rfl rfl hw rfl rfl hl.1 rfl (Nat.le_of_ble_eq_true rfl) dL_law_310 hf (fun H locs hw => ?_)
  refine lv_icmp_eq (tgt := 913) hx hb dL_law_313 (by decide) (fun _ => ?_) (fun h => absurd rfl h)
  exact kk _ _ _ (LI_mk cI cJ cZ aG aW aH aR aP aC aO aM cn n c1 al mg p1 bf ord io so sf W_sorts W_values T' W_falling H_items H_size R_members R_starts R_inOrder R_standing R_heads R_tails R_rowsInAll R_made R_all R_filled P_takenRuns P_starts P_queued P_merges P_told C_sampled C_sampleStandings C_sizes C_ends C_lies C_merged C_reached C_done C_mergedBy C_parts C_samples C_bound C_ticks C_mergedInAll C_mergedAgain O_paces O_up M_made M_runs M_allRuns M_begin M_size M_pool M_pooled M_ways M_merges M_takes M_taken M_parts M_every M_samples M_sample M_ends M_partSize M_merged M_most M_done M_on M_ticks M_mergedAll M_again M_paces M_up M_byHost M_heap M_used M_planned M_gone g1 (hR.turn g2) hP hC hO) hw
set_option maxHeartbeats 4000000 in
set_option maxRecDepth 100000 in
theorem lo_falls {p : Program} {e : Env} {s : State} {m : MethodId} {below : List Frame} {meth : Method} {c : Code} {Q : State → Prop} {H : Heap} {locs : List Loc} {ls : Array Slot} {cells slots : Nat} (l : Launch) {b L i N : Nat} {xs : Nat → Int32} {dC : Nat → ClassId} {dI : Nat → Nat → Nat} {cI cJ cZ : ClassId} {aG aW aH aR aP aC aO aM : Nat → Nat} {A : Nat → Prop} {w : va_W} (hN : 5000 ≤ N) (X : Cx p m c cL_law 4 s #[Value.ref b] wsL_law RL (dC, dI) (tyl cI cJ cZ) A) (hX : va_X b L xs s s.heap) (hbl : b < s.heap.size) (hbA : ¬ A b) (hi : i + 6 ≤ L) (hL : L ≤ 3072) (hf : cells ≤ room_1.cells ∧ slots ≤ room_1.slots) (hI : LI cI cJ cZ aG aW aH aR aP aC aO aM w) (hw : Wd (dC, dI) A s.heap H locs w) (hl : lv_has ls 4 [(3, .int (nI i)), (2, .ref (aM 0)), (1, .ref (aG 0)), (0, .ref b)])
    (kk : ∀ (H : Heap) (locs : List Loc) (w : va_W), LI cI cJ cZ aG aW aH aR aP aC aO aM w → Wd (dC, dI) A s.heap H locs w → W p l e room_1 s m #[Value.ref b] below meth c H locs cells slots Q (F0 m 913 ls [])) : W p l e room_1 s m #[Value.ref b] below meth c H locs cells slots Q (F0 m 318 ls []) := by
  obtain ⟨hx, hb, hml, hown, hts⟩ := X.1
  have hin1 : vp_in (nI i + 1) L := in_plus (k := 1) (by omega) (by omega)
  have hin2 : vp_in (nI i + 2) L := in_plus (k := 2) (by omega) (by omega)
  refine LI_el hI ?_
  intro cn n c1 al mg p1 bf ord io so sf W_sorts W_values W_turns W_falling H_items H_size R_members R_starts R_inOrder R_standing R_heads R_tails R_rowsInAll R_made R_all R_filled P_takenRuns P_starts P_queued P_merges P_told C_sampled C_sampleStandings C_sizes C_ends C_lies C_merged C_reached C_done C_mergedBy C_parts C_samples C_bound C_ticks C_mergedInAll C_mergedAgain O_paces O_up M_made M_runs M_allRuns M_begin M_size M_pool M_pooled M_ways M_merges M_takes M_taken M_parts M_every M_samples M_sample M_ends M_partSize M_merged M_most M_done M_on M_ticks M_mergedAll M_again M_paces M_up M_byHost M_heap M_used M_planned M_gone hr hR hP hC hO hweq
  subst hweq
  refine lv_aload_n hx hb dL_law_318 rfl (lv_at hl 2 rfl) ?_
  refine lv_aload_n hx hb dL_law_319 rfl (lv_at hl 3 rfl) ?_
  refine lv_iload_n hx hb dL_law_320 rfl (lv_at hl 0 rfl) ?_
  refine lv_iconst (v := 1) hx hb dL_law_321 (by decide) ?_
  refine lv_iadd hx hb dL_law_322 ?_
  refine va_sld hx hb hX hbl hbA hw.2.2 hin1 dL_law_323 ?_
  refine lv_aload_n hx hb dL_law_324 rfl (lv_at hl 3 rfl) ?_
  refine lv_iload_n hx hb dL_law_325 rfl (lv_at hl 0 rfl) ?_
  refine lv_iconst (v := 2) hx hb dL_law_326 (by decide) ?_
  refine lv_iadd hx hb dL_law_327 ?_
  refine va_sld hx hb hX hbl hbA hw.2.2 hin2 dL_law_328 ?_
  refine lv_if_eq (tgt := 336) hx hb dL_law_329 (by decide) (fun b329 => ?_) (fun b329 => ?_)
  · obtain ⟨r, F', e1, e2, g1, g2⟩ := st_falls N hr hR.2.2.2.2.2.2.2.2.1 (xs (nI i + 1).toNatClampNeg) 0 (by decide)
    have e1x : f_X6_falls N W_falling R_made (xs (nI i + 1).toNatClampNeg) 0 = some (r, F') := by rw [hR.1]; exact e1
    have e2x : f_X7_falls N W_falling M_made (xs (nI i + 1).toNatClampNeg) 0 = some (r, F') := by rw [hR.2.2.1]; exact e2
    refine lv_iconst (v := 0) hx hb dL_law_336 (by decide) ?_
    refine clR (As := [.int (xs (nI i + 1).toNatClampNeg), .int 0]) (rest := []) X (c_X6_falls l dC dI cI cJ cZ aG aW aH aR aP aC aO N W_sorts W_values W_turns W_falling (nI cn) H_items H_size R_members R_starts R_inOrder R_standing R_heads R_tails R_rowsInAll R_made R_all R_filled P_takenRuns P_starts P_queued P_merges P_told C_sampled C_sampleStandings C_sizes C_ends C_lies C_merged C_reached C_done C_mergedBy C_parts C_samples C_bound C_ticks C_mergedInAll C_mergedAgain O_paces O_up (xs (nI i + 1).toNatClampNeg) 0 e1x) (cwV 2 hts gL_law_X6_falls rfl rfl rfl (by decide +kernel) ⟨Nat.le_of_ble_eq_true rfl, Nat.le_of_ble_eq_true rfl⟩) (ci := 6) (k0 := 0) rfl rfl rfl hw rfl rfl hl.1 rfl (Nat.le_of_ble_eq_true rfl) dL_law_337 hf (fun H locs hw => ?_)
    refine lv_aload_n hx hb dL_law_340 rfl (lv_at hl 1 rfl) ?_
    refine lv_aload_n hx hb dL_law_341 rfl (lv_at hl 3 rfl) ?_
    refine lv_iload_n hx hb dL_law_342 rfl (lv_at hl 0 rfl) ?_
    refine lv_iconst (v := 1) hx hb dL_law_343 (by decide) ?_
    refine lv_iadd hx hb dL_law_344 ?_
    refine va_sld hx hb hX hbl hbA hw.2.2 hin1 dL_law_345 ?_
    refine lv_aload_n hx hb dL_law_346 rfl (lv_at hl 3 rfl) ?_
    refine lv_iload_n hx hb dL_law_347 rfl (lv_at hl 0 rfl) ?_
    refine lv_iconst (v := 2) hx hb dL_law_348 (by decide) ?_
    refine lv_iadd hx hb dL_law_349 ?_
    refine va_sld hx hb hX hbl hbA hw.2.2 hin2 dL_law_350 ?_
    refine lv_if_eq (tgt := 358) hx hb dL_law_351 (by decide) (fun b351 => ?_) (fun b351 => ?_)
    · refine lv_iconst (v := 0) hx hb dL_law_358 (by decide) ?_
      refine clR (As := [.int (xs (nI i + 1).toNatClampNeg), .int 0]) (rest := [.int r]) X (c_X7_falls l dC dI cI cJ cZ aM N W_sorts W_values (nI cn) W_turns W_falling M_made M_runs M_allRuns M_begin M_size M_pool M_pooled M_ways M_merges M_takes M_taken M_parts M_every M_samples M_sample M_ends M_partSize M_merged M_most M_done M_on M_ticks M_mergedAll M_again M_paces M_up M_byHost M_heap M_used M_planned M_gone (xs (nI i + 1).toNatClampNeg) 0 e2x) (cwV 2 hts gL_law_X7_falls rfl rfl rfl (by decide +kernel) ⟨Nat.le_of_ble_eq_true rfl, Nat.le_of_ble_eq_true rfl⟩) (ci := 7) (k0 := 0) rfl rfl rfl hw rfl rfl hl.1 rfl (Nat.le_of_ble_eq_true rfl) dL_law_359 hf (fun H locs hw => ?_)
      refine lv_icmp_eq (tgt := 913) hx hb dL_law_362 (by decide) (fun _ => ?_) (fun h => absurd rfl h)
      exact kk _ _ _ (LI_mk cI cJ cZ aG aW aH aR aP aC aO aM cn n c1 al mg p1 bf ord io so sf W_sorts W_values W_turns F' H_items H_size R_members R_starts R_inOrder R_standing R_heads R_tails R_rowsInAll R_made R_all R_filled P_takenRuns P_starts P_queued P_merges P_told C_sampled C_sampleStandings C_sizes C_ends C_lies C_merged C_reached C_done C_mergedBy C_parts C_samples C_bound C_ticks C_mergedInAll C_mergedAgain O_paces O_up M_made M_runs M_allRuns M_begin M_size M_pool M_pooled M_ways M_merges M_takes M_taken M_parts M_every M_samples M_sample M_ends M_partSize M_merged M_most M_done M_on M_ticks M_mergedAll M_again M_paces M_up M_byHost M_heap M_used M_planned M_gone g1 (hR.fall g2) hP hC hO) hw
    · exact absurd b329 b351
  · obtain ⟨r, F', e1, e2, g1, g2⟩ := st_falls N hr hR.2.2.2.2.2.2.2.2.1 (xs (nI i + 1).toNatClampNeg) 1 (by decide)
    have e1x : f_X6_falls N W_falling R_made (xs (nI i + 1).toNatClampNeg) 1 = some (r, F') := by rw [hR.1]; exact e1
    have e2x : f_X7_falls N W_falling M_made (xs (nI i + 1).toNatClampNeg) 1 = some (r, F') := by rw [hR.2.2.1]; exact e2
    refine lv_iconst (v := 1) hx hb dL_law_332 (by decide) ?_
    refine lv_goto (tgt := 337) hx hb dL_law_333 (by decide) ?_
    refine clR (As := [.int (xs (nI i + 1).toNatClampNeg), .int 1]) (rest := []) X (c_X6_falls l dC dI cI cJ cZ aG aW aH aR aP aC aO N W_sorts W_values W_turns W_falling (nI cn) H_items H_size R_members R_starts R_inOrder R_standing R_heads R_tails R_rowsInAll R_made R_all R_filled P_takenRuns P_starts P_queued P_merges P_told C_sampled C_sampleStandings C_sizes C_ends C_lies C_merged C_reached C_done C_mergedBy C_parts C_samples C_bound C_ticks C_mergedInAll C_mergedAgain O_paces O_up (xs (nI i + 1).toNatClampNeg) 1 e1x) (cwV 2 hts gL_law_X6_falls rfl rfl rfl (by decide +kernel) ⟨Nat.le_of_ble_eq_true rfl, Nat.le_of_ble_eq_true rfl⟩) (ci := 6) (k0 := 0) rfl rfl rfl hw rfl rfl hl.1 rfl (Nat.le_of_ble_eq_true rfl) dL_law_337 hf (fun H locs hw => ?_)
    refine lv_aload_n hx hb dL_law_340 rfl (lv_at hl 1 rfl) ?_
    refine lv_aload_n hx hb dL_law_341 rfl (lv_at hl 3 rfl) ?_
    refine lv_iload_n hx hb dL_law_342 rfl (lv_at hl 0 rfl) ?_
    refine lv_iconst (v := 1) hx hb dL_law_343 (by decide) ?_
    refine lv_iadd hx hb dL_law_344 ?_
    refine va_sld hx hb hX hbl hbA hw.2.2 hin1 dL_law_345 ?_
    refine lv_aload_n hx hb dL_law_346 rfl (lv_at hl 3 rfl) ?_
    refine lv_iload_n hx hb dL_law_347 rfl (lv_at hl 0 rfl) ?_
    refine lv_iconst (v := 2) hx hb dL_law_348 (by decide) ?_
    refine lv_iadd hx hb dL_law_349 ?_
    refine va_sld hx hb hX hbl hbA hw.2.2 hin2 dL_law_350 ?_
    refine lv_if_eq (tgt := 358) hx hb dL_law_351 (by decide) (fun b351 => ?_) (fun b351 => ?_)
    · exact absurd b351 b329
    · refine lv_iconst (v := 1) hx hb dL_law_354 (by decide) ?_
      refine lv_goto (tgt := 359) hx hb dL_law_355 (by decide) ?_
      refine clR (As := [.int (xs (nI i + 1).toNatClampNeg), .int 1]) (rest := [.int r]) X (c_X7_falls l dC dI cI cJ cZ aM N W_sorts W_values (nI cn) W_turns W_falling M_made M_runs M_allRuns M_begin M_size M_pool M_pooled M_ways M_merges M_takes M_taken M_parts M_every M_samples M_sample M_ends M_partSize M_merged M_most M_done M_on M_ticks M_mergedAll M_again M_paces M_up M_byHost M_heap M_used M_planned M_gone (xs (nI i + 1).toNatClampNeg) 1 e2x) (cwV 2 hts gL_law_X7_falls rfl rfl rfl (by decide +kernel) ⟨Nat.le_of_ble_eq_true rfl, Nat.le_of_ble_eq_true rfl⟩) (ci := 7) (k0 := 0) rfl rfl rfl hw rfl rfl hl.1 rfl (Nat.le_of_ble_eq_true rfl) dL_law_359 hf (fun H locs hw => ?_)
      refine lv_icmp_eq (tgt := 913) hx hb dL_law_362 (by decide) (fun _ => ?_) (fun h => absurd rfl h)
      exact kk _ _ _ (LI_mk cI cJ cZ aG aW aH aR aP aC aO aM cn n c1 al mg p1 bf ord io so sf W_sorts W_values W_turns F' H_items H_size R_members R_starts R_inOrder R_standing R_heads R_tails R_rowsInAll R_made R_all R_filled P_takenRuns P_starts P_queued P_merges P_told C_sampled C_sampleStandings C_sizes C_ends C_lies C_merged C_reached C_done C_mergedBy C_parts C_samples C_bound C_ticks C_mergedInAll C_mergedAgain O_paces O_up M_made M_runs M_allRuns M_begin M_size M_pool M_pooled M_ways M_merges M_takes M_taken M_parts M_every M_samples M_sample M_ends M_partSize M_merged M_most M_done M_on M_ticks M_mergedAll M_again M_paces M_up M_byHost M_heap M_used M_planned M_gone g1 (hR.fall g2) hP hC hO) hw
