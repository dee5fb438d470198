def rm_X7_pace : Room := { frames := 1, cells := 0, slots := 0, locals := 22 }
set_option maxRecDepth 20000 in
theorem i_X7_pace_X7 : ∀ w ∈ u_ws RX7 TX7 36, w ∈ wsX7_pace := by decide +kernel
set_option maxRecDepth 20000 in
theorem m_X7_pace_0 : Cond.fieldLink RX7 101 "GreatSortModel" "paces" "[I" ∈ wsX7_pace := by decide +kernel
set_option maxHeartbeats 4000000 in
set_option maxRecDepth 100000 in
theorem c_X7_pace (l : Launch) (dC : Nat → ClassId) (dI : Nat → Nat → Nat) (cI cJ cZ : ClassId) (aM : Nat → Nat) (N : Nat) (M_sorts : (Nat → Int32)) (M_values : (Nat → Int32)) (M_rows : Int32) (M_placeOf : (Nat → Int32)) (M_falling : (Nat → Int32)) (M_made : Int32) (M_runs : Int32) (M_allRuns : Int32) (M_begin : (Nat → Int32)) (M_size : (Nat → Int32)) (M_pool : (Nat → Int32)) (M_pooled : Int32) (M_ways : Int32) (M_merges : Int32) (M_takes : (Nat → Int32)) (M_taken : (Nat → Int32)) (M_parts : Int32) (M_every : Int32) (M_samples : Int32) (M_sample : (Nat → Int32)) (M_ends : (Nat → Int32)) (M_partSize : (Nat → Int32)) (M_merged : (Nat → Int32)) (M_most : (Nat → Int32)) (M_done : (Nat → Int32)) (M_on : (Nat → Int32)) (M_ticks : Int32) (M_mergedAll : Int32) (M_again : Int32) (M_paces : (Nat → Int32)) (M_up : (Nat → Int32)) (M_byHost : (Nat → Int32)) (M_heap : (Nat → Int32)) (M_used : (Nat → Int32)) (M_planned : (Nat → Int32)) (M_gone : (Nat → Int32)) (v1 : Int32) (v2 : Int32) {r : Int32} {o_M_paces : (Nat → Int32)} (hf : f_X7_pace N M_paces v1 v2 = some (r, o_M_paces)) :
    CtI l yX7_pace wsX7_pace rm_X7_pace (dC, dI) (tyl cI cJ cZ) [.ref (aM 0), .int v1, .int v2] (w_M aM cI cJ cZ M_sorts M_values M_rows M_placeOf M_falling M_made M_runs M_allRuns M_begin M_size M_pool M_pooled M_ways M_merges M_takes M_taken M_parts M_every M_samples M_sample M_ends M_partSize M_merged M_most M_done M_on M_ticks M_mergedAll M_again M_paces M_up M_byHost M_heap M_used M_planned M_gone) (w_M aM cI cJ cZ M_sorts M_values M_rows M_placeOf M_falling M_made M_runs M_allRuns M_begin M_size M_pool M_pooled M_ways M_merges M_takes M_taken M_parts M_every M_samples M_sample M_ends M_partSize M_merged M_most M_done M_on M_ticks M_mergedAll M_again o_M_paces M_up M_byHost M_heap M_used M_planned M_gone) r := by
  refine startI (cc := cX7_pace) (maxL := 3) (rt := (some .boolean)) (by decide +kernel) rfl (Nat.le_of_ble_eq_true rfl) ?_
  intro p e s m below meth c A ls X hr hlocks hw hl
  replace X : Cx p m c cX7_pace 3 s _ wsX7_pace RX7 (dC, dI) (tyl cI cJ cZ) A := X
  replace hl : lv_has ls 3 [(0, .ref (aM 0)), (1, .int v1), (2, .int v2)] := hl
  obtain ⟨hx, hb, hml, hown, hts⟩ := X.1
  have hK := X.2.1
  have hN := X.2.2.2
  unfold f_X7_pace at hf
  refine lv_iload_n hx hb dX7_pace_0 rfl (lv_at hl 1 rfl) ?_
  obtain ⟨r1, h2, hf⟩ := bd1_ob hf
  refine clSI (As := [.int v1]) (rest := []) X (c_X7_isHost l dC dI cI cJ cZ N v1 h2) (va_cwS 1 hts gX7_pace_X7_isHost rfl rfl rfl (by decide +kernel) ⟨Nat.le_of_ble_eq_true rfl, Nat.le_of_ble_eq_true rfl⟩) hw [] rfl rfl rfl rfl hl.1 rfl (Nat.le_of_ble_eq_true rfl) dX7_pace_1 ⟨Nat.zero_le _, Nat.zero_le _⟩ (fun H locs hw => ?_)
  replace hw : Wd (dC, dI) A s.heap H locs (w_M aM cI cJ cZ M_sorts M_values M_rows M_placeOf M_falling M_made M_runs M_allRuns M_begin M_size M_pool M_pooled M_ways M_merges M_takes M_taken M_parts M_every M_samples M_sample M_ends M_partSize M_merged M_most M_done M_on M_ticks M_mergedAll M_again M_paces M_up M_byHost M_heap M_used M_planned M_gone) := hw
  refine lv_if_eq (tgt := 17) hx hb dX7_pace_4 (by decide) (fun b3 => ?_) (fun b3 => ?_)
  · replace hf := it_t hf b3
    refine lv_iconst (v := 0) hx hb dX7_pace_17 (by decide) ?_
    have g4 := bz_nar (gd_l hf)
    replace hf := gd_r hf
    cases hf
    exact endI X hr g4 hlocks rfl hw dX7_pace_18
  · replace hf := it_f hf b3
    refine lv_iload_n hx hb dX7_pace_7 rfl (lv_at hl 2 rfl) ?_
    refine lv_iconst (v := 0) hx hb dX7_pace_8 (by decide) ?_
    refine lv_bipush (v := 50) hx hb dX7_pace_9 (by decide) ?_
    obtain ⟨r5, h6, hf⟩ := bd1_ob hf
    refine clSI (As := [.int v2, .int (0 : Int32), .int (50 : Int32)]) (rest := []) X (c_X7_is l dC dI cI cJ cZ N v2 (0 : Int32) (50 : Int32) h6) (va_cwS 3 hts gX7_pace_X7_is rfl rfl rfl (by decide +kernel) ⟨Nat.le_of_ble_eq_true rfl, Nat.le_of_ble_eq_true rfl⟩) hw [] rfl rfl rfl rfl hl.1 rfl (Nat.le_of_ble_eq_true rfl) dX7_pace_11 ⟨Nat.zero_le _, Nat.zero_le _⟩ (fun H locs hw => ?_)
    replace hw : Wd (dC, dI) A s.heap H locs (w_M aM cI cJ cZ M_sorts M_values M_rows M_placeOf M_falling M_made M_runs M_allRuns M_begin M_size M_pool M_pooled M_ways M_merges M_takes M_taken M_parts M_every M_samples M_sample M_ends M_partSize M_merged M_most M_done M_on M_ticks M_mergedAll M_again M_paces M_up M_byHost M_heap M_used M_planned M_gone) := hw
    refine lv_if_ne (tgt := 19) hx hb dX7_pace_14 (by decide) (fun b7 => ?_) (fun b7 => ?_)
    · replace hf := it_f hf b7
      refine lv_aload_n hx hb dX7_pace_19 rfl (lv_at hl 0 rfl) ?_
      refine va_get (D := (dC, dI)) (ci := 7) (v := .ref (aM 17)) (C := RX7) (T := TX7) (N := 36) hx hb hts i_X7_pace_X7 hown hK hw.1 0 rfl rfl 29 (by decide) (hts _ m_X7_pace_0) (fun _ h9 => h9) rfl dX7_pace_20 ?_
      refine lv_iload_n hx hb dX7_pace_23 rfl (lv_at hl 1 rfl) ?_
      refine lv_iload_n hx hb dX7_pace_24 rfl (lv_at hl 2 rfl) ?_
      have g8 := ix_in (gd_l hf)
      replace hf := gd_r hf
      refine g_iast hx hb hK hw 17 0 rfl rfl g8 dX7_pace_25 (fun H locs hw => ?_)
      replace hw : Wd (dC, dI) A s.heap H locs (w_M aM cI cJ cZ M_sorts M_values M_rows M_placeOf M_falling M_made M_runs M_allRuns M_begin M_size M_pool M_pooled M_ways M_merges M_takes M_taken M_parts M_every M_samples M_sample M_ends M_partSize M_merged M_most M_done M_on M_ticks M_mergedAll M_again (upd M_paces v1.toNatClampNeg v2) M_up M_byHost M_heap M_used M_planned M_gone) := hw
      refine lv_iconst (v := 1) hx hb dX7_pace_26 (by decide) ?_
      have g9 := bz_nar (gd_l hf)
      replace hf := gd_r hf
      cases hf
      exact endI X hr g9 hlocks rfl hw dX7_pace_27
    · replace hf := it_t hf b7
      refine lv_iconst (v := 0) hx hb dX7_pace_17 (by decide) ?_
      have g10 := bz_nar (gd_l hf)
      replace hf := gd_r hf
      cases hf
      exact endI X hr g10 hlocks rfl hw dX7_pace_18
def rm_X7_fall : Room := { frames := 2, cells := 0, slots := 0, locals := 48 }
set_option maxRecDepth 20000 in
theorem i_X7_fall_X7 : ∀ w ∈ u_ws RX7 TX7 36, w ∈ wsX7_fall := by decide +kernel
set_option maxRecDepth 20000 in
theorem m_X7_fall_0 : Cond.fieldLink RX7 104 "GreatSortModel" "up" "[Z" ∈ wsX7_fall := by decide +kernel
set_option maxHeartbeats 4000000 in
set_option maxRecDepth 100000 in
theorem c_X7_fall (l : Launch) (dC : Nat → ClassId) (dI : Nat → Nat → Nat) (cI cJ cZ : ClassId) (aM : Nat → Nat) (N : Nat) (M_sorts : (Nat → Int32)) (M_values : (Nat → Int32)) (M_rows : Int32) (M_placeOf : (Nat → Int32)) (M_falling : (Nat → Int32)) (M_made : Int32) (M_runs : Int32) (M_allRuns : Int32) (M_begin : (Nat → Int32)) (M_size : (Nat → Int32)) (M_pool : (Nat → Int32)) (M_pooled : Int32) (M_ways : Int32) (M_merges : Int32) (M_takes : (Nat → Int32)) (M_taken : (Nat → Int32)) (M_parts : Int32) (M_every : Int32) (M_samples : Int32) (M_sample : (Nat → Int32)) (M_ends : (Nat → Int32)) (M_partSize : (Nat → Int32)) (M_merged : (Nat → Int32)) (M_most : (Nat → Int32)) (M_done : (Nat → Int32)) (M_on : (Nat → Int32)) (M_ticks : Int32) (M_mergedAll : Int32) (M_again : Int32) (M_paces : (Nat → Int32)) (M_up : (Nat → Int32)) (M_byHost : (Nat → Int32)) (M_heap : (Nat → Int32)) (M_used : (Nat → Int32)) (M_planned : (Nat → Int32)) (M_gone : (Nat → Int32)) (v1 : Int32) {r : Int32} {o_M_merged : (Nat → Int32)} {o_M_done : (Nat → Int32)} {o_M_on : (Nat → Int32)} {o_M_up : (Nat → Int32)} (hf : f_X7_fall N M_parts M_partSize M_merged M_done M_on M_up v1 = some (r, o_M_merged, o_M_done, o_M_on, o_M_up)) :
    CtI l yX7_fall wsX7_fall rm_X7_fall (dC, dI) (tyl cI cJ cZ) [.ref (aM 0), .int v1] (w_M aM cI cJ cZ M_sorts M_values M_rows M_placeOf M_falling M_made M_runs M_allRuns M_begin M_size M_pool M_pooled M_ways M_merges M_takes M_taken M_parts M_every M_samples M_sample M_ends M_partSize M_merged M_most M_done M_on M_ticks M_mergedAll M_again M_paces M_up M_byHost M_heap M_used M_planned M_gone) (w_M aM cI cJ cZ M_sorts M_values M_rows M_placeOf M_falling M_made M_runs M_allRuns M_begin M_size M_pool M_pooled M_ways M_merges M_takes M_taken M_parts M_every M_samples M_sample M_ends M_partSize o_M_merged M_most o_M_done o_M_on M_ticks M_mergedAll M_again M_paces o_M_up M_byHost M_heap M_used M_planned M_gone) r := by
  refine startI (cc := cX7_fall) (maxL := 2) (rt := (some .int)) (by decide +kernel) rfl (Nat.le_of_ble_eq_true rfl) ?_
  intro p e s m below meth c A ls X hr hlocks hw hl
  replace X : Cx p m c cX7_fall 2 s _ wsX7_fall RX7 (dC, dI) (tyl cI cJ cZ) A := X
  replace hl : lv_has ls 2 [(0, .ref (aM 0)), (1, .int v1)] := hl
  obtain ⟨hx, hb, hml, hown, hts⟩ := X.1
  have hK := X.2.1
  have hN := X.2.2.2
  unfold f_X7_fall at hf
  refine lv_iload_n hx hb dX7_fall_0 rfl (lv_at hl 1 rfl) ?_
  obtain ⟨r1, h2, hf⟩ := bd1_ob hf
  refine clSI (As := [.int v1]) (rest := []) X (c_X7_isHost l dC dI cI cJ cZ N v1 h2) (va_cwS 1 hts gX7_fall_X7_isHost rfl rfl rfl (by decide +kernel) ⟨Nat.le_of_ble_eq_true rfl, Nat.le_of_ble_eq_true rfl⟩) hw [] rfl rfl rfl rfl hl.1 rfl (Nat.le_of_ble_eq_true rfl) dX7_fall_1 ⟨Nat.zero_le _, Nat.zero_le _⟩ (fun H locs hw => ?_)
  replace hw : Wd (dC, dI) A s.heap H locs (w_M aM cI cJ cZ M_sorts M_values M_rows M_placeOf M_falling M_made M_runs M_allRuns M_begin M_size M_pool M_pooled M_ways M_merges M_takes M_taken M_parts M_every M_samples M_sample M_ends M_partSize M_merged M_most M_done M_on M_ticks M_mergedAll M_again M_paces M_up M_byHost M_heap M_used M_planned M_gone) := hw
  refine lv_if_eq (tgt := 16) hx hb dX7_fall_4 (by decide) (fun b3 => ?_) (fun b3 => ?_)
  · replace hf := it_t hf b3
    refine lv_iconst (v := (-1)) hx hb dX7_fall_16 (by decide) ?_
    cases hf
    exact endI X hr rfl hlocks rfl hw dX7_fall_17
  · replace hf := it_f hf b3
    refine lv_aload_n hx hb dX7_fall_7 rfl (lv_at hl 0 rfl) ?_
    refine va_get (D := (dC, dI)) (ci := 7) (v := .ref (aM 18)) (C := RX7) (T := TX7) (N := 36) hx hb hts i_X7_fall_X7 hown hK hw.1 0 rfl rfl 30 (by decide) (hts _ m_X7_fall_0) (fun _ h9 => h9) rfl dX7_fall_8 ?_
    refine lv_iload_n hx hb dX7_fall_11 rfl (lv_at hl 1 rfl) ?_
    have g4 := ix_in (gd_l hf)
    replace hf := gd_r hf
    refine va_zald hx hb hK hw.1 18 2 rfl rfl g4 dX7_fall_12 ?_
    refine lv_if_ne (tgt := 18) hx hb dX7_fall_13 (by decide) (fun b5 => ?_) (fun b5 => ?_)
    · replace hf := it_f hf b5
      refine lv_aload_n hx hb dX7_fall_18 rfl (lv_at hl 0 rfl) ?_
      refine va_get (D := (dC, dI)) (ci := 7) (v := .ref (aM 18)) (C := RX7) (T := TX7) (N := 36) hx hb hts i_X7_fall_X7 hown hK hw.1 0 rfl rfl 30 (by decide) (hts _ m_X7_fall_0) (fun _ h9 => h9) rfl dX7_fall_19 ?_
      refine lv_iload_n hx hb dX7_fall_22 rfl (lv_at hl 1 rfl) ?_
      refine lv_iconst (v := 0) hx hb dX7_fall_23 (by decide) ?_
      have g6 := ix_in (gd_l hf)
      replace hf := gd_r hf
      refine g_zast hx hb hK hw 18 2 rfl rfl g6 dX7_fall_24 (fun H locs hw => ?_)
      replace hw : Wd (dC, dI) A s.heap H locs (w_M aM cI cJ cZ M_sorts M_values M_rows M_placeOf M_falling M_made M_runs M_allRuns M_begin M_size M_pool M_pooled M_ways M_merges M_takes M_taken M_parts M_every M_samples M_sample M_ends M_partSize M_merged M_most M_done M_on M_ticks M_mergedAll M_again M_paces (upd M_up v1.toNatClampNeg (vp_nar .boolean 0)) M_byHost M_heap M_used M_planned M_gone) := hw
      refine lv_aload_n hx hb dX7_fall_25 rfl (lv_at hl 0 rfl) ?_
      refine lv_iload_n hx hb dX7_fall_26 rfl (lv_at hl 1 rfl) ?_
      obtain ⟨r7, c8, c9, c10, h11, hf⟩ := bd4_ob hf
      refine clFI (As := [.int v1]) (rest := []) X (c_X7_leaves l dC dI cI cJ cZ aM N M_sorts M_values M_rows M_placeOf M_falling M_made M_runs M_allRuns M_begin M_size M_pool M_pooled M_ways M_merges M_takes M_taken M_parts M_every M_samples M_sample M_ends M_partSize M_merged M_most M_done M_on M_ticks M_mergedAll M_again M_paces (upd M_up v1.toNatClampNeg (vp_nar .boolean 0)) M_byHost M_heap M_used M_planned M_gone v1 h11) (cwV 1 hts gX7_fall_X7_leaves rfl rfl rfl (by decide +kernel) ⟨Nat.le_of_ble_eq_true rfl, Nat.le_of_ble_eq_true rfl⟩) (ci := 7) (k0 := 0) rfl rfl rfl hw rfl rfl hl.1 rfl (Nat.le_of_ble_eq_true rfl) dX7_fall_27 ⟨Nat.zero_le _, Nat.zero_le _⟩ (fun H locs hw => ?_)
      cases hf
      exact endI X hr rfl hlocks rfl hw dX7_fall_30
    · replace hf := it_t hf b5
      refine lv_iconst (v := (-1)) hx hb dX7_fall_16 (by decide) ?_
      cases hf
      exact endI X hr rfl hlocks rfl hw dX7_fall_17
def rm_X7_rise : Room := { frames := 1, cells := 0, slots := 0, locals := 20 }
set_option maxRecDepth 20000 in
theorem i_X7_rise_X7 : ∀ w ∈ u_ws RX7 TX7 36, w ∈ wsX7_rise := by decide +kernel
set_option maxRecDepth 20000 in
theorem m_X7_rise_0 : Cond.fieldLink RX7 104 "GreatSortModel" "up" "[Z" ∈ wsX7_rise := by decide +kernel
set_option maxRecDepth 20000 in
theorem m_X7_rise_1 : Cond.fieldLink RX7 62 "GreatSortModel" "parts" "I" ∈ wsX7_rise := by decide +kernel
set_option maxRecDepth 20000 in
theorem m_X7_rise_2 : Cond.fieldLink RX7 89 "GreatSortModel" "on" "[I" ∈ wsX7_rise := by decide +kernel
set_option maxHeartbeats 4000000 in
set_option maxRecDepth 100000 in
theorem t_X7_rise_29 {p : Program} {l : Launch} {e : Env} {s : State} {m : MethodId} {args : Array Value} {below : List Frame} {meth : Method} {c : Code} {Q : State → Prop} {dC : Nat → ClassId} {dI : Nat → Nat → Nat} {cI cJ cZ : ClassId} {A : Nat → Prop} (aM : Nat → Nat) (X : Cx p m c cX7_rise 4 s args wsX7_rise RX7 (dC, dI) (tyl cI cJ cZ) A) (N : Nat) (M_sorts : (Nat → Int32)) (M_values : (Nat → Int32)) (M_rows : Int32) (M_placeOf : (Nat → Int32)) (M_falling : (Nat → Int32)) (M_made : Int32) (M_runs : Int32) (M_allRuns : Int32) (M_begin : (Nat → Int32)) (M_size : (Nat → Int32)) (M_pool : (Nat → Int32)) (M_pooled : Int32) (M_ways : Int32) (M_merges : Int32) (M_takes : (Nat → Int32)) (M_taken : (Nat → Int32)) (M_parts : Int32) (M_every : Int32) (M_samples : Int32) (M_sample : (Nat → Int32)) (M_ends : (Nat → Int32)) (M_partSize : (Nat → Int32)) (M_merged : (Nat → Int32)) (M_most : (Nat → Int32)) (M_done : (Nat → Int32)) (M_ticks : Int32) (M_mergedAll : Int32) (M_again : Int32) (M_paces : (Nat → Int32)) (M_up : (Nat → Int32)) (M_byHost : (Nat → Int32)) (M_heap : (Nat → Int32)) (M_used : (Nat → Int32)) (M_planned : (Nat → Int32)) (M_gone : (Nat → Int32)) (v1 : Int32) :
    ∀ (n : Nat) (v2 : Int32) (v3 : Int32) (M_on : (Nat → Int32)) (e2 : Int32) (e_M_on : (Nat → Int32)), l_X7_rise_29 N M_parts v1 n v2 v3 M_on = some (e2, e_M_on) → ∀ (H : Heap) (locs : List Loc) (ls : Array Slot), Wd (dC, dI) A s.heap H locs (w_M aM cI cJ cZ M_sorts M_values M_rows M_placeOf M_falling M_made M_runs M_allRuns M_begin M_size M_pool M_pooled M_ways M_merges M_takes M_taken M_parts M_every M_samples M_sample M_ends M_partSize M_merged M_most M_done M_on M_ticks M_mergedAll M_again M_paces M_up M_byHost M_heap M_used M_planned M_gone) → lv_has ls 4 [(0, .ref (aM 0)), (1, .int v1), (2, .int v2), (3, .int v3)] → (∀ (H : Heap) (locs : List Loc) (ls : Array Slot), Wd (dC, dI) A s.heap H locs (w_M aM cI cJ cZ M_sorts M_values M_rows M_placeOf M_falling M_made M_runs M_allRuns M_begin M_size M_pool M_pooled M_ways M_merges M_takes M_taken M_parts M_every M_samples M_sample M_ends M_partSize M_merged M_most M_done e_M_on M_ticks M_mergedAll M_again M_paces M_up M_byHost M_heap M_used M_planned M_gone) → lv_has ls 4 [(2, .int e2)] → W p l e rm_X7_rise s m args below meth c H locs 0 0 Q (F0 m 66 ls [])) → W p l e rm_X7_rise s m args below meth c H locs 0 0 Q (F0 m 29 ls []) := by
  obtain ⟨hx, hb, hml, hown, hts⟩ := X.1
  have hK := X.2.1
  have hN := X.2.2.2
  intro n
  induction n with
  | zero =>
    intro _ _ _ _ _ hf
    cases hf
  | succ n ih =>
    intro v2 v3 M_on e2 e_M_on hf H locs ls hw hl kx
    rw [l_X7_rise_29] at hf
    refine lv_iload_n hx hb dX7_rise_29 rfl (lv_at hl 3 rfl) ?_
    refine lv_aload_n hx hb dX7_rise_30 rfl (lv_at hl 0 rfl) ?_
    refine va_get (D := (dC, dI)) (ci := 7) (v := .int M_parts) (C := RX7) (T := TX7) (N := 36) hx hb hts i_X7_rise_X7 hown hK hw.1 0 rfl rfl 16 (by decide) (hts _ m_X7_rise_1) (fun _ h9 => h9) rfl dX7_rise_31 ?_
    refine lv_icmp_ge (tgt := 66) hx hb dX7_rise_34 (by decide) (fun b7 => ?_) (fun b7 => ?_)
    · replace hf := it_t hf b7
      cases hf
      exact kx _ _ _ hw (lv_sub hl [2] rfl)
    · replace hf := it_f hf b7
      refine lv_aload_n hx hb dX7_rise_37 rfl (lv_at hl 0 rfl) ?_
      refine va_get (D := (dC, dI)) (ci := 7) (v := .ref (aM 16)) (C := RX7) (T := TX7) (N := 36) hx hb hts i_X7_rise_X7 hown hK hw.1 0 rfl rfl 25 (by decide) (hts _ m_X7_rise_2) (fun _ h9 => h9) rfl dX7_rise_38 ?_
      refine lv_iload_n hx hb dX7_rise_41 rfl (lv_at hl 3 rfl) ?_
      have g8 := ix_in (gd_l hf)
      replace hf := gd_r hf
      refine va_iald hx hb hK hw.1 16 0 rfl rfl g8 dX7_rise_42 ?_
      refine lv_iconst (v := (-1)) hx hb dX7_rise_43 (by decide) ?_
      refine lv_icmp_eq (tgt := 50) hx hb dX7_rise_44 (by decide) (fun b9 => ?_) (fun b9 => ?_)
      · replace hf := it_t hf b9
        refine lv_aload_n hx hb dX7_rise_50 rfl (lv_at hl 0 rfl) ?_
        refine va_get (D := (dC, dI)) (ci := 7) (v := .ref (aM 16)) (C := RX7) (T := TX7) (N := 36) hx hb hts i_X7_rise_X7 hown hK hw.1 0 rfl rfl 25 (by decide) (hts _ m_X7_rise_2) (fun _ h9 => h9) rfl dX7_rise_51 ?_
        refine lv_iload_n hx hb dX7_rise_54 rfl (lv_at hl 3 rfl) ?_
        refine lv_iload_n hx hb dX7_rise_55 rfl (lv_at hl 1 rfl) ?_
        have g10 := ix_in (gd_l hf)
        replace hf := gd_r hf
        refine g_iast hx hb hK hw 16 0 rfl rfl g10 dX7_rise_56 (fun H locs hw => ?_)
        replace hw : Wd (dC, dI) A s.heap H locs (w_M aM cI cJ cZ M_sorts M_values M_rows M_placeOf M_falling M_made M_runs M_allRuns M_begin M_size M_pool M_pooled M_ways M_merges M_takes M_taken M_parts M_every M_samples M_sample M_ends M_partSize M_merged M_most M_done (upd M_on v3.toNatClampNeg v1) M_ticks M_mergedAll M_again M_paces M_up M_byHost M_heap M_used M_planned M_gone) := hw
        obtain ⟨x11, ex11⟩ : ∃ y : Int32, y = v2 + 1 := ⟨_, rfl⟩
        replace hf := nl_at hf ex11
        refine lv_iinc (v := x11) (lv' := [(2, .int x11), (0, .ref (aM 0)), (1, .int v1), (3, .int v3)]) hx hb dX7_rise_57 hl (k := 2) rfl (by rw [ex11]; rfl) (by decide) rfl (fun ls hl => ?_)
        obtain ⟨x12, ex12⟩ : ∃ y : Int32, y = v3 + 1 := ⟨_, rfl⟩
        replace hf := nl_at hf ex12
        refine lv_iinc (v := x12) (lv' := [(3, .int x12), (2, .int x11), (0, .ref (aM 0)), (1, .int v1)]) hx hb dX7_rise_60 hl (k := 3) rfl (by rw [ex12]; rfl) (by decide) rfl (fun ls hl => ?_)
        refine lv_goto (tgt := 29) hx hb dX7_rise_63 (by decide) ?_
        exact ih _ _ _ _ _ hf _ _ _ hw (lv_sub hl [2, 3, 1, 0] rfl) kx
      · replace hf := it_f hf b9
        refine lv_goto (tgt := 60) hx hb dX7_rise_47 (by decide) ?_
        obtain ⟨x13, ex13⟩ : ∃ y : Int32, y = v3 + 1 := ⟨_, rfl⟩
        replace hf := nl_at hf ex13
        refine lv_iinc (v := x13) (lv' := [(3, .int x13), (0, .ref (aM 0)), (1, .int v1), (2, .int v2)]) hx hb dX7_rise_60 hl (k := 3) rfl (by rw [ex13]; rfl) (by decide) rfl (fun ls hl => ?_)
        refine lv_goto (tgt := 29) hx hb dX7_rise_63 (by decide) ?_
        exact ih _ _ _ _ _ hf _ _ _ hw (lv_sub hl [1, 2, 3, 0] rfl) kx
set_option maxHeartbeats 4000000 in
set_option maxRecDepth 100000 in
theorem c_X7_rise (l : Launch) (dC : Nat → ClassId) (dI : Nat → Nat → Nat) (cI cJ cZ : ClassId) (aM : Nat → Nat) (N : Nat) (M_sorts : (Nat → Int32)) (M_values : (Nat → Int32)) (M_rows : Int32) (M_placeOf : (Nat → Int32)) (M_falling : (Nat → Int32)) (M_made : Int32) (M_runs : Int32) (M_allRuns : Int32) (M_begin : (Nat → Int32)) (M_size : (Nat → Int32)) (M_pool : (Nat → Int32)) (M_pooled : Int32) (M_ways : Int32) (M_merges : Int32) (M_takes : (Nat → Int32)) (M_taken : (Nat → Int32)) (M_parts : Int32) (M_every : Int32) (M_samples : Int32) (M_sample : (Nat → Int32)) (M_ends : (Nat → Int32)) (M_partSize : (Nat → Int32)) (M_merged : (Nat → Int32)) (M_most : (Nat → Int32)) (M_done : (Nat → Int32)) (M_on : (Nat → Int32)) (M_ticks : Int32) (M_mergedAll : Int32) (M_again : Int32) (M_paces : (Nat → Int32)) (M_up : (Nat → Int32)) (M_byHost : (Nat → Int32)) (M_heap : (Nat → Int32)) (M_used : (Nat → Int32)) (M_planned : (Nat → Int32)) (M_gone : (Nat → Int32)) (v1 : Int32) {r : Int32} {o_M_on : (Nat → Int32)} {o_M_up : (Nat → Int32)} (hf : f_X7_rise N M_parts M_on M_up v1 = some (r, o_M_on, o_M_up)) :
    CtI l yX7_rise wsX7_rise rm_X7_rise (dC, dI) (tyl cI cJ cZ) [.ref (aM 0), .int v1] (w_M aM cI cJ cZ M_sorts M_values M_rows M_placeOf M_falling M_made M_runs M_allRuns M_begin M_size M_pool M_pooled M_ways M_merges M_takes M_taken M_parts M_every M_samples M_sample M_ends M_partSize M_merged M_most M_done M_on M_ticks M_mergedAll M_again M_paces M_up M_byHost M_heap M_used M_planned M_gone) (w_M aM cI cJ cZ M_sorts M_values M_rows M_placeOf M_falling M_made M_runs M_allRuns M_begin M_size M_pool M_pooled M_ways M_merges M_takes M_taken M_parts M_every M_samples M_sample M_ends M_partSize M_merged M_most M_done o_M_on M_ticks M_mergedAll M_again M_paces o_M_up M_byHost M_heap M_used M_planned M_gone) r := by
  refine startI (cc := cX7_rise) (maxL := 4) (rt := (some .int)) (by decide +kernel) rfl (Nat.le_of_ble_eq_true rfl) ?_
  intro p e s m below meth c A ls X hr hlocks hw hl
  replace X : Cx p m c cX7_rise 4 s _ wsX7_rise RX7 (dC, dI) (tyl cI cJ cZ) A := X
  replace hl : lv_has ls 4 [(0, .ref (aM 0)), (1, .int v1)] := hl
  obtain ⟨hx, hb, hml, hown, hts⟩ := X.1
  have hK := X.2.1
  have hN := X.2.2.2
  unfold f_X7_rise at hf
  refine lv_iload_n hx hb dX7_rise_0 rfl (lv_at hl 1 rfl) ?_
  obtain ⟨r1, h2, hf⟩ := bd1_ob hf
  refine clSI (As := [.int v1]) (rest := []) X (c_X7_isHost l dC dI cI cJ cZ N v1 h2) (va_cwS 1 hts gX7_rise_X7_isHost rfl rfl rfl (by decide +kernel) ⟨Nat.le_of_ble_eq_true rfl, Nat.le_of_ble_eq_true rfl⟩) hw [] rfl rfl rfl rfl hl.1 rfl (Nat.le_of_ble_eq_true rfl) dX7_rise_1 ⟨Nat.zero_le _, Nat.zero_le _⟩ (fun H locs hw => ?_)
  replace hw : Wd (dC, dI) A s.heap H locs (w_M aM cI cJ cZ M_sorts M_values M_rows M_placeOf M_falling M_made M_runs M_allRuns M_begin M_size M_pool M_pooled M_ways M_merges M_takes M_taken M_parts M_every M_samples M_sample M_ends M_partSize M_merged M_most M_done M_on M_ticks M_mergedAll M_again M_paces M_up M_byHost M_heap M_used M_planned M_gone) := hw
  refine lv_if_eq (tgt := 16) hx hb dX7_rise_4 (by decide) (fun b3 => ?_) (fun b3 => ?_)
  · replace hf := it_t hf b3
    refine lv_iconst (v := (-1)) hx hb dX7_rise_16 (by decide) ?_
    cases hf
    exact endI X hr rfl hlocks rfl hw dX7_rise_17
  · replace hf := it_f hf b3
    refine lv_aload_n hx hb dX7_rise_7 rfl (lv_at hl 0 rfl) ?_
    refine va_get (D := (dC, dI)) (ci := 7) (v := .ref (aM 18)) (C := RX7) (T := TX7) (N := 36) hx hb hts i_X7_rise_X7 hown hK hw.1 0 rfl rfl 30 (by decide) (hts _ m_X7_rise_0) (fun _ h9 => h9) rfl dX7_rise_8 ?_
    refine lv_iload_n hx hb dX7_rise_11 rfl (lv_at hl 1 rfl) ?_
    have g4 := ix_in (gd_l hf)
    replace hf := gd_r hf
    refine va_zald hx hb hK hw.1 18 2 rfl rfl g4 dX7_rise_12 ?_
    refine lv_if_eq (tgt := 18) hx hb dX7_rise_13 (by decide) (fun b5 => ?_) (fun b5 => ?_)
    · replace hf := it_t hf b5
      refine lv_aload_n hx hb dX7_rise_18 rfl (lv_at hl 0 rfl) ?_
      refine va_get (D := (dC, dI)) (ci := 7) (v := .ref (aM 18)) (C := RX7) (T := TX7) (N := 36) hx hb hts i_X7_rise_X7 hown hK hw.1 0 rfl rfl 30 (by decide) (hts _ m_X7_rise_0) (fun _ h9 => h9) rfl dX7_rise_19 ?_
      refine lv_iload_n hx hb dX7_rise_22 rfl (lv_at hl 1 rfl) ?_
      refine lv_iconst (v := 1) hx hb dX7_rise_23 (by decide) ?_
      have g6 := ix_in (gd_l hf)
      replace hf := gd_r hf
      refine g_zast hx hb hK hw 18 2 rfl rfl g6 dX7_rise_24 (fun H locs hw => ?_)
      replace hw : Wd (dC, dI) A s.heap H locs (w_M aM cI cJ cZ M_sorts M_values M_rows M_placeOf M_falling M_made M_runs M_allRuns M_begin M_size M_pool M_pooled M_ways M_merges M_takes M_taken M_parts M_every M_samples M_sample M_ends M_partSize M_merged M_most M_done M_on M_ticks M_mergedAll M_again M_paces (upd M_up v1.toNatClampNeg (vp_nar .boolean 1)) M_byHost M_heap M_used M_planned M_gone) := hw
      refine lv_iconst (v := 0) hx hb dX7_rise_25 (by decide) ?_
      refine lv_istore_n (lv' := [(2, .int 0), (0, .ref (aM 0)), (1, .int v1)]) hx hb dX7_rise_26 rfl hl (by decide) rfl (fun ls hl => ?_)
      refine lv_iconst (v := 0) hx hb dX7_rise_27 (by decide) ?_
      refine lv_istore_n (lv' := [(3, .int 0), (2, .int 0), (0, .ref (aM 0)), (1, .int v1)]) hx hb dX7_rise_28 rfl hl (by decide) rfl (fun ls hl => ?_)
      obtain ⟨e14, e15, h16, hf⟩ := bd2_ob hf
      refine t_X7_rise_29 aM X N M_sorts M_values M_rows M_placeOf M_falling M_made M_runs M_allRuns M_begin M_size M_pool M_pooled M_ways M_merges M_takes M_taken M_parts M_every M_samples M_sample M_ends M_partSize M_merged M_most M_done M_ticks M_mergedAll M_again M_paces (upd M_up v1.toNatClampNeg (vp_nar .boolean 1)) M_byHost M_heap M_used M_planned M_gone v1 N _ _ _ _ _ h16 _ _ _ hw (lv_sub hl [2, 3, 1, 0] rfl) (fun H locs ls hw hl => ?_)
      refine lv_iload_n hx hb dX7_rise_66 rfl (lv_at hl 0 rfl) ?_
      cases hf
      exact endI X hr rfl hlocks rfl hw dX7_rise_67
    · replace hf := it_f hf b5
      refine lv_iconst (v := (-1)) hx hb dX7_rise_16 (by decide) ?_
      cases hf
      exact endI X hr rfl hlocks rfl hw dX7_rise_17
def rm_X7_host : Room := { frames := 1, cells := 0, slots := 0, locals := 23 }
set_option maxRecDepth 20000 in
theorem i_X7_host_X7 : ∀ w ∈ u_ws RX7 TX7 36, w ∈ wsX7_host := by decide +kernel
set_option maxRecDepth 20000 in
theorem m_X7_host_0 : Cond.fieldLink RX7 101 "GreatSortModel" "paces" "[I" ∈ wsX7_host := by decide +kernel
set_option maxRecDepth 20000 in
theorem m_X7_host_1 : Cond.fieldLink RX7 104 "GreatSortModel" "up" "[Z" ∈ wsX7_host := by decide +kernel
set_option maxRecDepth 20000 in
theorem m_X7_host_2 : Cond.fieldLink RX7 62 "GreatSortModel" "parts" "I" ∈ wsX7_host := by decide +kernel
set_option maxRecDepth 20000 in
theorem m_X7_host_3 : Cond.fieldLink RX7 89 "GreatSortModel" "on" "[I" ∈ wsX7_host := by decide +kernel
set_option maxRecDepth 20000 in
theorem m_X7_host_4 : Cond.fieldLink RX7 107 "GreatSortModel" "byHost" "[I" ∈ wsX7_host := by decide +kernel
set_option maxHeartbeats 4000000 in
set_option maxRecDepth 100000 in
theorem t_X7_host_73 {p : Program} {l : Launch} {e : Env} {s : State} {m : MethodId} {args : Array Value} {below : List Frame} {meth : Method} {c : Code} {Q : State → Prop} {dC : Nat → ClassId} {dI : Nat → Nat → Nat} {cI cJ cZ : ClassId} {A : Nat → Prop} (aM : Nat → Nat) (X : Cx p m c cX7_host 5 s args wsX7_host RX7 (dC, dI) (tyl cI cJ cZ) A) (N : Nat) (M_sorts : (Nat → Int32)) (M_values : (Nat → Int32)) (M_rows : Int32) (M_placeOf : (Nat → Int32)) (M_falling : (Nat → Int32)) (M_made : Int32) (M_runs : Int32) (M_allRuns : Int32) (M_begin : (Nat → Int32)) (M_size : (Nat → Int32)) (M_pool : (Nat → Int32)) (M_pooled : Int32) (M_ways : Int32) (M_merges : Int32) (M_takes : (Nat → Int32)) (M_taken : (Nat → Int32)) (M_parts : Int32) (M_every : Int32) (M_samples : Int32) (M_sample : (Nat → Int32)) (M_ends : (Nat → Int32)) (M_partSize : (Nat → Int32)) (M_merged : (Nat → Int32)) (M_most : (Nat → Int32)) (M_done : (Nat → Int32)) (M_on : (Nat → Int32)) (M_ticks : Int32) (M_mergedAll : Int32) (M_again : Int32) (M_paces : (Nat → Int32)) (M_up : (Nat → Int32)) (M_byHost : (Nat → Int32)) (M_heap : (Nat → Int32)) (M_used : (Nat → Int32)) (M_planned : (Nat → Int32)) (M_gone : (Nat → Int32)) (v1 : Int32) :
    ∀ (n : Nat) (v3 : Int32) (v4 : Int32) (e3 : Int32), l_X7_host_73 N M_parts M_on v1 n v3 v4 = some e3 → ∀ (H : Heap) (locs : List Loc) (ls : Array Slot), Wd (dC, dI) A s.heap H locs (w_M aM cI cJ cZ M_sorts M_values M_rows M_placeOf M_falling M_made M_runs M_allRuns M_begin M_size M_pool M_pooled M_ways M_merges M_takes M_taken M_parts M_every M_samples M_sample M_ends M_partSize M_merged M_most M_done M_on M_ticks M_mergedAll M_again M_paces M_up M_byHost M_heap M_used M_planned M_gone) → lv_has ls 5 [(0, .ref (aM 0)), (1, .int v1), (3, .int v3), (4, .int v4)] → (∀ (H : Heap) (locs : List Loc) (ls : Array Slot), Wd (dC, dI) A s.heap H locs (w_M aM cI cJ cZ M_sorts M_values M_rows M_placeOf M_falling M_made M_runs M_allRuns M_begin M_size M_pool M_pooled M_ways M_merges M_takes M_taken M_parts M_every M_samples M_sample M_ends M_partSize M_merged M_most M_done M_on M_ticks M_mergedAll M_again M_paces M_up M_byHost M_heap M_used M_planned M_gone) → lv_has ls 5 [(3, .int e3)] → W p l e rm_X7_host s m args below meth c H locs 0 0 Q (F0 m 107 ls [])) → W p l e rm_X7_host s m args below meth c H locs 0 0 Q (F0 m 73 ls []) := by
  obtain ⟨hx, hb, hml, hown, hts⟩ := X.1
  have hK := X.2.1
  have hN := X.2.2.2
  intro n
  induction n with
  | zero =>
    intro _ _ _ hf
    cases hf
  | succ n ih =>
    intro v3 v4 e3 hf H locs ls hw hl kx
    rw [l_X7_host_73] at hf
    refine lv_iload hx hb dX7_host_73 (lv_at hl 3 rfl) ?_
    refine lv_aload_n hx hb dX7_host_75 rfl (lv_at hl 0 rfl) ?_
    refine va_get (D := (dC, dI)) (ci := 7) (v := .int M_parts) (C := RX7) (T := TX7) (N := 36) hx hb hts i_X7_host_X7 hown hK hw.1 0 rfl rfl 16 (by decide) (hts _ m_X7_host_2) (fun _ h9 => h9) rfl dX7_host_76 ?_
    refine lv_icmp_ge (tgt := 107) hx hb dX7_host_79 (by decide) (fun b10 => ?_) (fun b10 => ?_)
    · replace hf := it_t hf b10
      cases hf
      exact kx _ _ _ hw (lv_sub hl [2] rfl)
    · replace hf := it_f hf b10
      refine lv_iload_n hx hb dX7_host_82 rfl (lv_at hl 2 rfl) ?_
      refine lv_aload_n hx hb dX7_host_83 rfl (lv_at hl 0 rfl) ?_
      refine va_get (D := (dC, dI)) (ci := 7) (v := .ref (aM 16)) (C := RX7) (T := TX7) (N := 36) hx hb hts i_X7_host_X7 hown hK hw.1 0 rfl rfl 25 (by decide) (hts _ m_X7_host_3) (fun _ h9 => h9) rfl dX7_host_84 ?_
      refine lv_iload hx hb dX7_host_87 (lv_at hl 3 rfl) ?_
      have g11 := ix_in (gd_l hf)
      replace hf := gd_r hf
      refine va_iald hx hb hK hw.1 16 0 rfl rfl g11 dX7_host_89 ?_
      refine lv_iload_n hx hb dX7_host_90 rfl (lv_at hl 1 rfl) ?_
      refine lv_icmp_ne (tgt := 98) hx hb dX7_host_91 (by decide) (fun b12 => ?_) (fun b12 => ?_)
      · replace hf := it_f hf b12
        refine lv_iconst (v := 0) hx hb dX7_host_98 (by decide) ?_
        refine lv_iadd hx hb dX7_host_99 ?_
        refine lv_topi (fun x13 ex13 => ?_)
        replace hf := nl_at hf ex13
        refine lv_istore_n (lv' := [(3, .int x13), (0, .ref (aM 0)), (1, .int v1), (4, .int v4)]) hx hb dX7_host_100 rfl hl (by decide) rfl (fun ls hl => ?_)
        obtain ⟨x14, ex14⟩ : ∃ y : Int32, y = v4 + 1 := ⟨_, rfl⟩
        replace hf := nl_at hf ex14
        refine lv_iinc (v := x14) (lv' := [(4, .int x14), (3, .int x13), (0, .ref (aM 0)), (1, .int v1)]) hx hb dX7_host_101 hl (k := 3) rfl (by rw [ex14]; rfl) (by decide) rfl (fun ls hl => ?_)
        refine lv_goto (tgt := 73) hx hb dX7_host_104 (by decide) ?_
        exact ih _ _ _ hf _ _ _ hw (lv_sub hl [2, 3, 1, 0] rfl) kx
      · replace hf := it_t hf b12
        refine lv_iconst (v := 1) hx hb dX7_host_94 (by decide) ?_
        refine lv_goto (tgt := 99) hx hb dX7_host_95 (by decide) ?_
        refine lv_iadd hx hb dX7_host_99 ?_
        refine lv_topi (fun x15 ex15 => ?_)
        replace hf := nl_at hf ex15
        refine lv_istore_n (lv' := [(3, .int x15), (0, .ref (aM 0)), (1, .int v1), (4, .int v4)]) hx hb dX7_host_100 rfl hl (by decide) rfl (fun ls hl => ?_)
        obtain ⟨x16, ex16⟩ : ∃ y : Int32, y = v4 + 1 := ⟨_, rfl⟩
        replace hf := nl_at hf ex16
        refine lv_iinc (v := x16) (lv' := [(4, .int x16), (3, .int x15), (0, .ref (aM 0)), (1, .int v1)]) hx hb dX7_host_101 hl (k := 3) rfl (by rw [ex16]; rfl) (by decide) rfl (fun ls hl => ?_)
        refine lv_goto (tgt := 73) hx hb dX7_host_104 (by decide) ?_
        exact ih _ _ _ hf _ _ _ hw (lv_sub hl [2, 3, 1, 0] rfl) kx
set_option maxHeartbeats 4000000 in
set_option maxRecDepth 100000 in
theorem c_X7_host (l : Launch) (dC : Nat → ClassId) (dI : Nat → Nat → Nat) (cI cJ cZ : ClassId) (aM : Nat → Nat) (N : Nat) (M_sorts : (Nat → Int32)) (M_values : (Nat → Int32)) (M_rows : Int32) (M_placeOf : (Nat → Int32)) (M_falling : (Nat → Int32)) (M_made : Int32) (M_runs : Int32) (M_allRuns : Int32) (M_begin : (Nat → Int32)) (M_size : (Nat → Int32)) (M_pool : (Nat → Int32)) (M_pooled : Int32) (M_ways : Int32) (M_merges : Int32) (M_takes : (Nat → Int32)) (M_taken : (Nat → Int32)) (M_parts : Int32) (M_every : Int32) (M_samples : Int32) (M_sample : (Nat → Int32)) (M_ends : (Nat → Int32)) (M_partSize : (Nat → Int32)) (M_merged : (Nat → Int32)) (M_most : (Nat → Int32)) (M_done : (Nat → Int32)) (M_on : (Nat → Int32)) (M_ticks : Int32) (M_mergedAll : Int32) (M_again : Int32) (M_paces : (Nat → Int32)) (M_up : (Nat → Int32)) (M_byHost : (Nat → Int32)) (M_heap : (Nat → Int32)) (M_used : (Nat → Int32)) (M_planned : (Nat → Int32)) (M_gone : (Nat → Int32)) (v1 : Int32) (v2 : Int32) {r : Int32} (hf : f_X7_host N M_parts M_partSize M_merged M_on M_paces M_up M_byHost v1 v2 = some r) :
    CtI l yX7_host wsX7_host rm_X7_host (dC, dI) (tyl cI cJ cZ) [.ref (aM 0), .int v1, .int v2] (w_M aM cI cJ cZ M_sorts M_values M_rows M_placeOf M_falling M_made M_runs M_allRuns M_begin M_size M_pool M_pooled M_ways M_merges M_takes M_taken M_parts M_every M_samples M_sample M_ends M_partSize M_merged M_most M_done M_on M_ticks M_mergedAll M_again M_paces M_up M_byHost M_heap M_used M_planned M_gone) (w_M aM cI cJ cZ M_sorts M_values M_rows M_placeOf M_falling M_made M_runs M_allRuns M_begin M_size M_pool M_pooled M_ways M_merges M_takes M_taken M_parts M_every M_samples M_sample M_ends M_partSize M_merged M_most M_done M_on M_ticks M_mergedAll M_again M_paces M_up M_byHost M_heap M_used M_planned M_gone) r := by
  refine startI (cc := cX7_host) (maxL := 5) (rt := (some .int)) (by decide +kernel) rfl (Nat.le_of_ble_eq_true rfl) ?_
  intro p e s m below meth c A ls X hr hlocks hw hl
  replace X : Cx p m c cX7_host 5 s _ wsX7_host RX7 (dC, dI) (tyl cI cJ cZ) A := X
  replace hl : lv_has ls 5 [(0, .ref (aM 0)), (1, .int v1), (2, .int v2)] := hl
  obtain ⟨hx, hb, hml, hown, hts⟩ := X.1
  have hK := X.2.1
  have hN := X.2.2.2
  unfold f_X7_host at hf
  refine lv_iload_n hx hb dX7_host_0 rfl (lv_at hl 1 rfl) ?_
  obtain ⟨r1, h2, hf⟩ := bd1_ob hf
  refine clSI (As := [.int v1]) (rest := []) X (c_X7_isHost l dC dI cI cJ cZ N v1 h2) (va_cwS 1 hts gX7_host_X7_isHost rfl rfl rfl (by decide +kernel) ⟨Nat.le_of_ble_eq_true rfl, Nat.le_of_ble_eq_true rfl⟩) hw [] rfl rfl rfl rfl hl.1 rfl (Nat.le_of_ble_eq_true rfl) dX7_host_1 ⟨Nat.zero_le _, Nat.zero_le _⟩ (fun H locs hw => ?_)
  replace hw : Wd (dC, dI) A s.heap H locs (w_M aM cI cJ cZ M_sorts M_values M_rows M_placeOf M_falling M_made M_runs M_allRuns M_begin M_size M_pool M_pooled M_ways M_merges M_takes M_taken M_parts M_every M_samples M_sample M_ends M_partSize M_merged M_most M_done M_on M_ticks M_mergedAll M_again M_paces M_up M_byHost M_heap M_used M_planned M_gone) := hw
  refine lv_if_ne (tgt := 9) hx hb dX7_host_4 (by decide) (fun b3 => ?_) (fun b3 => ?_)
  · replace hf := it_f hf b3
    refine lv_iconst (v := 0) hx hb dX7_host_9 (by decide) ?_
    refine lv_istore_n (lv' := [(3, .int 0), (0, .ref (aM 0)), (1, .int v1), (2, .int v2)]) hx hb dX7_host_10 rfl hl (by decide) rfl (fun ls hl => ?_)
    refine lv_iload_n hx hb dX7_host_11 rfl (lv_at hl 3 rfl) ?_
    by_cases b4 : v2 = 0
    · replace hf := it_t hf b4
      refine lv_tableIn (tgt := 48) (off := 36) hx hb dX7_host_12 (by rw [b4]; decide) (by rw [b4]; decide) (by rw [b4]; first | done | decide) (by decide) ?_
      refine lv_aload_n hx hb dX7_host_48 rfl (lv_at hl 1 rfl) ?_
      refine va_get (D := (dC, dI)) (ci := 7) (v := .ref (aM 17)) (C := RX7) (T := TX7) (N := 36) hx hb hts i_X7_host_X7 hown hK hw.1 0 rfl rfl 29 (by decide) (hts _ m_X7_host_0) (fun _ h9 => h9) rfl dX7_host_49 ?_
      refine lv_iload_n hx hb dX7_host_52 rfl (lv_at hl 2 rfl) ?_
      have g5 := ix_in (gd_l hf)
      replace hf := gd_r hf
      refine va_iald hx hb hK hw.1 17 0 rfl rfl g5 dX7_host_53 ?_
      cases hf
      exact endI X hr rfl hlocks rfl hw dX7_host_54
    · replace hf := it_f hf b4
      by_cases b6 : v2 = 1
      · replace hf := it_t hf b6
        refine lv_tableIn (tgt := 55) (off := 43) hx hb dX7_host_12 (by rw [b6]; decide) (by rw [b6]; decide) (by rw [b6]; first | done | decide) (by decide) ?_
        refine lv_aload_n hx hb dX7_host_55 rfl (lv_at hl 1 rfl) ?_
        refine va_get (D := (dC, dI)) (ci := 7) (v := .ref (aM 18)) (C := RX7) (T := TX7) (N := 36) hx hb hts i_X7_host_X7 hown hK hw.1 0 rfl rfl 30 (by decide) (hts _ m_X7_host_1) (fun _ h9 => h9) rfl dX7_host_56 ?_
        refine lv_iload_n hx hb dX7_host_59 rfl (lv_at hl 2 rfl) ?_
        have g7 := ix_in (gd_l hf)
        replace hf := gd_r hf
        refine va_zald hx hb hK hw.1 18 2 rfl rfl g7 dX7_host_60 ?_
        refine lv_if_eq (tgt := 68) hx hb dX7_host_61 (by decide) (fun b8 => ?_) (fun b8 => ?_)
        · replace hf := it_t hf b8
          refine lv_iconst (v := 0) hx hb dX7_host_68 (by decide) ?_
          cases hf
          exact endI X hr rfl hlocks rfl hw dX7_host_69
        · replace hf := it_f hf b8
          refine lv_iconst (v := 1) hx hb dX7_host_64 (by decide) ?_
          refine lv_goto (tgt := 69) hx hb dX7_host_65 (by decide) ?_
          cases hf
          exact endI X hr rfl hlocks rfl hw dX7_host_69
      · replace hf := it_f hf b6
        by_cases b9 : v2 = 2
        · replace hf := it_t hf b9
          refine lv_tableIn (tgt := 70) (off := 58) hx hb dX7_host_12 (by rw [b9]; decide) (by rw [b9]; decide) (by rw [b9]; first | done | decide) (by decide) ?_
          refine lv_iconst (v := 0) hx hb dX7_host_70 (by decide) ?_
          refine lv_istore (lv' := [(4, .int 0), (3, .int 0), (0, .ref (aM 0)), (1, .int v1), (2, .int v2)]) hx hb dX7_host_71 hl (by decide) rfl (fun ls hl => ?_)
          obtain ⟨e17, h18, hf⟩ := bd1_ob hf
          refine t_X7_host_73 aM X N M_sorts M_values M_rows M_placeOf M_falling M_made M_runs M_allRuns M_begin M_size M_pool M_pooled M_ways M_merges M_takes M_taken M_parts M_every M_samples M_sample M_ends M_partSize M_merged M_most M_done M_on M_ticks M_mergedAll M_again M_paces M_up M_byHost M_heap M_used M_planned M_gone v1 N _ _ _ h18 _ _ _ hw (lv_sub hl [2, 3, 1, 0] rfl) (fun H locs ls hw hl => ?_)
          refine lv_iload_n hx hb dX7_host_107 rfl (lv_at hl 0 rfl) ?_
          cases hf
          exact endI X hr rfl hlocks rfl hw dX7_host_108
        · replace hf := it_f hf b9
          by_cases b19 : v2 = 3
          · replace hf := it_t hf b19
            refine lv_tableIn (tgt := 109) (off := 97) hx hb dX7_host_12 (by rw [b19]; decide) (by rw [b19]; decide) (by rw [b19]; first | done | decide) (by decide) ?_
            refine lv_aload_n hx hb dX7_host_109 rfl (lv_at hl 1 rfl) ?_
            refine lv_iload_n hx hb dX7_host_110 rfl (lv_at hl 2 rfl) ?_
            obtain ⟨r20, h21, hf⟩ := bd1_ob hf
            refine clFI (As := [.int v1]) (rest := []) X (c_X7_left l dC dI cI cJ cZ aM N M_sorts M_values M_rows M_placeOf M_falling M_made M_runs M_allRuns M_begin M_size M_pool M_pooled M_ways M_merges M_takes M_taken M_parts M_every M_samples M_sample M_ends M_partSize M_merged M_most M_done M_on M_ticks M_mergedAll M_again M_paces M_up M_byHost M_heap M_used M_planned M_gone v1 h21) (cwV 1 hts gX7_host_X7_left rfl rfl rfl (by decide +kernel) ⟨Nat.le_of_ble_eq_true rfl, Nat.le_of_ble_eq_true rfl⟩) (ci := 7) (k0 := 0) rfl rfl rfl hw rfl rfl hl.1 rfl (Nat.le_of_ble_eq_true rfl) dX7_host_111 ⟨Nat.zero_le _, Nat.zero_le _⟩ (fun H locs hw => ?_)
            cases hf
            exact endI X hr rfl hlocks rfl hw dX7_host_114
          · replace hf := it_f hf b19
            by_cases b22 : v2 = 4
            · replace hf := it_t hf b22
              refine lv_tableIn (tgt := 115) (off := 103) hx hb dX7_host_12 (by rw [b22]; decide) (by rw [b22]; decide) (by rw [b22]; first | done | decide) (by decide) ?_
              refine lv_aload_n hx hb dX7_host_115 rfl (lv_at hl 1 rfl) ?_
              refine va_get (D := (dC, dI)) (ci := 7) (v := .int M_parts) (C := RX7) (T := TX7) (N := 36) hx hb hts i_X7_host_X7 hown hK hw.1 0 rfl rfl 16 (by decide) (hts _ m_X7_host_2) (fun _ h9 => h9) rfl dX7_host_116 ?_
              refine lv_if_ne (tgt := 126) hx hb dX7_host_119 (by decide) (fun b23 => ?_) (fun b23 => ?_)
              · replace hf := it_f hf b23
                refine lv_aload_n hx hb dX7_host_126 rfl (lv_at hl 1 rfl) ?_
                refine va_get (D := (dC, dI)) (ci := 7) (v := .ref (aM 19)) (C := RX7) (T := TX7) (N := 36) hx hb hts i_X7_host_X7 hown hK hw.1 0 rfl rfl 31 (by decide) (hts _ m_X7_host_4) (fun _ h9 => h9) rfl dX7_host_127 ?_
                refine lv_iload_n hx hb dX7_host_130 rfl (lv_at hl 2 rfl) ?_
                have g24 := ix_in (gd_l hf)
                replace hf := gd_r hf
                refine va_iald hx hb hK hw.1 19 0 rfl rfl g24 dX7_host_131 ?_
                cases hf
                exact endI X hr rfl hlocks rfl hw dX7_host_132
              · replace hf := it_t hf b23
                refine lv_iconst (v := 0) hx hb dX7_host_122 (by decide) ?_
                refine lv_goto (tgt := 132) hx hb dX7_host_123 (by decide) ?_
                cases hf
                exact endI X hr rfl hlocks rfl hw dX7_host_132
            · replace hf := it_f hf b22
              have n0_12 := lv_neT b4 (a := 0) (by decide)
              have n1_12 := lv_neT b6 (a := 1) (by decide)
              have n2_12 := lv_neT b9 (a := 2) (by decide)
              have n3_12 := lv_neT b19 (a := 3) (by decide)
              have n4_12 := lv_neT b22 (a := 4) (by decide)
              refine lv_tableOut (tgt := 133) hx hb dX7_host_12 (by omega) (by decide) ?_
              refine lv_iconst (v := (-1)) hx hb dX7_host_133 (by decide) ?_
              cases hf
              exact endI X hr rfl hlocks rfl hw dX7_host_134
  · replace hf := it_t hf b3
    refine lv_iconst (v := (-1)) hx hb dX7_host_7 (by decide) ?_
    cases hf
    exact endI X hr rfl hlocks rfl hw dX7_host_8
def rm_X7_tick : Room := { frames := 0, cells := 0, slots := 0, locals := 0 }
set_option maxRecDepth 20000 in
theorem i_X7_tick_X7 : ∀ w ∈ u_ws RX7 TX7 36, w ∈ wsX7_tick := by decide +kernel
set_option maxRecDepth 20000 in
theorem m_X7_tick_0 : Cond.fieldLink RX7 62 "GreatSortModel" "parts" "I" ∈ wsX7_tick := by decide +kernel
set_option maxRecDepth 20000 in
theorem m_X7_tick_1 : Cond.fieldLink RX7 92 "GreatSortModel" "ticks" "I" ∈ wsX7_tick := by decide +kernel
set_option maxRecDepth 20000 in
theorem m_X7_tick_2 : Cond.fieldLink RX7 95 "GreatSortModel" "mergedAll" "I" ∈ wsX7_tick := by decide +kernel
set_option maxRecDepth 20000 in
theorem m_X7_tick_3 : Cond.fieldLink RX7 104 "GreatSortModel" "up" "[Z" ∈ wsX7_tick := by decide +kernel
set_option maxRecDepth 20000 in
theorem m_X7_tick_4 : Cond.fieldLink RX7 89 "GreatSortModel" "on" "[I" ∈ wsX7_tick := by decide +kernel
set_option maxRecDepth 20000 in
theorem m_X7_tick_5 : Cond.fieldLink RX7 86 "GreatSortModel" "done" "[Z" ∈ wsX7_tick := by decide +kernel
set_option maxRecDepth 20000 in
theorem m_X7_tick_6 : Cond.fieldLink RX7 77 "GreatSortModel" "partSize" "[I" ∈ wsX7_tick := by decide +kernel
set_option maxRecDepth 20000 in
theorem m_X7_tick_7 : Cond.fieldLink RX7 80 "GreatSortModel" "merged" "[I" ∈ wsX7_tick := by decide +kernel
set_option maxRecDepth 20000 in
theorem m_X7_tick_8 : Cond.fieldLink RX7 83 "GreatSortModel" "most" "[I" ∈ wsX7_tick := by decide +kernel
set_option maxRecDepth 20000 in
theorem m_X7_tick_9 : Cond.fieldLink RX7 98 "GreatSortModel" "again" "I" ∈ wsX7_tick := by decide +kernel
set_option maxRecDepth 20000 in
theorem m_X7_tick_10 : Cond.fieldLink RX7 107 "GreatSortModel" "byHost" "[I" ∈ wsX7_tick := by decide +kernel
set_option maxRecDepth 20000 in
theorem m_X7_tick_11 : Cond.fieldLink RX7 101 "GreatSortModel" "paces" "[I" ∈ wsX7_tick := by decide +kernel
set_option maxHeartbeats 4000000 in
set_option maxRecDepth 100000 in
theorem t_X7_tick_55 {p : Program} {l : Launch} {e : Env} {s : State} {m : MethodId} {args : Array Value} {below : List Frame} {meth : Method} {c : Code} {Q : State → Prop} {dC : Nat → ClassId} {dI : Nat → Nat → Nat} {cI cJ cZ : ClassId} {A : Nat → Prop} (aM : Nat → Nat) (X : Cx p m c cX7_tick 7 s args wsX7_tick RX7 (dC, dI) (tyl cI cJ cZ) A) (N : Nat) (M_sorts : (Nat → Int32)) (M_values : (Nat → Int32)) (M_rows : Int32) (M_placeOf : (Nat → Int32)) (M_falling : (Nat → Int32)) (M_made : Int32) (M_runs : Int32) (M_allRuns : Int32) (M_begin : (Nat → Int32)) (M_size : (Nat → Int32)) (M_pool : (Nat → Int32)) (M_pooled : Int32) (M_ways : Int32) (M_merges : Int32) (M_takes : (Nat → Int32)) (M_taken : (Nat → Int32)) (M_parts : Int32) (M_every : Int32) (M_samples : Int32) (M_sample : (Nat → Int32)) (M_ends : (Nat → Int32)) (M_partSize : (Nat → Int32)) (M_on : (Nat → Int32)) (M_ticks : Int32) (M_paces : (Nat → Int32)) (M_up : (Nat → Int32)) (M_heap : (Nat → Int32)) (M_used : (Nat → Int32)) (M_planned : (Nat → Int32)) (M_gone : (Nat → Int32)) (v1 : Int32) (v2 : Int32) :
    ∀ (n : Nat) (v3 : Int32) (v4 : Int32) (M_merged : (Nat → Int32)) (M_most : (Nat → Int32)) (M_done : (Nat → Int32)) (M_mergedAll : Int32) (M_again : Int32) (M_byHost : (Nat → Int32)) (e_M_merged : (Nat → Int32)) (e_M_most : (Nat → Int32)) (e_M_done : (Nat → Int32)) (e_M_mergedAll : Int32) (e_M_again : Int32) (e_M_byHost : (Nat → Int32)), l_X7_tick_55 N M_parts M_partSize M_on v2 n v3 v4 M_merged M_most M_done M_mergedAll M_again M_byHost = some (e_M_merged, e_M_most, e_M_done, e_M_mergedAll, e_M_again, e_M_byHost) → ∀ (H : Heap) (locs : List Loc) (ls : Array Slot), Wd (dC, dI) A s.heap H locs (w_M aM cI cJ cZ M_sorts M_values M_rows M_placeOf M_falling M_made M_runs M_allRuns M_begin M_size M_pool M_pooled M_ways M_merges M_takes M_taken M_parts M_every M_samples M_sample M_ends M_partSize M_merged M_most M_done M_on M_ticks M_mergedAll M_again M_paces M_up M_byHost M_heap M_used M_planned M_gone) → lv_has ls 7 [(0, .ref (aM 0)), (1, .int v1), (2, .int v2), (3, .int v3), (4, .int v4)] → (∀ (H : Heap) (locs : List Loc) (ls : Array Slot), Wd (dC, dI) A s.heap H locs (w_M aM cI cJ cZ M_sorts M_values M_rows M_placeOf M_falling M_made M_runs M_allRuns M_begin M_size M_pool M_pooled M_ways M_merges M_takes M_taken M_parts M_every M_samples M_sample M_ends M_partSize e_M_merged e_M_most e_M_done M_on M_ticks e_M_mergedAll e_M_again M_paces M_up e_M_byHost M_heap M_used M_planned M_gone) → lv_has ls 7 [(0, .ref (aM 0)), (1, .int v1), (2, .int v2)] → W p l e rm_X7_tick s m args below meth c H locs 0 0 Q (F0 m 326 ls [])) → W p l e rm_X7_tick s m args below meth c H locs 0 0 Q (F0 m 55 ls []) := by
  obtain ⟨hx, hb, hml, hown, hts⟩ := X.1
  have hK := X.2.1
  have hN := X.2.2.2
  intro n
  induction n with
  | zero =>
    intro _ _ _ _ _ _ _ _ _ _ _ _ _ _ hf
    cases hf
  | succ n ih =>
    intro v3 v4 M_merged M_most M_done M_mergedAll M_again M_byHost e_M_merged e_M_most e_M_done e_M_mergedAll e_M_again e_M_byHost hf H locs ls hw hl kx
    rw [l_X7_tick_55] at hf
    refine lv_iload hx hb dX7_tick_55 (lv_at hl 4 rfl) ?_
    refine lv_aload_n hx hb dX7_tick_57 rfl (lv_at hl 0 rfl) ?_
    refine va_get (D := (dC, dI)) (ci := 7) (v := .int M_parts) (C := RX7) (T := TX7) (N := 36) hx hb hts i_X7_tick_X7 hown hK hw.1 0 rfl rfl 16 (by decide) (hts _ m_X7_tick_0) (fun _ h9 => h9) rfl dX7_tick_58 ?_
    refine lv_icmp_ge (tgt := 326) hx hb dX7_tick_61 (by decide) (fun b7 => ?_) (fun b7 => ?_)
    · replace hf := it_t hf b7
      cases hf
      exact kx _ _ _ hw (lv_sub hl [0, 1, 2] rfl)
    · replace hf := it_f hf b7
      refine lv_iload_n hx hb dX7_tick_64 rfl (lv_at hl 3 rfl) ?_
      refine lv_if_lt (tgt := 326) hx hb dX7_tick_65 (by decide) (fun b8 => ?_) (fun b8 => ?_)
      · replace hf := it_t hf b8
        cases hf
        exact kx _ _ _ hw (lv_sub hl [0, 1, 2] rfl)
      · replace hf := it_f hf b8
        refine lv_aload_n hx hb dX7_tick_68 rfl (lv_at hl 0 rfl) ?_
        refine va_get (D := (dC, dI)) (ci := 7) (v := .ref (aM 16)) (C := RX7) (T := TX7) (N := 36) hx hb hts i_X7_tick_X7 hown hK hw.1 0 rfl rfl 25 (by decide) (hts _ m_X7_tick_4) (fun _ h9 => h9) rfl dX7_tick_69 ?_
        refine lv_iload hx hb dX7_tick_72 (lv_at hl 4 rfl) ?_
        have g9 := ix_in (gd_l hf)
        replace hf := gd_r hf
        refine va_iald hx hb hK hw.1 16 0 rfl rfl g9 dX7_tick_74 ?_
        refine lv_iload_n hx hb dX7_tick_75 rfl (lv_at hl 2 rfl) ?_
        refine lv_icmp_ne (tgt := 320) hx hb dX7_tick_76 (by decide) (fun b10 => ?_) (fun b10 => ?_)
        · replace hf := it_f hf b10
          obtain ⟨x11, ex11⟩ : ∃ y : Int32, y = v4 + 1 := ⟨_, rfl⟩
          replace hf := nl_at hf ex11
          refine lv_iinc (v := x11) (lv' := [(4, .int x11), (0, .ref (aM 0)), (1, .int v1), (2, .int v2), (3, .int v3)]) hx hb dX7_tick_320 hl (k := 4) rfl (by rw [ex11]; rfl) (by decide) rfl (fun ls hl => ?_)
          refine lv_goto (tgt := 55) hx hb dX7_tick_323 (by decide) ?_
          exact ih _ _ _ _ _ _ _ _ _ _ _ _ _ _ hf _ _ _ hw (lv_sub hl [1, 2, 3, 4, 0] rfl) kx
        · replace hf := it_t hf b10
          refine lv_aload_n hx hb dX7_tick_79 rfl (lv_at hl 0 rfl) ?_
          refine va_get (D := (dC, dI)) (ci := 7) (v := .ref (aM 15)) (C := RX7) (T := TX7) (N := 36) hx hb hts i_X7_tick_X7 hown hK hw.1 0 rfl rfl 24 (by decide) (hts _ m_X7_tick_5) (fun _ h9 => h9) rfl dX7_tick_80 ?_
          refine lv_iload hx hb dX7_tick_83 (lv_at hl 4 rfl) ?_
          have g12 := ix_in (gd_l hf)
          replace hf := gd_r hf
          refine va_zald hx hb hK hw.1 15 2 rfl rfl g12 dX7_tick_85 ?_
          refine lv_if_eq (tgt := 92) hx hb dX7_tick_86 (by decide) (fun b13 => ?_) (fun b13 => ?_)
          · replace hf := it_t hf b13
            refine lv_aload_n hx hb dX7_tick_92 rfl (lv_at hl 0 rfl) ?_
            refine va_get (D := (dC, dI)) (ci := 7) (v := .ref (aM 12)) (C := RX7) (T := TX7) (N := 36) hx hb hts i_X7_tick_X7 hown hK hw.1 0 rfl rfl 21 (by decide) (hts _ m_X7_tick_6) (fun _ h9 => h9) rfl dX7_tick_93 ?_
            refine lv_iload hx hb dX7_tick_96 (lv_at hl 4 rfl) ?_
            have g14 := ix_in (gd_l hf)
            replace hf := gd_r hf
            refine va_iald hx hb hK hw.1 12 0 rfl rfl g14 dX7_tick_98 ?_
            refine lv_aload_n hx hb dX7_tick_99 rfl (lv_at hl 0 rfl) ?_
            refine va_get (D := (dC, dI)) (ci := 7) (v := .ref (aM 13)) (C := RX7) (T := TX7) (N := 36) hx hb hts i_X7_tick_X7 hown hK hw.1 0 rfl rfl 22 (by decide) (hts _ m_X7_tick_7) (fun _ h9 => h9) rfl dX7_tick_100 ?_
            refine lv_iload hx hb dX7_tick_103 (lv_at hl 4 rfl) ?_
            have g15 := ix_in (gd_l hf)
            replace hf := gd_r hf
            refine va_iald hx hb hK hw.1 13 0 rfl rfl g15 dX7_tick_105 ?_
            refine lv_isub hx hb dX7_tick_106 ?_
            refine lv_iload_n hx hb dX7_tick_107 rfl (lv_at hl 3 rfl) ?_
            obtain ⟨y16, h17, hf⟩ := bd1_ob hf
            refine join_ (nL := 7) (dC, dI) A 130 [.int y16] (w_M aM cI cJ cZ M_sorts M_values M_rows M_placeOf M_falling M_made M_runs M_allRuns M_begin M_size M_pool M_pooled M_ways M_merges M_takes M_taken M_parts M_every M_samples M_sample M_ends M_partSize M_merged M_most M_done M_on M_ticks M_mergedAll M_again M_paces M_up M_byHost M_heap M_used M_planned M_gone) [(0, .ref (aM 0)), (1, .int v1), (2, .int v2), (3, .int v3), (4, .int v4)] (fun H locs ls hw hl => ?_) (fun jn => ?_)
            · refine lv_istore (lv' := [(5, .int y16), (0, .ref (aM 0)), (1, .int v1), (2, .int v2), (3, .int v3), (4, .int v4)]) hx hb dX7_tick_130 hl (by decide) rfl (fun ls hl => ?_)
              refine lv_aload_n hx hb dX7_tick_132 rfl (lv_at hl 1 rfl) ?_
              refine va_get (D := (dC, dI)) (ci := 7) (v := .ref (aM 15)) (C := RX7) (T := TX7) (N := 36) hx hb hts i_X7_tick_X7 hown hK hw.1 0 rfl rfl 24 (by decide) (hts _ m_X7_tick_5) (fun _ h9 => h9) rfl dX7_tick_133 ?_
              refine lv_iload hx hb dX7_tick_136 (lv_at hl 5 rfl) ?_
              refine lv_aload_n hx hb dX7_tick_138 rfl (lv_at hl 1 rfl) ?_
              refine va_get (D := (dC, dI)) (ci := 7) (v := .ref (aM 13)) (C := RX7) (T := TX7) (N := 36) hx hb hts i_X7_tick_X7 hown hK hw.1 0 rfl rfl 22 (by decide) (hts _ m_X7_tick_7) (fun _ h9 => h9) rfl dX7_tick_139 ?_
              refine lv_iload hx hb dX7_tick_142 (lv_at hl 5 rfl) ?_
              have g18 := ix_in (gd_l hf)
              replace hf := gd_r hf
              refine va_iald hx hb hK hw.1 13 0 rfl rfl g18 dX7_tick_144 ?_
              refine lv_iload hx hb dX7_tick_145 (lv_at hl 0 rfl) ?_
              refine lv_iadd hx hb dX7_tick_147 ?_
              refine lv_aload_n hx hb dX7_tick_148 rfl (lv_at hl 1 rfl) ?_
              refine va_get (D := (dC, dI)) (ci := 7) (v := .ref (aM 12)) (C := RX7) (T := TX7) (N := 36) hx hb hts i_X7_tick_X7 hown hK hw.1 0 rfl rfl 21 (by decide) (hts _ m_X7_tick_6) (fun _ h9 => h9) rfl dX7_tick_149 ?_
              refine lv_iload hx hb dX7_tick_152 (lv_at hl 5 rfl) ?_
              have g19 := ix_in (gd_l hf)
              replace hf := gd_r hf
              refine va_iald hx hb hK hw.1 12 0 rfl rfl g19 dX7_tick_154 ?_
              obtain ⟨y20, h21, hf⟩ := bd1_ob hf
              refine join_ (nL := 7) (dC, dI) A 163 [.int y20, .int v4, .ref (aM 15)] (w_M aM cI cJ cZ M_sorts M_values M_rows M_placeOf M_falling M_made M_runs M_allRuns M_begin M_size M_pool M_pooled M_ways M_merges M_takes M_taken M_parts M_every M_samples M_sample M_ends M_partSize M_merged M_most M_done M_on M_ticks M_mergedAll M_again M_paces M_up M_byHost M_heap M_used M_planned M_gone) [(0, .ref (aM 0)), (1, .int v1), (2, .int v2), (3, .int v3), (4, .int v4), (5, .int y16)] (fun H locs ls hw hl => ?_) (fun jn => ?_)
              · have g22 := ix_in (gd_l hf)
                replace hf := gd_r hf
                refine g_zast hx hb hK hw 15 2 rfl rfl g22 dX7_tick_163 (fun H locs hw => ?_)
                replace hw : Wd (dC, dI) A s.heap H locs (w_M aM cI cJ cZ M_sorts M_values M_rows M_placeOf M_falling M_made M_runs M_allRuns M_begin M_size M_pool M_pooled M_ways M_merges M_takes M_taken M_parts M_every M_samples M_sample M_ends M_partSize M_merged M_most (upd M_done v4.toNatClampNeg (vp_nar .boolean y20)) M_on M_ticks M_mergedAll M_again M_paces M_up M_byHost M_heap M_used M_planned M_gone) := hw
                refine lv_aload_n hx hb dX7_tick_164 rfl (lv_at hl 0 rfl) ?_
                refine va_get (D := (dC, dI)) (ci := 7) (v := .ref (aM 14)) (C := RX7) (T := TX7) (N := 36) hx hb hts i_X7_tick_X7 hown hK hw.1 0 rfl rfl 23 (by decide) (hts _ m_X7_tick_8) (fun _ h9 => h9) rfl dX7_tick_165 ?_
                refine lv_iload hx hb dX7_tick_168 (lv_at hl 4 rfl) ?_
                have g23 := ix_in (gd_l hf)
                replace hf := gd_r hf
                refine va_iald hx hb hK hw.1 14 0 rfl rfl g23 dX7_tick_170 ?_
                refine lv_aload_n hx hb dX7_tick_171 rfl (lv_at hl 0 rfl) ?_
                refine va_get (D := (dC, dI)) (ci := 7) (v := .ref (aM 13)) (C := RX7) (T := TX7) (N := 36) hx hb hts i_X7_tick_X7 hown hK hw.1 0 rfl rfl 22 (by decide) (hts _ m_X7_tick_7) (fun _ h9 => h9) rfl dX7_tick_172 ?_
                refine lv_iload hx hb dX7_tick_175 (lv_at hl 4 rfl) ?_
                have g24 := ix_in (gd_l hf)
                replace hf := gd_r hf
                refine va_iald hx hb hK hw.1 13 0 rfl rfl g24 dX7_tick_177 ?_
                refine lv_isub hx hb dX7_tick_178 ?_
                refine lv_iload hx hb dX7_tick_179 (lv_at hl 5 rfl) ?_
                obtain ⟨y25, h26, hf⟩ := bd1_ob hf
                refine join_ (nL := 7) (dC, dI) A 204 [.int y25] (w_M aM cI cJ cZ M_sorts M_values M_rows M_placeOf M_falling M_made M_runs M_allRuns M_begin M_size M_pool M_pooled M_ways M_merges M_takes M_taken M_parts M_every M_samples M_sample M_ends M_partSize M_merged M_most (upd M_done v4.toNatClampNeg (vp_nar .boolean y20)) M_on M_ticks M_mergedAll M_again M_paces M_up M_byHost M_heap M_used M_planned M_gone) [(0, .ref (aM 0)), (1, .int v1), (2, .int v2), (3, .int v3), (4, .int v4), (5, .int y16)] (fun H locs ls hw hl => ?_) (fun jn => ?_)
                · refine lv_istore (lv' := [(6, .int y25), (0, .ref (aM 0)), (1, .int v1), (2, .int v2), (3, .int v3), (4, .int v4), (5, .int y16)]) hx hb dX7_tick_204 hl (by decide) rfl (fun ls hl => ?_)
                  refine lv_aload_n hx hb dX7_tick_206 rfl (lv_at hl 1 rfl) ?_
                  refine lv_dup hx hb dX7_tick_207 rfl ?_
                  refine va_get (D := (dC, dI)) (ci := 7) (v := .int M_again) (C := RX7) (T := TX7) (N := 36) hx hb hts i_X7_tick_X7 hown hK hw.1 0 rfl rfl 28 (by decide) (hts _ m_X7_tick_9) (fun _ h9 => h9) rfl dX7_tick_208 ?_
                  refine lv_iload hx hb dX7_tick_211 (lv_at hl 0 rfl) ?_
                  obtain ⟨y27, h28, hf⟩ := bd1_ob hf
                  refine join_ (nL := 7) (dC, dI) A 222 [.int y27, .int M_again, .ref (aM 0)] (w_M aM cI cJ cZ M_sorts M_values M_rows M_placeOf M_falling M_made M_runs M_allRuns M_begin M_size M_pool M_pooled M_ways M_merges M_takes M_taken M_parts M_every M_samples M_sample M_ends M_partSize M_merged M_most (upd M_done v4.toNatClampNeg (vp_nar .boolean y20)) M_on M_ticks M_mergedAll M_again M_paces M_up M_byHost M_heap M_used M_planned M_gone) [(0, .ref (aM 0)), (1, .int v1), (2, .int v2), (3, .int v3), (4, .int v4), (5, .int y16)] (fun H locs ls hw hl => ?_) (fun jn => ?_)
                  · refine lv_iadd hx hb dX7_tick_222 ?_
                    refine lv_topi (fun x29 ex29 => ?_)
                    replace hf := nl_at hf ex29
                    refine g_put (D := (dC, dI)) (ci := 7) (v := .int x29) (ty := .int) (C := RX7) (T := TX7) (N := 36) hx hb hts i_X7_tick_X7 tyX7 tyX7_ok nmX7 hown hK hw 0 rfl rfl 28 (by decide) (hts _ m_X7_tick_9) (fun _ h9 => h9) rfl (by decide +kernel) rfl rfl (Nat.le_of_ble_eq_true rfl) dX7_tick_223 (fun H locs hw => ?_)
                    replace hw : Wd (dC, dI) A s.heap H locs (w_M aM cI cJ cZ M_sorts M_values M_rows M_placeOf M_falling M_made M_runs M_allRuns M_begin M_size M_pool M_pooled M_ways M_merges M_takes M_taken M_parts M_every M_samples M_sample M_ends M_partSize M_merged M_most (upd M_done v4.toNatClampNeg (vp_nar .boolean y20)) M_on M_ticks M_mergedAll x29 M_paces M_up M_byHost M_heap M_used M_planned M_gone) := hw
                    refine lv_aload_n hx hb dX7_tick_226 rfl (lv_at hl 0 rfl) ?_
                    refine va_get (D := (dC, dI)) (ci := 7) (v := .ref (aM 13)) (C := RX7) (T := TX7) (N := 36) hx hb hts i_X7_tick_X7 hown hK hw.1 0 rfl rfl 22 (by decide) (hts _ m_X7_tick_7) (fun _ h9 => h9) rfl dX7_tick_227 ?_
                    refine lv_iload hx hb dX7_tick_230 (lv_at hl 4 rfl) ?_
                    refine lv_dup2_11 hx hb dX7_tick_232 rfl rfl ?_
                    have g30 := ix_in (gd_l hf)
                    replace hf := gd_r hf
                    refine va_iald hx hb hK hw.1 13 0 rfl rfl g30 dX7_tick_233 ?_
                    refine lv_iload hx hb dX7_tick_234 (lv_at hl 5 rfl) ?_
                    refine lv_iadd hx hb dX7_tick_236 ?_
                    refine lv_topi (fun x31 ex31 => ?_)
                    replace hf := nl_at hf ex31
                    have g32 := ix_in (gd_l hf)
                    replace hf := gd_r hf
                    refine g_iast hx hb hK hw 13 0 rfl rfl g32 dX7_tick_237 (fun H locs hw => ?_)
                    replace hw : Wd (dC, dI) A s.heap H locs (w_M aM cI cJ cZ M_sorts M_values M_rows M_placeOf M_falling M_made M_runs M_allRuns M_begin M_size M_pool M_pooled M_ways M_merges M_takes M_taken M_parts M_every M_samples M_sample M_ends M_partSize (upd M_merged v4.toNatClampNeg x31) M_most (upd M_done v4.toNatClampNeg (vp_nar .boolean y20)) M_on M_ticks M_mergedAll x29 M_paces M_up M_byHost M_heap M_used M_planned M_gone) := hw
                    refine lv_aload_n hx hb dX7_tick_238 rfl (lv_at hl 0 rfl) ?_
                    refine va_get (D := (dC, dI)) (ci := 7) (v := .ref (aM 14)) (C := RX7) (T := TX7) (N := 36) hx hb hts i_X7_tick_X7 hown hK hw.1 0 rfl rfl 23 (by decide) (hts _ m_X7_tick_8) (fun _ h9 => h9) rfl dX7_tick_239 ?_
                    refine lv_iload hx hb dX7_tick_242 (lv_at hl 4 rfl) ?_
                    refine lv_aload_n hx hb dX7_tick_244 rfl (lv_at hl 0 rfl) ?_
                    refine va_get (D := (dC, dI)) (ci := 7) (v := .ref (aM 13)) (C := RX7) (T := TX7) (N := 36) hx hb hts i_X7_tick_X7 hown hK hw.1 0 rfl rfl 22 (by decide) (hts _ m_X7_tick_7) (fun _ h9 => h9) rfl dX7_tick_245 ?_
                    refine lv_iload hx hb dX7_tick_248 (lv_at hl 4 rfl) ?_
                    have g33 := ix_in (gd_l hf)
                    replace hf := gd_r hf
                    refine va_iald hx hb hK hw.1 13 0 rfl rfl g33 dX7_tick_250 ?_
                    refine lv_aload_n hx hb dX7_tick_251 rfl (lv_at hl 0 rfl) ?_
                    refine va_get (D := (dC, dI)) (ci := 7) (v := .ref (aM 14)) (C := RX7) (T := TX7) (N := 36) hx hb hts i_X7_tick_X7 hown hK hw.1 0 rfl rfl 23 (by decide) (hts _ m_X7_tick_8) (fun _ h9 => h9) rfl dX7_tick_252 ?_
                    refine lv_iload hx hb dX7_tick_255 (lv_at hl 4 rfl) ?_
                    have g34 := ix_in (gd_l hf)
                    replace hf := gd_r hf
                    refine va_iald hx hb hK hw.1 14 0 rfl rfl g34 dX7_tick_257 ?_
                    obtain ⟨y35, h36, hf⟩ := bd1_ob hf
                    refine join_ (nL := 7) (dC, dI) A 278 [.int y35, .int v4, .ref (aM 14)] (w_M aM cI cJ cZ M_sorts M_values M_rows M_placeOf M_falling M_made M_runs M_allRuns M_begin M_size M_pool M_pooled M_ways M_merges M_takes M_taken M_parts M_every M_samples M_sample M_ends M_partSize (upd M_merged v4.toNatClampNeg x31) M_most (upd M_done v4.toNatClampNeg (vp_nar .boolean y20)) M_on M_ticks M_mergedAll x29 M_paces M_up M_byHost M_heap M_used M_planned M_gone) [(0, .ref (aM 0)), (1, .int v1), (2, .int v2), (3, .int v3), (4, .int v4), (5, .int y16)] (fun H locs ls hw hl => ?_) (fun jn => ?_)
                    · have g37 := ix_in (gd_l hf)
                      replace hf := gd_r hf
                      refine g_iast hx hb hK hw 14 0 rfl rfl g37 dX7_tick_278 (fun H locs hw => ?_)
                      replace hw : Wd (dC, dI) A s.heap H locs (w_M aM cI cJ cZ M_sorts M_values M_rows M_placeOf M_falling M_made M_runs M_allRuns M_begin M_size M_pool M_pooled M_ways M_merges M_takes M_taken M_parts M_every M_samples M_sample M_ends M_partSize (upd M_merged v4.toNatClampNeg x31) (upd M_most v4.toNatClampNeg y35) (upd M_done v4.toNatClampNeg (vp_nar .boolean y20)) M_on M_ticks M_mergedAll x29 M_paces M_up M_byHost M_heap M_used M_planned M_gone) := hw
                      refine lv_aload_n hx hb dX7_tick_279 rfl (lv_at hl 0 rfl) ?_
                      refine lv_dup hx hb dX7_tick_280 rfl ?_
                      refine va_get (D := (dC, dI)) (ci := 7) (v := .int M_mergedAll) (C := RX7) (T := TX7) (N := 36) hx hb hts i_X7_tick_X7 hown hK hw.1 0 rfl rfl 27 (by decide) (hts _ m_X7_tick_2) (fun _ h9 => h9) rfl dX7_tick_281 ?_
                      refine lv_iload hx hb dX7_tick_284 (lv_at hl 5 rfl) ?_
                      refine lv_iadd hx hb dX7_tick_286 ?_
                      refine lv_topi (fun x38 ex38 => ?_)
                      replace hf := nl_at hf ex38
                      refine g_put (D := (dC, dI)) (ci := 7) (v := .int x38) (ty := .int) (C := RX7) (T := TX7) (N := 36) hx hb hts i_X7_tick_X7 tyX7 tyX7_ok nmX7 hown hK hw 0 rfl rfl 27 (by decide) (hts _ m_X7_tick_2) (fun _ h9 => h9) rfl (by decide +kernel) rfl rfl (Nat.le_of_ble_eq_true rfl) dX7_tick_287 (fun H locs hw => ?_)
                      replace hw : Wd (dC, dI) A s.heap H locs (w_M aM cI cJ cZ M_sorts M_values M_rows M_placeOf M_falling M_made M_runs M_allRuns M_begin M_size M_pool M_pooled M_ways M_merges M_takes M_taken M_parts M_every M_samples M_sample M_ends M_partSize (upd M_merged v4.toNatClampNeg x31) (upd M_most v4.toNatClampNeg y35) (upd M_done v4.toNatClampNeg (vp_nar .boolean y20)) M_on M_ticks x38 x29 M_paces M_up M_byHost M_heap M_used M_planned M_gone) := hw
                      refine lv_aload_n hx hb dX7_tick_290 rfl (lv_at hl 0 rfl) ?_
                      refine va_get (D := (dC, dI)) (ci := 7) (v := .ref (aM 19)) (C := RX7) (T := TX7) (N := 36) hx hb hts i_X7_tick_X7 hown hK hw.1 0 rfl rfl 31 (by decide) (hts _ m_X7_tick_10) (fun _ h9 => h9) rfl dX7_tick_291 ?_
                      refine lv_iload_n hx hb dX7_tick_294 rfl (lv_at hl 2 rfl) ?_
                      refine lv_dup2_11 hx hb dX7_tick_295 rfl rfl ?_
                      have g39 := ix_in (gd_l hf)
                      replace hf := gd_r hf
                      refine va_iald hx hb hK hw.1 19 0 rfl rfl g39 dX7_tick_296 ?_
                      refine lv_iload hx hb dX7_tick_297 (lv_at hl 5 rfl) ?_
                      refine lv_iadd hx hb dX7_tick_299 ?_
                      refine lv_topi (fun x40 ex40 => ?_)
                      replace hf := nl_at hf ex40
                      have g41 := ix_in (gd_l hf)
                      replace hf := gd_r hf
                      refine g_iast hx hb hK hw 19 0 rfl rfl g41 dX7_tick_300 (fun H locs hw => ?_)
                      replace hw : Wd (dC, dI) A s.heap H locs (w_M aM cI cJ cZ M_sorts M_values M_rows M_placeOf M_falling M_made M_runs M_allRuns M_begin M_size M_pool M_pooled M_ways M_merges M_takes M_taken M_parts M_every M_samples M_sample M_ends M_partSize (upd M_merged v4.toNatClampNeg x31) (upd M_most v4.toNatClampNeg y35) (upd M_done v4.toNatClampNeg (vp_nar .boolean y20)) M_on M_ticks x38 x29 M_paces M_up (upd M_byHost v2.toNatClampNeg x40) M_heap M_used M_planned M_gone) := hw
                      refine lv_aload_n hx hb dX7_tick_301 rfl (lv_at hl 0 rfl) ?_
                      refine va_get (D := (dC, dI)) (ci := 7) (v := .ref (aM 15)) (C := RX7) (T := TX7) (N := 36) hx hb hts i_X7_tick_X7 hown hK hw.1 0 rfl rfl 24 (by decide) (hts _ m_X7_tick_5) (fun _ h9 => h9) rfl dX7_tick_302 ?_
                      refine lv_iload hx hb dX7_tick_305 (lv_at hl 4 rfl) ?_
                      have g42 := ix_in (gd_l hf)
                      replace hf := gd_r hf
                      refine va_zald hx hb hK hw.1 15 2 rfl rfl g42 dX7_tick_307 ?_
                      refine lv_if_eq (tgt := 318) hx hb dX7_tick_308 (by decide) (fun b43 => ?_) (fun b43 => ?_)
                      · replace hf := it_t hf b43
                        refine lv_iconst (v := (-1)) hx hb dX7_tick_318 (by decide) ?_
                        refine lv_istore_n (lv' := [(3, .int (-1)), (0, .ref (aM 0)), (1, .int v1), (2, .int v2), (4, .int v4), (5, .int y16)]) hx hb dX7_tick_319 rfl hl (by decide) rfl (fun ls hl => ?_)
                        obtain ⟨x44, ex44⟩ : ∃ y : Int32, y = v4 + 1 := ⟨_, rfl⟩
                        replace hf := nl_at hf ex44
                        refine lv_iinc (v := x44) (lv' := [(4, .int x44), (3, .int (-1)), (0, .ref (aM 0)), (1, .int v1), (2, .int v2), (5, .int y16)]) hx hb dX7_tick_320 hl (k := 4) rfl (by rw [ex44]; rfl) (by decide) rfl (fun ls hl => ?_)
                        refine lv_goto (tgt := 55) hx hb dX7_tick_323 (by decide) ?_
                        exact ih _ _ _ _ _ _ _ _ _ _ _ _ _ _ hf _ _ _ hw (lv_sub hl [2, 3, 4, 1, 0] rfl) kx
                      · replace hf := it_f hf b43
                        refine lv_iload_n hx hb dX7_tick_311 rfl (lv_at hl 3 rfl) ?_
                        refine lv_iload hx hb dX7_tick_312 (lv_at hl 5 rfl) ?_
                        refine lv_isub hx hb dX7_tick_314 ?_
                        refine lv_goto (tgt := 319) hx hb dX7_tick_315 (by decide) ?_
                        refine lv_topi (fun x45 ex45 => ?_)
                        replace hf := nl_at hf ex45
                        refine lv_istore_n (lv' := [(3, .int x45), (0, .ref (aM 0)), (1, .int v1), (2, .int v2), (4, .int v4), (5, .int y16)]) hx hb dX7_tick_319 rfl hl (by decide) rfl (fun ls hl => ?_)
                        obtain ⟨x46, ex46⟩ : ∃ y : Int32, y = v4 + 1 := ⟨_, rfl⟩
                        replace hf := nl_at hf ex46
                        refine lv_iinc (v := x46) (lv' := [(4, .int x46), (3, .int x45), (0, .ref (aM 0)), (1, .int v1), (2, .int v2), (5, .int y16)]) hx hb dX7_tick_320 hl (k := 4) rfl (by rw [ex46]; rfl) (by decide) rfl (fun ls hl => ?_)
                        refine lv_goto (tgt := 55) hx hb dX7_tick_323 (by decide) ?_
                        exact ih _ _ _ _ _ _ _ _ _ _ _ _ _ _ hf _ _ _ hw (lv_sub hl [2, 3, 4, 1, 0] rfl) kx
                    · replace hf := h36
                      refine lv_icmp_le (tgt := 271) hx hb dX7_tick_258 (by decide) (fun b47 => ?_) (fun b47 => ?_)
                      · replace hf := it_t hf b47
                        refine lv_aload_n hx hb dX7_tick_271 rfl (lv_at hl 0 rfl) ?_
                        refine va_get (D := (dC, dI)) (ci := 7) (v := .ref (aM 14)) (C := RX7) (T := TX7) (N := 36) hx hb hts i_X7_tick_X7 hown hK hw.1 0 rfl rfl 23 (by decide) (hts _ m_X7_tick_8) (fun _ h9 => h9) rfl dX7_tick_272 ?_
                        refine lv_iload hx hb dX7_tick_275 (lv_at hl 4 rfl) ?_
                        have g48 := ix_in (gd_l hf)
                        replace hf := gd_r hf
                        refine va_iald hx hb hK hw.1 14 0 rfl rfl g48 dX7_tick_277 ?_
                        cases hf
                        exact jn _ _ _ hw (lv_sub hl [0, 1, 2, 3, 4, 5] rfl)
                      · replace hf := it_f hf b47
                        refine lv_aload_n hx hb dX7_tick_261 rfl (lv_at hl 0 rfl) ?_
                        refine va_get (D := (dC, dI)) (ci := 7) (v := .ref (aM 13)) (C := RX7) (T := TX7) (N := 36) hx hb hts i_X7_tick_X7 hown hK hw.1 0 rfl rfl 22 (by decide) (hts _ m_X7_tick_7) (fun _ h9 => h9) rfl dX7_tick_262 ?_
                        refine lv_iload hx hb dX7_tick_265 (lv_at hl 4 rfl) ?_
                        have g49 := ix_in (gd_l hf)
                        replace hf := gd_r hf
                        refine va_iald hx hb hK hw.1 13 0 rfl rfl g49 dX7_tick_267 ?_
                        refine lv_goto (tgt := 278) hx hb dX7_tick_268 (by decide) ?_
                        cases hf
                        exact jn _ _ _ hw (lv_sub hl [0, 1, 2, 3, 4, 5] rfl)
                  · replace hf := h28
                    refine lv_if_le (tgt := 221) hx hb dX7_tick_213 (by decide) (fun b50 => ?_) (fun b50 => ?_)
                    · replace hf := it_t hf b50
                      refine lv_iconst (v := 0) hx hb dX7_tick_221 (by decide) ?_
                      cases hf
                      exact jn _ _ _ hw (lv_sub hl [1, 2, 3, 4, 5, 6] rfl)
                    · replace hf := it_f hf b50
                      refine lv_iload hx hb dX7_tick_216 (lv_at hl 0 rfl) ?_
                      refine lv_goto (tgt := 222) hx hb dX7_tick_218 (by decide) ?_
                      cases hf
                      exact jn _ _ _ hw (lv_sub hl [1, 2, 3, 4, 5, 6] rfl)
                · replace hf := h26
                  refine lv_icmp_ge (tgt := 202) hx hb dX7_tick_181 (by decide) (fun b51 => ?_) (fun b51 => ?_)
                  · replace hf := it_t hf b51
                    refine lv_iload hx hb dX7_tick_202 (lv_at hl 5 rfl) ?_
                    cases hf
                    exact jn _ _ _ hw (lv_sub hl [0, 1, 2, 3, 4, 5] rfl)
                  · replace hf := it_f hf b51
                    refine lv_aload_n hx hb dX7_tick_184 rfl (lv_at hl 0 rfl) ?_
                    refine va_get (D := (dC, dI)) (ci := 7) (v := .ref (aM 14)) (C := RX7) (T := TX7) (N := 36) hx hb hts i_X7_tick_X7 hown hK hw.1 0 rfl rfl 23 (by decide) (hts _ m_X7_tick_8) (fun _ h9 => h9) rfl dX7_tick_185 ?_
                    refine lv_iload hx hb dX7_tick_188 (lv_at hl 4 rfl) ?_
                    have g52 := ix_in (gd_l hf)
                    replace hf := gd_r hf
                    refine va_iald hx hb hK hw.1 14 0 rfl rfl g52 dX7_tick_190 ?_
                    refine lv_aload_n hx hb dX7_tick_191 rfl (lv_at hl 0 rfl) ?_
                    refine va_get (D := (dC, dI)) (ci := 7) (v := .ref (aM 13)) (C := RX7) (T := TX7) (N := 36) hx hb hts i_X7_tick_X7 hown hK hw.1 0 rfl rfl 22 (by decide) (hts _ m_X7_tick_7) (fun _ h9 => h9) rfl dX7_tick_192 ?_
                    refine lv_iload hx hb dX7_tick_195 (lv_at hl 4 rfl) ?_
                    have g53 := ix_in (gd_l hf)
                    replace hf := gd_r hf
                    refine va_iald hx hb hK hw.1 13 0 rfl rfl g53 dX7_tick_197 ?_
                    refine lv_isub hx hb dX7_tick_198 ?_
                    refine lv_goto (tgt := 204) hx hb dX7_tick_199 (by decide) ?_
                    cases hf
                    exact jn _ _ _ hw (lv_sub hl [0, 1, 2, 3, 4, 5] rfl)
              · replace hf := h21
                refine lv_icmp_ne (tgt := 162) hx hb dX7_tick_155 (by decide) (fun b54 => ?_) (fun b54 => ?_)
                · replace hf := it_f hf b54
                  refine lv_iconst (v := 0) hx hb dX7_tick_162 (by decide) ?_
                  cases hf
                  exact jn _ _ _ hw (lv_sub hl [1, 2, 3, 4, 5, 0] rfl)
                · replace hf := it_t hf b54
                  refine lv_iconst (v := 1) hx hb dX7_tick_158 (by decide) ?_
                  refine lv_goto (tgt := 163) hx hb dX7_tick_159 (by decide) ?_
                  cases hf
                  exact jn _ _ _ hw (lv_sub hl [1, 2, 3, 4, 5, 0] rfl)
            · replace hf := h17
              refine lv_icmp_ge (tgt := 129) hx hb dX7_tick_108 (by decide) (fun b55 => ?_) (fun b55 => ?_)
              · replace hf := it_t hf b55
                refine lv_iload_n hx hb dX7_tick_129 rfl (lv_at hl 3 rfl) ?_
                cases hf
                exact jn _ _ _ hw (lv_sub hl [0, 1, 2, 3, 4] rfl)
              · replace hf := it_f hf b55
                refine lv_aload_n hx hb dX7_tick_111 rfl (lv_at hl 0 rfl) ?_
                refine va_get (D := (dC, dI)) (ci := 7) (v := .ref (aM 12)) (C := RX7) (T := TX7) (N := 36) hx hb hts i_X7_tick_X7 hown hK hw.1 0 rfl rfl 21 (by decide) (hts _ m_X7_tick_6) (fun _ h9 => h9) rfl dX7_tick_112 ?_
                refine lv_iload hx hb dX7_tick_115 (lv_at hl 4 rfl) ?_
                have g56 := ix_in (gd_l hf)
                replace hf := gd_r hf
                refine va_iald hx hb hK hw.1 12 0 rfl rfl g56 dX7_tick_117 ?_
                refine lv_aload_n hx hb dX7_tick_118 rfl (lv_at hl 0 rfl) ?_
                refine va_get (D := (dC, dI)) (ci := 7) (v := .ref (aM 13)) (C := RX7) (T := TX7) (N := 36) hx hb hts i_X7_tick_X7 hown hK hw.1 0 rfl rfl 22 (by decide) (hts _ m_X7_tick_7) (fun _ h9 => h9) rfl dX7_tick_119 ?_
                refine lv_iload hx hb dX7_tick_122 (lv_at hl 4 rfl) ?_
                have g57 := ix_in (gd_l hf)
                replace hf := gd_r hf
                refine va_iald hx hb hK hw.1 13 0 rfl rfl g57 dX7_tick_124 ?_
                refine lv_isub hx hb dX7_tick_125 ?_
                refine lv_goto (tgt := 130) hx hb dX7_tick_126 (by decide) ?_
                cases hf
                exact jn _ _ _ hw (lv_sub hl [0, 1, 2, 3, 4] rfl)
          · replace hf := it_f hf b13
            refine lv_goto (tgt := 320) hx hb dX7_tick_89 (by decide) ?_
            obtain ⟨x58, ex58⟩ : ∃ y : Int32, y = v4 + 1 := ⟨_, rfl⟩
            replace hf := nl_at hf ex58
            refine lv_iinc (v := x58) (lv' := [(4, .int x58), (0, .ref (aM 0)), (1, .int v1), (2, .int v2), (3, .int v3)]) hx hb dX7_tick_320 hl (k := 4) rfl (by rw [ex58]; rfl) (by decide) rfl (fun ls hl => ?_)
            refine lv_goto (tgt := 55) hx hb dX7_tick_323 (by decide) ?_
            exact ih _ _ _ _ _ _ _ _ _ _ _ _ _ _ hf _ _ _ hw (lv_sub hl [1, 2, 3, 4, 0] rfl) kx
set_option maxHeartbeats 4000000 in
set_option maxRecDepth 100000 in
theorem t_X7_tick_26 {p : Program} {l : Launch} {e : Env} {s : State} {m : MethodId} {args : Array Value} {below : List Frame} {meth : Method} {c : Code} {Q : State → Prop} {dC : Nat → ClassId} {dI : Nat → Nat → Nat} {cI cJ cZ : ClassId} {A : Nat → Prop} (aM : Nat → Nat) (X : Cx p m c cX7_tick 7 s args wsX7_tick RX7 (dC, dI) (tyl cI cJ cZ) A) (N : Nat) (M_sorts : (Nat → Int32)) (M_values : (Nat → Int32)) (M_rows : Int32) (M_placeOf : (Nat → Int32)) (M_falling : (Nat → Int32)) (M_made : Int32) (M_runs : Int32) (M_allRuns : Int32) (M_begin : (Nat → Int32)) (M_size : (Nat → Int32)) (M_pool : (Nat → Int32)) (M_pooled : Int32) (M_ways : Int32) (M_merges : Int32) (M_takes : (Nat → Int32)) (M_taken : (Nat → Int32)) (M_parts : Int32) (M_every : Int32) (M_samples : Int32) (M_sample : (Nat → Int32)) (M_ends : (Nat → Int32)) (M_partSize : (Nat → Int32)) (M_on : (Nat → Int32)) (M_ticks : Int32) (M_paces : (Nat → Int32)) (M_up : (Nat → Int32)) (M_heap : (Nat → Int32)) (M_used : (Nat → Int32)) (M_planned : (Nat → Int32)) (M_gone : (Nat → Int32)) (v1 : Int32) :
    ∀ (n : Nat) (v2 : Int32) (M_merged : (Nat → Int32)) (M_most : (Nat → Int32)) (M_done : (Nat → Int32)) (M_mergedAll : Int32) (M_again : Int32) (M_byHost : (Nat → Int32)) (e_M_merged : (Nat → Int32)) (e_M_most : (Nat → Int32)) (e_M_done : (Nat → Int32)) (e_M_mergedAll : Int32) (e_M_again : Int32) (e_M_byHost : (Nat → Int32)), l_X7_tick_26 N M_parts M_partSize M_on M_paces M_up n v2 M_merged M_most M_done M_mergedAll M_again M_byHost = some (e_M_merged, e_M_most, e_M_done, e_M_mergedAll, e_M_again, e_M_byHost) → ∀ (H : Heap) (locs : List Loc) (ls : Array Slot), Wd (dC, dI) A s.heap H locs (w_M aM cI cJ cZ M_sorts M_values M_rows M_placeOf M_falling M_made M_runs M_allRuns M_begin M_size M_pool M_pooled M_ways M_merges M_takes M_taken M_parts M_every M_samples M_sample M_ends M_partSize M_merged M_most M_done M_on M_ticks M_mergedAll M_again M_paces M_up M_byHost M_heap M_used M_planned M_gone) → lv_has ls 7 [(0, .ref (aM 0)), (1, .int v1), (2, .int v2)] → (∀ (H : Heap) (locs : List Loc) (ls : Array Slot), Wd (dC, dI) A s.heap H locs (w_M aM cI cJ cZ M_sorts M_values M_rows M_placeOf M_falling M_made M_runs M_allRuns M_begin M_size M_pool M_pooled M_ways M_merges M_takes M_taken M_parts M_every M_samples M_sample M_ends M_partSize e_M_merged e_M_most e_M_done M_on M_ticks e_M_mergedAll e_M_again M_paces M_up e_M_byHost M_heap M_used M_planned M_gone) → lv_has ls 7 [(0, .ref (aM 0)), (1, .int v1)] → W p l e rm_X7_tick s m args below meth c H locs 0 0 Q (F0 m 332 ls [])) → W p l e rm_X7_tick s m args below meth c H locs 0 0 Q (F0 m 26 ls []) := by
  obtain ⟨hx, hb, hml, hown, hts⟩ := X.1
  have hK := X.2.1
  have hN := X.2.2.2
  intro n
  induction n with
  | zero =>
    intro _ _ _ _ _ _ _ _ _ _ _ _ _ hf
    cases hf
  | succ n ih =>
    intro v2 M_merged M_most M_done M_mergedAll M_again M_byHost e_M_merged e_M_most e_M_done e_M_mergedAll e_M_again e_M_byHost hf H locs ls hw hl kx
    rw [l_X7_tick_26] at hf
    refine lv_iload_n hx hb dX7_tick_26 rfl (lv_at hl 2 rfl) ?_
    refine lv_bipush (v := 8) hx hb dX7_tick_27 (by decide) ?_
    refine lv_icmp_ge (tgt := 332) hx hb dX7_tick_29 (by decide) (fun b3 => ?_) (fun b3 => ?_)
    · replace hf := it_t hf b3
      cases hf
      exact kx _ _ _ hw (lv_sub hl [0, 1] rfl)
    · replace hf := it_f hf b3
      refine lv_aload_n hx hb dX7_tick_32 rfl (lv_at hl 0 rfl) ?_
      refine va_get (D := (dC, dI)) (ci := 7) (v := .ref (aM 18)) (C := RX7) (T := TX7) (N := 36) hx hb hts i_X7_tick_X7 hown hK hw.1 0 rfl rfl 30 (by decide) (hts _ m_X7_tick_3) (fun _ h9 => h9) rfl dX7_tick_33 ?_
      refine lv_iload_n hx hb dX7_tick_36 rfl (lv_at hl 2 rfl) ?_
      have g4 := ix_in (gd_l hf)
      replace hf := gd_r hf
      refine va_zald hx hb hK hw.1 18 2 rfl rfl g4 dX7_tick_37 ?_
      obtain ⟨y5, h6, hf⟩ := bd1_ob hf
      refine join_ (nL := 7) (dC, dI) A 51 [.int y5] (w_M aM cI cJ cZ M_sorts M_values M_rows M_placeOf M_falling M_made M_runs M_allRuns M_begin M_size M_pool M_pooled M_ways M_merges M_takes M_taken M_parts M_every M_samples M_sample M_ends M_partSize M_merged M_most M_done M_on M_ticks M_mergedAll M_again M_paces M_up M_byHost M_heap M_used M_planned M_gone) [(0, .ref (aM 0)), (1, .int v1), (2, .int v2)] (fun H locs ls hw hl => ?_) (fun jn => ?_)
      · refine lv_istore_n (lv' := [(3, .int y5), (0, .ref (aM 0)), (1, .int v1), (2, .int v2)]) hx hb dX7_tick_51 rfl hl (by decide) rfl (fun ls hl => ?_)
        refine lv_iconst (v := 0) hx hb dX7_tick_52 (by decide) ?_
        refine lv_istore (lv' := [(4, .int 0), (3, .int y5), (0, .ref (aM 0)), (1, .int v1), (2, .int v2)]) hx hb dX7_tick_53 hl (by decide) rfl (fun ls hl => ?_)
        obtain ⟨e59, e60, e61, e62, e63, e64, h65, hf⟩ := bd6_ob hf
        refine t_X7_tick_55 aM X N M_sorts M_values M_rows M_placeOf M_falling M_made M_runs M_allRuns M_begin M_size M_pool M_pooled M_ways M_merges M_takes M_taken M_parts M_every M_samples M_sample M_ends M_partSize M_on M_ticks M_paces M_up M_heap M_used M_planned M_gone v1 v2 N _ _ _ _ _ _ _ _ _ _ _ _ _ _ h65 _ _ _ hw (lv_sub hl [2, 3, 4, 1, 0] rfl) (fun H locs ls hw hl => ?_)
        obtain ⟨x66, ex66⟩ : ∃ y : Int32, y = v2 + 1 := ⟨_, rfl⟩
        replace hf := nl_at hf ex66
        refine lv_iinc (v := x66) (lv' := [(2, .int x66), (0, .ref (aM 0)), (1, .int v1)]) hx hb dX7_tick_326 hl (k := 2) rfl (by rw [ex66]; rfl) (by decide) rfl (fun ls hl => ?_)
        refine lv_goto (tgt := 26) hx hb dX7_tick_329 (by decide) ?_
        exact ih _ _ _ _ _ _ _ _ _ _ _ _ _ hf _ _ _ hw (lv_sub hl [1, 2, 0] rfl) kx
      · replace hf := h6
        refine lv_if_eq (tgt := 50) hx hb dX7_tick_38 (by decide) (fun b67 => ?_) (fun b67 => ?_)
        · replace hf := it_t hf b67
          refine lv_iconst (v := (-1)) hx hb dX7_tick_50 (by decide) ?_
          cases hf
          exact jn _ _ _ hw (lv_sub hl [0, 1, 2] rfl)
        · replace hf := it_f hf b67
          refine lv_aload_n hx hb dX7_tick_41 rfl (lv_at hl 0 rfl) ?_
          refine va_get (D := (dC, dI)) (ci := 7) (v := .ref (aM 17)) (C := RX7) (T := TX7) (N := 36) hx hb hts i_X7_tick_X7 hown hK hw.1 0 rfl rfl 29 (by decide) (hts _ m_X7_tick_11) (fun _ h9 => h9) rfl dX7_tick_42 ?_
          refine lv_iload_n hx hb dX7_tick_45 rfl (lv_at hl 2 rfl) ?_
          have g68 := ix_in (gd_l hf)
          replace hf := gd_r hf
          refine va_iald hx hb hK hw.1 17 0 rfl rfl g68 dX7_tick_46 ?_
          refine lv_goto (tgt := 51) hx hb dX7_tick_47 (by decide) ?_
          cases hf
          exact jn _ _ _ hw (lv_sub hl [0, 1, 2] rfl)
set_option maxHeartbeats 4000000 in
set_option maxRecDepth 100000 in
theorem c_X7_tick (l : Launch) (dC : Nat → ClassId) (dI : Nat → Nat → Nat) (cI cJ cZ : ClassId) (aM : Nat → Nat) (N : Nat) (M_sorts : (Nat → Int32)) (M_values : (Nat → Int32)) (M_rows : Int32) (M_placeOf : (Nat → Int32)) (M_falling : (Nat → Int32)) (M_made : Int32) (M_runs : Int32) (M_allRuns : Int32) (M_begin : (Nat → Int32)) (M_size : (Nat → Int32)) (M_pool : (Nat → Int32)) (M_pooled : Int32) (M_ways : Int32) (M_merges : Int32) (M_takes : (Nat → Int32)) (M_taken : (Nat → Int32)) (M_parts : Int32) (M_every : Int32) (M_samples : Int32) (M_sample : (Nat → Int32)) (M_ends : (Nat → Int32)) (M_partSize : (Nat → Int32)) (M_merged : (Nat → Int32)) (M_most : (Nat → Int32)) (M_done : (Nat → Int32)) (M_on : (Nat → Int32)) (M_ticks : Int32) (M_mergedAll : Int32) (M_again : Int32) (M_paces : (Nat → Int32)) (M_up : (Nat → Int32)) (M_byHost : (Nat → Int32)) (M_heap : (Nat → Int32)) (M_used : (Nat → Int32)) (M_planned : (Nat → Int32)) (M_gone : (Nat → Int32))  {r : Int32} {o_M_merged : (Nat → Int32)} {o_M_most : (Nat → Int32)} {o_M_done : (Nat → Int32)} {o_M_ticks : Int32} {o_M_mergedAll : Int32} {o_M_again : Int32} {o_M_byHost : (Nat → Int32)} (hf : f_X7_tick N M_parts M_partSize M_merged M_most M_done M_on M_ticks M_mergedAll M_again M_paces M_up M_byHost  = some (r, o_M_merged, o_M_most, o_M_done, o_M_ticks, o_M_mergedAll, o_M_again, o_M_byHost)) :
    CtI l yX7_tick wsX7_tick rm_X7_tick (dC, dI) (tyl cI cJ cZ) [.ref (aM 0)] (w_M aM cI cJ cZ M_sorts M_values M_rows M_placeOf M_falling M_made M_runs M_allRuns M_begin M_size M_pool M_pooled M_ways M_merges M_takes M_taken M_parts M_every M_samples M_sample M_ends M_partSize M_merged M_most M_done M_on M_ticks M_mergedAll M_again M_paces M_up M_byHost M_heap M_used M_planned M_gone) (w_M aM cI cJ cZ M_sorts M_values M_rows M_placeOf M_falling M_made M_runs M_allRuns M_begin M_size M_pool M_pooled M_ways M_merges M_takes M_taken M_parts M_every M_samples M_sample M_ends M_partSize o_M_merged o_M_most o_M_done M_on o_M_ticks o_M_mergedAll o_M_again M_paces M_up o_M_byHost M_heap M_used M_planned M_gone) r := by
  refine startI (cc := cX7_tick) (maxL := 7) (rt := (some .int)) (by decide +kernel) rfl (Nat.le_of_ble_eq_true rfl) ?_
  intro p e s m below meth c A ls X hr hlocks hw hl
  replace X : Cx p m c cX7_tick 7 s _ wsX7_tick RX7 (dC, dI) (tyl cI cJ cZ) A := X
  replace hl : lv_has ls 7 [(0, .ref (aM 0))] := hl
  obtain ⟨hx, hb, hml, hown, hts⟩ := X.1
  have hK := X.2.1
  have hN := X.2.2.2
  unfold f_X7_tick at hf
  refine lv_aload_n hx hb dX7_tick_0 rfl (lv_at hl 0 rfl) ?_
  refine va_get (D := (dC, dI)) (ci := 7) (v := .int M_parts) (C := RX7) (T := TX7) (N := 36) hx hb hts i_X7_tick_X7 hown hK hw.1 0 rfl rfl 16 (by decide) (hts _ m_X7_tick_0) (fun _ h9 => h9) rfl dX7_tick_1 ?_
  refine lv_if_ne (tgt := 9) hx hb dX7_tick_4 (by decide) (fun b1 => ?_) (fun b1 => ?_)
  · replace hf := it_f hf b1
    refine lv_aload_n hx hb dX7_tick_9 rfl (lv_at hl 0 rfl) ?_
    refine lv_dup hx hb dX7_tick_10 rfl ?_
    refine va_get (D := (dC, dI)) (ci := 7) (v := .int M_ticks) (C := RX7) (T := TX7) (N := 36) hx hb hts i_X7_tick_X7 hown hK hw.1 0 rfl rfl 26 (by decide) (hts _ m_X7_tick_1) (fun _ h9 => h9) rfl dX7_tick_11 ?_
    refine lv_iconst (v := 1) hx hb dX7_tick_14 (by decide) ?_
    refine lv_iadd hx hb dX7_tick_15 ?_
    refine lv_topi (fun x2 ex2 => ?_)
    replace hf := nl_at hf ex2
    refine g_put (D := (dC, dI)) (ci := 7) (v := .int x2) (ty := .int) (C := RX7) (T := TX7) (N := 36) hx hb hts i_X7_tick_X7 tyX7 tyX7_ok nmX7 hown hK hw 0 rfl rfl 26 (by decide) (hts _ m_X7_tick_1) (fun _ h9 => h9) rfl (by decide +kernel) rfl rfl (Nat.le_of_ble_eq_true rfl) dX7_tick_16 (fun H locs hw => ?_)
    replace hw : Wd (dC, dI) A s.heap H locs (w_M aM cI cJ cZ M_sorts M_values M_rows M_placeOf M_falling M_made M_runs M_allRuns M_begin M_size M_pool M_pooled M_ways M_merges M_takes M_taken M_parts M_every M_samples M_sample M_ends M_partSize M_merged M_most M_done M_on x2 M_mergedAll M_again M_paces M_up M_byHost M_heap M_used M_planned M_gone) := hw
    refine lv_aload_n hx hb dX7_tick_19 rfl (lv_at hl 0 rfl) ?_
    refine va_get (D := (dC, dI)) (ci := 7) (v := .int M_mergedAll) (C := RX7) (T := TX7) (N := 36) hx hb hts i_X7_tick_X7 hown hK hw.1 0 rfl rfl 27 (by decide) (hts _ m_X7_tick_2) (fun _ h9 => h9) rfl dX7_tick_20 ?_
    refine lv_istore_n (lv' := [(1, .int M_mergedAll), (0, .ref (aM 0))]) hx hb dX7_tick_23 rfl hl (by decide) rfl (fun ls hl => ?_)
    refine lv_iconst (v := 0) hx hb dX7_tick_24 (by decide) ?_
    refine lv_istore_n (lv' := [(2, .int 0), (1, .int M_mergedAll), (0, .ref (aM 0))]) hx hb dX7_tick_25 rfl hl (by decide) rfl (fun ls hl => ?_)
    obtain ⟨e69, e70, e71, e72, e73, e74, h75, hf⟩ := bd6_ob hf
    refine t_X7_tick_26 aM X N M_sorts M_values M_rows M_placeOf M_falling M_made M_runs M_allRuns M_begin M_size M_pool M_pooled M_ways M_merges M_takes M_taken M_parts M_every M_samples M_sample M_ends M_partSize M_on x2 M_paces M_up M_heap M_used M_planned M_gone M_mergedAll N _ _ _ _ _ _ _ _ _ _ _ _ _ h75 _ _ _ hw (lv_sub hl [2, 1, 0] rfl) (fun H locs ls hw hl => ?_)
    refine lv_aload_n hx hb dX7_tick_332 rfl (lv_at hl 0 rfl) ?_
    refine va_get (D := (dC, dI)) (ci := 7) (v := .int e72) (C := RX7) (T := TX7) (N := 36) hx hb hts i_X7_tick_X7 hown hK hw.1 0 rfl rfl 27 (by decide) (hts _ m_X7_tick_2) (fun _ h9 => h9) rfl dX7_tick_333 ?_
    refine lv_iload_n hx hb dX7_tick_336 rfl (lv_at hl 1 rfl) ?_
    refine lv_isub hx hb dX7_tick_337 ?_
    cases hf
    exact endI X hr rfl hlocks rfl hw dX7_tick_338
  · replace hf := it_t hf b1
    refine lv_iconst (v := (-1)) hx hb dX7_tick_7 (by decide) ?_
    cases hf
    exact endI X hr rfl hlocks rfl hw dX7_tick_8
