def rm_X7_plan : Room := { frames := 1, cells := 0, slots := 0, locals := 31 }
set_option maxRecDepth 20000 in
theorem i_X7_plan_X7 : ∀ w ∈ u_ws RX7 TX7 36, w ∈ wsX7_plan := by decide +kernel
set_option maxRecDepth 20000 in
theorem m_X7_plan_0 : Cond.fieldLink RX7 27 "GreatSortModel" "made" "Z" ∈ wsX7_plan := by decide +kernel
set_option maxRecDepth 20000 in
theorem m_X7_plan_1 : Cond.fieldLink RX7 50 "GreatSortModel" "ways" "I" ∈ wsX7_plan := by decide +kernel
set_option maxRecDepth 20000 in
theorem m_X7_plan_2 : Cond.fieldLink RX7 31 "GreatSortModel" "runs" "I" ∈ wsX7_plan := by decide +kernel
set_option maxRecDepth 20000 in
theorem m_X7_plan_3 : Cond.fieldLink RX7 34 "GreatSortModel" "allRuns" "I" ∈ wsX7_plan := by decide +kernel
set_option maxRecDepth 20000 in
theorem m_X7_plan_4 : Cond.fieldLink RX7 47 "GreatSortModel" "pooled" "I" ∈ wsX7_plan := by decide +kernel
set_option maxRecDepth 20000 in
theorem m_X7_plan_5 : Cond.fieldLink RX7 37 "GreatSortModel" "begin" "[I" ∈ wsX7_plan := by decide +kernel
set_option maxRecDepth 20000 in
theorem m_X7_plan_6 : Cond.fieldLink RX7 40 "GreatSortModel" "size" "[I" ∈ wsX7_plan := by decide +kernel
set_option maxHeartbeats 4000000 in
set_option maxRecDepth 100000 in
theorem c_X7_plan (l : Launch) (dC : Nat → ClassId) (dI : Nat → Nat → Nat) (cI cJ cZ : ClassId) (aM : Nat → Nat) (N : Nat) (M_sorts : (Nat → Int32)) (M_values : (Nat → Int32)) (M_rows : Int32) (M_placeOf : (Nat → Int32)) (M_falling : (Nat → Int32)) (M_made : Int32) (M_runs : Int32) (M_allRuns : Int32) (M_begin : (Nat → Int32)) (M_size : (Nat → Int32)) (M_pool : (Nat → Int32)) (M_pooled : Int32) (M_ways : Int32) (M_merges : Int32) (M_takes : (Nat → Int32)) (M_taken : (Nat → Int32)) (M_parts : Int32) (M_every : Int32) (M_samples : Int32) (M_sample : (Nat → Int32)) (M_ends : (Nat → Int32)) (M_partSize : (Nat → Int32)) (M_merged : (Nat → Int32)) (M_most : (Nat → Int32)) (M_done : (Nat → Int32)) (M_on : (Nat → Int32)) (M_ticks : Int32) (M_mergedAll : Int32) (M_again : Int32) (M_paces : (Nat → Int32)) (M_up : (Nat → Int32)) (M_byHost : (Nat → Int32)) (M_heap : (Nat → Int32)) (M_used : (Nat → Int32)) (M_planned : (Nat → Int32)) (M_gone : (Nat → Int32)) (v1 : Int32) {r : Int32} {o_M_allRuns : Int32} {o_M_pooled : Int32} {o_M_ways : Int32} {o_M_merges : Int32} {o_M_takes : (Nat → Int32)} {o_M_taken : (Nat → Int32)} {o_M_used : (Nat → Int32)} {o_M_planned : (Nat → Int32)} (hf : f_X7_plan N M_made M_runs M_allRuns M_begin M_size M_pooled M_ways M_merges M_takes M_taken M_used M_planned v1 = some (r, o_M_allRuns, o_M_pooled, o_M_ways, o_M_merges, o_M_takes, o_M_taken, o_M_used, o_M_planned)) :
    CtI l yX7_plan wsX7_plan rm_X7_plan (dC, dI) (tyl cI cJ cZ) [.ref (aM 0), .int v1] (w_M aM cI cJ cZ M_sorts M_values M_rows M_placeOf M_falling M_made M_runs M_allRuns M_begin M_size M_pool M_pooled M_ways M_merges M_takes M_taken M_parts M_every M_samples M_sample M_ends M_partSize M_merged M_most M_done M_on M_ticks M_mergedAll M_again M_paces M_up M_byHost M_heap M_used M_planned M_gone) (w_M aM cI cJ cZ M_sorts M_values M_rows M_placeOf M_falling M_made M_runs o_M_allRuns M_begin M_size M_pool o_M_pooled o_M_ways o_M_merges o_M_takes o_M_taken M_parts M_every M_samples M_sample M_ends M_partSize M_merged M_most M_done M_on M_ticks M_mergedAll M_again M_paces M_up M_byHost M_heap o_M_used o_M_planned M_gone) r := by
  refine startI (cc := cX7_plan) (maxL := 2) (rt := (some .int)) (by decide +kernel) rfl (Nat.le_of_ble_eq_true rfl) ?_
  intro p e s m below meth c A ls X hr hlocks hw hl
  replace X : Cx p m c cX7_plan 2 s _ wsX7_plan RX7 (dC, dI) (tyl cI cJ cZ) A := X
  replace hl : lv_has ls 2 [(0, .ref (aM 0)), (1, .int v1)] := hl
  obtain ⟨hx, hb, hml, hown, hts⟩ := X.1
  have hK := X.2.1
  have hN := X.2.2.2
  unfold f_X7_plan at hf
  refine lv_aload_n hx hb dX7_plan_0 rfl (lv_at hl 0 rfl) ?_
  refine va_get (D := (dC, dI)) (ci := 7) (v := .int M_made) (C := RX7) (T := TX7) (N := 36) hx hb hts i_X7_plan_X7 hown hK hw.1 0 rfl rfl 5 (by decide) (hts _ m_X7_plan_0) (fun _ h9 => h9) rfl dX7_plan_1 ?_
  refine lv_if_eq (tgt := 17) hx hb dX7_plan_4 (by decide) (fun b1 => ?_) (fun b1 => ?_)
  · replace hf := it_t hf b1
    refine lv_iconst (v := (-1)) hx hb dX7_plan_17 (by decide) ?_
    cases hf
    exact endI X hr rfl hlocks rfl hw dX7_plan_18
  · replace hf := it_f hf b1
    refine lv_iload_n hx hb dX7_plan_7 rfl (lv_at hl 1 rfl) ?_
    refine lv_iconst (v := 2) hx hb dX7_plan_8 (by decide) ?_
    refine lv_bipush (v := 8) hx hb dX7_plan_9 (by decide) ?_
    obtain ⟨r2, h3, hf⟩ := bd1_ob hf
    refine clSI (As := [.int v1, .int (2 : Int32), .int (8 : Int32)]) (rest := []) X (c_X7_is l dC dI cI cJ cZ N v1 (2 : Int32) (8 : Int32) h3) (va_cwS 3 hts gX7_plan_X7_is rfl rfl rfl (by decide +kernel) ⟨Nat.le_of_ble_eq_true rfl, Nat.le_of_ble_eq_true rfl⟩) hw [] rfl rfl rfl rfl hl.1 rfl (Nat.le_of_ble_eq_true rfl) dX7_plan_11 ⟨Nat.zero_le _, Nat.zero_le _⟩ (fun H locs hw => ?_)
    replace hw : Wd (dC, dI) A s.heap H locs (w_M aM cI cJ cZ M_sorts M_values M_rows M_placeOf M_falling M_made M_runs M_allRuns M_begin M_size M_pool M_pooled M_ways M_merges M_takes M_taken M_parts M_every M_samples M_sample M_ends M_partSize M_merged M_most M_done M_on M_ticks M_mergedAll M_again M_paces M_up M_byHost M_heap M_used M_planned M_gone) := hw
    refine lv_if_ne (tgt := 19) hx hb dX7_plan_14 (by decide) (fun b4 => ?_) (fun b4 => ?_)
    · replace hf := it_f hf b4
      refine lv_aload_n hx hb dX7_plan_19 rfl (lv_at hl 0 rfl) ?_
      refine lv_iload_n hx hb dX7_plan_20 rfl (lv_at hl 1 rfl) ?_
      refine g_put (D := (dC, dI)) (ci := 7) (v := .int v1) (ty := .int) (C := RX7) (T := TX7) (N := 36) hx hb hts i_X7_plan_X7 tyX7 tyX7_ok nmX7 hown hK hw 0 rfl rfl 12 (by decide) (hts _ m_X7_plan_1) (fun _ h9 => h9) rfl (by decide +kernel) rfl rfl (Nat.le_of_ble_eq_true rfl) dX7_plan_21 (fun H locs hw => ?_)
      replace hw : Wd (dC, dI) A s.heap H locs (w_M aM cI cJ cZ M_sorts M_values M_rows M_placeOf M_falling M_made M_runs M_allRuns M_begin M_size M_pool M_pooled v1 M_merges M_takes M_taken M_parts M_every M_samples M_sample M_ends M_partSize M_merged M_most M_done M_on M_ticks M_mergedAll M_again M_paces M_up M_byHost M_heap M_used M_planned M_gone) := hw
      refine lv_aload_n hx hb dX7_plan_24 rfl (lv_at hl 0 rfl) ?_
      refine lv_aload_n hx hb dX7_plan_25 rfl (lv_at hl 0 rfl) ?_
      refine va_get (D := (dC, dI)) (ci := 7) (v := .int M_runs) (C := RX7) (T := TX7) (N := 36) hx hb hts i_X7_plan_X7 hown hK hw.1 0 rfl rfl 6 (by decide) (hts _ m_X7_plan_2) (fun _ h9 => h9) rfl dX7_plan_26 ?_
      refine g_put (D := (dC, dI)) (ci := 7) (v := .int M_runs) (ty := .int) (C := RX7) (T := TX7) (N := 36) hx hb hts i_X7_plan_X7 tyX7 tyX7_ok nmX7 hown hK hw 0 rfl rfl 7 (by decide) (hts _ m_X7_plan_3) (fun _ h9 => h9) rfl (by decide +kernel) rfl rfl (Nat.le_of_ble_eq_true rfl) dX7_plan_29 (fun H locs hw => ?_)
      replace hw : Wd (dC, dI) A s.heap H locs (w_M aM cI cJ cZ M_sorts M_values M_rows M_placeOf M_falling M_made M_runs M_runs M_begin M_size M_pool M_pooled v1 M_merges M_takes M_taken M_parts M_every M_samples M_sample M_ends M_partSize M_merged M_most M_done M_on M_ticks M_mergedAll M_again M_paces M_up M_byHost M_heap M_used M_planned M_gone) := hw
      refine lv_aload_n hx hb dX7_plan_32 rfl (lv_at hl 0 rfl) ?_
      refine lv_aload_n hx hb dX7_plan_33 rfl (lv_at hl 0 rfl) ?_
      refine va_get (D := (dC, dI)) (ci := 7) (v := .int M_runs) (C := RX7) (T := TX7) (N := 36) hx hb hts i_X7_plan_X7 hown hK hw.1 0 rfl rfl 6 (by decide) (hts _ m_X7_plan_2) (fun _ h9 => h9) rfl dX7_plan_34 ?_
      obtain ⟨y5, h6, hf⟩ := bd1_ob hf
      refine join_ (nL := 2) (dC, dI) A 67 [.int y5, .ref (aM 0)] (w_M aM cI cJ cZ M_sorts M_values M_rows M_placeOf M_falling M_made M_runs M_runs M_begin M_size M_pool M_pooled v1 M_merges M_takes M_taken M_parts M_every M_samples M_sample M_ends M_partSize M_merged M_most M_done M_on M_ticks M_mergedAll M_again M_paces M_up M_byHost M_heap M_used M_planned M_gone) [(0, .ref (aM 0)), (1, .int v1)] (fun H locs ls hw hl => ?_) (fun jn => ?_)
      · refine g_put (D := (dC, dI)) (ci := 7) (v := .int y5) (ty := .int) (C := RX7) (T := TX7) (N := 36) hx hb hts i_X7_plan_X7 tyX7 tyX7_ok nmX7 hown hK hw 0 rfl rfl 11 (by decide) (hts _ m_X7_plan_4) (fun _ h9 => h9) rfl (by decide +kernel) rfl rfl (Nat.le_of_ble_eq_true rfl) dX7_plan_67 (fun H locs hw => ?_)
        replace hw : Wd (dC, dI) A s.heap H locs (w_M aM cI cJ cZ M_sorts M_values M_rows M_placeOf M_falling M_made M_runs M_runs M_begin M_size M_pool y5 v1 M_merges M_takes M_taken M_parts M_every M_samples M_sample M_ends M_partSize M_merged M_most M_done M_on M_ticks M_mergedAll M_again M_paces M_up M_byHost M_heap M_used M_planned M_gone) := hw
        refine lv_aload_n hx hb dX7_plan_70 rfl (lv_at hl 0 rfl) ?_
        refine lv_iload_n hx hb dX7_plan_71 rfl (lv_at hl 1 rfl) ?_
        refine lv_iconst (v := 1) hx hb dX7_plan_72 (by decide) ?_
        refine lv_iconst (v := 1) hx hb dX7_plan_73 (by decide) ?_
        obtain ⟨r7, c8, c9, c10, c11, c12, h13, hf⟩ := bd6_ob hf
        refine clFI (As := [.int v1, .int (1 : Int32), .int (1 : Int32)]) (rest := []) X (c_X7_moves l dC dI cI cJ cZ aM N M_sorts M_values M_rows M_placeOf M_falling M_made M_runs M_runs M_begin M_size M_pool y5 v1 M_merges M_takes M_taken M_parts M_every M_samples M_sample M_ends M_partSize M_merged M_most M_done M_on M_ticks M_mergedAll M_again M_paces M_up M_byHost M_heap M_used M_planned M_gone v1 (1 : Int32) (1 : Int32) h13) (cwV 3 hts gX7_plan_X7_moves rfl rfl rfl (by decide +kernel) ⟨Nat.le_of_ble_eq_true rfl, Nat.le_of_ble_eq_true rfl⟩) (ci := 7) (k0 := 0) rfl rfl rfl hw rfl rfl hl.1 rfl (Nat.le_of_ble_eq_true rfl) dX7_plan_74 ⟨Nat.zero_le _, Nat.zero_le _⟩ (fun H locs hw => ?_)
        cases hf
        exact endI X hr rfl hlocks rfl hw dX7_plan_77
      · replace hf := h6
        refine lv_if_ne (tgt := 44) hx hb dX7_plan_37 (by decide) (fun b14 => ?_) (fun b14 => ?_)
        · replace hf := it_f hf b14
          refine lv_aload_n hx hb dX7_plan_44 rfl (lv_at hl 0 rfl) ?_
          refine va_get (D := (dC, dI)) (ci := 7) (v := .ref (aM 5)) (C := RX7) (T := TX7) (N := 36) hx hb hts i_X7_plan_X7 hown hK hw.1 0 rfl rfl 8 (by decide) (hts _ m_X7_plan_5) (fun _ h9 => h9) rfl dX7_plan_45 ?_
          refine lv_aload_n hx hb dX7_plan_48 rfl (lv_at hl 0 rfl) ?_
          refine va_get (D := (dC, dI)) (ci := 7) (v := .int M_runs) (C := RX7) (T := TX7) (N := 36) hx hb hts i_X7_plan_X7 hown hK hw.1 0 rfl rfl 6 (by decide) (hts _ m_X7_plan_2) (fun _ h9 => h9) rfl dX7_plan_49 ?_
          refine lv_iconst (v := 1) hx hb dX7_plan_52 (by decide) ?_
          refine lv_isub hx hb dX7_plan_53 ?_
          have g15 := ix_in (gd_l hf)
          replace hf := gd_r hf
          refine va_iald hx hb hK hw.1 5 0 rfl rfl g15 dX7_plan_54 ?_
          refine lv_aload_n hx hb dX7_plan_55 rfl (lv_at hl 0 rfl) ?_
          refine va_get (D := (dC, dI)) (ci := 7) (v := .ref (aM 6)) (C := RX7) (T := TX7) (N := 36) hx hb hts i_X7_plan_X7 hown hK hw.1 0 rfl rfl 9 (by decide) (hts _ m_X7_plan_6) (fun _ h9 => h9) rfl dX7_plan_56 ?_
          refine lv_aload_n hx hb dX7_plan_59 rfl (lv_at hl 0 rfl) ?_
          refine va_get (D := (dC, dI)) (ci := 7) (v := .int M_runs) (C := RX7) (T := TX7) (N := 36) hx hb hts i_X7_plan_X7 hown hK hw.1 0 rfl rfl 6 (by decide) (hts _ m_X7_plan_2) (fun _ h9 => h9) rfl dX7_plan_60 ?_
          refine lv_iconst (v := 1) hx hb dX7_plan_63 (by decide) ?_
          refine lv_isub hx hb dX7_plan_64 ?_
          have g16 := ix_in (gd_l hf)
          replace hf := gd_r hf
          refine va_iald hx hb hK hw.1 6 0 rfl rfl g16 dX7_plan_65 ?_
          refine lv_iadd hx hb dX7_plan_66 ?_
          cases hf
          exact jn _ _ _ hw (lv_sub hl [0, 1] rfl)
        · replace hf := it_t hf b14
          refine lv_iconst (v := 0) hx hb dX7_plan_40 (by decide) ?_
          refine lv_goto (tgt := 67) hx hb dX7_plan_41 (by decide) ?_
          cases hf
          exact jn _ _ _ hw (lv_sub hl [0, 1] rfl)
    · replace hf := it_t hf b4
      refine lv_iconst (v := (-1)) hx hb dX7_plan_17 (by decide) ?_
      cases hf
      exact endI X hr rfl hlocks rfl hw dX7_plan_18
def rm_X7_queue : Room := { frames := 1, cells := 0, slots := 0, locals := 31 }
set_option maxRecDepth 20000 in
theorem i_X7_queue_X7 : ∀ w ∈ u_ws RX7 TX7 36, w ∈ wsX7_queue := by decide +kernel
set_option maxRecDepth 20000 in
theorem m_X7_queue_0 : Cond.fieldLink RX7 27 "GreatSortModel" "made" "Z" ∈ wsX7_queue := by decide +kernel
set_option maxHeartbeats 4000000 in
set_option maxRecDepth 100000 in
theorem c_X7_queue (l : Launch) (dC : Nat → ClassId) (dI : Nat → Nat → Nat) (cI cJ cZ : ClassId) (aM : Nat → Nat) (N : Nat) (M_sorts : (Nat → Int32)) (M_values : (Nat → Int32)) (M_rows : Int32) (M_placeOf : (Nat → Int32)) (M_falling : (Nat → Int32)) (M_made : Int32) (M_runs : Int32) (M_allRuns : Int32) (M_begin : (Nat → Int32)) (M_size : (Nat → Int32)) (M_pool : (Nat → Int32)) (M_pooled : Int32) (M_ways : Int32) (M_merges : Int32) (M_takes : (Nat → Int32)) (M_taken : (Nat → Int32)) (M_parts : Int32) (M_every : Int32) (M_samples : Int32) (M_sample : (Nat → Int32)) (M_ends : (Nat → Int32)) (M_partSize : (Nat → Int32)) (M_merged : (Nat → Int32)) (M_most : (Nat → Int32)) (M_done : (Nat → Int32)) (M_on : (Nat → Int32)) (M_ticks : Int32) (M_mergedAll : Int32) (M_again : Int32) (M_paces : (Nat → Int32)) (M_up : (Nat → Int32)) (M_byHost : (Nat → Int32)) (M_heap : (Nat → Int32)) (M_used : (Nat → Int32)) (M_planned : (Nat → Int32)) (M_gone : (Nat → Int32)) (v1 : Int32) {r : Int32} {o_M_merges : Int32} {o_M_takes : (Nat → Int32)} {o_M_taken : (Nat → Int32)} {o_M_used : (Nat → Int32)} {o_M_planned : (Nat → Int32)} (hf : f_X7_queue N M_made M_runs M_size M_merges M_takes M_taken M_used M_planned v1 = some (r, o_M_merges, o_M_takes, o_M_taken, o_M_used, o_M_planned)) :
    CtI l yX7_queue wsX7_queue rm_X7_queue (dC, dI) (tyl cI cJ cZ) [.ref (aM 0), .int v1] (w_M aM cI cJ cZ M_sorts M_values M_rows M_placeOf M_falling M_made M_runs M_allRuns M_begin M_size M_pool M_pooled M_ways M_merges M_takes M_taken M_parts M_every M_samples M_sample M_ends M_partSize M_merged M_most M_done M_on M_ticks M_mergedAll M_again M_paces M_up M_byHost M_heap M_used M_planned M_gone) (w_M aM cI cJ cZ M_sorts M_values M_rows M_placeOf M_falling M_made M_runs M_allRuns M_begin M_size M_pool M_pooled M_ways o_M_merges o_M_takes o_M_taken M_parts M_every M_samples M_sample M_ends M_partSize M_merged M_most M_done M_on M_ticks M_mergedAll M_again M_paces M_up M_byHost M_heap o_M_used o_M_planned M_gone) r := by
  refine startI (cc := cX7_queue) (maxL := 2) (rt := (some .int)) (by decide +kernel) rfl (Nat.le_of_ble_eq_true rfl) ?_
  intro p e s m below meth c A ls X hr hlocks hw hl
  replace X : Cx p m c cX7_queue 2 s _ wsX7_queue RX7 (dC, dI) (tyl cI cJ cZ) A := X
  replace hl : lv_has ls 2 [(0, .ref (aM 0)), (1, .int v1)] := hl
  obtain ⟨hx, hb, hml, hown, hts⟩ := X.1
  have hK := X.2.1
  have hN := X.2.2.2
  unfold f_X7_queue at hf
  refine lv_aload_n hx hb dX7_queue_0 rfl (lv_at hl 0 rfl) ?_
  refine va_get (D := (dC, dI)) (ci := 7) (v := .int M_made) (C := RX7) (T := TX7) (N := 36) hx hb hts i_X7_queue_X7 hown hK hw.1 0 rfl rfl 5 (by decide) (hts _ m_X7_queue_0) (fun _ h9 => h9) rfl dX7_queue_1 ?_
  refine lv_if_eq (tgt := 17) hx hb dX7_queue_4 (by decide) (fun b1 => ?_) (fun b1 => ?_)
  · replace hf := it_t hf b1
    refine lv_iconst (v := (-1)) hx hb dX7_queue_17 (by decide) ?_
    refine lv_goto (tgt := 28) hx hb dX7_queue_18 (by decide) ?_
    cases hf
    exact endI X hr rfl hlocks rfl hw dX7_queue_28
  · replace hf := it_f hf b1
    refine lv_iload_n hx hb dX7_queue_7 rfl (lv_at hl 1 rfl) ?_
    refine lv_iconst (v := 2) hx hb dX7_queue_8 (by decide) ?_
    refine lv_bipush (v := 8) hx hb dX7_queue_9 (by decide) ?_
    obtain ⟨r2, h3, hf⟩ := bd1_ob hf
    refine clSI (As := [.int v1, .int (2 : Int32), .int (8 : Int32)]) (rest := []) X (c_X7_is l dC dI cI cJ cZ N v1 (2 : Int32) (8 : Int32) h3) (va_cwS 3 hts gX7_queue_X7_is rfl rfl rfl (by decide +kernel) ⟨Nat.le_of_ble_eq_true rfl, Nat.le_of_ble_eq_true rfl⟩) hw [] rfl rfl rfl rfl hl.1 rfl (Nat.le_of_ble_eq_true rfl) dX7_queue_11 ⟨Nat.zero_le _, Nat.zero_le _⟩ (fun H locs hw => ?_)
    replace hw : Wd (dC, dI) A s.heap H locs (w_M aM cI cJ cZ M_sorts M_values M_rows M_placeOf M_falling M_made M_runs M_allRuns M_begin M_size M_pool M_pooled M_ways M_merges M_takes M_taken M_parts M_every M_samples M_sample M_ends M_partSize M_merged M_most M_done M_on M_ticks M_mergedAll M_again M_paces M_up M_byHost M_heap M_used M_planned M_gone) := hw
    refine lv_if_ne (tgt := 21) hx hb dX7_queue_14 (by decide) (fun b4 => ?_) (fun b4 => ?_)
    · replace hf := it_f hf b4
      refine lv_aload_n hx hb dX7_queue_21 rfl (lv_at hl 0 rfl) ?_
      refine lv_iload_n hx hb dX7_queue_22 rfl (lv_at hl 1 rfl) ?_
      refine lv_iconst (v := 0) hx hb dX7_queue_23 (by decide) ?_
      refine lv_iconst (v := 0) hx hb dX7_queue_24 (by decide) ?_
      obtain ⟨r5, c6, c7, c8, c9, c10, h11, hf⟩ := bd6_ob hf
      refine clFI (As := [.int v1, .int (0 : Int32), .int (0 : Int32)]) (rest := []) X (c_X7_moves l dC dI cI cJ cZ aM N M_sorts M_values M_rows M_placeOf M_falling M_made M_runs M_allRuns M_begin M_size M_pool M_pooled M_ways M_merges M_takes M_taken M_parts M_every M_samples M_sample M_ends M_partSize M_merged M_most M_done M_on M_ticks M_mergedAll M_again M_paces M_up M_byHost M_heap M_used M_planned M_gone v1 (0 : Int32) (0 : Int32) h11) (cwV 3 hts gX7_queue_X7_moves rfl rfl rfl (by decide +kernel) ⟨Nat.le_of_ble_eq_true rfl, Nat.le_of_ble_eq_true rfl⟩) (ci := 7) (k0 := 0) rfl rfl rfl hw rfl rfl hl.1 rfl (Nat.le_of_ble_eq_true rfl) dX7_queue_25 ⟨Nat.zero_le _, Nat.zero_le _⟩ (fun H locs hw => ?_)
      cases hf
      exact endI X hr rfl hlocks rfl hw dX7_queue_28
    · replace hf := it_t hf b4
      refine lv_iconst (v := (-1)) hx hb dX7_queue_17 (by decide) ?_
      refine lv_goto (tgt := 28) hx hb dX7_queue_18 (by decide) ?_
      cases hf
      exact endI X hr rfl hlocks rfl hw dX7_queue_28
def rm_X7_merges : Room := { frames := 0, cells := 0, slots := 0, locals := 0 }
set_option maxRecDepth 20000 in
theorem i_X7_merges_X7 : ∀ w ∈ u_ws RX7 TX7 36, w ∈ wsX7_merges := by decide +kernel
set_option maxRecDepth 20000 in
theorem m_X7_merges_0 : Cond.fieldLink RX7 53 "GreatSortModel" "merges" "I" ∈ wsX7_merges := by decide +kernel
set_option maxHeartbeats 4000000 in
set_option maxRecDepth 100000 in
theorem c_X7_merges (l : Launch) (dC : Nat → ClassId) (dI : Nat → Nat → Nat) (cI cJ cZ : ClassId) (aM : Nat → Nat) (N : Nat) (M_sorts : (Nat → Int32)) (M_values : (Nat → Int32)) (M_rows : Int32) (M_placeOf : (Nat → Int32)) (M_falling : (Nat → Int32)) (M_made : Int32) (M_runs : Int32) (M_allRuns : Int32) (M_begin : (Nat → Int32)) (M_size : (Nat → Int32)) (M_pool : (Nat → Int32)) (M_pooled : Int32) (M_ways : Int32) (M_merges : Int32) (M_takes : (Nat → Int32)) (M_taken : (Nat → Int32)) (M_parts : Int32) (M_every : Int32) (M_samples : Int32) (M_sample : (Nat → Int32)) (M_ends : (Nat → Int32)) (M_partSize : (Nat → Int32)) (M_merged : (Nat → Int32)) (M_most : (Nat → Int32)) (M_done : (Nat → Int32)) (M_on : (Nat → Int32)) (M_ticks : Int32) (M_mergedAll : Int32) (M_again : Int32) (M_paces : (Nat → Int32)) (M_up : (Nat → Int32)) (M_byHost : (Nat → Int32)) (M_heap : (Nat → Int32)) (M_used : (Nat → Int32)) (M_planned : (Nat → Int32)) (M_gone : (Nat → Int32))  {r : Int32} (hf : f_X7_merges N M_merges  = some r) :
    CtI l yX7_merges wsX7_merges rm_X7_merges (dC, dI) (tyl cI cJ cZ) [.ref (aM 0)] (w_M aM cI cJ cZ M_sorts M_values M_rows M_placeOf M_falling M_made M_runs M_allRuns M_begin M_size M_pool M_pooled M_ways M_merges M_takes M_taken M_parts M_every M_samples M_sample M_ends M_partSize M_merged M_most M_done M_on M_ticks M_mergedAll M_again M_paces M_up M_byHost M_heap M_used M_planned M_gone) (w_M aM cI cJ cZ M_sorts M_values M_rows M_placeOf M_falling M_made M_runs M_allRuns M_begin M_size M_pool M_pooled M_ways M_merges M_takes M_taken M_parts M_every M_samples M_sample M_ends M_partSize M_merged M_most M_done M_on M_ticks M_mergedAll M_again M_paces M_up M_byHost M_heap M_used M_planned M_gone) r := by
  refine startI (cc := cX7_merges) (maxL := 1) (rt := (some .int)) (by decide +kernel) rfl (Nat.le_of_ble_eq_true rfl) ?_
  intro p e s m below meth c A ls X hr hlocks hw hl
  replace X : Cx p m c cX7_merges 1 s _ wsX7_merges RX7 (dC, dI) (tyl cI cJ cZ) A := X
  replace hl : lv_has ls 1 [(0, .ref (aM 0))] := hl
  obtain ⟨hx, hb, hml, hown, hts⟩ := X.1
  have hK := X.2.1
  have hN := X.2.2.2
  unfold f_X7_merges at hf
  refine lv_aload_n hx hb dX7_merges_0 rfl (lv_at hl 0 rfl) ?_
  refine va_get (D := (dC, dI)) (ci := 7) (v := .int M_merges) (C := RX7) (T := TX7) (N := 36) hx hb hts i_X7_merges_X7 hown hK hw.1 0 rfl rfl 13 (by decide) (hts _ m_X7_merges_0) (fun _ h9 => h9) rfl dX7_merges_1 ?_
  cases hf
  exact endI X hr rfl hlocks rfl hw dX7_merges_4
def rm_X7_takes : Room := { frames := 0, cells := 0, slots := 0, locals := 0 }
set_option maxRecDepth 20000 in
theorem i_X7_takes_X7 : ∀ w ∈ u_ws RX7 TX7 36, w ∈ wsX7_takes := by decide +kernel
set_option maxRecDepth 20000 in
theorem m_X7_takes_0 : Cond.fieldLink RX7 53 "GreatSortModel" "merges" "I" ∈ wsX7_takes := by decide +kernel
set_option maxRecDepth 20000 in
theorem m_X7_takes_1 : Cond.fieldLink RX7 56 "GreatSortModel" "takes" "[I" ∈ wsX7_takes := by decide +kernel
set_option maxRecDepth 20000 in
theorem m_X7_takes_2 : Cond.fieldLink RX7 59 "GreatSortModel" "taken" "[I" ∈ wsX7_takes := by decide +kernel
set_option maxHeartbeats 4000000 in
set_option maxRecDepth 100000 in
theorem c_X7_takes (l : Launch) (dC : Nat → ClassId) (dI : Nat → Nat → Nat) (cI cJ cZ : ClassId) (aM : Nat → Nat) (N : Nat) (M_sorts : (Nat → Int32)) (M_values : (Nat → Int32)) (M_rows : Int32) (M_placeOf : (Nat → Int32)) (M_falling : (Nat → Int32)) (M_made : Int32) (M_runs : Int32) (M_allRuns : Int32) (M_begin : (Nat → Int32)) (M_size : (Nat → Int32)) (M_pool : (Nat → Int32)) (M_pooled : Int32) (M_ways : Int32) (M_merges : Int32) (M_takes : (Nat → Int32)) (M_taken : (Nat → Int32)) (M_parts : Int32) (M_every : Int32) (M_samples : Int32) (M_sample : (Nat → Int32)) (M_ends : (Nat → Int32)) (M_partSize : (Nat → Int32)) (M_merged : (Nat → Int32)) (M_most : (Nat → Int32)) (M_done : (Nat → Int32)) (M_on : (Nat → Int32)) (M_ticks : Int32) (M_mergedAll : Int32) (M_again : Int32) (M_paces : (Nat → Int32)) (M_up : (Nat → Int32)) (M_byHost : (Nat → Int32)) (M_heap : (Nat → Int32)) (M_used : (Nat → Int32)) (M_planned : (Nat → Int32)) (M_gone : (Nat → Int32)) (v1 : Int32) (v2 : Int32) {r : Int32} (hf : f_X7_takes N M_merges M_takes M_taken v1 v2 = some r) :
    CtI l yX7_takes wsX7_takes rm_X7_takes (dC, dI) (tyl cI cJ cZ) [.ref (aM 0), .int v1, .int v2] (w_M aM cI cJ cZ M_sorts M_values M_rows M_placeOf M_falling M_made M_runs M_allRuns M_begin M_size M_pool M_pooled M_ways M_merges M_takes M_taken M_parts M_every M_samples M_sample M_ends M_partSize M_merged M_most M_done M_on M_ticks M_mergedAll M_again M_paces M_up M_byHost M_heap M_used M_planned M_gone) (w_M aM cI cJ cZ M_sorts M_values M_rows M_placeOf M_falling M_made M_runs M_allRuns M_begin M_size M_pool M_pooled M_ways M_merges M_takes M_taken M_parts M_every M_samples M_sample M_ends M_partSize M_merged M_most M_done M_on M_ticks M_mergedAll M_again M_paces M_up M_byHost M_heap M_used M_planned M_gone) r := by
  refine startI (cc := cX7_takes) (maxL := 3) (rt := (some .int)) (by decide +kernel) rfl (Nat.le_of_ble_eq_true rfl) ?_
  intro p e s m below meth c A ls X hr hlocks hw hl
  replace X : Cx p m c cX7_takes 3 s _ wsX7_takes RX7 (dC, dI) (tyl cI cJ cZ) A := X
  replace hl : lv_has ls 3 [(0, .ref (aM 0)), (1, .int v1), (2, .int v2)] := hl
  obtain ⟨hx, hb, hml, hown, hts⟩ := X.1
  have hK := X.2.1
  have hN := X.2.2.2
  unfold f_X7_takes at hf
  refine lv_iload_n hx hb dX7_takes_0 rfl (lv_at hl 1 rfl) ?_
  refine lv_if_lt (tgt := 26) hx hb dX7_takes_1 (by decide) (fun b1 => ?_) (fun b1 => ?_)
  · replace hf := it_t hf b1
    refine lv_iconst (v := (-1)) hx hb dX7_takes_26 (by decide) ?_
    refine lv_goto (tgt := 41) hx hb dX7_takes_27 (by decide) ?_
    cases hf
    exact endI X hr rfl hlocks rfl hw dX7_takes_41
  · replace hf := it_f hf b1
    refine lv_iload_n hx hb dX7_takes_4 rfl (lv_at hl 1 rfl) ?_
    refine lv_aload_n hx hb dX7_takes_5 rfl (lv_at hl 0 rfl) ?_
    refine va_get (D := (dC, dI)) (ci := 7) (v := .int M_merges) (C := RX7) (T := TX7) (N := 36) hx hb hts i_X7_takes_X7 hown hK hw.1 0 rfl rfl 13 (by decide) (hts _ m_X7_takes_0) (fun _ h9 => h9) rfl dX7_takes_6 ?_
    refine lv_icmp_ge (tgt := 26) hx hb dX7_takes_9 (by decide) (fun b2 => ?_) (fun b2 => ?_)
    · replace hf := it_t hf b2
      refine lv_iconst (v := (-1)) hx hb dX7_takes_26 (by decide) ?_
      refine lv_goto (tgt := 41) hx hb dX7_takes_27 (by decide) ?_
      cases hf
      exact endI X hr rfl hlocks rfl hw dX7_takes_41
    · replace hf := it_f hf b2
      refine lv_iload_n hx hb dX7_takes_12 rfl (lv_at hl 2 rfl) ?_
      refine lv_if_lt (tgt := 26) hx hb dX7_takes_13 (by decide) (fun b3 => ?_) (fun b3 => ?_)
      · replace hf := it_t hf b3
        refine lv_iconst (v := (-1)) hx hb dX7_takes_26 (by decide) ?_
        refine lv_goto (tgt := 41) hx hb dX7_takes_27 (by decide) ?_
        cases hf
        exact endI X hr rfl hlocks rfl hw dX7_takes_41
      · replace hf := it_f hf b3
        refine lv_iload_n hx hb dX7_takes_16 rfl (lv_at hl 2 rfl) ?_
        refine lv_aload_n hx hb dX7_takes_17 rfl (lv_at hl 0 rfl) ?_
        refine va_get (D := (dC, dI)) (ci := 7) (v := .ref (aM 8)) (C := RX7) (T := TX7) (N := 36) hx hb hts i_X7_takes_X7 hown hK hw.1 0 rfl rfl 14 (by decide) (hts _ m_X7_takes_1) (fun _ h9 => h9) rfl dX7_takes_18 ?_
        refine lv_iload_n hx hb dX7_takes_21 rfl (lv_at hl 1 rfl) ?_
        have g4 := ix_in (gd_l hf)
        replace hf := gd_r hf
        refine va_iald hx hb hK hw.1 8 0 rfl rfl g4 dX7_takes_22 ?_
        refine lv_icmp_lt (tgt := 30) hx hb dX7_takes_23 (by decide) (fun b5 => ?_) (fun b5 => ?_)
        · replace hf := it_t hf b5
          refine lv_aload_n hx hb dX7_takes_30 rfl (lv_at hl 0 rfl) ?_
          refine va_get (D := (dC, dI)) (ci := 7) (v := .ref (aM 9)) (C := RX7) (T := TX7) (N := 36) hx hb hts i_X7_takes_X7 hown hK hw.1 0 rfl rfl 15 (by decide) (hts _ m_X7_takes_2) (fun _ h9 => h9) rfl dX7_takes_31 ?_
          refine lv_bipush (v := 8) hx hb dX7_takes_34 (by decide) ?_
          refine lv_iload_n hx hb dX7_takes_36 rfl (lv_at hl 1 rfl) ?_
          refine lv_imul hx hb dX7_takes_37 ?_
          refine lv_iload_n hx hb dX7_takes_38 rfl (lv_at hl 2 rfl) ?_
          refine lv_iadd hx hb dX7_takes_39 ?_
          have g6 := ix_in (gd_l hf)
          replace hf := gd_r hf
          refine va_iald hx hb hK hw.1 9 0 rfl rfl g6 dX7_takes_40 ?_
          cases hf
          exact endI X hr rfl hlocks rfl hw dX7_takes_41
        · replace hf := it_f hf b5
          refine lv_iconst (v := (-1)) hx hb dX7_takes_26 (by decide) ?_
          refine lv_goto (tgt := 41) hx hb dX7_takes_27 (by decide) ?_
          cases hf
          exact endI X hr rfl hlocks rfl hw dX7_takes_41
def rm_X7_merge : Room := { frames := 1, cells := 0, slots := 0, locals := 22 }
set_option maxRecDepth 20000 in
theorem i_X7_merge_X7 : ∀ w ∈ u_ws RX7 TX7 36, w ∈ wsX7_merge := by decide +kernel
set_option maxRecDepth 20000 in
theorem m_X7_merge_0 : Cond.fieldLink RX7 50 "GreatSortModel" "ways" "I" ∈ wsX7_merge := by decide +kernel
set_option maxRecDepth 20000 in
theorem m_X7_merge_1 : Cond.fieldLink RX7 31 "GreatSortModel" "runs" "I" ∈ wsX7_merge := by decide +kernel
set_option maxRecDepth 20000 in
theorem m_X7_merge_2 : Cond.fieldLink RX7 34 "GreatSortModel" "allRuns" "I" ∈ wsX7_merge := by decide +kernel
set_option maxRecDepth 20000 in
theorem m_X7_merge_3 : Cond.fieldLink RX7 47 "GreatSortModel" "pooled" "I" ∈ wsX7_merge := by decide +kernel
set_option maxRecDepth 20000 in
theorem m_X7_merge_4 : Cond.fieldLink RX7 53 "GreatSortModel" "merges" "I" ∈ wsX7_merge := by decide +kernel
set_option maxRecDepth 20000 in
theorem m_X7_merge_5 : Cond.fieldLink RX7 119 "GreatSortModel" "gone" "[I" ∈ wsX7_merge := by decide +kernel
set_option maxRecDepth 20000 in
theorem m_X7_merge_6 : Cond.fieldLink RX7 37 "GreatSortModel" "begin" "[I" ∈ wsX7_merge := by decide +kernel
set_option maxRecDepth 20000 in
theorem m_X7_merge_7 : Cond.fieldLink RX7 40 "GreatSortModel" "size" "[I" ∈ wsX7_merge := by decide +kernel
set_option maxRecDepth 20000 in
theorem m_X7_merge_8 : Cond.fieldLink RX7 56 "GreatSortModel" "takes" "[I" ∈ wsX7_merge := by decide +kernel
set_option maxRecDepth 20000 in
theorem m_X7_merge_9 : Cond.fieldLink RX7 59 "GreatSortModel" "taken" "[I" ∈ wsX7_merge := by decide +kernel
set_option maxRecDepth 20000 in
theorem m_X7_merge_10 : Cond.fieldLink RX7 44 "GreatSortModel" "pool" "[I" ∈ wsX7_merge := by decide +kernel
set_option maxHeartbeats 4000000 in
set_option maxRecDepth 100000 in
theorem t_X7_merge_70 {p : Program} {l : Launch} {e : Env} {s : State} {m : MethodId} {args : Array Value} {below : List Frame} {meth : Method} {c : Code} {Q : State → Prop} {dC : Nat → ClassId} {dI : Nat → Nat → Nat} {cI cJ cZ : ClassId} {A : Nat → Prop} (aM : Nat → Nat) (X : Cx p m c cX7_merge 9 s args wsX7_merge RX7 (dC, dI) (tyl cI cJ cZ) A) (N : Nat) (M_sorts : (Nat → Int32)) (M_values : (Nat → Int32)) (M_rows : Int32) (M_placeOf : (Nat → Int32)) (M_falling : (Nat → Int32)) (M_made : Int32) (M_runs : Int32) (M_allRuns : Int32) (M_begin : (Nat → Int32)) (M_size : (Nat → Int32)) (M_pool : (Nat → Int32)) (M_pooled : Int32) (M_ways : Int32) (M_merges : Int32) (M_takes : (Nat → Int32)) (M_taken : (Nat → Int32)) (M_parts : Int32) (M_every : Int32) (M_samples : Int32) (M_sample : (Nat → Int32)) (M_ends : (Nat → Int32)) (M_partSize : (Nat → Int32)) (M_merged : (Nat → Int32)) (M_most : (Nat → Int32)) (M_done : (Nat → Int32)) (M_on : (Nat → Int32)) (M_ticks : Int32) (M_mergedAll : Int32) (M_again : Int32) (M_paces : (Nat → Int32)) (M_up : (Nat → Int32)) (M_byHost : (Nat → Int32)) (M_heap : (Nat → Int32)) (M_used : (Nat → Int32)) (M_planned : (Nat → Int32)) (v1 : Int32) (v2 : Int32) :
    ∀ (n : Nat) (v3 : Int32) (M_gone : (Nat → Int32)) (e_M_gone : (Nat → Int32)), l_X7_merge_70 N  n v3 M_gone = some e_M_gone → ∀ (H : Heap) (locs : List Loc) (ls : Array Slot), Wd (dC, dI) A s.heap H locs (w_M aM cI cJ cZ M_sorts M_values M_rows M_placeOf M_falling M_made M_runs M_allRuns M_begin M_size M_pool M_pooled M_ways M_merges M_takes M_taken M_parts M_every M_samples M_sample M_ends M_partSize M_merged M_most M_done M_on M_ticks M_mergedAll M_again M_paces M_up M_byHost M_heap M_used M_planned M_gone) → lv_has ls 9 [(0, .ref (aM 0)), (1, .int v1), (2, .int v2), (3, .int v3)] → (∀ (H : Heap) (locs : List Loc) (ls : Array Slot), Wd (dC, dI) A s.heap H locs (w_M aM cI cJ cZ M_sorts M_values M_rows M_placeOf M_falling M_made M_runs M_allRuns M_begin M_size M_pool M_pooled M_ways M_merges M_takes M_taken M_parts M_every M_samples M_sample M_ends M_partSize M_merged M_most M_done M_on M_ticks M_mergedAll M_again M_paces M_up M_byHost M_heap M_used M_planned e_M_gone) → lv_has ls 9 [(0, .ref (aM 0)), (1, .int v1), (2, .int v2)] → W p l e rm_X7_merge s m args below meth c H locs 0 0 Q (F0 m 89 ls [])) → W p l e rm_X7_merge s m args below meth c H locs 0 0 Q (F0 m 70 ls []) := by
  obtain ⟨hx, hb, hml, hown, hts⟩ := X.1
  have hK := X.2.1
  have hN := X.2.2.2
  intro n
  induction n with
  | zero =>
    intro _ _ _ hf
    cases hf
  | succ n ih =>
    intro v3 M_gone e_M_gone hf H locs ls hw hl kx
    rw [l_X7_merge_70] at hf
    refine lv_iload_n hx hb dX7_merge_70 rfl (lv_at hl 3 rfl) ?_
    refine lv_bipush (v := 8) hx hb dX7_merge_71 (by decide) ?_
    refine lv_icmp_ge (tgt := 89) hx hb dX7_merge_73 (by decide) (fun b5 => ?_) (fun b5 => ?_)
    · replace hf := it_t hf b5
      cases hf
      exact kx _ _ _ hw (lv_sub hl [0, 1, 2] rfl)
    · replace hf := it_f hf b5
      refine lv_aload_n hx hb dX7_merge_76 rfl (lv_at hl 0 rfl) ?_
      refine va_get (D := (dC, dI)) (ci := 7) (v := .ref (aM 23)) (C := RX7) (T := TX7) (N := 36) hx hb hts i_X7_merge_X7 hown hK hw.1 0 rfl rfl 35 (by decide) (hts _ m_X7_merge_5) (fun _ h9 => h9) rfl dX7_merge_77 ?_
      refine lv_iload_n hx hb dX7_merge_80 rfl (lv_at hl 3 rfl) ?_
      refine lv_iconst (v := 0) hx hb dX7_merge_81 (by decide) ?_
      have g6 := ix_in (gd_l hf)
      replace hf := gd_r hf
      refine g_iast hx hb hK hw 23 0 rfl rfl g6 dX7_merge_82 (fun H locs hw => ?_)
      replace hw : Wd (dC, dI) A s.heap H locs (w_M aM cI cJ cZ M_sorts M_values M_rows M_placeOf M_falling M_made M_runs M_allRuns M_begin M_size M_pool M_pooled M_ways M_merges M_takes M_taken M_parts M_every M_samples M_sample M_ends M_partSize M_merged M_most M_done M_on M_ticks M_mergedAll M_again M_paces M_up M_byHost M_heap M_used M_planned (upd M_gone v3.toNatClampNeg 0)) := hw
      obtain ⟨x7, ex7⟩ : ∃ y : Int32, y = v3 + 1 := ⟨_, rfl⟩
      replace hf := nl_at hf ex7
      refine lv_iinc (v := x7) (lv' := [(3, .int x7), (0, .ref (aM 0)), (1, .int v1), (2, .int v2)]) hx hb dX7_merge_83 hl (k := 3) rfl (by rw [ex7]; rfl) (by decide) rfl (fun ls hl => ?_)
      refine lv_goto (tgt := 70) hx hb dX7_merge_86 (by decide) ?_
      exact ih _ _ _ hf _ _ _ hw (lv_sub hl [1, 2, 3, 0] rfl) kx
set_option maxHeartbeats 4000000 in
set_option maxRecDepth 100000 in
theorem t_X7_merge_128 {p : Program} {l : Launch} {e : Env} {s : State} {m : MethodId} {args : Array Value} {below : List Frame} {meth : Method} {c : Code} {Q : State → Prop} {dC : Nat → ClassId} {dI : Nat → Nat → Nat} {cI cJ cZ : ClassId} {A : Nat → Prop} (aM : Nat → Nat) (X : Cx p m c cX7_merge 9 s args wsX7_merge RX7 (dC, dI) (tyl cI cJ cZ) A) (N : Nat) (M_sorts : (Nat → Int32)) (M_values : (Nat → Int32)) (M_rows : Int32) (M_placeOf : (Nat → Int32)) (M_falling : (Nat → Int32)) (M_made : Int32) (M_runs : Int32) (M_allRuns : Int32) (M_begin : (Nat → Int32)) (M_size : (Nat → Int32)) (M_pool : (Nat → Int32)) (M_pooled : Int32) (M_ways : Int32) (M_merges : Int32) (M_takes : (Nat → Int32)) (M_taken : (Nat → Int32)) (M_parts : Int32) (M_every : Int32) (M_samples : Int32) (M_sample : (Nat → Int32)) (M_ends : (Nat → Int32)) (M_partSize : (Nat → Int32)) (M_merged : (Nat → Int32)) (M_most : (Nat → Int32)) (M_done : (Nat → Int32)) (M_on : (Nat → Int32)) (M_ticks : Int32) (M_mergedAll : Int32) (M_again : Int32) (M_paces : (Nat → Int32)) (M_up : (Nat → Int32)) (M_byHost : (Nat → Int32)) (M_heap : (Nat → Int32)) (M_used : (Nat → Int32)) (M_planned : (Nat → Int32)) (M_gone : (Nat → Int32)) (v1 : Int32) (v2 : Int32) (v3 : Int32) :
    ∀ (n : Nat) (v5 : Int32) (v6 : Int32) (v7 : Int32) (e5 : Int32) (e6 : Int32), l_X7_merge_128 N M_sorts M_values M_placeOf M_falling M_begin M_size M_pool M_takes M_taken M_gone v2 n v5 v6 v7 = some (e5, e6) → ∀ (H : Heap) (locs : List Loc) (ls : Array Slot), Wd (dC, dI) A s.heap H locs (w_M aM cI cJ cZ M_sorts M_values M_rows M_placeOf M_falling M_made M_runs M_allRuns M_begin M_size M_pool M_pooled M_ways M_merges M_takes M_taken M_parts M_every M_samples M_sample M_ends M_partSize M_merged M_most M_done M_on M_ticks M_mergedAll M_again M_paces M_up M_byHost M_heap M_used M_planned M_gone) → lv_has ls 9 [(0, .ref (aM 0)), (1, .int v1), (2, .int v2), (3, .int v3), (5, .int v5), (6, .int v6), (7, .int v7)] → (∀ (H : Heap) (locs : List Loc) (ls : Array Slot), Wd (dC, dI) A s.heap H locs (w_M aM cI cJ cZ M_sorts M_values M_rows M_placeOf M_falling M_made M_runs M_allRuns M_begin M_size M_pool M_pooled M_ways M_merges M_takes M_taken M_parts M_every M_samples M_sample M_ends M_partSize M_merged M_most M_done M_on M_ticks M_mergedAll M_again M_paces M_up M_byHost M_heap M_used M_planned M_gone) → lv_has ls 9 [(0, .ref (aM 0)), (1, .int v1), (2, .int v2), (3, .int v3), (5, .int e5), (6, .int e6)] → W p l e rm_X7_merge s m args below meth c H locs 0 0 Q (F0 m 249 ls [])) → W p l e rm_X7_merge s m args below meth c H locs 0 0 Q (F0 m 128 ls []) := by
  obtain ⟨hx, hb, hml, hown, hts⟩ := X.1
  have hK := X.2.1
  have hN := X.2.2.2
  intro n
  induction n with
  | zero =>
    intro _ _ _ _ _ hf
    cases hf
  | succ n ih =>
    intro v5 v6 v7 e5 e6 hf H locs ls hw hl kx
    rw [l_X7_merge_128] at hf
    refine lv_iload hx hb dX7_merge_128 (lv_at hl 6 rfl) ?_
    refine lv_aload_n hx hb dX7_merge_130 rfl (lv_at hl 0 rfl) ?_
    refine va_get (D := (dC, dI)) (ci := 7) (v := .ref (aM 8)) (C := RX7) (T := TX7) (N := 36) hx hb hts i_X7_merge_X7 hown hK hw.1 0 rfl rfl 14 (by decide) (hts _ m_X7_merge_8) (fun _ h9 => h9) rfl dX7_merge_131 ?_
    refine lv_iload_n hx hb dX7_merge_134 rfl (lv_at hl 2 rfl) ?_
    have g13 := ix_in (gd_l hf)
    replace hf := gd_r hf
    refine va_iald hx hb hK hw.1 8 0 rfl rfl g13 dX7_merge_135 ?_
    refine lv_icmp_ge (tgt := 249) hx hb dX7_merge_136 (by decide) (fun b14 => ?_) (fun b14 => ?_)
    · replace hf := it_t hf b14
      cases hf
      exact kx _ _ _ hw (lv_sub hl [0, 1, 2, 3, 4, 5] rfl)
    · replace hf := it_f hf b14
      refine lv_aload_n hx hb dX7_merge_139 rfl (lv_at hl 0 rfl) ?_
      refine va_get (D := (dC, dI)) (ci := 7) (v := .ref (aM 9)) (C := RX7) (T := TX7) (N := 36) hx hb hts i_X7_merge_X7 hown hK hw.1 0 rfl rfl 15 (by decide) (hts _ m_X7_merge_9) (fun _ h9 => h9) rfl dX7_merge_140 ?_
      refine lv_bipush (v := 8) hx hb dX7_merge_143 (by decide) ?_
      refine lv_iload_n hx hb dX7_merge_145 rfl (lv_at hl 2 rfl) ?_
      refine lv_imul hx hb dX7_merge_146 ?_
      refine lv_iload hx hb dX7_merge_147 (lv_at hl 6 rfl) ?_
      refine lv_iadd hx hb dX7_merge_149 ?_
      have g15 := ix_in (gd_l hf)
      replace hf := gd_r hf
      refine va_iald hx hb hK hw.1 9 0 rfl rfl g15 dX7_merge_150 ?_
      refine lv_topi (fun x16 ex16 => ?_)
      replace hf := nl_at hf ex16
      refine lv_istore (lv' := [(8, .int x16), (0, .ref (aM 0)), (1, .int v1), (2, .int v2), (3, .int v3), (5, .int v5), (6, .int v6), (7, .int v7)]) hx hb dX7_merge_151 hl (by decide) rfl (fun ls hl => ?_)
      refine lv_aload_n hx hb dX7_merge_153 rfl (lv_at hl 1 rfl) ?_
      refine va_get (D := (dC, dI)) (ci := 7) (v := .ref (aM 23)) (C := RX7) (T := TX7) (N := 36) hx hb hts i_X7_merge_X7 hown hK hw.1 0 rfl rfl 35 (by decide) (hts _ m_X7_merge_5) (fun _ h9 => h9) rfl dX7_merge_154 ?_
      refine lv_iload hx hb dX7_merge_157 (lv_at hl 7 rfl) ?_
      have g17 := ix_in (gd_l hf)
      replace hf := gd_r hf
      refine va_iald hx hb hK hw.1 23 0 rfl rfl g17 dX7_merge_159 ?_
      refine lv_aload_n hx hb dX7_merge_160 rfl (lv_at hl 1 rfl) ?_
      refine va_get (D := (dC, dI)) (ci := 7) (v := .ref (aM 6)) (C := RX7) (T := TX7) (N := 36) hx hb hts i_X7_merge_X7 hown hK hw.1 0 rfl rfl 9 (by decide) (hts _ m_X7_merge_7) (fun _ h9 => h9) rfl dX7_merge_161 ?_
      refine lv_iload hx hb dX7_merge_164 (lv_at hl 0 rfl) ?_
      have g18 := ix_in (gd_l hf)
      replace hf := gd_r hf
      refine va_iald hx hb hK hw.1 6 0 rfl rfl g18 dX7_merge_166 ?_
      refine lv_icmp_ne (tgt := 173) hx hb dX7_merge_167 (by decide) (fun b19 => ?_) (fun b19 => ?_)
      · replace hf := it_f hf b19
        obtain ⟨x20, ex20⟩ : ∃ y : Int32, y = v6 + 1 := ⟨_, rfl⟩
        replace hf := nl_at hf ex20
        refine lv_iinc (v := x20) (lv' := [(6, .int x20), (8, .int x16), (0, .ref (aM 0)), (1, .int v1), (2, .int v2), (3, .int v3), (5, .int v5), (7, .int v7)]) hx hb dX7_merge_173 hl (k := 6) rfl (by rw [ex20]; rfl) (by decide) rfl (fun ls hl => ?_)
        refine lv_iload hx hb dX7_merge_176 (lv_at hl 6 rfl) ?_
        refine lv_iconst (v := (-1)) hx hb dX7_merge_178 (by decide) ?_
        refine lv_icmp_eq (tgt := 239) hx hb dX7_merge_179 (by decide) (fun b21 => ?_) (fun b21 => ?_)
        · replace hf := it_t hf b21
          refine lv_iload hx hb dX7_merge_239 (lv_at hl 7 rfl) ?_
          refine lv_istore (lv' := [(5, .int v7), (6, .int x20), (8, .int x16), (0, .ref (aM 0)), (1, .int v1), (2, .int v2), (3, .int v3), (7, .int v7)]) hx hb dX7_merge_241 hl (by decide) rfl (fun ls hl => ?_)
          obtain ⟨x22, ex22⟩ : ∃ y : Int32, y = v7 + 1 := ⟨_, rfl⟩
          replace hf := nl_at hf ex22
          refine lv_iinc (v := x22) (lv' := [(7, .int x22), (5, .int v7), (6, .int x20), (8, .int x16), (0, .ref (aM 0)), (1, .int v1), (2, .int v2), (3, .int v3)]) hx hb dX7_merge_243 hl (k := 7) rfl (by rw [ex22]; rfl) (by decide) rfl (fun ls hl => ?_)
          refine lv_goto (tgt := 128) hx hb dX7_merge_246 (by decide) ?_
          exact ih _ _ _ _ _ hf _ _ _ hw (lv_sub hl [4, 5, 6, 7, 1, 2, 0] rfl) kx
        · replace hf := it_f hf b21
          refine lv_aload_n hx hb dX7_merge_182 rfl (lv_at hl 2 rfl) ?_
          refine lv_aload_n hx hb dX7_merge_183 rfl (lv_at hl 2 rfl) ?_
          refine va_get (D := (dC, dI)) (ci := 7) (v := .ref (aM 7)) (C := RX7) (T := TX7) (N := 36) hx hb hts i_X7_merge_X7 hown hK hw.1 0 rfl rfl 10 (by decide) (hts _ m_X7_merge_10) (fun _ h9 => h9) rfl dX7_merge_184 ?_
          refine lv_aload_n hx hb dX7_merge_187 rfl (lv_at hl 2 rfl) ?_
          refine va_get (D := (dC, dI)) (ci := 7) (v := .ref (aM 5)) (C := RX7) (T := TX7) (N := 36) hx hb hts i_X7_merge_X7 hown hK hw.1 0 rfl rfl 8 (by decide) (hts _ m_X7_merge_6) (fun _ h9 => h9) rfl dX7_merge_188 ?_
          refine lv_iload hx hb dX7_merge_191 (lv_at hl 1 rfl) ?_
          have g23 := ix_in (gd_l hf)
          replace hf := gd_r hf
          refine va_iald hx hb hK hw.1 5 0 rfl rfl g23 dX7_merge_193 ?_
          refine lv_aload_n hx hb dX7_merge_194 rfl (lv_at hl 2 rfl) ?_
          refine va_get (D := (dC, dI)) (ci := 7) (v := .ref (aM 23)) (C := RX7) (T := TX7) (N := 36) hx hb hts i_X7_merge_X7 hown hK hw.1 0 rfl rfl 35 (by decide) (hts _ m_X7_merge_5) (fun _ h9 => h9) rfl dX7_merge_195 ?_
          refine lv_iload hx hb dX7_merge_198 (lv_at hl 7 rfl) ?_
          have g24 := ix_in (gd_l hf)
          replace hf := gd_r hf
          refine va_iald hx hb hK hw.1 23 0 rfl rfl g24 dX7_merge_200 ?_
          refine lv_iadd hx hb dX7_merge_201 ?_
          have g25 := ix_in (gd_l hf)
          replace hf := gd_r hf
          refine va_iald hx hb hK hw.1 7 0 rfl rfl g25 dX7_merge_202 ?_
          refine lv_aload_n hx hb dX7_merge_203 rfl (lv_at hl 2 rfl) ?_
          refine va_get (D := (dC, dI)) (ci := 7) (v := .ref (aM 7)) (C := RX7) (T := TX7) (N := 36) hx hb hts i_X7_merge_X7 hown hK hw.1 0 rfl rfl 10 (by decide) (hts _ m_X7_merge_10) (fun _ h9 => h9) rfl dX7_merge_204 ?_
          refine lv_aload_n hx hb dX7_merge_207 rfl (lv_at hl 2 rfl) ?_
          refine va_get (D := (dC, dI)) (ci := 7) (v := .ref (aM 5)) (C := RX7) (T := TX7) (N := 36) hx hb hts i_X7_merge_X7 hown hK hw.1 0 rfl rfl 8 (by decide) (hts _ m_X7_merge_6) (fun _ h9 => h9) rfl dX7_merge_208 ?_
          refine lv_aload_n hx hb dX7_merge_211 rfl (lv_at hl 2 rfl) ?_
          refine va_get (D := (dC, dI)) (ci := 7) (v := .ref (aM 9)) (C := RX7) (T := TX7) (N := 36) hx hb hts i_X7_merge_X7 hown hK hw.1 0 rfl rfl 15 (by decide) (hts _ m_X7_merge_9) (fun _ h9 => h9) rfl dX7_merge_212 ?_
          refine lv_bipush (v := 8) hx hb dX7_merge_215 (by decide) ?_
          refine lv_iload_n hx hb dX7_merge_217 rfl (lv_at hl 4 rfl) ?_
          refine lv_imul hx hb dX7_merge_218 ?_
          refine lv_iload hx hb dX7_merge_219 (lv_at hl 6 rfl) ?_
          refine lv_iadd hx hb dX7_merge_221 ?_
          have g26 := ix_in (gd_l hf)
          replace hf := gd_r hf
          refine va_iald hx hb hK hw.1 9 0 rfl rfl g26 dX7_merge_222 ?_
          have g27 := ix_in (gd_l hf)
          replace hf := gd_r hf
          refine va_iald hx hb hK hw.1 5 0 rfl rfl g27 dX7_merge_223 ?_
          refine lv_aload_n hx hb dX7_merge_224 rfl (lv_at hl 2 rfl) ?_
          refine va_get (D := (dC, dI)) (ci := 7) (v := .ref (aM 23)) (C := RX7) (T := TX7) (N := 36) hx hb hts i_X7_merge_X7 hown hK hw.1 0 rfl rfl 35 (by decide) (hts _ m_X7_merge_5) (fun _ h9 => h9) rfl dX7_merge_225 ?_
          refine lv_iload hx hb dX7_merge_228 (lv_at hl 6 rfl) ?_
          have g28 := ix_in (gd_l hf)
          replace hf := gd_r hf
          refine va_iald hx hb hK hw.1 23 0 rfl rfl g28 dX7_merge_230 ?_
          refine lv_iadd hx hb dX7_merge_231 ?_
          have g29 := ix_in (gd_l hf)
          replace hf := gd_r hf
          refine va_iald hx hb hK hw.1 7 0 rfl rfl g29 dX7_merge_232 ?_
          obtain ⟨r30, h31, hf⟩ := bd1_ob hf
          refine clFI (As := [.int (M_pool ((M_begin x16.toNatClampNeg) + (M_gone v7.toNatClampNeg)).toNatClampNeg), .int (M_pool ((M_begin (M_taken ((8 * v2) + v5).toNatClampNeg).toNatClampNeg) + (M_gone v5.toNatClampNeg)).toNatClampNeg)]) (rest := []) X (c_X7_ahead l dC dI cI cJ cZ aM N M_sorts M_values M_rows M_placeOf M_falling M_made M_runs M_allRuns M_begin M_size M_pool M_pooled M_ways M_merges M_takes M_taken M_parts M_every M_samples M_sample M_ends M_partSize M_merged M_most M_done M_on M_ticks M_mergedAll M_again M_paces M_up M_byHost M_heap M_used M_planned M_gone (M_pool ((M_begin x16.toNatClampNeg) + (M_gone v7.toNatClampNeg)).toNatClampNeg) (M_pool ((M_begin (M_taken ((8 * v2) + v5).toNatClampNeg).toNatClampNeg) + (M_gone v5.toNatClampNeg)).toNatClampNeg) h31) (cwV 2 hts gX7_merge_X7_ahead rfl rfl rfl (by decide +kernel) ⟨Nat.le_of_ble_eq_true rfl, Nat.le_of_ble_eq_true rfl⟩) (ci := 7) (k0 := 0) rfl rfl rfl hw rfl rfl hl.1 rfl (Nat.le_of_ble_eq_true rfl) dX7_merge_233 ⟨Nat.zero_le _, Nat.zero_le _⟩ (fun H locs hw => ?_)
          refine lv_if_eq (tgt := 243) hx hb dX7_merge_236 (by decide) (fun b32 => ?_) (fun b32 => ?_)
          · replace hf := it_t hf b32
            obtain ⟨x33, ex33⟩ : ∃ y : Int32, y = v7 + 1 := ⟨_, rfl⟩
            replace hf := nl_at hf ex33
            refine lv_iinc (v := x33) (lv' := [(7, .int x33), (6, .int x20), (8, .int x16), (0, .ref (aM 0)), (1, .int v1), (2, .int v2), (3, .int v3), (5, .int v5)]) hx hb dX7_merge_243 hl (k := 7) rfl (by rw [ex33]; rfl) (by decide) rfl (fun ls hl => ?_)
            refine lv_goto (tgt := 128) hx hb dX7_merge_246 (by decide) ?_
            exact ih _ _ _ _ _ hf _ _ _ hw (lv_sub hl [3, 4, 5, 6, 7, 1, 0] rfl) kx
          · replace hf := it_f hf b32
            refine lv_iload hx hb dX7_merge_239 (lv_at hl 7 rfl) ?_
            refine lv_istore (lv' := [(5, .int v7), (6, .int x20), (8, .int x16), (0, .ref (aM 0)), (1, .int v1), (2, .int v2), (3, .int v3), (7, .int v7)]) hx hb dX7_merge_241 hl (by decide) rfl (fun ls hl => ?_)
            obtain ⟨x34, ex34⟩ : ∃ y : Int32, y = v7 + 1 := ⟨_, rfl⟩
            replace hf := nl_at hf ex34
            refine lv_iinc (v := x34) (lv' := [(7, .int x34), (5, .int v7), (6, .int x20), (8, .int x16), (0, .ref (aM 0)), (1, .int v1), (2, .int v2), (3, .int v3)]) hx hb dX7_merge_243 hl (k := 7) rfl (by rw [ex34]; rfl) (by decide) rfl (fun ls hl => ?_)
            refine lv_goto (tgt := 128) hx hb dX7_merge_246 (by decide) ?_
            exact ih _ _ _ _ _ hf _ _ _ hw (lv_sub hl [4, 5, 6, 7, 1, 2, 0] rfl) kx
      · replace hf := it_t hf b19
        refine lv_goto (tgt := 243) hx hb dX7_merge_170 (by decide) ?_
        obtain ⟨x35, ex35⟩ : ∃ y : Int32, y = v7 + 1 := ⟨_, rfl⟩
        replace hf := nl_at hf ex35
        refine lv_iinc (v := x35) (lv' := [(7, .int x35), (8, .int x16), (0, .ref (aM 0)), (1, .int v1), (2, .int v2), (3, .int v3), (5, .int v5), (6, .int v6)]) hx hb dX7_merge_243 hl (k := 7) rfl (by rw [ex35]; rfl) (by decide) rfl (fun ls hl => ?_)
        refine lv_goto (tgt := 128) hx hb dX7_merge_246 (by decide) ?_
        exact ih _ _ _ _ _ hf _ _ _ hw (lv_sub hl [2, 3, 4, 5, 6, 7, 0] rfl) kx
set_option maxHeartbeats 4000000 in
set_option maxRecDepth 100000 in
theorem t_X7_merge_114 {p : Program} {l : Launch} {e : Env} {s : State} {m : MethodId} {args : Array Value} {below : List Frame} {meth : Method} {c : Code} {Q : State → Prop} {dC : Nat → ClassId} {dI : Nat → Nat → Nat} {cI cJ cZ : ClassId} {A : Nat → Prop} (aM : Nat → Nat) (X : Cx p m c cX7_merge 9 s args wsX7_merge RX7 (dC, dI) (tyl cI cJ cZ) A) (N : Nat) (M_sorts : (Nat → Int32)) (M_values : (Nat → Int32)) (M_rows : Int32) (M_placeOf : (Nat → Int32)) (M_falling : (Nat → Int32)) (M_made : Int32) (M_runs : Int32) (M_allRuns : Int32) (M_begin : (Nat → Int32)) (M_ways : Int32) (M_merges : Int32) (M_takes : (Nat → Int32)) (M_taken : (Nat → Int32)) (M_parts : Int32) (M_every : Int32) (M_samples : Int32) (M_sample : (Nat → Int32)) (M_ends : (Nat → Int32)) (M_partSize : (Nat → Int32)) (M_merged : (Nat → Int32)) (M_most : (Nat → Int32)) (M_done : (Nat → Int32)) (M_on : (Nat → Int32)) (M_ticks : Int32) (M_mergedAll : Int32) (M_again : Int32) (M_paces : (Nat → Int32)) (M_up : (Nat → Int32)) (M_byHost : (Nat → Int32)) (M_heap : (Nat → Int32)) (M_used : (Nat → Int32)) (M_planned : (Nat → Int32)) (v2 : Int32) (v3 : Int32) :
    ∀ (n : Nat) (v1 : Int32) (v4 : Int32) (M_size : (Nat → Int32)) (M_pool : (Nat → Int32)) (M_pooled : Int32) (M_gone : (Nat → Int32)) (e1 : Int32) (e_M_size : (Nat → Int32)) (e_M_pool : (Nat → Int32)) (e_M_pooled : Int32) (e_M_gone : (Nat → Int32)), l_X7_merge_114 N M_sorts M_values M_placeOf M_falling M_begin M_takes M_taken v2 v3 n v1 v4 M_size M_pool M_pooled M_gone = some (e1, e_M_size, e_M_pool, e_M_pooled, e_M_gone) → ∀ (H : Heap) (locs : List Loc) (ls : Array Slot), Wd (dC, dI) A s.heap H locs (w_M aM cI cJ cZ M_sorts M_values M_rows M_placeOf M_falling M_made M_runs M_allRuns M_begin M_size M_pool M_pooled M_ways M_merges M_takes M_taken M_parts M_every M_samples M_sample M_ends M_partSize M_merged M_most M_done M_on M_ticks M_mergedAll M_again M_paces M_up M_byHost M_heap M_used M_planned M_gone) → lv_has ls 9 [(0, .ref (aM 0)), (1, .int v1), (2, .int v2), (3, .int v3), (4, .int v4)] → (∀ (H : Heap) (locs : List Loc) (ls : Array Slot), Wd (dC, dI) A s.heap H locs (w_M aM cI cJ cZ M_sorts M_values M_rows M_placeOf M_falling M_made M_runs M_allRuns M_begin e_M_size e_M_pool e_M_pooled M_ways M_merges M_takes M_taken M_parts M_every M_samples M_sample M_ends M_partSize M_merged M_most M_done M_on M_ticks M_mergedAll M_again M_paces M_up M_byHost M_heap M_used M_planned e_M_gone) → lv_has ls 9 [(0, .ref (aM 0)), (1, .int e1), (2, .int v2)] → W p l e rm_X7_merge s m args below meth c H locs 0 0 Q (F0 m 350 ls [])) → W p l e rm_X7_merge s m args below meth c H locs 0 0 Q (F0 m 114 ls []) := by
  obtain ⟨hx, hb, hml, hown, hts⟩ := X.1
  have hK := X.2.1
  have hN := X.2.2.2
  intro n
  induction n with
  | zero =>
    intro _ _ _ _ _ _ _ _ _ _ _ hf
    cases hf
  | succ n ih =>
    intro v1 v4 M_size M_pool M_pooled M_gone e1 e_M_size e_M_pool e_M_pooled e_M_gone hf H locs ls hw hl kx
    rw [l_X7_merge_114] at hf
    refine lv_iload hx hb dX7_merge_114 (lv_at hl 4 rfl) ?_
    refine lv_if_eq (tgt := 350) hx hb dX7_merge_116 (by decide) (fun b12 => ?_) (fun b12 => ?_)
    · replace hf := it_t hf b12
      cases hf
      exact kx _ _ _ hw (lv_sub hl [0, 1, 2] rfl)
    · replace hf := it_f hf b12
      refine lv_iconst (v := (-1)) hx hb dX7_merge_119 (by decide) ?_
      refine lv_istore (lv' := [(5, .int (-1)), (0, .ref (aM 0)), (1, .int v1), (2, .int v2), (3, .int v3), (4, .int v4)]) hx hb dX7_merge_120 hl (by decide) rfl (fun ls hl => ?_)
      refine lv_iconst (v := 0) hx hb dX7_merge_122 (by decide) ?_
      refine lv_istore (lv' := [(6, .int 0), (5, .int (-1)), (0, .ref (aM 0)), (1, .int v1), (2, .int v2), (3, .int v3), (4, .int v4)]) hx hb dX7_merge_123 hl (by decide) rfl (fun ls hl => ?_)
      refine lv_iconst (v := 0) hx hb dX7_merge_125 (by decide) ?_
      refine lv_istore (lv' := [(7, .int 0), (6, .int 0), (5, .int (-1)), (0, .ref (aM 0)), (1, .int v1), (2, .int v2), (3, .int v3), (4, .int v4)]) hx hb dX7_merge_126 hl (by decide) rfl (fun ls hl => ?_)
      obtain ⟨e36, e37, h38, hf⟩ := bd2_ob hf
      refine t_X7_merge_128 aM X N M_sorts M_values M_rows M_placeOf M_falling M_made M_runs M_allRuns M_begin M_size M_pool M_pooled M_ways M_merges M_takes M_taken M_parts M_every M_samples M_sample M_ends M_partSize M_merged M_most M_done M_on M_ticks M_mergedAll M_again M_paces M_up M_byHost M_heap M_used M_planned M_gone v1 v2 v3 N _ _ _ _ _ h38 _ _ _ hw (lv_sub hl [3, 4, 5, 6, 2, 1, 0] rfl) (fun H locs ls hw hl => ?_)
      refine lv_iload hx hb dX7_merge_249 (lv_at hl 4 rfl) ?_
      refine lv_iconst (v := (-1)) hx hb dX7_merge_251 (by decide) ?_
      obtain ⟨y39, h40, hf⟩ := bd1_ob hf
      refine join_ (nL := 9) (dC, dI) A 260 [.int y39] (w_M aM cI cJ cZ M_sorts M_values M_rows M_placeOf M_falling M_made M_runs M_allRuns M_begin M_size M_pool M_pooled M_ways M_merges M_takes M_taken M_parts M_every M_samples M_sample M_ends M_partSize M_merged M_most M_done M_on M_ticks M_mergedAll M_again M_paces M_up M_byHost M_heap M_used M_planned M_gone) [(0, .ref (aM 0)), (1, .int v1), (2, .int v2), (3, .int v3), (5, .int e36), (6, .int e37)] (fun H locs ls hw hl => ?_) (fun jn => ?_)
      · refine lv_istore (lv' := [(4, .int y39), (0, .ref (aM 0)), (1, .int v1), (2, .int v2), (3, .int v3), (5, .int e36), (6, .int e37)]) hx hb dX7_merge_260 hl (by decide) rfl (fun ls hl => ?_)
        refine lv_iload hx hb dX7_merge_262 (lv_at hl 0 rfl) ?_
        refine lv_if_ne (tgt := 270) hx hb dX7_merge_264 (by decide) (fun b41 => ?_) (fun b41 => ?_)
        · replace hf := it_f hf b41
          refine lv_iload_n hx hb dX7_merge_270 rfl (lv_at hl 2 rfl) ?_
          refine lv_iload hx hb dX7_merge_271 (lv_at hl 6 rfl) ?_
          refine lv_iconst (v := 1) hx hb dX7_merge_273 (by decide) ?_
          refine lv_isub hx hb dX7_merge_274 ?_
          refine lv_iadd hx hb dX7_merge_275 ?_
          refine lv_topi (fun x42 ex42 => ?_)
          replace hf := nl_at hf ex42
          refine lv_istore_n (lv' := [(1, .int x42), (4, .int y39), (0, .ref (aM 0)), (2, .int v2), (3, .int v3), (5, .int e36), (6, .int e37)]) hx hb dX7_merge_276 rfl hl (by decide) rfl (fun ls hl => ?_)
          refine lv_aload_n hx hb dX7_merge_277 rfl (lv_at hl 2 rfl) ?_
          refine va_get (D := (dC, dI)) (ci := 7) (v := .ref (aM 7)) (C := RX7) (T := TX7) (N := 36) hx hb hts i_X7_merge_X7 hown hK hw.1 0 rfl rfl 10 (by decide) (hts _ m_X7_merge_10) (fun _ h9 => h9) rfl dX7_merge_278 ?_
          refine lv_aload_n hx hb dX7_merge_281 rfl (lv_at hl 2 rfl) ?_
          refine va_get (D := (dC, dI)) (ci := 7) (v := .int M_pooled) (C := RX7) (T := TX7) (N := 36) hx hb hts i_X7_merge_X7 hown hK hw.1 0 rfl rfl 11 (by decide) (hts _ m_X7_merge_3) (fun _ h9 => h9) rfl dX7_merge_282 ?_
          refine lv_aload_n hx hb dX7_merge_285 rfl (lv_at hl 2 rfl) ?_
          refine va_get (D := (dC, dI)) (ci := 7) (v := .ref (aM 7)) (C := RX7) (T := TX7) (N := 36) hx hb hts i_X7_merge_X7 hown hK hw.1 0 rfl rfl 10 (by decide) (hts _ m_X7_merge_10) (fun _ h9 => h9) rfl dX7_merge_286 ?_
          refine lv_aload_n hx hb dX7_merge_289 rfl (lv_at hl 2 rfl) ?_
          refine va_get (D := (dC, dI)) (ci := 7) (v := .ref (aM 5)) (C := RX7) (T := TX7) (N := 36) hx hb hts i_X7_merge_X7 hown hK hw.1 0 rfl rfl 8 (by decide) (hts _ m_X7_merge_6) (fun _ h9 => h9) rfl dX7_merge_290 ?_
          refine lv_aload_n hx hb dX7_merge_293 rfl (lv_at hl 2 rfl) ?_
          refine va_get (D := (dC, dI)) (ci := 7) (v := .ref (aM 9)) (C := RX7) (T := TX7) (N := 36) hx hb hts i_X7_merge_X7 hown hK hw.1 0 rfl rfl 15 (by decide) (hts _ m_X7_merge_9) (fun _ h9 => h9) rfl dX7_merge_294 ?_
          refine lv_bipush (v := 8) hx hb dX7_merge_297 (by decide) ?_
          refine lv_iload_n hx hb dX7_merge_299 rfl (lv_at hl 3 rfl) ?_
          refine lv_imul hx hb dX7_merge_300 ?_
          refine lv_iload hx hb dX7_merge_301 (lv_at hl 5 rfl) ?_
          refine lv_iadd hx hb dX7_merge_303 ?_
          have g43 := ix_in (gd_l hf)
          replace hf := gd_r hf
          refine va_iald hx hb hK hw.1 9 0 rfl rfl g43 dX7_merge_304 ?_
          have g44 := ix_in (gd_l hf)
          replace hf := gd_r hf
          refine va_iald hx hb hK hw.1 5 0 rfl rfl g44 dX7_merge_305 ?_
          refine lv_aload_n hx hb dX7_merge_306 rfl (lv_at hl 2 rfl) ?_
          refine va_get (D := (dC, dI)) (ci := 7) (v := .ref (aM 23)) (C := RX7) (T := TX7) (N := 36) hx hb hts i_X7_merge_X7 hown hK hw.1 0 rfl rfl 35 (by decide) (hts _ m_X7_merge_5) (fun _ h9 => h9) rfl dX7_merge_307 ?_
          refine lv_iload hx hb dX7_merge_310 (lv_at hl 5 rfl) ?_
          have g45 := ix_in (gd_l hf)
          replace hf := gd_r hf
          refine va_iald hx hb hK hw.1 23 0 rfl rfl g45 dX7_merge_312 ?_
          refine lv_iadd hx hb dX7_merge_313 ?_
          have g46 := ix_in (gd_l hf)
          replace hf := gd_r hf
          refine va_iald hx hb hK hw.1 7 0 rfl rfl g46 dX7_merge_314 ?_
          refine lv_topi (fun x47 ex47 => ?_)
          replace hf := nl_at hf ex47
          have g48 := ix_in (gd_l hf)
          replace hf := gd_r hf
          refine g_iast hx hb hK hw 7 0 rfl rfl g48 dX7_merge_315 (fun H locs hw => ?_)
          replace hw : Wd (dC, dI) A s.heap H locs (w_M aM cI cJ cZ M_sorts M_values M_rows M_placeOf M_falling M_made M_runs M_allRuns M_begin M_size (upd M_pool M_pooled.toNatClampNeg x47) M_pooled M_ways M_merges M_takes M_taken M_parts M_every M_samples M_sample M_ends M_partSize M_merged M_most M_done M_on M_ticks M_mergedAll M_again M_paces M_up M_byHost M_heap M_used M_planned M_gone) := hw
          refine lv_aload_n hx hb dX7_merge_316 rfl (lv_at hl 2 rfl) ?_
          refine lv_dup hx hb dX7_merge_317 rfl ?_
          refine va_get (D := (dC, dI)) (ci := 7) (v := .int M_pooled) (C := RX7) (T := TX7) (N := 36) hx hb hts i_X7_merge_X7 hown hK hw.1 0 rfl rfl 11 (by decide) (hts _ m_X7_merge_3) (fun _ h9 => h9) rfl dX7_merge_318 ?_
          refine lv_iconst (v := 1) hx hb dX7_merge_321 (by decide) ?_
          refine lv_iadd hx hb dX7_merge_322 ?_
          refine lv_topi (fun x49 ex49 => ?_)
          replace hf := nl_at hf ex49
          refine g_put (D := (dC, dI)) (ci := 7) (v := .int x49) (ty := .int) (C := RX7) (T := TX7) (N := 36) hx hb hts i_X7_merge_X7 tyX7 tyX7_ok nmX7 hown hK hw 0 rfl rfl 11 (by decide) (hts _ m_X7_merge_3) (fun _ h9 => h9) rfl (by decide +kernel) rfl rfl (Nat.le_of_ble_eq_true rfl) dX7_merge_323 (fun H locs hw => ?_)
          replace hw : Wd (dC, dI) A s.heap H locs (w_M aM cI cJ cZ M_sorts M_values M_rows M_placeOf M_falling M_made M_runs M_allRuns M_begin M_size (upd M_pool M_pooled.toNatClampNeg x47) x49 M_ways M_merges M_takes M_taken M_parts M_every M_samples M_sample M_ends M_partSize M_merged M_most M_done M_on M_ticks M_mergedAll M_again M_paces M_up M_byHost M_heap M_used M_planned M_gone) := hw
          refine lv_aload_n hx hb dX7_merge_326 rfl (lv_at hl 2 rfl) ?_
          refine va_get (D := (dC, dI)) (ci := 7) (v := .ref (aM 6)) (C := RX7) (T := TX7) (N := 36) hx hb hts i_X7_merge_X7 hown hK hw.1 0 rfl rfl 9 (by decide) (hts _ m_X7_merge_7) (fun _ h9 => h9) rfl dX7_merge_327 ?_
          refine lv_iload_n hx hb dX7_merge_330 rfl (lv_at hl 4 rfl) ?_
          refine lv_dup2_11 hx hb dX7_merge_331 rfl rfl ?_
          have g50 := ix_in (gd_l hf)
          replace hf := gd_r hf
          refine va_iald hx hb hK hw.1 6 0 rfl rfl g50 dX7_merge_332 ?_
          refine lv_iconst (v := 1) hx hb dX7_merge_333 (by decide) ?_
          refine lv_iadd hx hb dX7_merge_334 ?_
          refine lv_topi (fun x51 ex51 => ?_)
          replace hf := nl_at hf ex51
          have g52 := ix_in (gd_l hf)
          replace hf := gd_r hf
          refine g_iast hx hb hK hw 6 0 rfl rfl g52 dX7_merge_335 (fun H locs hw => ?_)
          replace hw : Wd (dC, dI) A s.heap H locs (w_M aM cI cJ cZ M_sorts M_values M_rows M_placeOf M_falling M_made M_runs M_allRuns M_begin (upd M_size v3.toNatClampNeg x51) (upd M_pool M_pooled.toNatClampNeg x47) x49 M_ways M_merges M_takes M_taken M_parts M_every M_samples M_sample M_ends M_partSize M_merged M_most M_done M_on M_ticks M_mergedAll M_again M_paces M_up M_byHost M_heap M_used M_planned M_gone) := hw
          refine lv_aload_n hx hb dX7_merge_336 rfl (lv_at hl 2 rfl) ?_
          refine va_get (D := (dC, dI)) (ci := 7) (v := .ref (aM 23)) (C := RX7) (T := TX7) (N := 36) hx hb hts i_X7_merge_X7 hown hK hw.1 0 rfl rfl 35 (by decide) (hts _ m_X7_merge_5) (fun _ h9 => h9) rfl dX7_merge_337 ?_
          refine lv_iload hx hb dX7_merge_340 (lv_at hl 5 rfl) ?_
          refine lv_dup2_11 hx hb dX7_merge_342 rfl rfl ?_
          have g53 := ix_in (gd_l hf)
          replace hf := gd_r hf
          refine va_iald hx hb hK hw.1 23 0 rfl rfl g53 dX7_merge_343 ?_
          refine lv_iconst (v := 1) hx hb dX7_merge_344 (by decide) ?_
          refine lv_iadd hx hb dX7_merge_345 ?_
          refine lv_topi (fun x54 ex54 => ?_)
          replace hf := nl_at hf ex54
          have g55 := ix_in (gd_l hf)
          replace hf := gd_r hf
          refine g_iast hx hb hK hw 23 0 rfl rfl g55 dX7_merge_346 (fun H locs hw => ?_)
          replace hw : Wd (dC, dI) A s.heap H locs (w_M aM cI cJ cZ M_sorts M_values M_rows M_placeOf M_falling M_made M_runs M_allRuns M_begin (upd M_size v3.toNatClampNeg x51) (upd M_pool M_pooled.toNatClampNeg x47) x49 M_ways M_merges M_takes M_taken M_parts M_every M_samples M_sample M_ends M_partSize M_merged M_most M_done M_on M_ticks M_mergedAll M_again M_paces M_up M_byHost M_heap M_used M_planned (upd M_gone e36.toNatClampNeg x54)) := hw
          refine lv_goto (tgt := 114) hx hb dX7_merge_347 (by decide) ?_
          exact ih _ _ _ _ _ _ _ _ _ _ _ hf _ _ _ hw (lv_sub hl [2, 0, 3, 4, 1] rfl) kx
        · replace hf := it_t hf b41
          refine lv_goto (tgt := 114) hx hb dX7_merge_267 (by decide) ?_
          exact ih _ _ _ _ _ _ _ _ _ _ _ hf _ _ _ hw (lv_sub hl [1, 2, 3, 4, 0] rfl) kx
      · replace hf := h40
        refine lv_icmp_eq (tgt := 259) hx hb dX7_merge_252 (by decide) (fun b56 => ?_) (fun b56 => ?_)
        · replace hf := it_t hf b56
          refine lv_iconst (v := 0) hx hb dX7_merge_259 (by decide) ?_
          cases hf
          exact jn _ _ _ hw (lv_sub hl [0, 1, 2, 3, 4, 5] rfl)
        · replace hf := it_f hf b56
          refine lv_iconst (v := 1) hx hb dX7_merge_255 (by decide) ?_
          refine lv_goto (tgt := 260) hx hb dX7_merge_256 (by decide) ?_
          cases hf
          exact jn _ _ _ hw (lv_sub hl [0, 1, 2, 3, 4, 5] rfl)
set_option maxHeartbeats 4000000 in
set_option maxRecDepth 100000 in
theorem t_X7_merge_60 {p : Program} {l : Launch} {e : Env} {s : State} {m : MethodId} {args : Array Value} {below : List Frame} {meth : Method} {c : Code} {Q : State → Prop} {dC : Nat → ClassId} {dI : Nat → Nat → Nat} {cI cJ cZ : ClassId} {A : Nat → Prop} (aM : Nat → Nat) (X : Cx p m c cX7_merge 9 s args wsX7_merge RX7 (dC, dI) (tyl cI cJ cZ) A) (N : Nat) (M_sorts : (Nat → Int32)) (M_values : (Nat → Int32)) (M_rows : Int32) (M_placeOf : (Nat → Int32)) (M_falling : (Nat → Int32)) (M_made : Int32) (M_runs : Int32) (M_ways : Int32) (M_merges : Int32) (M_takes : (Nat → Int32)) (M_taken : (Nat → Int32)) (M_parts : Int32) (M_every : Int32) (M_samples : Int32) (M_sample : (Nat → Int32)) (M_ends : (Nat → Int32)) (M_partSize : (Nat → Int32)) (M_merged : (Nat → Int32)) (M_most : (Nat → Int32)) (M_done : (Nat → Int32)) (M_on : (Nat → Int32)) (M_ticks : Int32) (M_mergedAll : Int32) (M_again : Int32) (M_paces : (Nat → Int32)) (M_up : (Nat → Int32)) (M_byHost : (Nat → Int32)) (M_heap : (Nat → Int32)) (M_used : (Nat → Int32)) (M_planned : (Nat → Int32))  :
    ∀ (n : Nat) (v1 : Int32) (v2 : Int32) (M_allRuns : Int32) (M_begin : (Nat → Int32)) (M_size : (Nat → Int32)) (M_pool : (Nat → Int32)) (M_pooled : Int32) (M_gone : (Nat → Int32)) (e1 : Int32) (e_M_allRuns : Int32) (e_M_begin : (Nat → Int32)) (e_M_size : (Nat → Int32)) (e_M_pool : (Nat → Int32)) (e_M_pooled : Int32) (e_M_gone : (Nat → Int32)), l_X7_merge_60 N M_sorts M_values M_placeOf M_falling M_merges M_takes M_taken n v1 v2 M_allRuns M_begin M_size M_pool M_pooled M_gone = some (e1, e_M_allRuns, e_M_begin, e_M_size, e_M_pool, e_M_pooled, e_M_gone) → ∀ (H : Heap) (locs : List Loc) (ls : Array Slot), Wd (dC, dI) A s.heap H locs (w_M aM cI cJ cZ M_sorts M_values M_rows M_placeOf M_falling M_made M_runs M_allRuns M_begin M_size M_pool M_pooled M_ways M_merges M_takes M_taken M_parts M_every M_samples M_sample M_ends M_partSize M_merged M_most M_done M_on M_ticks M_mergedAll M_again M_paces M_up M_byHost M_heap M_used M_planned M_gone) → lv_has ls 9 [(0, .ref (aM 0)), (1, .int v1), (2, .int v2)] → (∀ (H : Heap) (locs : List Loc) (ls : Array Slot), Wd (dC, dI) A s.heap H locs (w_M aM cI cJ cZ M_sorts M_values M_rows M_placeOf M_falling M_made M_runs e_M_allRuns e_M_begin e_M_size e_M_pool e_M_pooled M_ways M_merges M_takes M_taken M_parts M_every M_samples M_sample M_ends M_partSize M_merged M_most M_done M_on M_ticks M_mergedAll M_again M_paces M_up M_byHost M_heap M_used M_planned e_M_gone) → lv_has ls 9 [(1, .int e1)] → W p l e rm_X7_merge s m args below meth c H locs 0 0 Q (F0 m 366 ls [])) → W p l e rm_X7_merge s m args below meth c H locs 0 0 Q (F0 m 60 ls []) := by
  obtain ⟨hx, hb, hml, hown, hts⟩ := X.1
  have hK := X.2.1
  have hN := X.2.2.2
  intro n
  induction n with
  | zero =>
    intro _ _ _ _ _ _ _ _ _ _ _ _ _ _ _ hf
    cases hf
  | succ n ih =>
    intro v1 v2 M_allRuns M_begin M_size M_pool M_pooled M_gone e1 e_M_allRuns e_M_begin e_M_size e_M_pool e_M_pooled e_M_gone hf H locs ls hw hl kx
    rw [l_X7_merge_60] at hf
    refine lv_iload_n hx hb dX7_merge_60 rfl (lv_at hl 2 rfl) ?_
    refine lv_aload_n hx hb dX7_merge_61 rfl (lv_at hl 0 rfl) ?_
    refine va_get (D := (dC, dI)) (ci := 7) (v := .int M_merges) (C := RX7) (T := TX7) (N := 36) hx hb hts i_X7_merge_X7 hown hK hw.1 0 rfl rfl 13 (by decide) (hts _ m_X7_merge_4) (fun _ h9 => h9) rfl dX7_merge_62 ?_
    refine lv_icmp_ge (tgt := 366) hx hb dX7_merge_65 (by decide) (fun b4 => ?_) (fun b4 => ?_)
    · replace hf := it_t hf b4
      cases hf
      exact kx _ _ _ hw (lv_sub hl [1] rfl)
    · replace hf := it_f hf b4
      refine lv_iconst (v := 0) hx hb dX7_merge_68 (by decide) ?_
      refine lv_istore_n (lv' := [(3, .int 0), (0, .ref (aM 0)), (1, .int v1), (2, .int v2)]) hx hb dX7_merge_69 rfl hl (by decide) rfl (fun ls hl => ?_)
      obtain ⟨e8, h9, hf⟩ := bd1_ob hf
      refine t_X7_merge_70 aM X N M_sorts M_values M_rows M_placeOf M_falling M_made M_runs M_allRuns M_begin M_size M_pool M_pooled M_ways M_merges M_takes M_taken M_parts M_every M_samples M_sample M_ends M_partSize M_merged M_most M_done M_on M_ticks M_mergedAll M_again M_paces M_up M_byHost M_heap M_used M_planned v1 v2 N _ _ _ h9 _ _ _ hw (lv_sub hl [1, 2, 3, 0] rfl) (fun H locs ls hw hl => ?_)
      refine lv_aload_n hx hb dX7_merge_89 rfl (lv_at hl 0 rfl) ?_
      refine va_get (D := (dC, dI)) (ci := 7) (v := .int M_allRuns) (C := RX7) (T := TX7) (N := 36) hx hb hts i_X7_merge_X7 hown hK hw.1 0 rfl rfl 7 (by decide) (hts _ m_X7_merge_2) (fun _ h9 => h9) rfl dX7_merge_90 ?_
      refine lv_istore_n (lv' := [(3, .int M_allRuns), (0, .ref (aM 0)), (1, .int v1), (2, .int v2)]) hx hb dX7_merge_93 rfl hl (by decide) rfl (fun ls hl => ?_)
      refine lv_aload_n hx hb dX7_merge_94 rfl (lv_at hl 1 rfl) ?_
      refine va_get (D := (dC, dI)) (ci := 7) (v := .ref (aM 5)) (C := RX7) (T := TX7) (N := 36) hx hb hts i_X7_merge_X7 hown hK hw.1 0 rfl rfl 8 (by decide) (hts _ m_X7_merge_6) (fun _ h9 => h9) rfl dX7_merge_95 ?_
      refine lv_iload_n hx hb dX7_merge_98 rfl (lv_at hl 0 rfl) ?_
      refine lv_aload_n hx hb dX7_merge_99 rfl (lv_at hl 1 rfl) ?_
      refine va_get (D := (dC, dI)) (ci := 7) (v := .int M_pooled) (C := RX7) (T := TX7) (N := 36) hx hb hts i_X7_merge_X7 hown hK hw.1 0 rfl rfl 11 (by decide) (hts _ m_X7_merge_3) (fun _ h9 => h9) rfl dX7_merge_100 ?_
      have g10 := ix_in (gd_l hf)
      replace hf := gd_r hf
      refine g_iast hx hb hK hw 5 0 rfl rfl g10 dX7_merge_103 (fun H locs hw => ?_)
      replace hw : Wd (dC, dI) A s.heap H locs (w_M aM cI cJ cZ M_sorts M_values M_rows M_placeOf M_falling M_made M_runs M_allRuns (upd M_begin M_allRuns.toNatClampNeg M_pooled) M_size M_pool M_pooled M_ways M_merges M_takes M_taken M_parts M_every M_samples M_sample M_ends M_partSize M_merged M_most M_done M_on M_ticks M_mergedAll M_again M_paces M_up M_byHost M_heap M_used M_planned e8) := hw
      refine lv_aload_n hx hb dX7_merge_104 rfl (lv_at hl 1 rfl) ?_
      refine va_get (D := (dC, dI)) (ci := 7) (v := .ref (aM 6)) (C := RX7) (T := TX7) (N := 36) hx hb hts i_X7_merge_X7 hown hK hw.1 0 rfl rfl 9 (by decide) (hts _ m_X7_merge_7) (fun _ h9 => h9) rfl dX7_merge_105 ?_
      refine lv_iload_n hx hb dX7_merge_108 rfl (lv_at hl 0 rfl) ?_
      refine lv_iconst (v := 0) hx hb dX7_merge_109 (by decide) ?_
      have g11 := ix_in (gd_l hf)
      replace hf := gd_r hf
      refine g_iast hx hb hK hw 6 0 rfl rfl g11 dX7_merge_110 (fun H locs hw => ?_)
      replace hw : Wd (dC, dI) A s.heap H locs (w_M aM cI cJ cZ M_sorts M_values M_rows M_placeOf M_falling M_made M_runs M_allRuns (upd M_begin M_allRuns.toNatClampNeg M_pooled) (upd M_size M_allRuns.toNatClampNeg 0) M_pool M_pooled M_ways M_merges M_takes M_taken M_parts M_every M_samples M_sample M_ends M_partSize M_merged M_most M_done M_on M_ticks M_mergedAll M_again M_paces M_up M_byHost M_heap M_used M_planned e8) := hw
      refine lv_iconst (v := 1) hx hb dX7_merge_111 (by decide) ?_
      refine lv_istore (lv' := [(4, .int 1), (3, .int M_allRuns), (0, .ref (aM 0)), (1, .int v1), (2, .int v2)]) hx hb dX7_merge_112 hl (by decide) rfl (fun ls hl => ?_)
      obtain ⟨e57, e58, e59, e60, e61, h62, hf⟩ := bd5_ob hf
      refine t_X7_merge_114 aM X N M_sorts M_values M_rows M_placeOf M_falling M_made M_runs M_allRuns (upd M_begin M_allRuns.toNatClampNeg M_pooled) M_ways M_merges M_takes M_taken M_parts M_every M_samples M_sample M_ends M_partSize M_merged M_most M_done M_on M_ticks M_mergedAll M_again M_paces M_up M_byHost M_heap M_used M_planned v2 M_allRuns N _ _ _ _ _ _ _ _ _ _ _ h62 _ _ _ hw (lv_sub hl [2, 3, 4, 1, 0] rfl) (fun H locs ls hw hl => ?_)
      refine lv_aload_n hx hb dX7_merge_350 rfl (lv_at hl 0 rfl) ?_
      refine lv_dup hx hb dX7_merge_351 rfl ?_
      refine va_get (D := (dC, dI)) (ci := 7) (v := .int M_allRuns) (C := RX7) (T := TX7) (N := 36) hx hb hts i_X7_merge_X7 hown hK hw.1 0 rfl rfl 7 (by decide) (hts _ m_X7_merge_2) (fun _ h9 => h9) rfl dX7_merge_352 ?_
      refine lv_iconst (v := 1) hx hb dX7_merge_355 (by decide) ?_
      refine lv_iadd hx hb dX7_merge_356 ?_
      refine lv_topi (fun x63 ex63 => ?_)
      replace hf := nl_at hf ex63
      refine g_put (D := (dC, dI)) (ci := 7) (v := .int x63) (ty := .int) (C := RX7) (T := TX7) (N := 36) hx hb hts i_X7_merge_X7 tyX7 tyX7_ok nmX7 hown hK hw 0 rfl rfl 7 (by decide) (hts _ m_X7_merge_2) (fun _ h9 => h9) rfl (by decide +kernel) rfl rfl (Nat.le_of_ble_eq_true rfl) dX7_merge_357 (fun H locs hw => ?_)
      replace hw : Wd (dC, dI) A s.heap H locs (w_M aM cI cJ cZ M_sorts M_values M_rows M_placeOf M_falling M_made M_runs x63 (upd M_begin M_allRuns.toNatClampNeg M_pooled) e58 e59 e60 M_ways M_merges M_takes M_taken M_parts M_every M_samples M_sample M_ends M_partSize M_merged M_most M_done M_on M_ticks M_mergedAll M_again M_paces M_up M_byHost M_heap M_used M_planned e61) := hw
      obtain ⟨x64, ex64⟩ : ∃ y : Int32, y = v2 + 1 := ⟨_, rfl⟩
      replace hf := nl_at hf ex64
      refine lv_iinc (v := x64) (lv' := [(2, .int x64), (0, .ref (aM 0)), (1, .int e57)]) hx hb dX7_merge_360 hl (k := 2) rfl (by rw [ex64]; rfl) (by decide) rfl (fun ls hl => ?_)
      refine lv_goto (tgt := 60) hx hb dX7_merge_363 (by decide) ?_
      exact ih _ _ _ _ _ _ _ _ _ _ _ _ _ _ _ hf _ _ _ hw (lv_sub hl [1, 2, 0] rfl) kx
set_option maxHeartbeats 4000000 in
set_option maxRecDepth 100000 in
theorem c_X7_merge (l : Launch) (dC : Nat → ClassId) (dI : Nat → Nat → Nat) (cI cJ cZ : ClassId) (aM : Nat → Nat) (N : Nat) (M_sorts : (Nat → Int32)) (M_values : (Nat → Int32)) (M_rows : Int32) (M_placeOf : (Nat → Int32)) (M_falling : (Nat → Int32)) (M_made : Int32) (M_runs : Int32) (M_allRuns : Int32) (M_begin : (Nat → Int32)) (M_size : (Nat → Int32)) (M_pool : (Nat → Int32)) (M_pooled : Int32) (M_ways : Int32) (M_merges : Int32) (M_takes : (Nat → Int32)) (M_taken : (Nat → Int32)) (M_parts : Int32) (M_every : Int32) (M_samples : Int32) (M_sample : (Nat → Int32)) (M_ends : (Nat → Int32)) (M_partSize : (Nat → Int32)) (M_merged : (Nat → Int32)) (M_most : (Nat → Int32)) (M_done : (Nat → Int32)) (M_on : (Nat → Int32)) (M_ticks : Int32) (M_mergedAll : Int32) (M_again : Int32) (M_paces : (Nat → Int32)) (M_up : (Nat → Int32)) (M_byHost : (Nat → Int32)) (M_heap : (Nat → Int32)) (M_used : (Nat → Int32)) (M_planned : (Nat → Int32)) (M_gone : (Nat → Int32))  {r : Int32} {o_M_allRuns : Int32} {o_M_begin : (Nat → Int32)} {o_M_size : (Nat → Int32)} {o_M_pool : (Nat → Int32)} {o_M_pooled : Int32} {o_M_gone : (Nat → Int32)} (hf : f_X7_merge N M_sorts M_values M_placeOf M_falling M_runs M_allRuns M_begin M_size M_pool M_pooled M_ways M_merges M_takes M_taken M_gone  = some (r, o_M_allRuns, o_M_begin, o_M_size, o_M_pool, o_M_pooled, o_M_gone)) :
    CtI l yX7_merge wsX7_merge rm_X7_merge (dC, dI) (tyl cI cJ cZ) [.ref (aM 0)] (w_M aM cI cJ cZ M_sorts M_values M_rows M_placeOf M_falling M_made M_runs M_allRuns M_begin M_size M_pool M_pooled M_ways M_merges M_takes M_taken M_parts M_every M_samples M_sample M_ends M_partSize M_merged M_most M_done M_on M_ticks M_mergedAll M_again M_paces M_up M_byHost M_heap M_used M_planned M_gone) (w_M aM cI cJ cZ M_sorts M_values M_rows M_placeOf M_falling M_made M_runs o_M_allRuns o_M_begin o_M_size o_M_pool o_M_pooled M_ways M_merges M_takes M_taken M_parts M_every M_samples M_sample M_ends M_partSize M_merged M_most M_done M_on M_ticks M_mergedAll M_again M_paces M_up M_byHost M_heap M_used M_planned o_M_gone) r := by
  refine startI (cc := cX7_merge) (maxL := 9) (rt := (some .int)) (by decide +kernel) rfl (Nat.le_of_ble_eq_true rfl) ?_
  intro p e s m below meth c A ls X hr hlocks hw hl
  replace X : Cx p m c cX7_merge 9 s _ wsX7_merge RX7 (dC, dI) (tyl cI cJ cZ) A := X
  replace hl : lv_has ls 9 [(0, .ref (aM 0))] := hl
  obtain ⟨hx, hb, hml, hown, hts⟩ := X.1
  have hK := X.2.1
  have hN := X.2.2.2
  unfold f_X7_merge at hf
  refine lv_aload_n hx hb dX7_merge_0 rfl (lv_at hl 0 rfl) ?_
  refine va_get (D := (dC, dI)) (ci := 7) (v := .int M_ways) (C := RX7) (T := TX7) (N := 36) hx hb hts i_X7_merge_X7 hown hK hw.1 0 rfl rfl 12 (by decide) (hts _ m_X7_merge_0) (fun _ h9 => h9) rfl dX7_merge_1 ?_
  refine lv_iconst (v := (-1)) hx hb dX7_merge_4 (by decide) ?_
  refine lv_icmp_ne (tgt := 10) hx hb dX7_merge_5 (by decide) (fun b1 => ?_) (fun b1 => ?_)
  · replace hf := it_f hf b1
    refine lv_aload_n hx hb dX7_merge_10 rfl (lv_at hl 0 rfl) ?_
    refine lv_aload_n hx hb dX7_merge_11 rfl (lv_at hl 0 rfl) ?_
    refine va_get (D := (dC, dI)) (ci := 7) (v := .int M_runs) (C := RX7) (T := TX7) (N := 36) hx hb hts i_X7_merge_X7 hown hK hw.1 0 rfl rfl 6 (by decide) (hts _ m_X7_merge_1) (fun _ h9 => h9) rfl dX7_merge_12 ?_
    refine g_put (D := (dC, dI)) (ci := 7) (v := .int M_runs) (ty := .int) (C := RX7) (T := TX7) (N := 36) hx hb hts i_X7_merge_X7 tyX7 tyX7_ok nmX7 hown hK hw 0 rfl rfl 7 (by decide) (hts _ m_X7_merge_2) (fun _ h9 => h9) rfl (by decide +kernel) rfl rfl (Nat.le_of_ble_eq_true rfl) dX7_merge_15 (fun H locs hw => ?_)
    replace hw : Wd (dC, dI) A s.heap H locs (w_M aM cI cJ cZ M_sorts M_values M_rows M_placeOf M_falling M_made M_runs M_runs M_begin M_size M_pool M_pooled M_ways M_merges M_takes M_taken M_parts M_every M_samples M_sample M_ends M_partSize M_merged M_most M_done M_on M_ticks M_mergedAll M_again M_paces M_up M_byHost M_heap M_used M_planned M_gone) := hw
    refine lv_aload_n hx hb dX7_merge_18 rfl (lv_at hl 0 rfl) ?_
    refine lv_aload_n hx hb dX7_merge_19 rfl (lv_at hl 0 rfl) ?_
    refine va_get (D := (dC, dI)) (ci := 7) (v := .int M_runs) (C := RX7) (T := TX7) (N := 36) hx hb hts i_X7_merge_X7 hown hK hw.1 0 rfl rfl 6 (by decide) (hts _ m_X7_merge_1) (fun _ h9 => h9) rfl dX7_merge_20 ?_
    obtain ⟨y2, h3, hf⟩ := bd1_ob hf
    refine join_ (nL := 9) (dC, dI) A 53 [.int y2, .ref (aM 0)] (w_M aM cI cJ cZ M_sorts M_values M_rows M_placeOf M_falling M_made M_runs M_runs M_begin M_size M_pool M_pooled M_ways M_merges M_takes M_taken M_parts M_every M_samples M_sample M_ends M_partSize M_merged M_most M_done M_on M_ticks M_mergedAll M_again M_paces M_up M_byHost M_heap M_used M_planned M_gone) [(0, .ref (aM 0))] (fun H locs ls hw hl => ?_) (fun jn => ?_)
    · refine g_put (D := (dC, dI)) (ci := 7) (v := .int y2) (ty := .int) (C := RX7) (T := TX7) (N := 36) hx hb hts i_X7_merge_X7 tyX7 tyX7_ok nmX7 hown hK hw 0 rfl rfl 11 (by decide) (hts _ m_X7_merge_3) (fun _ h9 => h9) rfl (by decide +kernel) rfl rfl (Nat.le_of_ble_eq_true rfl) dX7_merge_53 (fun H locs hw => ?_)
      replace hw : Wd (dC, dI) A s.heap H locs (w_M aM cI cJ cZ M_sorts M_values M_rows M_placeOf M_falling M_made M_runs M_runs M_begin M_size M_pool y2 M_ways M_merges M_takes M_taken M_parts M_every M_samples M_sample M_ends M_partSize M_merged M_most M_done M_on M_ticks M_mergedAll M_again M_paces M_up M_byHost M_heap M_used M_planned M_gone) := hw
      refine lv_iconst (v := 0) hx hb dX7_merge_56 (by decide) ?_
      refine lv_istore_n (lv' := [(1, .int 0), (0, .ref (aM 0))]) hx hb dX7_merge_57 rfl hl (by decide) rfl (fun ls hl => ?_)
      refine lv_iconst (v := 0) hx hb dX7_merge_58 (by decide) ?_
      refine lv_istore_n (lv' := [(2, .int 0), (1, .int 0), (0, .ref (aM 0))]) hx hb dX7_merge_59 rfl hl (by decide) rfl (fun ls hl => ?_)
      obtain ⟨e65, e66, e67, e68, e69, e70, e71, h72, hf⟩ := bd7_ob hf
      refine t_X7_merge_60 aM X N M_sorts M_values M_rows M_placeOf M_falling M_made M_runs M_ways M_merges M_takes M_taken M_parts M_every M_samples M_sample M_ends M_partSize M_merged M_most M_done M_on M_ticks M_mergedAll M_again M_paces M_up M_byHost M_heap M_used M_planned N _ _ _ _ _ _ _ _ _ _ _ _ _ _ _ h72 _ _ _ hw (lv_sub hl [2, 1, 0] rfl) (fun H locs ls hw hl => ?_)
      refine lv_iload_n hx hb dX7_merge_366 rfl (lv_at hl 0 rfl) ?_
      cases hf
      exact endI X hr rfl hlocks rfl hw dX7_merge_367
    · replace hf := h3
      refine lv_if_ne (tgt := 30) hx hb dX7_merge_23 (by decide) (fun b73 => ?_) (fun b73 => ?_)
      · replace hf := it_f hf b73
        refine lv_aload_n hx hb dX7_merge_30 rfl (lv_at hl 0 rfl) ?_
        refine va_get (D := (dC, dI)) (ci := 7) (v := .ref (aM 5)) (C := RX7) (T := TX7) (N := 36) hx hb hts i_X7_merge_X7 hown hK hw.1 0 rfl rfl 8 (by decide) (hts _ m_X7_merge_6) (fun _ h9 => h9) rfl dX7_merge_31 ?_
        refine lv_aload_n hx hb dX7_merge_34 rfl (lv_at hl 0 rfl) ?_
        refine va_get (D := (dC, dI)) (ci := 7) (v := .int M_runs) (C := RX7) (T := TX7) (N := 36) hx hb hts i_X7_merge_X7 hown hK hw.1 0 rfl rfl 6 (by decide) (hts _ m_X7_merge_1) (fun _ h9 => h9) rfl dX7_merge_35 ?_
        refine lv_iconst (v := 1) hx hb dX7_merge_38 (by decide) ?_
        refine lv_isub hx hb dX7_merge_39 ?_
        have g74 := ix_in (gd_l hf)
        replace hf := gd_r hf
        refine va_iald hx hb hK hw.1 5 0 rfl rfl g74 dX7_merge_40 ?_
        refine lv_aload_n hx hb dX7_merge_41 rfl (lv_at hl 0 rfl) ?_
        refine va_get (D := (dC, dI)) (ci := 7) (v := .ref (aM 6)) (C := RX7) (T := TX7) (N := 36) hx hb hts i_X7_merge_X7 hown hK hw.1 0 rfl rfl 9 (by decide) (hts _ m_X7_merge_7) (fun _ h9 => h9) rfl dX7_merge_42 ?_
        refine lv_aload_n hx hb dX7_merge_45 rfl (lv_at hl 0 rfl) ?_
        refine va_get (D := (dC, dI)) (ci := 7) (v := .int M_runs) (C := RX7) (T := TX7) (N := 36) hx hb hts i_X7_merge_X7 hown hK hw.1 0 rfl rfl 6 (by decide) (hts _ m_X7_merge_1) (fun _ h9 => h9) rfl dX7_merge_46 ?_
        refine lv_iconst (v := 1) hx hb dX7_merge_49 (by decide) ?_
        refine lv_isub hx hb dX7_merge_50 ?_
        have g75 := ix_in (gd_l hf)
        replace hf := gd_r hf
        refine va_iald hx hb hK hw.1 6 0 rfl rfl g75 dX7_merge_51 ?_
        refine lv_iadd hx hb dX7_merge_52 ?_
        cases hf
        exact jn _ _ _ hw (lv_sub hl [0] rfl)
      · replace hf := it_t hf b73
        refine lv_iconst (v := 0) hx hb dX7_merge_26 (by decide) ?_
        refine lv_goto (tgt := 53) hx hb dX7_merge_27 (by decide) ?_
        cases hf
        exact jn _ _ _ hw (lv_sub hl [0] rfl)
  · replace hf := it_t hf b1
    refine lv_iconst (v := (-1)) hx hb dX7_merge_8 (by decide) ?_
    cases hf
    exact endI X hr rfl hlocks rfl hw dX7_merge_9
