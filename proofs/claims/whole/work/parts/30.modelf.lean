def rm_X7_bound : Room := { frames := 0, cells := 0, slots := 0, locals := 0 }
set_option maxRecDepth 20000 in
theorem i_X7_bound_X7 : ∀ w ∈ u_ws RX7 TX7 36, w ∈ wsX7_bound := by decide +kernel
set_option maxRecDepth 20000 in
theorem m_X7_bound_0 : Cond.fieldLink RX7 62 "GreatSortModel" "parts" "I" ∈ wsX7_bound := by decide +kernel
set_option maxRecDepth 20000 in
theorem m_X7_bound_1 : Cond.fieldLink RX7 65 "GreatSortModel" "every" "I" ∈ wsX7_bound := by decide +kernel
set_option maxRecDepth 20000 in
theorem m_X7_bound_2 : Cond.fieldLink RX7 68 "GreatSortModel" "samples" "I" ∈ wsX7_bound := by decide +kernel
set_option maxRecDepth 20000 in
theorem m_X7_bound_3 : Cond.fieldLink RX7 31 "GreatSortModel" "runs" "I" ∈ wsX7_bound := by decide +kernel
set_option maxHeartbeats 4000000 in
set_option maxRecDepth 100000 in
theorem c_X7_bound (l : Launch) (dC : Nat → ClassId) (dI : Nat → Nat → Nat) (cI cJ cZ : ClassId) (aM : Nat → Nat) (N : Nat) (M_sorts : (Nat → Int32)) (M_values : (Nat → Int32)) (M_rows : Int32) (M_placeOf : (Nat → Int32)) (M_falling : (Nat → Int32)) (M_made : Int32) (M_runs : Int32) (M_allRuns : Int32) (M_begin : (Nat → Int32)) (M_size : (Nat → Int32)) (M_pool : (Nat → Int32)) (M_pooled : Int32) (M_ways : Int32) (M_merges : Int32) (M_takes : (Nat → Int32)) (M_taken : (Nat → Int32)) (M_parts : Int32) (M_every : Int32) (M_samples : Int32) (M_sample : (Nat → Int32)) (M_ends : (Nat → Int32)) (M_partSize : (Nat → Int32)) (M_merged : (Nat → Int32)) (M_most : (Nat → Int32)) (M_done : (Nat → Int32)) (M_on : (Nat → Int32)) (M_ticks : Int32) (M_mergedAll : Int32) (M_again : Int32) (M_paces : (Nat → Int32)) (M_up : (Nat → Int32)) (M_byHost : (Nat → Int32)) (M_heap : (Nat → Int32)) (M_used : (Nat → Int32)) (M_planned : (Nat → Int32)) (M_gone : (Nat → Int32))  {r : Int32} (hf : f_X7_bound N M_runs M_parts M_every M_samples  = some r) :
    CtI l yX7_bound wsX7_bound rm_X7_bound (dC, dI) (tyl cI cJ cZ) [.ref (aM 0)] (w_M aM cI cJ cZ M_sorts M_values M_rows M_placeOf M_falling M_made M_runs M_allRuns M_begin M_size M_pool M_pooled M_ways M_merges M_takes M_taken M_parts M_every M_samples M_sample M_ends M_partSize M_merged M_most M_done M_on M_ticks M_mergedAll M_again M_paces M_up M_byHost M_heap M_used M_planned M_gone) (w_M aM cI cJ cZ M_sorts M_values M_rows M_placeOf M_falling M_made M_runs M_allRuns M_begin M_size M_pool M_pooled M_ways M_merges M_takes M_taken M_parts M_every M_samples M_sample M_ends M_partSize M_merged M_most M_done M_on M_ticks M_mergedAll M_again M_paces M_up M_byHost M_heap M_used M_planned M_gone) r := by
  refine startI (cc := cX7_bound) (maxL := 1) (rt := (some .int)) (by decide +kernel) rfl (Nat.le_of_ble_eq_true rfl) ?_
  intro p e s m below meth c A ls X hr hlocks hw hl
  replace X : Cx p m c cX7_bound 1 s _ wsX7_bound RX7 (dC, dI) (tyl cI cJ cZ) A := X
  replace hl : lv_has ls 1 [(0, .ref (aM 0))] := hl
  obtain ⟨hx, hb, hml, hown, hts⟩ := X.1
  have hK := X.2.1
  have hN := X.2.2.2
  unfold f_X7_bound at hf
  refine lv_aload_n hx hb dX7_bound_0 rfl (lv_at hl 0 rfl) ?_
  refine va_get (D := (dC, dI)) (ci := 7) (v := .int M_parts) (C := RX7) (T := TX7) (N := 36) hx hb hts i_X7_bound_X7 hown hK hw.1 0 rfl rfl 16 (by decide) (hts _ m_X7_bound_0) (fun _ h9 => h9) rfl dX7_bound_1 ?_
  refine lv_if_ne (tgt := 11) hx hb dX7_bound_4 (by decide) (fun b1 => ?_) (fun b1 => ?_)
  · replace hf := it_f hf b1
    refine lv_aload_n hx hb dX7_bound_11 rfl (lv_at hl 0 rfl) ?_
    refine va_get (D := (dC, dI)) (ci := 7) (v := .int M_every) (C := RX7) (T := TX7) (N := 36) hx hb hts i_X7_bound_X7 hown hK hw.1 0 rfl rfl 17 (by decide) (hts _ m_X7_bound_1) (fun _ h9 => h9) rfl dX7_bound_12 ?_
    refine lv_aload_n hx hb dX7_bound_15 rfl (lv_at hl 0 rfl) ?_
    refine va_get (D := (dC, dI)) (ci := 7) (v := .int M_samples) (C := RX7) (T := TX7) (N := 36) hx hb hts i_X7_bound_X7 hown hK hw.1 0 rfl rfl 18 (by decide) (hts _ m_X7_bound_2) (fun _ h9 => h9) rfl dX7_bound_16 ?_
    refine lv_aload_n hx hb dX7_bound_19 rfl (lv_at hl 0 rfl) ?_
    refine va_get (D := (dC, dI)) (ci := 7) (v := .int M_parts) (C := RX7) (T := TX7) (N := 36) hx hb hts i_X7_bound_X7 hown hK hw.1 0 rfl rfl 16 (by decide) (hts _ m_X7_bound_0) (fun _ h9 => h9) rfl dX7_bound_20 ?_
    refine lv_iadd hx hb dX7_bound_23 ?_
    refine lv_iconst (v := 1) hx hb dX7_bound_24 (by decide) ?_
    refine lv_isub hx hb dX7_bound_25 ?_
    refine lv_aload_n hx hb dX7_bound_26 rfl (lv_at hl 0 rfl) ?_
    refine va_get (D := (dC, dI)) (ci := 7) (v := .int M_parts) (C := RX7) (T := TX7) (N := 36) hx hb hts i_X7_bound_X7 hown hK hw.1 0 rfl rfl 16 (by decide) (hts _ m_X7_bound_0) (fun _ h9 => h9) rfl dX7_bound_27 ?_
    have g2 := nz_ne (gd_l hf)
    replace hf := gd_r hf
    refine lv_idiv hx hb dX7_bound_30 g2 ?_
    refine lv_imul hx hb dX7_bound_31 ?_
    refine lv_aload_n hx hb dX7_bound_32 rfl (lv_at hl 0 rfl) ?_
    refine va_get (D := (dC, dI)) (ci := 7) (v := .int M_every) (C := RX7) (T := TX7) (N := 36) hx hb hts i_X7_bound_X7 hown hK hw.1 0 rfl rfl 17 (by decide) (hts _ m_X7_bound_1) (fun _ h9 => h9) rfl dX7_bound_33 ?_
    refine lv_iconst (v := 1) hx hb dX7_bound_36 (by decide) ?_
    refine lv_isub hx hb dX7_bound_37 ?_
    refine lv_aload_n hx hb dX7_bound_38 rfl (lv_at hl 0 rfl) ?_
    refine va_get (D := (dC, dI)) (ci := 7) (v := .int M_runs) (C := RX7) (T := TX7) (N := 36) hx hb hts i_X7_bound_X7 hown hK hw.1 0 rfl rfl 6 (by decide) (hts _ m_X7_bound_3) (fun _ h9 => h9) rfl dX7_bound_39 ?_
    refine lv_imul hx hb dX7_bound_42 ?_
    refine lv_iadd hx hb dX7_bound_43 ?_
    cases hf
    exact endI X hr rfl hlocks rfl hw dX7_bound_44
  · replace hf := it_t hf b1
    refine lv_iconst (v := (-1)) hx hb dX7_bound_7 (by decide) ?_
    refine lv_goto (tgt := 44) hx hb dX7_bound_8 (by decide) ?_
    cases hf
    exact endI X hr rfl hlocks rfl hw dX7_bound_44
def rm_X7_part : Room := { frames := 0, cells := 0, slots := 0, locals := 0 }
set_option maxRecDepth 20000 in
theorem i_X7_part_X7 : ∀ w ∈ u_ws RX7 TX7 36, w ∈ wsX7_part := by decide +kernel
set_option maxRecDepth 20000 in
theorem m_X7_part_0 : Cond.fieldLink RX7 62 "GreatSortModel" "parts" "I" ∈ wsX7_part := by decide +kernel
set_option maxRecDepth 20000 in
theorem m_X7_part_1 : Cond.fieldLink RX7 77 "GreatSortModel" "partSize" "[I" ∈ wsX7_part := by decide +kernel
set_option maxRecDepth 20000 in
theorem m_X7_part_2 : Cond.fieldLink RX7 80 "GreatSortModel" "merged" "[I" ∈ wsX7_part := by decide +kernel
set_option maxRecDepth 20000 in
theorem m_X7_part_3 : Cond.fieldLink RX7 89 "GreatSortModel" "on" "[I" ∈ wsX7_part := by decide +kernel
set_option maxRecDepth 20000 in
theorem m_X7_part_4 : Cond.fieldLink RX7 74 "GreatSortModel" "ends" "[I" ∈ wsX7_part := by decide +kernel
set_option maxHeartbeats 4000000 in
set_option maxRecDepth 100000 in
theorem c_X7_part (l : Launch) (dC : Nat → ClassId) (dI : Nat → Nat → Nat) (cI cJ cZ : ClassId) (aM : Nat → Nat) (N : Nat) (M_sorts : (Nat → Int32)) (M_values : (Nat → Int32)) (M_rows : Int32) (M_placeOf : (Nat → Int32)) (M_falling : (Nat → Int32)) (M_made : Int32) (M_runs : Int32) (M_allRuns : Int32) (M_begin : (Nat → Int32)) (M_size : (Nat → Int32)) (M_pool : (Nat → Int32)) (M_pooled : Int32) (M_ways : Int32) (M_merges : Int32) (M_takes : (Nat → Int32)) (M_taken : (Nat → Int32)) (M_parts : Int32) (M_every : Int32) (M_samples : Int32) (M_sample : (Nat → Int32)) (M_ends : (Nat → Int32)) (M_partSize : (Nat → Int32)) (M_merged : (Nat → Int32)) (M_most : (Nat → Int32)) (M_done : (Nat → Int32)) (M_on : (Nat → Int32)) (M_ticks : Int32) (M_mergedAll : Int32) (M_again : Int32) (M_paces : (Nat → Int32)) (M_up : (Nat → Int32)) (M_byHost : (Nat → Int32)) (M_heap : (Nat → Int32)) (M_used : (Nat → Int32)) (M_planned : (Nat → Int32)) (M_gone : (Nat → Int32)) (v1 : Int32) (v2 : Int32) {r : Int32} (hf : f_X7_part N M_parts M_ends M_partSize M_merged M_on v1 v2 = some r) :
    CtI l yX7_part wsX7_part rm_X7_part (dC, dI) (tyl cI cJ cZ) [.ref (aM 0), .int v1, .int v2] (w_M aM cI cJ cZ M_sorts M_values M_rows M_placeOf M_falling M_made M_runs M_allRuns M_begin M_size M_pool M_pooled M_ways M_merges M_takes M_taken M_parts M_every M_samples M_sample M_ends M_partSize M_merged M_most M_done M_on M_ticks M_mergedAll M_again M_paces M_up M_byHost M_heap M_used M_planned M_gone) (w_M aM cI cJ cZ M_sorts M_values M_rows M_placeOf M_falling M_made M_runs M_allRuns M_begin M_size M_pool M_pooled M_ways M_merges M_takes M_taken M_parts M_every M_samples M_sample M_ends M_partSize M_merged M_most M_done M_on M_ticks M_mergedAll M_again M_paces M_up M_byHost M_heap M_used M_planned M_gone) r := by
  refine startI (cc := cX7_part) (maxL := 3) (rt := (some .int)) (by decide +kernel) rfl (Nat.le_of_ble_eq_true rfl) ?_
  intro p e s m below meth c A ls X hr hlocks hw hl
  replace X : Cx p m c cX7_part 3 s _ wsX7_part RX7 (dC, dI) (tyl cI cJ cZ) A := X
  replace hl : lv_has ls 3 [(0, .ref (aM 0)), (1, .int v1), (2, .int v2)] := hl
  obtain ⟨hx, hb, hml, hown, hts⟩ := X.1
  have hK := X.2.1
  have hN := X.2.2.2
  unfold f_X7_part at hf
  refine lv_iload_n hx hb dX7_part_0 rfl (lv_at hl 1 rfl) ?_
  refine lv_if_lt (tgt := 12) hx hb dX7_part_1 (by decide) (fun b1 => ?_) (fun b1 => ?_)
  · replace hf := it_t hf b1
    refine lv_bipush (v := (-2)) hx hb dX7_part_12 (by decide) ?_
    cases hf
    exact endI X hr rfl hlocks rfl hw dX7_part_14
  · replace hf := it_f hf b1
    refine lv_iload_n hx hb dX7_part_4 rfl (lv_at hl 1 rfl) ?_
    refine lv_aload_n hx hb dX7_part_5 rfl (lv_at hl 0 rfl) ?_
    refine va_get (D := (dC, dI)) (ci := 7) (v := .int M_parts) (C := RX7) (T := TX7) (N := 36) hx hb hts i_X7_part_X7 hown hK hw.1 0 rfl rfl 16 (by decide) (hts _ m_X7_part_0) (fun _ h9 => h9) rfl dX7_part_6 ?_
    refine lv_icmp_lt (tgt := 15) hx hb dX7_part_9 (by decide) (fun b2 => ?_) (fun b2 => ?_)
    · replace hf := it_t hf b2
      refine lv_iload_n hx hb dX7_part_15 rfl (lv_at hl 2 rfl) ?_
      by_cases b3 : v2 = 0
      · replace hf := it_t hf b3
        refine lv_tableIn (tgt := 48) (off := 32) hx hb dX7_part_16 (by rw [b3]; decide) (by rw [b3]; decide) (by rw [b3]; first | done | decide) (by decide) ?_
        refine lv_aload_n hx hb dX7_part_48 rfl (lv_at hl 0 rfl) ?_
        refine va_get (D := (dC, dI)) (ci := 7) (v := .ref (aM 12)) (C := RX7) (T := TX7) (N := 36) hx hb hts i_X7_part_X7 hown hK hw.1 0 rfl rfl 21 (by decide) (hts _ m_X7_part_1) (fun _ h9 => h9) rfl dX7_part_49 ?_
        refine lv_iload_n hx hb dX7_part_52 rfl (lv_at hl 1 rfl) ?_
        have g4 := ix_in (gd_l hf)
        replace hf := gd_r hf
        refine va_iald hx hb hK hw.1 12 0 rfl rfl g4 dX7_part_53 ?_
        cases hf
        exact endI X hr rfl hlocks rfl hw dX7_part_54
      · replace hf := it_f hf b3
        by_cases b5 : v2 = 1
        · replace hf := it_t hf b5
          refine lv_tableIn (tgt := 55) (off := 39) hx hb dX7_part_16 (by rw [b5]; decide) (by rw [b5]; decide) (by rw [b5]; first | done | decide) (by decide) ?_
          refine lv_aload_n hx hb dX7_part_55 rfl (lv_at hl 0 rfl) ?_
          refine va_get (D := (dC, dI)) (ci := 7) (v := .ref (aM 13)) (C := RX7) (T := TX7) (N := 36) hx hb hts i_X7_part_X7 hown hK hw.1 0 rfl rfl 22 (by decide) (hts _ m_X7_part_2) (fun _ h9 => h9) rfl dX7_part_56 ?_
          refine lv_iload_n hx hb dX7_part_59 rfl (lv_at hl 1 rfl) ?_
          have g6 := ix_in (gd_l hf)
          replace hf := gd_r hf
          refine va_iald hx hb hK hw.1 13 0 rfl rfl g6 dX7_part_60 ?_
          cases hf
          exact endI X hr rfl hlocks rfl hw dX7_part_61
        · replace hf := it_f hf b5
          by_cases b7 : v2 = 2
          · replace hf := it_t hf b7
            refine lv_tableIn (tgt := 62) (off := 46) hx hb dX7_part_16 (by rw [b7]; decide) (by rw [b7]; decide) (by rw [b7]; first | done | decide) (by decide) ?_
            refine lv_aload_n hx hb dX7_part_62 rfl (lv_at hl 0 rfl) ?_
            refine va_get (D := (dC, dI)) (ci := 7) (v := .ref (aM 16)) (C := RX7) (T := TX7) (N := 36) hx hb hts i_X7_part_X7 hown hK hw.1 0 rfl rfl 25 (by decide) (hts _ m_X7_part_3) (fun _ h9 => h9) rfl dX7_part_63 ?_
            refine lv_iload_n hx hb dX7_part_66 rfl (lv_at hl 1 rfl) ?_
            have g8 := ix_in (gd_l hf)
            replace hf := gd_r hf
            refine va_iald hx hb hK hw.1 16 0 rfl rfl g8 dX7_part_67 ?_
            cases hf
            exact endI X hr rfl hlocks rfl hw dX7_part_68
          · replace hf := it_f hf b7
            by_cases b9 : v2 = 3
            · replace hf := it_t hf b9
              refine lv_tableIn (tgt := 69) (off := 53) hx hb dX7_part_16 (by rw [b9]; decide) (by rw [b9]; decide) (by rw [b9]; first | done | decide) (by decide) ?_
              refine lv_aload_n hx hb dX7_part_69 rfl (lv_at hl 0 rfl) ?_
              refine va_get (D := (dC, dI)) (ci := 7) (v := .ref (aM 11)) (C := RX7) (T := TX7) (N := 36) hx hb hts i_X7_part_X7 hown hK hw.1 0 rfl rfl 20 (by decide) (hts _ m_X7_part_4) (fun _ h9 => h9) rfl dX7_part_70 ?_
              refine lv_iload_n hx hb dX7_part_73 rfl (lv_at hl 1 rfl) ?_
              have g10 := ix_in (gd_l hf)
              replace hf := gd_r hf
              refine va_iald hx hb hK hw.1 11 0 rfl rfl g10 dX7_part_74 ?_
              cases hf
              exact endI X hr rfl hlocks rfl hw dX7_part_75
            · replace hf := it_f hf b9
              have n0_16 := lv_neT b3 (a := 0) (by decide)
              have n1_16 := lv_neT b5 (a := 1) (by decide)
              have n2_16 := lv_neT b7 (a := 2) (by decide)
              have n3_16 := lv_neT b9 (a := 3) (by decide)
              refine lv_tableOut (tgt := 76) hx hb dX7_part_16 (by omega) (by decide) ?_
              refine lv_bipush (v := (-2)) hx hb dX7_part_76 (by decide) ?_
              cases hf
              exact endI X hr rfl hlocks rfl hw dX7_part_78
    · replace hf := it_f hf b2
      refine lv_bipush (v := (-2)) hx hb dX7_part_12 (by decide) ?_
      cases hf
      exact endI X hr rfl hlocks rfl hw dX7_part_14
