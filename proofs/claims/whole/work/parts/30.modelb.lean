def rm_X7_ahead : Room := { frames := 0, cells := 0, slots := 0, locals := 0 }
set_option maxRecDepth 20000 in
theorem i_X7_ahead_X7 : ∀ w ∈ u_ws RX7 TX7 36, w ∈ wsX7_ahead := by decide +kernel
set_option maxRecDepth 20000 in
theorem m_X7_ahead_0 : Cond.fieldLink RX7 7 "GreatSortModel" "sorts" "[I" ∈ wsX7_ahead := by decide +kernel
set_option maxRecDepth 20000 in
theorem m_X7_ahead_1 : Cond.fieldLink RX7 13 "GreatSortModel" "values" "[I" ∈ wsX7_ahead := by decide +kernel
set_option maxRecDepth 20000 in
theorem m_X7_ahead_2 : Cond.fieldLink RX7 23 "GreatSortModel" "falling" "[Z" ∈ wsX7_ahead := by decide +kernel
set_option maxRecDepth 20000 in
theorem m_X7_ahead_3 : Cond.fieldLink RX7 20 "GreatSortModel" "placeOf" "[I" ∈ wsX7_ahead := by decide +kernel
set_option maxHeartbeats 4000000 in
set_option maxRecDepth 100000 in
theorem c_X7_ahead (l : Launch) (dC : Nat → ClassId) (dI : Nat → Nat → Nat) (cI cJ cZ : ClassId) (aM : Nat → Nat) (N : Nat) (M_sorts : (Nat → Int32)) (M_values : (Nat → Int32)) (M_rows : Int32) (M_placeOf : (Nat → Int32)) (M_falling : (Nat → Int32)) (M_made : Int32) (M_runs : Int32) (M_allRuns : Int32) (M_begin : (Nat → Int32)) (M_size : (Nat → Int32)) (M_pool : (Nat → Int32)) (M_pooled : Int32) (M_ways : Int32) (M_merges : Int32) (M_takes : (Nat → Int32)) (M_taken : (Nat → Int32)) (M_parts : Int32) (M_every : Int32) (M_samples : Int32) (M_sample : (Nat → Int32)) (M_ends : (Nat → Int32)) (M_partSize : (Nat → Int32)) (M_merged : (Nat → Int32)) (M_most : (Nat → Int32)) (M_done : (Nat → Int32)) (M_on : (Nat → Int32)) (M_ticks : Int32) (M_mergedAll : Int32) (M_again : Int32) (M_paces : (Nat → Int32)) (M_up : (Nat → Int32)) (M_byHost : (Nat → Int32)) (M_heap : (Nat → Int32)) (M_used : (Nat → Int32)) (M_planned : (Nat → Int32)) (M_gone : (Nat → Int32)) (v1 : Int32) (v2 : Int32) {r : Int32} (hf : f_X7_ahead N M_sorts M_values M_placeOf M_falling v1 v2 = some r) :
    CtI l yX7_ahead wsX7_ahead rm_X7_ahead (dC, dI) (tyl cI cJ cZ) [.ref (aM 0), .int v1, .int v2] (w_M aM cI cJ cZ M_sorts M_values M_rows M_placeOf M_falling M_made M_runs M_allRuns M_begin M_size M_pool M_pooled M_ways M_merges M_takes M_taken M_parts M_every M_samples M_sample M_ends M_partSize M_merged M_most M_done M_on M_ticks M_mergedAll M_again M_paces M_up M_byHost M_heap M_used M_planned M_gone) (w_M aM cI cJ cZ M_sorts M_values M_rows M_placeOf M_falling M_made M_runs M_allRuns M_begin M_size M_pool M_pooled M_ways M_merges M_takes M_taken M_parts M_every M_samples M_sample M_ends M_partSize M_merged M_most M_done M_on M_ticks M_mergedAll M_again M_paces M_up M_byHost M_heap M_used M_planned M_gone) r := by
  refine startI (cc := cX7_ahead) (maxL := 3) (rt := (some .boolean)) (by decide +kernel) rfl (Nat.le_of_ble_eq_true rfl) ?_
  intro p e s m below meth c A ls X hr hlocks hw hl
  replace X : Cx p m c cX7_ahead 3 s _ wsX7_ahead RX7 (dC, dI) (tyl cI cJ cZ) A := X
  replace hl : lv_has ls 3 [(0, .ref (aM 0)), (1, .int v1), (2, .int v2)] := hl
  obtain ⟨hx, hb, hml, hown, hts⟩ := X.1
  have hK := X.2.1
  have hN := X.2.2.2
  unfold f_X7_ahead at hf
  refine lv_aload_n hx hb dX7_ahead_0 rfl (lv_at hl 0 rfl) ?_
  refine va_get (D := (dC, dI)) (ci := 7) (v := .ref (aM 1)) (C := RX7) (T := TX7) (N := 36) hx hb hts i_X7_ahead_X7 hown hK hw.1 0 rfl rfl 0 (by decide) (hts _ m_X7_ahead_0) (fun _ h9 => h9) rfl dX7_ahead_1 ?_
  refine lv_iload_n hx hb dX7_ahead_4 rfl (lv_at hl 1 rfl) ?_
  have g1 := ix_in (gd_l hf)
  replace hf := gd_r hf
  refine va_iald hx hb hK hw.1 1 0 rfl rfl g1 dX7_ahead_5 ?_
  refine lv_aload_n hx hb dX7_ahead_6 rfl (lv_at hl 0 rfl) ?_
  refine va_get (D := (dC, dI)) (ci := 7) (v := .ref (aM 1)) (C := RX7) (T := TX7) (N := 36) hx hb hts i_X7_ahead_X7 hown hK hw.1 0 rfl rfl 0 (by decide) (hts _ m_X7_ahead_0) (fun _ h9 => h9) rfl dX7_ahead_7 ?_
  refine lv_iload_n hx hb dX7_ahead_10 rfl (lv_at hl 2 rfl) ?_
  have g2 := ix_in (gd_l hf)
  replace hf := gd_r hf
  refine va_iald hx hb hK hw.1 1 0 rfl rfl g2 dX7_ahead_11 ?_
  refine lv_icmp_eq (tgt := 46) hx hb dX7_ahead_12 (by decide) (fun b3 => ?_) (fun b3 => ?_)
  · replace hf := it_t hf b3
    refine lv_aload_n hx hb dX7_ahead_46 rfl (lv_at hl 0 rfl) ?_
    refine va_get (D := (dC, dI)) (ci := 7) (v := .ref (aM 2)) (C := RX7) (T := TX7) (N := 36) hx hb hts i_X7_ahead_X7 hown hK hw.1 0 rfl rfl 1 (by decide) (hts _ m_X7_ahead_1) (fun _ h9 => h9) rfl dX7_ahead_47 ?_
    refine lv_iload_n hx hb dX7_ahead_50 rfl (lv_at hl 1 rfl) ?_
    have g4 := ix_in (gd_l hf)
    replace hf := gd_r hf
    refine va_iald hx hb hK hw.1 2 0 rfl rfl g4 dX7_ahead_51 ?_
    refine lv_aload_n hx hb dX7_ahead_52 rfl (lv_at hl 0 rfl) ?_
    refine va_get (D := (dC, dI)) (ci := 7) (v := .ref (aM 2)) (C := RX7) (T := TX7) (N := 36) hx hb hts i_X7_ahead_X7 hown hK hw.1 0 rfl rfl 1 (by decide) (hts _ m_X7_ahead_1) (fun _ h9 => h9) rfl dX7_ahead_53 ?_
    refine lv_iload_n hx hb dX7_ahead_56 rfl (lv_at hl 2 rfl) ?_
    have g5 := ix_in (gd_l hf)
    replace hf := gd_r hf
    refine va_iald hx hb hK hw.1 2 0 rfl rfl g5 dX7_ahead_57 ?_
    refine lv_icmp_eq (tgt := 101) hx hb dX7_ahead_58 (by decide) (fun b6 => ?_) (fun b6 => ?_)
    · replace hf := it_t hf b6
      refine lv_iload_n hx hb dX7_ahead_101 rfl (lv_at hl 1 rfl) ?_
      refine lv_iload_n hx hb dX7_ahead_102 rfl (lv_at hl 2 rfl) ?_
      refine lv_icmp_ge (tgt := 110) hx hb dX7_ahead_103 (by decide) (fun b7 => ?_) (fun b7 => ?_)
      · replace hf := it_t hf b7
        refine lv_iconst (v := 0) hx hb dX7_ahead_110 (by decide) ?_
        have g8 := bz_nar (gd_l hf)
        replace hf := gd_r hf
        cases hf
        exact endI X hr g8 hlocks rfl hw dX7_ahead_111
      · replace hf := it_f hf b7
        refine lv_iconst (v := 1) hx hb dX7_ahead_106 (by decide) ?_
        refine lv_goto (tgt := 111) hx hb dX7_ahead_107 (by decide) ?_
        have g9 := bz_nar (gd_l hf)
        replace hf := gd_r hf
        cases hf
        exact endI X hr g9 hlocks rfl hw dX7_ahead_111
    · replace hf := it_f hf b6
      refine lv_aload_n hx hb dX7_ahead_61 rfl (lv_at hl 0 rfl) ?_
      refine va_get (D := (dC, dI)) (ci := 7) (v := .ref (aM 2)) (C := RX7) (T := TX7) (N := 36) hx hb hts i_X7_ahead_X7 hown hK hw.1 0 rfl rfl 1 (by decide) (hts _ m_X7_ahead_1) (fun _ h9 => h9) rfl dX7_ahead_62 ?_
      refine lv_iload_n hx hb dX7_ahead_65 rfl (lv_at hl 1 rfl) ?_
      have g10 := ix_in (gd_l hf)
      replace hf := gd_r hf
      refine va_iald hx hb hK hw.1 2 0 rfl rfl g10 dX7_ahead_66 ?_
      refine lv_aload_n hx hb dX7_ahead_67 rfl (lv_at hl 0 rfl) ?_
      refine va_get (D := (dC, dI)) (ci := 7) (v := .ref (aM 2)) (C := RX7) (T := TX7) (N := 36) hx hb hts i_X7_ahead_X7 hown hK hw.1 0 rfl rfl 1 (by decide) (hts _ m_X7_ahead_1) (fun _ h9 => h9) rfl dX7_ahead_68 ?_
      refine lv_iload_n hx hb dX7_ahead_71 rfl (lv_at hl 2 rfl) ?_
      have g11 := ix_in (gd_l hf)
      replace hf := gd_r hf
      refine va_iald hx hb hK hw.1 2 0 rfl rfl g11 dX7_ahead_72 ?_
      obtain ⟨y12, h13, hf⟩ := bd1_ob hf
      refine join_ (nL := 3) (dC, dI) A 81 [.int y12] (w_M aM cI cJ cZ M_sorts M_values M_rows M_placeOf M_falling M_made M_runs M_allRuns M_begin M_size M_pool M_pooled M_ways M_merges M_takes M_taken M_parts M_every M_samples M_sample M_ends M_partSize M_merged M_most M_done M_on M_ticks M_mergedAll M_again M_paces M_up M_byHost M_heap M_used M_planned M_gone) [(0, .ref (aM 0)), (1, .int v1)] (fun H locs ls hw hl => ?_) (fun jn => ?_)
      · refine lv_aload_n hx hb dX7_ahead_81 rfl (lv_at hl 0 rfl) ?_
        refine va_get (D := (dC, dI)) (ci := 7) (v := .ref (aM 4)) (C := RX7) (T := TX7) (N := 36) hx hb hts i_X7_ahead_X7 hown hK hw.1 0 rfl rfl 4 (by decide) (hts _ m_X7_ahead_2) (fun _ h9 => h9) rfl dX7_ahead_82 ?_
        refine lv_aload_n hx hb dX7_ahead_85 rfl (lv_at hl 0 rfl) ?_
        refine va_get (D := (dC, dI)) (ci := 7) (v := .ref (aM 1)) (C := RX7) (T := TX7) (N := 36) hx hb hts i_X7_ahead_X7 hown hK hw.1 0 rfl rfl 0 (by decide) (hts _ m_X7_ahead_0) (fun _ h9 => h9) rfl dX7_ahead_86 ?_
        refine lv_iload_n hx hb dX7_ahead_89 rfl (lv_at hl 1 rfl) ?_
        have g14 := ix_in (gd_l hf)
        replace hf := gd_r hf
        refine va_iald hx hb hK hw.1 1 0 rfl rfl g14 dX7_ahead_90 ?_
        have g15 := ix_in (gd_l hf)
        replace hf := gd_r hf
        refine va_zald hx hb hK hw.1 4 2 rfl rfl g15 dX7_ahead_91 ?_
        refine lv_icmp_eq (tgt := 99) hx hb dX7_ahead_92 (by decide) (fun b16 => ?_) (fun b16 => ?_)
        · replace hf := it_t hf b16
          refine lv_iconst (v := 0) hx hb dX7_ahead_99 (by decide) ?_
          have g17 := bz_nar (gd_l hf)
          replace hf := gd_r hf
          cases hf
          exact endI X hr g17 hlocks rfl hw dX7_ahead_100
        · replace hf := it_f hf b16
          refine lv_iconst (v := 1) hx hb dX7_ahead_95 (by decide) ?_
          refine lv_goto (tgt := 100) hx hb dX7_ahead_96 (by decide) ?_
          have g18 := bz_nar (gd_l hf)
          replace hf := gd_r hf
          cases hf
          exact endI X hr g18 hlocks rfl hw dX7_ahead_100
      · replace hf := h13
        refine lv_icmp_ge (tgt := 80) hx hb dX7_ahead_73 (by decide) (fun b19 => ?_) (fun b19 => ?_)
        · replace hf := it_t hf b19
          refine lv_iconst (v := 0) hx hb dX7_ahead_80 (by decide) ?_
          cases hf
          exact jn _ _ _ hw (lv_sub hl [0, 1] rfl)
        · replace hf := it_f hf b19
          refine lv_iconst (v := 1) hx hb dX7_ahead_76 (by decide) ?_
          refine lv_goto (tgt := 81) hx hb dX7_ahead_77 (by decide) ?_
          cases hf
          exact jn _ _ _ hw (lv_sub hl [0, 1] rfl)
  · replace hf := it_f hf b3
    refine lv_aload_n hx hb dX7_ahead_15 rfl (lv_at hl 0 rfl) ?_
    refine va_get (D := (dC, dI)) (ci := 7) (v := .ref (aM 3)) (C := RX7) (T := TX7) (N := 36) hx hb hts i_X7_ahead_X7 hown hK hw.1 0 rfl rfl 3 (by decide) (hts _ m_X7_ahead_3) (fun _ h9 => h9) rfl dX7_ahead_16 ?_
    refine lv_aload_n hx hb dX7_ahead_19 rfl (lv_at hl 0 rfl) ?_
    refine va_get (D := (dC, dI)) (ci := 7) (v := .ref (aM 1)) (C := RX7) (T := TX7) (N := 36) hx hb hts i_X7_ahead_X7 hown hK hw.1 0 rfl rfl 0 (by decide) (hts _ m_X7_ahead_0) (fun _ h9 => h9) rfl dX7_ahead_20 ?_
    refine lv_iload_n hx hb dX7_ahead_23 rfl (lv_at hl 1 rfl) ?_
    have g20 := ix_in (gd_l hf)
    replace hf := gd_r hf
    refine va_iald hx hb hK hw.1 1 0 rfl rfl g20 dX7_ahead_24 ?_
    have g21 := ix_in (gd_l hf)
    replace hf := gd_r hf
    refine va_iald hx hb hK hw.1 3 0 rfl rfl g21 dX7_ahead_25 ?_
    refine lv_aload_n hx hb dX7_ahead_26 rfl (lv_at hl 0 rfl) ?_
    refine va_get (D := (dC, dI)) (ci := 7) (v := .ref (aM 3)) (C := RX7) (T := TX7) (N := 36) hx hb hts i_X7_ahead_X7 hown hK hw.1 0 rfl rfl 3 (by decide) (hts _ m_X7_ahead_3) (fun _ h9 => h9) rfl dX7_ahead_27 ?_
    refine lv_aload_n hx hb dX7_ahead_30 rfl (lv_at hl 0 rfl) ?_
    refine va_get (D := (dC, dI)) (ci := 7) (v := .ref (aM 1)) (C := RX7) (T := TX7) (N := 36) hx hb hts i_X7_ahead_X7 hown hK hw.1 0 rfl rfl 0 (by decide) (hts _ m_X7_ahead_0) (fun _ h9 => h9) rfl dX7_ahead_31 ?_
    refine lv_iload_n hx hb dX7_ahead_34 rfl (lv_at hl 2 rfl) ?_
    have g22 := ix_in (gd_l hf)
    replace hf := gd_r hf
    refine va_iald hx hb hK hw.1 1 0 rfl rfl g22 dX7_ahead_35 ?_
    have g23 := ix_in (gd_l hf)
    replace hf := gd_r hf
    refine va_iald hx hb hK hw.1 3 0 rfl rfl g23 dX7_ahead_36 ?_
    refine lv_icmp_ge (tgt := 44) hx hb dX7_ahead_37 (by decide) (fun b24 => ?_) (fun b24 => ?_)
    · replace hf := it_t hf b24
      refine lv_iconst (v := 0) hx hb dX7_ahead_44 (by decide) ?_
      have g25 := bz_nar (gd_l hf)
      replace hf := gd_r hf
      cases hf
      exact endI X hr g25 hlocks rfl hw dX7_ahead_45
    · replace hf := it_f hf b24
      refine lv_iconst (v := 1) hx hb dX7_ahead_40 (by decide) ?_
      refine lv_goto (tgt := 45) hx hb dX7_ahead_41 (by decide) ?_
      have g26 := bz_nar (gd_l hf)
      replace hf := gd_r hf
      cases hf
      exact endI X hr g26 hlocks rfl hw dX7_ahead_45
def rm_X7_against : Room := { frames := 1, cells := 0, slots := 0, locals := 22 }
set_option maxHeartbeats 4000000 in
set_option maxRecDepth 100000 in
theorem c_X7_against (l : Launch) (dC : Nat → ClassId) (dI : Nat → Nat → Nat) (cI cJ cZ : ClassId) (aM : Nat → Nat) (N : Nat) (M_sorts : (Nat → Int32)) (M_values : (Nat → Int32)) (M_rows : Int32) (M_placeOf : (Nat → Int32)) (M_falling : (Nat → Int32)) (M_made : Int32) (M_runs : Int32) (M_allRuns : Int32) (M_begin : (Nat → Int32)) (M_size : (Nat → Int32)) (M_pool : (Nat → Int32)) (M_pooled : Int32) (M_ways : Int32) (M_merges : Int32) (M_takes : (Nat → Int32)) (M_taken : (Nat → Int32)) (M_parts : Int32) (M_every : Int32) (M_samples : Int32) (M_sample : (Nat → Int32)) (M_ends : (Nat → Int32)) (M_partSize : (Nat → Int32)) (M_merged : (Nat → Int32)) (M_most : (Nat → Int32)) (M_done : (Nat → Int32)) (M_on : (Nat → Int32)) (M_ticks : Int32) (M_mergedAll : Int32) (M_again : Int32) (M_paces : (Nat → Int32)) (M_up : (Nat → Int32)) (M_byHost : (Nat → Int32)) (M_heap : (Nat → Int32)) (M_used : (Nat → Int32)) (M_planned : (Nat → Int32)) (M_gone : (Nat → Int32)) (v1 : Int32) (v2 : Int32) {r : Int32} (hf : f_X7_against N M_sorts M_values M_rows M_placeOf M_falling v1 v2 = some r) :
    CtI l yX7_against wsX7_against rm_X7_against (dC, dI) (tyl cI cJ cZ) [.ref (aM 0), .int v1, .int v2] (w_M aM cI cJ cZ M_sorts M_values M_rows M_placeOf M_falling M_made M_runs M_allRuns M_begin M_size M_pool M_pooled M_ways M_merges M_takes M_taken M_parts M_every M_samples M_sample M_ends M_partSize M_merged M_most M_done M_on M_ticks M_mergedAll M_again M_paces M_up M_byHost M_heap M_used M_planned M_gone) (w_M aM cI cJ cZ M_sorts M_values M_rows M_placeOf M_falling M_made M_runs M_allRuns M_begin M_size M_pool M_pooled M_ways M_merges M_takes M_taken M_parts M_every M_samples M_sample M_ends M_partSize M_merged M_most M_done M_on M_ticks M_mergedAll M_again M_paces M_up M_byHost M_heap M_used M_planned M_gone) r := by
  refine startI (cc := cX7_against) (maxL := 3) (rt := (some .int)) (by decide +kernel) rfl (Nat.le_of_ble_eq_true rfl) ?_
  intro p e s m below meth c A ls X hr hlocks hw hl
  replace X : Cx p m c cX7_against 3 s _ wsX7_against RX7 (dC, dI) (tyl cI cJ cZ) A := X
  replace hl : lv_has ls 3 [(0, .ref (aM 0)), (1, .int v1), (2, .int v2)] := hl
  obtain ⟨hx, hb, hml, hown, hts⟩ := X.1
  have hK := X.2.1
  have hN := X.2.2.2
  unfold f_X7_against at hf
  refine lv_aload_n hx hb dX7_against_0 rfl (lv_at hl 0 rfl) ?_
  refine lv_iload_n hx hb dX7_against_1 rfl (lv_at hl 1 rfl) ?_
  obtain ⟨r1, h2, hf⟩ := bd1_ob hf
  refine clFI (As := [.int v1]) (rest := []) X (c_X7_isRow l dC dI cI cJ cZ aM N M_sorts M_values M_rows M_placeOf M_falling M_made M_runs M_allRuns M_begin M_size M_pool M_pooled M_ways M_merges M_takes M_taken M_parts M_every M_samples M_sample M_ends M_partSize M_merged M_most M_done M_on M_ticks M_mergedAll M_again M_paces M_up M_byHost M_heap M_used M_planned M_gone v1 h2) (cwV 1 hts gX7_against_X7_isRow rfl rfl rfl (by decide +kernel) ⟨Nat.le_of_ble_eq_true rfl, Nat.le_of_ble_eq_true rfl⟩) (ci := 7) (k0 := 0) rfl rfl rfl hw rfl rfl hl.1 rfl (Nat.le_of_ble_eq_true rfl) dX7_against_2 ⟨Nat.zero_le _, Nat.zero_le _⟩ (fun H locs hw => ?_)
  refine lv_if_eq (tgt := 16) hx hb dX7_against_5 (by decide) (fun b3 => ?_) (fun b3 => ?_)
  · replace hf := it_t hf b3
    refine lv_bipush (v := (-2)) hx hb dX7_against_16 (by decide) ?_
    refine lv_goto (tgt := 44) hx hb dX7_against_18 (by decide) ?_
    cases hf
    exact endI X hr rfl hlocks rfl hw dX7_against_44
  · replace hf := it_f hf b3
    refine lv_aload_n hx hb dX7_against_8 rfl (lv_at hl 0 rfl) ?_
    refine lv_iload_n hx hb dX7_against_9 rfl (lv_at hl 2 rfl) ?_
    obtain ⟨r4, h5, hf⟩ := bd1_ob hf
    refine clFI (As := [.int v2]) (rest := []) X (c_X7_isRow l dC dI cI cJ cZ aM N M_sorts M_values M_rows M_placeOf M_falling M_made M_runs M_allRuns M_begin M_size M_pool M_pooled M_ways M_merges M_takes M_taken M_parts M_every M_samples M_sample M_ends M_partSize M_merged M_most M_done M_on M_ticks M_mergedAll M_again M_paces M_up M_byHost M_heap M_used M_planned M_gone v2 h5) (cwV 1 hts gX7_against_X7_isRow rfl rfl rfl (by decide +kernel) ⟨Nat.le_of_ble_eq_true rfl, Nat.le_of_ble_eq_true rfl⟩) (ci := 7) (k0 := 0) rfl rfl rfl hw rfl rfl hl.1 rfl (Nat.le_of_ble_eq_true rfl) dX7_against_10 ⟨Nat.zero_le _, Nat.zero_le _⟩ (fun H locs hw => ?_)
    refine lv_if_ne (tgt := 21) hx hb dX7_against_13 (by decide) (fun b6 => ?_) (fun b6 => ?_)
    · replace hf := it_f hf b6
      refine lv_iload_n hx hb dX7_against_21 rfl (lv_at hl 1 rfl) ?_
      refine lv_iload_n hx hb dX7_against_22 rfl (lv_at hl 2 rfl) ?_
      refine lv_icmp_ne (tgt := 30) hx hb dX7_against_23 (by decide) (fun b7 => ?_) (fun b7 => ?_)
      · replace hf := it_f hf b7
        refine lv_aload_n hx hb dX7_against_30 rfl (lv_at hl 0 rfl) ?_
        refine lv_iload_n hx hb dX7_against_31 rfl (lv_at hl 1 rfl) ?_
        refine lv_iload_n hx hb dX7_against_32 rfl (lv_at hl 2 rfl) ?_
        obtain ⟨r8, h9, hf⟩ := bd1_ob hf
        refine clFI (As := [.int v1, .int v2]) (rest := []) X (c_X7_ahead l dC dI cI cJ cZ aM N M_sorts M_values M_rows M_placeOf M_falling M_made M_runs M_allRuns M_begin M_size M_pool M_pooled M_ways M_merges M_takes M_taken M_parts M_every M_samples M_sample M_ends M_partSize M_merged M_most M_done M_on M_ticks M_mergedAll M_again M_paces M_up M_byHost M_heap M_used M_planned M_gone v1 v2 h9) (cwV 2 hts gX7_against_X7_ahead rfl rfl rfl (by decide +kernel) ⟨Nat.le_of_ble_eq_true rfl, Nat.le_of_ble_eq_true rfl⟩) (ci := 7) (k0 := 0) rfl rfl rfl hw rfl rfl hl.1 rfl (Nat.le_of_ble_eq_true rfl) dX7_against_33 ⟨Nat.zero_le _, Nat.zero_le _⟩ (fun H locs hw => ?_)
        refine lv_if_eq (tgt := 43) hx hb dX7_against_36 (by decide) (fun b10 => ?_) (fun b10 => ?_)
        · replace hf := it_t hf b10
          refine lv_iconst (v := 1) hx hb dX7_against_43 (by decide) ?_
          cases hf
          exact endI X hr rfl hlocks rfl hw dX7_against_44
        · replace hf := it_f hf b10
          refine lv_iconst (v := (-1)) hx hb dX7_against_39 (by decide) ?_
          refine lv_goto (tgt := 44) hx hb dX7_against_40 (by decide) ?_
          cases hf
          exact endI X hr rfl hlocks rfl hw dX7_against_44
      · replace hf := it_t hf b7
        refine lv_iconst (v := 0) hx hb dX7_against_26 (by decide) ?_
        refine lv_goto (tgt := 44) hx hb dX7_against_27 (by decide) ?_
        cases hf
        exact endI X hr rfl hlocks rfl hw dX7_against_44
    · replace hf := it_t hf b6
      refine lv_bipush (v := (-2)) hx hb dX7_against_16 (by decide) ?_
      refine lv_goto (tgt := 44) hx hb dX7_against_18 (by decide) ?_
      cases hf
      exact endI X hr rfl hlocks rfl hw dX7_against_44
def rm_X7_rank : Room := { frames := 1, cells := 0, slots := 0, locals := 22 }
set_option maxRecDepth 20000 in
theorem i_X7_rank_X7 : ∀ w ∈ u_ws RX7 TX7 36, w ∈ wsX7_rank := by decide +kernel
set_option maxRecDepth 20000 in
theorem m_X7_rank_0 : Cond.fieldLink RX7 16 "GreatSortModel" "rows" "I" ∈ wsX7_rank := by decide +kernel
set_option maxHeartbeats 4000000 in
set_option maxRecDepth 100000 in
theorem t_X7_rank_14 {p : Program} {l : Launch} {e : Env} {s : State} {m : MethodId} {args : Array Value} {below : List Frame} {meth : Method} {c : Code} {Q : State → Prop} {dC : Nat → ClassId} {dI : Nat → Nat → Nat} {cI cJ cZ : ClassId} {A : Nat → Prop} (aM : Nat → Nat) (X : Cx p m c cX7_rank 4 s args wsX7_rank RX7 (dC, dI) (tyl cI cJ cZ) A) (N : Nat) (M_sorts : (Nat → Int32)) (M_values : (Nat → Int32)) (M_rows : Int32) (M_placeOf : (Nat → Int32)) (M_falling : (Nat → Int32)) (M_made : Int32) (M_runs : Int32) (M_allRuns : Int32) (M_begin : (Nat → Int32)) (M_size : (Nat → Int32)) (M_pool : (Nat → Int32)) (M_pooled : Int32) (M_ways : Int32) (M_merges : Int32) (M_takes : (Nat → Int32)) (M_taken : (Nat → Int32)) (M_parts : Int32) (M_every : Int32) (M_samples : Int32) (M_sample : (Nat → Int32)) (M_ends : (Nat → Int32)) (M_partSize : (Nat → Int32)) (M_merged : (Nat → Int32)) (M_most : (Nat → Int32)) (M_done : (Nat → Int32)) (M_on : (Nat → Int32)) (M_ticks : Int32) (M_mergedAll : Int32) (M_again : Int32) (M_paces : (Nat → Int32)) (M_up : (Nat → Int32)) (M_byHost : (Nat → Int32)) (M_heap : (Nat → Int32)) (M_used : (Nat → Int32)) (M_planned : (Nat → Int32)) (M_gone : (Nat → Int32)) (v1 : Int32) :
    ∀ (n : Nat) (v2 : Int32) (v3 : Int32) (e2 : Int32), l_X7_rank_14 N M_sorts M_values M_rows M_placeOf M_falling v1 n v2 v3 = some e2 → ∀ (H : Heap) (locs : List Loc) (ls : Array Slot), Wd (dC, dI) A s.heap H locs (w_M aM cI cJ cZ M_sorts M_values M_rows M_placeOf M_falling M_made M_runs M_allRuns M_begin M_size M_pool M_pooled M_ways M_merges M_takes M_taken M_parts M_every M_samples M_sample M_ends M_partSize M_merged M_most M_done M_on M_ticks M_mergedAll M_again M_paces M_up M_byHost M_heap M_used M_planned M_gone) → lv_has ls 4 [(0, .ref (aM 0)), (1, .int v1), (2, .int v2), (3, .int v3)] → (∀ (H : Heap) (locs : List Loc) (ls : Array Slot), Wd (dC, dI) A s.heap H locs (w_M aM cI cJ cZ M_sorts M_values M_rows M_placeOf M_falling M_made M_runs M_allRuns M_begin M_size M_pool M_pooled M_ways M_merges M_takes M_taken M_parts M_every M_samples M_sample M_ends M_partSize M_merged M_most M_done M_on M_ticks M_mergedAll M_again M_paces M_up M_byHost M_heap M_used M_planned M_gone) → lv_has ls 4 [(2, .int e2)] → W p l e rm_X7_rank s m args below meth c H locs 0 0 Q (F0 m 50 ls [])) → W p l e rm_X7_rank s m args below meth c H locs 0 0 Q (F0 m 14 ls []) := by
  obtain ⟨hx, hb, hml, hown, hts⟩ := X.1
  have hK := X.2.1
  have hN := X.2.2.2
  intro n
  induction n with
  | zero =>
    intro _ _ _ hf
    cases hf
  | succ n ih =>
    intro v2 v3 e2 hf H locs ls hw hl kx
    rw [l_X7_rank_14] at hf
    refine lv_iload_n hx hb dX7_rank_14 rfl (lv_at hl 3 rfl) ?_
    refine lv_aload_n hx hb dX7_rank_15 rfl (lv_at hl 0 rfl) ?_
    refine va_get (D := (dC, dI)) (ci := 7) (v := .int M_rows) (C := RX7) (T := TX7) (N := 36) hx hb hts i_X7_rank_X7 hown hK hw.1 0 rfl rfl 2 (by decide) (hts _ m_X7_rank_0) (fun _ h9 => h9) rfl dX7_rank_16 ?_
    refine lv_icmp_ge (tgt := 50) hx hb dX7_rank_19 (by decide) (fun b4 => ?_) (fun b4 => ?_)
    · replace hf := it_t hf b4
      cases hf
      exact kx _ _ _ hw (lv_sub hl [2] rfl)
    · replace hf := it_f hf b4
      refine lv_iload_n hx hb dX7_rank_22 rfl (lv_at hl 2 rfl) ?_
      refine lv_iload_n hx hb dX7_rank_23 rfl (lv_at hl 3 rfl) ?_
      refine lv_iload_n hx hb dX7_rank_24 rfl (lv_at hl 1 rfl) ?_
      refine lv_icmp_eq (tgt := 41) hx hb dX7_rank_25 (by decide) (fun b5 => ?_) (fun b5 => ?_)
      · replace hf := it_t hf b5
        refine lv_iconst (v := 0) hx hb dX7_rank_41 (by decide) ?_
        refine lv_iadd hx hb dX7_rank_42 ?_
        refine lv_topi (fun x6 ex6 => ?_)
        replace hf := nl_at hf ex6
        refine lv_istore_n (lv' := [(2, .int x6), (0, .ref (aM 0)), (1, .int v1), (3, .int v3)]) hx hb dX7_rank_43 rfl hl (by decide) rfl (fun ls hl => ?_)
        obtain ⟨x7, ex7⟩ : ∃ y : Int32, y = v3 + 1 := ⟨_, rfl⟩
        replace hf := nl_at hf ex7
        refine lv_iinc (v := x7) (lv' := [(3, .int x7), (2, .int x6), (0, .ref (aM 0)), (1, .int v1)]) hx hb dX7_rank_44 hl (k := 3) rfl (by rw [ex7]; rfl) (by decide) rfl (fun ls hl => ?_)
        refine lv_goto (tgt := 14) hx hb dX7_rank_47 (by decide) ?_
        exact ih _ _ _ hf _ _ _ hw (lv_sub hl [2, 3, 1, 0] rfl) kx
      · replace hf := it_f hf b5
        refine lv_aload_n hx hb dX7_rank_28 rfl (lv_at hl 0 rfl) ?_
        refine lv_iload_n hx hb dX7_rank_29 rfl (lv_at hl 3 rfl) ?_
        refine lv_iload_n hx hb dX7_rank_30 rfl (lv_at hl 1 rfl) ?_
        obtain ⟨r8, h9, hf⟩ := bd1_ob hf
        refine clFI (As := [.int v3, .int v1]) (rest := [.int v2]) X (c_X7_ahead l dC dI cI cJ cZ aM N M_sorts M_values M_rows M_placeOf M_falling M_made M_runs M_allRuns M_begin M_size M_pool M_pooled M_ways M_merges M_takes M_taken M_parts M_every M_samples M_sample M_ends M_partSize M_merged M_most M_done M_on M_ticks M_mergedAll M_again M_paces M_up M_byHost M_heap M_used M_planned M_gone v3 v1 h9) (cwV 2 hts gX7_rank_X7_ahead rfl rfl rfl (by decide +kernel) ⟨Nat.le_of_ble_eq_true rfl, Nat.le_of_ble_eq_true rfl⟩) (ci := 7) (k0 := 0) rfl rfl rfl hw rfl rfl hl.1 rfl (Nat.le_of_ble_eq_true rfl) dX7_rank_31 ⟨Nat.zero_le _, Nat.zero_le _⟩ (fun H locs hw => ?_)
        refine lv_if_eq (tgt := 41) hx hb dX7_rank_34 (by decide) (fun b10 => ?_) (fun b10 => ?_)
        · replace hf := it_t hf b10
          refine lv_iconst (v := 0) hx hb dX7_rank_41 (by decide) ?_
          refine lv_iadd hx hb dX7_rank_42 ?_
          refine lv_topi (fun x11 ex11 => ?_)
          replace hf := nl_at hf ex11
          refine lv_istore_n (lv' := [(2, .int x11), (0, .ref (aM 0)), (1, .int v1), (3, .int v3)]) hx hb dX7_rank_43 rfl hl (by decide) rfl (fun ls hl => ?_)
          obtain ⟨x12, ex12⟩ : ∃ y : Int32, y = v3 + 1 := ⟨_, rfl⟩
          replace hf := nl_at hf ex12
          refine lv_iinc (v := x12) (lv' := [(3, .int x12), (2, .int x11), (0, .ref (aM 0)), (1, .int v1)]) hx hb dX7_rank_44 hl (k := 3) rfl (by rw [ex12]; rfl) (by decide) rfl (fun ls hl => ?_)
          refine lv_goto (tgt := 14) hx hb dX7_rank_47 (by decide) ?_
          exact ih _ _ _ hf _ _ _ hw (lv_sub hl [2, 3, 1, 0] rfl) kx
        · replace hf := it_f hf b10
          refine lv_iconst (v := 1) hx hb dX7_rank_37 (by decide) ?_
          refine lv_goto (tgt := 42) hx hb dX7_rank_38 (by decide) ?_
          refine lv_iadd hx hb dX7_rank_42 ?_
          refine lv_topi (fun x13 ex13 => ?_)
          replace hf := nl_at hf ex13
          refine lv_istore_n (lv' := [(2, .int x13), (0, .ref (aM 0)), (1, .int v1), (3, .int v3)]) hx hb dX7_rank_43 rfl hl (by decide) rfl (fun ls hl => ?_)
          obtain ⟨x14, ex14⟩ : ∃ y : Int32, y = v3 + 1 := ⟨_, rfl⟩
          replace hf := nl_at hf ex14
          refine lv_iinc (v := x14) (lv' := [(3, .int x14), (2, .int x13), (0, .ref (aM 0)), (1, .int v1)]) hx hb dX7_rank_44 hl (k := 3) rfl (by rw [ex14]; rfl) (by decide) rfl (fun ls hl => ?_)
          refine lv_goto (tgt := 14) hx hb dX7_rank_47 (by decide) ?_
          exact ih _ _ _ hf _ _ _ hw (lv_sub hl [2, 3, 1, 0] rfl) kx
set_option maxHeartbeats 4000000 in
set_option maxRecDepth 100000 in
theorem c_X7_rank (l : Launch) (dC : Nat → ClassId) (dI : Nat → Nat → Nat) (cI cJ cZ : ClassId) (aM : Nat → Nat) (N : Nat) (M_sorts : (Nat → Int32)) (M_values : (Nat → Int32)) (M_rows : Int32) (M_placeOf : (Nat → Int32)) (M_falling : (Nat → Int32)) (M_made : Int32) (M_runs : Int32) (M_allRuns : Int32) (M_begin : (Nat → Int32)) (M_size : (Nat → Int32)) (M_pool : (Nat → Int32)) (M_pooled : Int32) (M_ways : Int32) (M_merges : Int32) (M_takes : (Nat → Int32)) (M_taken : (Nat → Int32)) (M_parts : Int32) (M_every : Int32) (M_samples : Int32) (M_sample : (Nat → Int32)) (M_ends : (Nat → Int32)) (M_partSize : (Nat → Int32)) (M_merged : (Nat → Int32)) (M_most : (Nat → Int32)) (M_done : (Nat → Int32)) (M_on : (Nat → Int32)) (M_ticks : Int32) (M_mergedAll : Int32) (M_again : Int32) (M_paces : (Nat → Int32)) (M_up : (Nat → Int32)) (M_byHost : (Nat → Int32)) (M_heap : (Nat → Int32)) (M_used : (Nat → Int32)) (M_planned : (Nat → Int32)) (M_gone : (Nat → Int32)) (v1 : Int32) {r : Int32} (hf : f_X7_rank N M_sorts M_values M_rows M_placeOf M_falling v1 = some r) :
    CtI l yX7_rank wsX7_rank rm_X7_rank (dC, dI) (tyl cI cJ cZ) [.ref (aM 0), .int v1] (w_M aM cI cJ cZ M_sorts M_values M_rows M_placeOf M_falling M_made M_runs M_allRuns M_begin M_size M_pool M_pooled M_ways M_merges M_takes M_taken M_parts M_every M_samples M_sample M_ends M_partSize M_merged M_most M_done M_on M_ticks M_mergedAll M_again M_paces M_up M_byHost M_heap M_used M_planned M_gone) (w_M aM cI cJ cZ M_sorts M_values M_rows M_placeOf M_falling M_made M_runs M_allRuns M_begin M_size M_pool M_pooled M_ways M_merges M_takes M_taken M_parts M_every M_samples M_sample M_ends M_partSize M_merged M_most M_done M_on M_ticks M_mergedAll M_again M_paces M_up M_byHost M_heap M_used M_planned M_gone) r := by
  refine startI (cc := cX7_rank) (maxL := 4) (rt := (some .int)) (by decide +kernel) rfl (Nat.le_of_ble_eq_true rfl) ?_
  intro p e s m below meth c A ls X hr hlocks hw hl
  replace X : Cx p m c cX7_rank 4 s _ wsX7_rank RX7 (dC, dI) (tyl cI cJ cZ) A := X
  replace hl : lv_has ls 4 [(0, .ref (aM 0)), (1, .int v1)] := hl
  obtain ⟨hx, hb, hml, hown, hts⟩ := X.1
  have hK := X.2.1
  have hN := X.2.2.2
  unfold f_X7_rank at hf
  refine lv_aload_n hx hb dX7_rank_0 rfl (lv_at hl 0 rfl) ?_
  refine lv_iload_n hx hb dX7_rank_1 rfl (lv_at hl 1 rfl) ?_
  obtain ⟨r1, h2, hf⟩ := bd1_ob hf
  refine clFI (As := [.int v1]) (rest := []) X (c_X7_isRow l dC dI cI cJ cZ aM N M_sorts M_values M_rows M_placeOf M_falling M_made M_runs M_allRuns M_begin M_size M_pool M_pooled M_ways M_merges M_takes M_taken M_parts M_every M_samples M_sample M_ends M_partSize M_merged M_most M_done M_on M_ticks M_mergedAll M_again M_paces M_up M_byHost M_heap M_used M_planned M_gone v1 h2) (cwV 1 hts gX7_rank_X7_isRow rfl rfl rfl (by decide +kernel) ⟨Nat.le_of_ble_eq_true rfl, Nat.le_of_ble_eq_true rfl⟩) (ci := 7) (k0 := 0) rfl rfl rfl hw rfl rfl hl.1 rfl (Nat.le_of_ble_eq_true rfl) dX7_rank_2 ⟨Nat.zero_le _, Nat.zero_le _⟩ (fun H locs hw => ?_)
  refine lv_if_ne (tgt := 10) hx hb dX7_rank_5 (by decide) (fun b3 => ?_) (fun b3 => ?_)
  · replace hf := it_f hf b3
    refine lv_iconst (v := 0) hx hb dX7_rank_10 (by decide) ?_
    refine lv_istore_n (lv' := [(2, .int 0), (0, .ref (aM 0)), (1, .int v1)]) hx hb dX7_rank_11 rfl hl (by decide) rfl (fun ls hl => ?_)
    refine lv_iconst (v := 0) hx hb dX7_rank_12 (by decide) ?_
    refine lv_istore_n (lv' := [(3, .int 0), (2, .int 0), (0, .ref (aM 0)), (1, .int v1)]) hx hb dX7_rank_13 rfl hl (by decide) rfl (fun ls hl => ?_)
    obtain ⟨e15, h16, hf⟩ := bd1_ob hf
    refine t_X7_rank_14 aM X N M_sorts M_values M_rows M_placeOf M_falling M_made M_runs M_allRuns M_begin M_size M_pool M_pooled M_ways M_merges M_takes M_taken M_parts M_every M_samples M_sample M_ends M_partSize M_merged M_most M_done M_on M_ticks M_mergedAll M_again M_paces M_up M_byHost M_heap M_used M_planned M_gone v1 N _ _ _ h16 _ _ _ hw (lv_sub hl [2, 3, 1, 0] rfl) (fun H locs ls hw hl => ?_)
    refine lv_iload_n hx hb dX7_rank_50 rfl (lv_at hl 0 rfl) ?_
    cases hf
    exact endI X hr rfl hlocks rfl hw dX7_rank_51
  · replace hf := it_t hf b3
    refine lv_iconst (v := (-1)) hx hb dX7_rank_8 (by decide) ?_
    cases hf
    exact endI X hr rfl hlocks rfl hw dX7_rank_9
def rm_X7_runs : Room := { frames := 1, cells := 0, slots := 0, locals := 22 }
set_option maxRecDepth 20000 in
theorem i_X7_runs_X7 : ∀ w ∈ u_ws RX7 TX7 36, w ∈ wsX7_runs := by decide +kernel
set_option maxRecDepth 20000 in
theorem m_X7_runs_0 : Cond.fieldLink RX7 31 "GreatSortModel" "runs" "I" ∈ wsX7_runs := by decide +kernel
set_option maxRecDepth 20000 in
theorem m_X7_runs_1 : Cond.fieldLink RX7 47 "GreatSortModel" "pooled" "I" ∈ wsX7_runs := by decide +kernel
set_option maxRecDepth 20000 in
theorem m_X7_runs_2 : Cond.fieldLink RX7 50 "GreatSortModel" "ways" "I" ∈ wsX7_runs := by decide +kernel
set_option maxRecDepth 20000 in
theorem m_X7_runs_3 : Cond.fieldLink RX7 53 "GreatSortModel" "merges" "I" ∈ wsX7_runs := by decide +kernel
set_option maxRecDepth 20000 in
theorem m_X7_runs_4 : Cond.fieldLink RX7 62 "GreatSortModel" "parts" "I" ∈ wsX7_runs := by decide +kernel
set_option maxRecDepth 20000 in
theorem m_X7_runs_5 : Cond.fieldLink RX7 68 "GreatSortModel" "samples" "I" ∈ wsX7_runs := by decide +kernel
set_option maxRecDepth 20000 in
theorem m_X7_runs_6 : Cond.fieldLink RX7 16 "GreatSortModel" "rows" "I" ∈ wsX7_runs := by decide +kernel
set_option maxRecDepth 20000 in
theorem m_X7_runs_7 : Cond.fieldLink RX7 110 "GreatSortModel" "heap" "[I" ∈ wsX7_runs := by decide +kernel
set_option maxRecDepth 20000 in
theorem m_X7_runs_8 : Cond.fieldLink RX7 44 "GreatSortModel" "pool" "[I" ∈ wsX7_runs := by decide +kernel
set_option maxRecDepth 20000 in
theorem m_X7_runs_9 : Cond.fieldLink RX7 40 "GreatSortModel" "size" "[I" ∈ wsX7_runs := by decide +kernel
set_option maxRecDepth 20000 in
theorem m_X7_runs_10 : Cond.fieldLink RX7 37 "GreatSortModel" "begin" "[I" ∈ wsX7_runs := by decide +kernel
set_option maxRecDepth 20000 in
theorem m_X7_runs_11 : Cond.fieldLink RX7 34 "GreatSortModel" "allRuns" "I" ∈ wsX7_runs := by decide +kernel
set_option maxRecDepth 20000 in
theorem m_X7_runs_12 : Cond.fieldLink RX7 27 "GreatSortModel" "made" "Z" ∈ wsX7_runs := by decide +kernel
set_option maxHeartbeats 4000000 in
set_option maxRecDepth 100000 in
theorem t_X7_runs_46 {p : Program} {l : Launch} {e : Env} {s : State} {m : MethodId} {args : Array Value} {below : List Frame} {meth : Method} {c : Code} {Q : State → Prop} {dC : Nat → ClassId} {dI : Nat → Nat → Nat} {cI cJ cZ : ClassId} {A : Nat → Prop} (aM : Nat → Nat) (X : Cx p m c cX7_runs 7 s args wsX7_runs RX7 (dC, dI) (tyl cI cJ cZ) A) (N : Nat) (M_sorts : (Nat → Int32)) (M_values : (Nat → Int32)) (M_rows : Int32) (M_placeOf : (Nat → Int32)) (M_falling : (Nat → Int32)) (M_made : Int32) (M_runs : Int32) (M_allRuns : Int32) (M_begin : (Nat → Int32)) (M_size : (Nat → Int32)) (M_pool : (Nat → Int32)) (M_pooled : Int32) (M_ways : Int32) (M_merges : Int32) (M_takes : (Nat → Int32)) (M_taken : (Nat → Int32)) (M_parts : Int32) (M_every : Int32) (M_samples : Int32) (M_sample : (Nat → Int32)) (M_ends : (Nat → Int32)) (M_partSize : (Nat → Int32)) (M_merged : (Nat → Int32)) (M_most : (Nat → Int32)) (M_done : (Nat → Int32)) (M_on : (Nat → Int32)) (M_ticks : Int32) (M_mergedAll : Int32) (M_again : Int32) (M_paces : (Nat → Int32)) (M_up : (Nat → Int32)) (M_byHost : (Nat → Int32)) (M_used : (Nat → Int32)) (M_planned : (Nat → Int32)) (M_gone : (Nat → Int32)) (v1 : Int32) :
    ∀ (n : Nat) (v2 : Int32) (v3 : Int32) (M_heap : (Nat → Int32)) (e2 : Int32) (e3 : Int32) (e_M_heap : (Nat → Int32)), l_X7_runs_46 N M_rows v1 n v2 v3 M_heap = some (e2, e3, e_M_heap) → ∀ (H : Heap) (locs : List Loc) (ls : Array Slot), Wd (dC, dI) A s.heap H locs (w_M aM cI cJ cZ M_sorts M_values M_rows M_placeOf M_falling M_made M_runs M_allRuns M_begin M_size M_pool M_pooled M_ways M_merges M_takes M_taken M_parts M_every M_samples M_sample M_ends M_partSize M_merged M_most M_done M_on M_ticks M_mergedAll M_again M_paces M_up M_byHost M_heap M_used M_planned M_gone) → lv_has ls 7 [(0, .ref (aM 0)), (1, .int v1), (2, .int v2), (3, .int v3)] → (∀ (H : Heap) (locs : List Loc) (ls : Array Slot), Wd (dC, dI) A s.heap H locs (w_M aM cI cJ cZ M_sorts M_values M_rows M_placeOf M_falling M_made M_runs M_allRuns M_begin M_size M_pool M_pooled M_ways M_merges M_takes M_taken M_parts M_every M_samples M_sample M_ends M_partSize M_merged M_most M_done M_on M_ticks M_mergedAll M_again M_paces M_up M_byHost e_M_heap M_used M_planned M_gone) → lv_has ls 7 [(0, .ref (aM 0)), (2, .int e2), (3, .int e3)] → W p l e rm_X7_runs s m args below meth c H locs 0 0 Q (F0 m 75 ls [])) → W p l e rm_X7_runs s m args below meth c H locs 0 0 Q (F0 m 46 ls []) := by
  obtain ⟨hx, hb, hml, hown, hts⟩ := X.1
  have hK := X.2.1
  have hN := X.2.2.2
  intro n
  induction n with
  | zero =>
    intro _ _ _ _ _ _ hf
    cases hf
  | succ n ih =>
    intro v2 v3 M_heap e2 e3 e_M_heap hf H locs ls hw hl kx
    rw [l_X7_runs_46] at hf
    refine lv_iload_n hx hb dX7_runs_46 rfl (lv_at hl 2 rfl) ?_
    refine lv_iload_n hx hb dX7_runs_47 rfl (lv_at hl 1 rfl) ?_
    refine lv_icmp_ge (tgt := 75) hx hb dX7_runs_48 (by decide) (fun b4 => ?_) (fun b4 => ?_)
    · replace hf := it_t hf b4
      cases hf
      exact kx _ _ _ hw (lv_sub hl [0, 2, 3] rfl)
    · replace hf := it_f hf b4
      refine lv_iload_n hx hb dX7_runs_51 rfl (lv_at hl 3 rfl) ?_
      refine lv_aload_n hx hb dX7_runs_52 rfl (lv_at hl 0 rfl) ?_
      refine va_get (D := (dC, dI)) (ci := 7) (v := .int M_rows) (C := RX7) (T := TX7) (N := 36) hx hb hts i_X7_runs_X7 hown hK hw.1 0 rfl rfl 2 (by decide) (hts _ m_X7_runs_6) (fun _ h9 => h9) rfl dX7_runs_53 ?_
      refine lv_icmp_ge (tgt := 75) hx hb dX7_runs_56 (by decide) (fun b5 => ?_) (fun b5 => ?_)
      · replace hf := it_t hf b5
        cases hf
        exact kx _ _ _ hw (lv_sub hl [0, 2, 3] rfl)
      · replace hf := it_f hf b5
        refine lv_aload_n hx hb dX7_runs_59 rfl (lv_at hl 0 rfl) ?_
        refine va_get (D := (dC, dI)) (ci := 7) (v := .ref (aM 20)) (C := RX7) (T := TX7) (N := 36) hx hb hts i_X7_runs_X7 hown hK hw.1 0 rfl rfl 32 (by decide) (hts _ m_X7_runs_7) (fun _ h9 => h9) rfl dX7_runs_60 ?_
        refine lv_iload_n hx hb dX7_runs_63 rfl (lv_at hl 2 rfl) ?_
        refine lv_iload_n hx hb dX7_runs_64 rfl (lv_at hl 3 rfl) ?_
        have g6 := ix_in (gd_l hf)
        replace hf := gd_r hf
        refine g_iast hx hb hK hw 20 0 rfl rfl g6 dX7_runs_65 (fun H locs hw => ?_)
        replace hw : Wd (dC, dI) A s.heap H locs (w_M aM cI cJ cZ M_sorts M_values M_rows M_placeOf M_falling M_made M_runs M_allRuns M_begin M_size M_pool M_pooled M_ways M_merges M_takes M_taken M_parts M_every M_samples M_sample M_ends M_partSize M_merged M_most M_done M_on M_ticks M_mergedAll M_again M_paces M_up M_byHost (upd M_heap v2.toNatClampNeg v3) M_used M_planned M_gone) := hw
        obtain ⟨x7, ex7⟩ : ∃ y : Int32, y = v2 + 1 := ⟨_, rfl⟩
        replace hf := nl_at hf ex7
        refine lv_iinc (v := x7) (lv' := [(2, .int x7), (0, .ref (aM 0)), (1, .int v1), (3, .int v3)]) hx hb dX7_runs_66 hl (k := 2) rfl (by rw [ex7]; rfl) (by decide) rfl (fun ls hl => ?_)
        obtain ⟨x8, ex8⟩ : ∃ y : Int32, y = v3 + 1 := ⟨_, rfl⟩
        replace hf := nl_at hf ex8
        refine lv_iinc (v := x8) (lv' := [(3, .int x8), (2, .int x7), (0, .ref (aM 0)), (1, .int v1)]) hx hb dX7_runs_69 hl (k := 3) rfl (by rw [ex8]; rfl) (by decide) rfl (fun ls hl => ?_)
        refine lv_goto (tgt := 46) hx hb dX7_runs_72 (by decide) ?_
        exact ih _ _ _ _ _ _ hf _ _ _ hw (lv_sub hl [2, 3, 1, 0] rfl) kx
set_option maxHeartbeats 4000000 in
set_option maxRecDepth 100000 in
theorem t_X7_runs_88 {p : Program} {l : Launch} {e : Env} {s : State} {m : MethodId} {args : Array Value} {below : List Frame} {meth : Method} {c : Code} {Q : State → Prop} {dC : Nat → ClassId} {dI : Nat → Nat → Nat} {cI cJ cZ : ClassId} {A : Nat → Prop} (aM : Nat → Nat) (X : Cx p m c cX7_runs 7 s args wsX7_runs RX7 (dC, dI) (tyl cI cJ cZ) A) (N : Nat) (M_sorts : (Nat → Int32)) (M_values : (Nat → Int32)) (M_rows : Int32) (M_placeOf : (Nat → Int32)) (M_falling : (Nat → Int32)) (M_made : Int32) (M_runs : Int32) (M_allRuns : Int32) (M_begin : (Nat → Int32)) (M_size : (Nat → Int32)) (M_pool : (Nat → Int32)) (M_pooled : Int32) (M_ways : Int32) (M_merges : Int32) (M_takes : (Nat → Int32)) (M_taken : (Nat → Int32)) (M_parts : Int32) (M_every : Int32) (M_samples : Int32) (M_sample : (Nat → Int32)) (M_ends : (Nat → Int32)) (M_partSize : (Nat → Int32)) (M_merged : (Nat → Int32)) (M_most : (Nat → Int32)) (M_done : (Nat → Int32)) (M_on : (Nat → Int32)) (M_ticks : Int32) (M_mergedAll : Int32) (M_again : Int32) (M_paces : (Nat → Int32)) (M_up : (Nat → Int32)) (M_byHost : (Nat → Int32)) (M_heap : (Nat → Int32)) (M_used : (Nat → Int32)) (M_planned : (Nat → Int32)) (M_gone : (Nat → Int32)) (v2 : Int32) (v3 : Int32) (v4 : Int32) :
    ∀ (n : Nat) (v5 : Int32) (v6 : Int32) (e5 : Int32), l_X7_runs_88 N M_sorts M_values M_placeOf M_falling M_heap v2 v4 n v5 v6 = some e5 → ∀ (H : Heap) (locs : List Loc) (ls : Array Slot), Wd (dC, dI) A s.heap H locs (w_M aM cI cJ cZ M_sorts M_values M_rows M_placeOf M_falling M_made M_runs M_allRuns M_begin M_size M_pool M_pooled M_ways M_merges M_takes M_taken M_parts M_every M_samples M_sample M_ends M_partSize M_merged M_most M_done M_on M_ticks M_mergedAll M_again M_paces M_up M_byHost M_heap M_used M_planned M_gone) → lv_has ls 7 [(0, .ref (aM 0)), (2, .int v2), (3, .int v3), (4, .int v4), (5, .int v5), (6, .int v6)] → (∀ (H : Heap) (locs : List Loc) (ls : Array Slot), Wd (dC, dI) A s.heap H locs (w_M aM cI cJ cZ M_sorts M_values M_rows M_placeOf M_falling M_made M_runs M_allRuns M_begin M_size M_pool M_pooled M_ways M_merges M_takes M_taken M_parts M_every M_samples M_sample M_ends M_partSize M_merged M_most M_done M_on M_ticks M_mergedAll M_again M_paces M_up M_byHost M_heap M_used M_planned M_gone) → lv_has ls 7 [(0, .ref (aM 0)), (2, .int v2), (3, .int v3), (4, .int v4), (5, .int e5)] → W p l e rm_X7_runs s m args below meth c H locs 0 0 Q (F0 m 161 ls [])) → W p l e rm_X7_runs s m args below meth c H locs 0 0 Q (F0 m 88 ls []) := by
  obtain ⟨hx, hb, hml, hown, hts⟩ := X.1
  have hK := X.2.1
  have hN := X.2.2.2
  intro n
  induction n with
  | zero =>
    intro _ _ _ hf
    cases hf
  | succ n ih =>
    intro v5 v6 e5 hf H locs ls hw hl kx
    rw [l_X7_runs_88] at hf
    refine lv_iload hx hb dX7_runs_88 (lv_at hl 5 rfl) ?_
    refine lv_iload_n hx hb dX7_runs_90 rfl (lv_at hl 1 rfl) ?_
    refine lv_icmp_ge (tgt := 161) hx hb dX7_runs_91 (by decide) (fun b14 => ?_) (fun b14 => ?_)
    · replace hf := it_t hf b14
      cases hf
      exact kx _ _ _ hw (lv_sub hl [0, 1, 2, 3, 4] rfl)
    · replace hf := it_f hf b14
      refine lv_iload hx hb dX7_runs_94 (lv_at hl 3 rfl) ?_
      refine lv_iconst (v := (-1)) hx hb dX7_runs_96 (by decide) ?_
      refine lv_icmp_eq (tgt := 119) hx hb dX7_runs_97 (by decide) (fun b15 => ?_) (fun b15 => ?_)
      · replace hf := it_t hf b15
        refine lv_iload hx hb dX7_runs_119 (lv_at hl 4 rfl) ?_
        refine lv_iconst (v := (-1)) hx hb dX7_runs_121 (by decide) ?_
        refine lv_icmp_eq (tgt := 146) hx hb dX7_runs_122 (by decide) (fun b16 => ?_) (fun b16 => ?_)
        · replace hf := it_t hf b16
          refine lv_iload hx hb dX7_runs_146 (lv_at hl 5 rfl) ?_
          refine lv_goto (tgt := 153) hx hb dX7_runs_148 (by decide) ?_
          refine lv_istore (lv' := [(5, .int v6), (0, .ref (aM 0)), (2, .int v2), (3, .int v3), (4, .int v4), (6, .int v6)]) hx hb dX7_runs_153 hl (by decide) rfl (fun ls hl => ?_)
          obtain ⟨x17, ex17⟩ : ∃ y : Int32, y = v6 + 1 := ⟨_, rfl⟩
          replace hf := nl_at hf ex17
          refine lv_iinc (v := x17) (lv' := [(6, .int x17), (5, .int v6), (0, .ref (aM 0)), (2, .int v2), (3, .int v3), (4, .int v4)]) hx hb dX7_runs_155 hl (k := 5) rfl (by rw [ex17]; rfl) (by decide) rfl (fun ls hl => ?_)
          refine lv_goto (tgt := 88) hx hb dX7_runs_158 (by decide) ?_
          exact ih _ _ _ hf _ _ _ hw (lv_sub hl [2, 3, 4, 5, 1, 0] rfl) kx
        · replace hf := it_f hf b16
          refine lv_aload_n hx hb dX7_runs_125 rfl (lv_at hl 0 rfl) ?_
          refine lv_aload_n hx hb dX7_runs_126 rfl (lv_at hl 0 rfl) ?_
          refine va_get (D := (dC, dI)) (ci := 7) (v := .ref (aM 20)) (C := RX7) (T := TX7) (N := 36) hx hb hts i_X7_runs_X7 hown hK hw.1 0 rfl rfl 32 (by decide) (hts _ m_X7_runs_7) (fun _ h9 => h9) rfl dX7_runs_127 ?_
          refine lv_iload hx hb dX7_runs_130 (lv_at hl 5 rfl) ?_
          have g18 := ix_in (gd_l hf)
          replace hf := gd_r hf
          refine va_iald hx hb hK hw.1 20 0 rfl rfl g18 dX7_runs_132 ?_
          refine lv_aload_n hx hb dX7_runs_133 rfl (lv_at hl 0 rfl) ?_
          refine va_get (D := (dC, dI)) (ci := 7) (v := .ref (aM 20)) (C := RX7) (T := TX7) (N := 36) hx hb hts i_X7_runs_X7 hown hK hw.1 0 rfl rfl 32 (by decide) (hts _ m_X7_runs_7) (fun _ h9 => h9) rfl dX7_runs_134 ?_
          refine lv_iload hx hb dX7_runs_137 (lv_at hl 4 rfl) ?_
          have g19 := ix_in (gd_l hf)
          replace hf := gd_r hf
          refine va_iald hx hb hK hw.1 20 0 rfl rfl g19 dX7_runs_139 ?_
          obtain ⟨r20, h21, hf⟩ := bd1_ob hf
          refine clFI (As := [.int (M_heap v6.toNatClampNeg), .int (M_heap v5.toNatClampNeg)]) (rest := []) X (c_X7_ahead l dC dI cI cJ cZ aM N M_sorts M_values M_rows M_placeOf M_falling M_made M_runs M_allRuns M_begin M_size M_pool M_pooled M_ways M_merges M_takes M_taken M_parts M_every M_samples M_sample M_ends M_partSize M_merged M_most M_done M_on M_ticks M_mergedAll M_again M_paces M_up M_byHost M_heap M_used M_planned M_gone (M_heap v6.toNatClampNeg) (M_heap v5.toNatClampNeg) h21) (cwV 2 hts gX7_runs_X7_ahead rfl rfl rfl (by decide +kernel) ⟨Nat.le_of_ble_eq_true rfl, Nat.le_of_ble_eq_true rfl⟩) (ci := 7) (k0 := 0) rfl rfl rfl hw rfl rfl hl.1 rfl (Nat.le_of_ble_eq_true rfl) dX7_runs_140 ⟨Nat.zero_le _, Nat.zero_le _⟩ (fun H locs hw => ?_)
          refine lv_if_eq (tgt := 151) hx hb dX7_runs_143 (by decide) (fun b22 => ?_) (fun b22 => ?_)
          · replace hf := it_t hf b22
            refine lv_iload hx hb dX7_runs_151 (lv_at hl 4 rfl) ?_
            refine lv_istore (lv' := [(5, .int v5), (0, .ref (aM 0)), (2, .int v2), (3, .int v3), (4, .int v4), (6, .int v6)]) hx hb dX7_runs_153 hl (by decide) rfl (fun ls hl => ?_)
            obtain ⟨x23, ex23⟩ : ∃ y : Int32, y = v6 + 1 := ⟨_, rfl⟩
            replace hf := nl_at hf ex23
            refine lv_iinc (v := x23) (lv' := [(6, .int x23), (5, .int v5), (0, .ref (aM 0)), (2, .int v2), (3, .int v3), (4, .int v4)]) hx hb dX7_runs_155 hl (k := 5) rfl (by rw [ex23]; rfl) (by decide) rfl (fun ls hl => ?_)
            refine lv_goto (tgt := 88) hx hb dX7_runs_158 (by decide) ?_
            exact ih _ _ _ hf _ _ _ hw (lv_sub hl [2, 3, 4, 5, 1, 0] rfl) kx
          · replace hf := it_f hf b22
            refine lv_iload hx hb dX7_runs_146 (lv_at hl 5 rfl) ?_
            refine lv_goto (tgt := 153) hx hb dX7_runs_148 (by decide) ?_
            refine lv_istore (lv' := [(5, .int v6), (0, .ref (aM 0)), (2, .int v2), (3, .int v3), (4, .int v4), (6, .int v6)]) hx hb dX7_runs_153 hl (by decide) rfl (fun ls hl => ?_)
            obtain ⟨x24, ex24⟩ : ∃ y : Int32, y = v6 + 1 := ⟨_, rfl⟩
            replace hf := nl_at hf ex24
            refine lv_iinc (v := x24) (lv' := [(6, .int x24), (5, .int v6), (0, .ref (aM 0)), (2, .int v2), (3, .int v3), (4, .int v4)]) hx hb dX7_runs_155 hl (k := 5) rfl (by rw [ex24]; rfl) (by decide) rfl (fun ls hl => ?_)
            refine lv_goto (tgt := 88) hx hb dX7_runs_158 (by decide) ?_
            exact ih _ _ _ hf _ _ _ hw (lv_sub hl [2, 3, 4, 5, 1, 0] rfl) kx
      · replace hf := it_f hf b15
        refine lv_aload_n hx hb dX7_runs_100 rfl (lv_at hl 0 rfl) ?_
        refine lv_aload_n hx hb dX7_runs_101 rfl (lv_at hl 0 rfl) ?_
        refine va_get (D := (dC, dI)) (ci := 7) (v := .ref (aM 20)) (C := RX7) (T := TX7) (N := 36) hx hb hts i_X7_runs_X7 hown hK hw.1 0 rfl rfl 32 (by decide) (hts _ m_X7_runs_7) (fun _ h9 => h9) rfl dX7_runs_102 ?_
        refine lv_iload hx hb dX7_runs_105 (lv_at hl 5 rfl) ?_
        have g25 := ix_in (gd_l hf)
        replace hf := gd_r hf
        refine va_iald hx hb hK hw.1 20 0 rfl rfl g25 dX7_runs_107 ?_
        refine lv_iload hx hb dX7_runs_108 (lv_at hl 3 rfl) ?_
        obtain ⟨r26, h27, hf⟩ := bd1_ob hf
        refine clFI (As := [.int (M_heap v6.toNatClampNeg), .int v4]) (rest := []) X (c_X7_ahead l dC dI cI cJ cZ aM N M_sorts M_values M_rows M_placeOf M_falling M_made M_runs M_allRuns M_begin M_size M_pool M_pooled M_ways M_merges M_takes M_taken M_parts M_every M_samples M_sample M_ends M_partSize M_merged M_most M_done M_on M_ticks M_mergedAll M_again M_paces M_up M_byHost M_heap M_used M_planned M_gone (M_heap v6.toNatClampNeg) v4 h27) (cwV 2 hts gX7_runs_X7_ahead rfl rfl rfl (by decide +kernel) ⟨Nat.le_of_ble_eq_true rfl, Nat.le_of_ble_eq_true rfl⟩) (ci := 7) (k0 := 0) rfl rfl rfl hw rfl rfl hl.1 rfl (Nat.le_of_ble_eq_true rfl) dX7_runs_110 ⟨Nat.zero_le _, Nat.zero_le _⟩ (fun H locs hw => ?_)
        refine lv_if_eq (tgt := 119) hx hb dX7_runs_113 (by decide) (fun b28 => ?_) (fun b28 => ?_)
        · replace hf := it_t hf b28
          refine lv_iload hx hb dX7_runs_119 (lv_at hl 4 rfl) ?_
          refine lv_iconst (v := (-1)) hx hb dX7_runs_121 (by decide) ?_
          refine lv_icmp_eq (tgt := 146) hx hb dX7_runs_122 (by decide) (fun b29 => ?_) (fun b29 => ?_)
          · replace hf := it_t hf b29
            refine lv_iload hx hb dX7_runs_146 (lv_at hl 5 rfl) ?_
            refine lv_goto (tgt := 153) hx hb dX7_runs_148 (by decide) ?_
            refine lv_istore (lv' := [(5, .int v6), (0, .ref (aM 0)), (2, .int v2), (3, .int v3), (4, .int v4), (6, .int v6)]) hx hb dX7_runs_153 hl (by decide) rfl (fun ls hl => ?_)
            obtain ⟨x30, ex30⟩ : ∃ y : Int32, y = v6 + 1 := ⟨_, rfl⟩
            replace hf := nl_at hf ex30
            refine lv_iinc (v := x30) (lv' := [(6, .int x30), (5, .int v6), (0, .ref (aM 0)), (2, .int v2), (3, .int v3), (4, .int v4)]) hx hb dX7_runs_155 hl (k := 5) rfl (by rw [ex30]; rfl) (by decide) rfl (fun ls hl => ?_)
            refine lv_goto (tgt := 88) hx hb dX7_runs_158 (by decide) ?_
            exact ih _ _ _ hf _ _ _ hw (lv_sub hl [2, 3, 4, 5, 1, 0] rfl) kx
          · replace hf := it_f hf b29
            refine lv_aload_n hx hb dX7_runs_125 rfl (lv_at hl 0 rfl) ?_
            refine lv_aload_n hx hb dX7_runs_126 rfl (lv_at hl 0 rfl) ?_
            refine va_get (D := (dC, dI)) (ci := 7) (v := .ref (aM 20)) (C := RX7) (T := TX7) (N := 36) hx hb hts i_X7_runs_X7 hown hK hw.1 0 rfl rfl 32 (by decide) (hts _ m_X7_runs_7) (fun _ h9 => h9) rfl dX7_runs_127 ?_
            refine lv_iload hx hb dX7_runs_130 (lv_at hl 5 rfl) ?_
            have g31 := ix_in (gd_l hf)
            replace hf := gd_r hf
            refine va_iald hx hb hK hw.1 20 0 rfl rfl g31 dX7_runs_132 ?_
            refine lv_aload_n hx hb dX7_runs_133 rfl (lv_at hl 0 rfl) ?_
            refine va_get (D := (dC, dI)) (ci := 7) (v := .ref (aM 20)) (C := RX7) (T := TX7) (N := 36) hx hb hts i_X7_runs_X7 hown hK hw.1 0 rfl rfl 32 (by decide) (hts _ m_X7_runs_7) (fun _ h9 => h9) rfl dX7_runs_134 ?_
            refine lv_iload hx hb dX7_runs_137 (lv_at hl 4 rfl) ?_
            have g32 := ix_in (gd_l hf)
            replace hf := gd_r hf
            refine va_iald hx hb hK hw.1 20 0 rfl rfl g32 dX7_runs_139 ?_
            obtain ⟨r33, h34, hf⟩ := bd1_ob hf
            refine clFI (As := [.int (M_heap v6.toNatClampNeg), .int (M_heap v5.toNatClampNeg)]) (rest := []) X (c_X7_ahead l dC dI cI cJ cZ aM N M_sorts M_values M_rows M_placeOf M_falling M_made M_runs M_allRuns M_begin M_size M_pool M_pooled M_ways M_merges M_takes M_taken M_parts M_every M_samples M_sample M_ends M_partSize M_merged M_most M_done M_on M_ticks M_mergedAll M_again M_paces M_up M_byHost M_heap M_used M_planned M_gone (M_heap v6.toNatClampNeg) (M_heap v5.toNatClampNeg) h34) (cwV 2 hts gX7_runs_X7_ahead rfl rfl rfl (by decide +kernel) ⟨Nat.le_of_ble_eq_true rfl, Nat.le_of_ble_eq_true rfl⟩) (ci := 7) (k0 := 0) rfl rfl rfl hw rfl rfl hl.1 rfl (Nat.le_of_ble_eq_true rfl) dX7_runs_140 ⟨Nat.zero_le _, Nat.zero_le _⟩ (fun H locs hw => ?_)
            refine lv_if_eq (tgt := 151) hx hb dX7_runs_143 (by decide) (fun b35 => ?_) (fun b35 => ?_)
            · replace hf := it_t hf b35
              refine lv_iload hx hb dX7_runs_151 (lv_at hl 4 rfl) ?_
              refine lv_istore (lv' := [(5, .int v5), (0, .ref (aM 0)), (2, .int v2), (3, .int v3), (4, .int v4), (6, .int v6)]) hx hb dX7_runs_153 hl (by decide) rfl (fun ls hl => ?_)
              obtain ⟨x36, ex36⟩ : ∃ y : Int32, y = v6 + 1 := ⟨_, rfl⟩
              replace hf := nl_at hf ex36
              refine lv_iinc (v := x36) (lv' := [(6, .int x36), (5, .int v5), (0, .ref (aM 0)), (2, .int v2), (3, .int v3), (4, .int v4)]) hx hb dX7_runs_155 hl (k := 5) rfl (by rw [ex36]; rfl) (by decide) rfl (fun ls hl => ?_)
              refine lv_goto (tgt := 88) hx hb dX7_runs_158 (by decide) ?_
              exact ih _ _ _ hf _ _ _ hw (lv_sub hl [2, 3, 4, 5, 1, 0] rfl) kx
            · replace hf := it_f hf b35
              refine lv_iload hx hb dX7_runs_146 (lv_at hl 5 rfl) ?_
              refine lv_goto (tgt := 153) hx hb dX7_runs_148 (by decide) ?_
              refine lv_istore (lv' := [(5, .int v6), (0, .ref (aM 0)), (2, .int v2), (3, .int v3), (4, .int v4), (6, .int v6)]) hx hb dX7_runs_153 hl (by decide) rfl (fun ls hl => ?_)
              obtain ⟨x37, ex37⟩ : ∃ y : Int32, y = v6 + 1 := ⟨_, rfl⟩
              replace hf := nl_at hf ex37
              refine lv_iinc (v := x37) (lv' := [(6, .int x37), (5, .int v6), (0, .ref (aM 0)), (2, .int v2), (3, .int v3), (4, .int v4)]) hx hb dX7_runs_155 hl (k := 5) rfl (by rw [ex37]; rfl) (by decide) rfl (fun ls hl => ?_)
              refine lv_goto (tgt := 88) hx hb dX7_runs_158 (by decide) ?_
              exact ih _ _ _ hf _ _ _ hw (lv_sub hl [2, 3, 4, 5, 1, 0] rfl) kx
        · replace hf := it_f hf b28
          refine lv_goto (tgt := 155) hx hb dX7_runs_116 (by decide) ?_
          obtain ⟨x38, ex38⟩ : ∃ y : Int32, y = v6 + 1 := ⟨_, rfl⟩
          replace hf := nl_at hf ex38
          refine lv_iinc (v := x38) (lv' := [(6, .int x38), (0, .ref (aM 0)), (2, .int v2), (3, .int v3), (4, .int v4), (5, .int v5)]) hx hb dX7_runs_155 hl (k := 5) rfl (by rw [ex38]; rfl) (by decide) rfl (fun ls hl => ?_)
          refine lv_goto (tgt := 88) hx hb dX7_runs_158 (by decide) ?_
          exact ih _ _ _ hf _ _ _ hw (lv_sub hl [1, 2, 3, 4, 5, 0] rfl) kx
set_option maxHeartbeats 4000000 in
set_option maxRecDepth 100000 in
theorem t_X7_runs_78 {p : Program} {l : Launch} {e : Env} {s : State} {m : MethodId} {args : Array Value} {below : List Frame} {meth : Method} {c : Code} {Q : State → Prop} {dC : Nat → ClassId} {dI : Nat → Nat → Nat} {cI cJ cZ : ClassId} {A : Nat → Prop} (aM : Nat → Nat) (X : Cx p m c cX7_runs 7 s args wsX7_runs RX7 (dC, dI) (tyl cI cJ cZ) A) (N : Nat) (M_sorts : (Nat → Int32)) (M_values : (Nat → Int32)) (M_rows : Int32) (M_placeOf : (Nat → Int32)) (M_falling : (Nat → Int32)) (M_made : Int32) (M_allRuns : Int32) (M_ways : Int32) (M_merges : Int32) (M_takes : (Nat → Int32)) (M_taken : (Nat → Int32)) (M_parts : Int32) (M_every : Int32) (M_samples : Int32) (M_sample : (Nat → Int32)) (M_ends : (Nat → Int32)) (M_partSize : (Nat → Int32)) (M_merged : (Nat → Int32)) (M_most : (Nat → Int32)) (M_done : (Nat → Int32)) (M_on : (Nat → Int32)) (M_ticks : Int32) (M_mergedAll : Int32) (M_again : Int32) (M_paces : (Nat → Int32)) (M_up : (Nat → Int32)) (M_byHost : (Nat → Int32)) (M_used : (Nat → Int32)) (M_planned : (Nat → Int32)) (M_gone : (Nat → Int32))  :
    ∀ (n : Nat) (v2 : Int32) (v3 : Int32) (v4 : Int32) (M_runs : Int32) (M_begin : (Nat → Int32)) (M_size : (Nat → Int32)) (M_pool : (Nat → Int32)) (M_pooled : Int32) (M_heap : (Nat → Int32)) (e_M_runs : Int32) (e_M_begin : (Nat → Int32)) (e_M_size : (Nat → Int32)) (e_M_pool : (Nat → Int32)) (e_M_pooled : Int32) (e_M_heap : (Nat → Int32)), l_X7_runs_78 N M_sorts M_values M_rows M_placeOf M_falling n v2 v3 v4 M_runs M_begin M_size M_pool M_pooled M_heap = some (e_M_runs, e_M_begin, e_M_size, e_M_pool, e_M_pooled, e_M_heap) → ∀ (H : Heap) (locs : List Loc) (ls : Array Slot), Wd (dC, dI) A s.heap H locs (w_M aM cI cJ cZ M_sorts M_values M_rows M_placeOf M_falling M_made M_runs M_allRuns M_begin M_size M_pool M_pooled M_ways M_merges M_takes M_taken M_parts M_every M_samples M_sample M_ends M_partSize M_merged M_most M_done M_on M_ticks M_mergedAll M_again M_paces M_up M_byHost M_heap M_used M_planned M_gone) → lv_has ls 7 [(0, .ref (aM 0)), (2, .int v2), (3, .int v3), (4, .int v4)] → (∀ (H : Heap) (locs : List Loc) (ls : Array Slot), Wd (dC, dI) A s.heap H locs (w_M aM cI cJ cZ M_sorts M_values M_rows M_placeOf M_falling M_made e_M_runs M_allRuns e_M_begin e_M_size e_M_pool e_M_pooled M_ways M_merges M_takes M_taken M_parts M_every M_samples M_sample M_ends M_partSize M_merged M_most M_done M_on M_ticks M_mergedAll M_again M_paces M_up M_byHost e_M_heap M_used M_planned M_gone) → lv_has ls 7 [(0, .ref (aM 0))] → W p l e rm_X7_runs s m args below meth c H locs 0 0 Q (F0 m 298 ls [])) → W p l e rm_X7_runs s m args below meth c H locs 0 0 Q (F0 m 78 ls []) := by
  obtain ⟨hx, hb, hml, hown, hts⟩ := X.1
  have hK := X.2.1
  have hN := X.2.2.2
  intro n
  induction n with
  | zero =>
    intro _ _ _ _ _ _ _ _ _ _ _ _ _ _ _ hf
    cases hf
  | succ n ih =>
    intro v2 v3 v4 M_runs M_begin M_size M_pool M_pooled M_heap e_M_runs e_M_begin e_M_size e_M_pool e_M_pooled e_M_heap hf H locs ls hw hl kx
    rw [l_X7_runs_78] at hf
    refine lv_iload_n hx hb dX7_runs_78 rfl (lv_at hl 1 rfl) ?_
    refine lv_if_le (tgt := 298) hx hb dX7_runs_79 (by decide) (fun b13 => ?_) (fun b13 => ?_)
    · replace hf := it_t hf b13
      cases hf
      exact kx _ _ _ hw (lv_sub hl [0] rfl)
    · replace hf := it_f hf b13
      refine lv_iconst (v := (-1)) hx hb dX7_runs_82 (by decide) ?_
      refine lv_istore (lv' := [(5, .int (-1)), (0, .ref (aM 0)), (2, .int v2), (3, .int v3), (4, .int v4)]) hx hb dX7_runs_83 hl (by decide) rfl (fun ls hl => ?_)
      refine lv_iconst (v := 0) hx hb dX7_runs_85 (by decide) ?_
      refine lv_istore (lv' := [(6, .int 0), (5, .int (-1)), (0, .ref (aM 0)), (2, .int v2), (3, .int v3), (4, .int v4)]) hx hb dX7_runs_86 hl (by decide) rfl (fun ls hl => ?_)
      obtain ⟨e39, h40, hf⟩ := bd1_ob hf
      refine t_X7_runs_88 aM X N M_sorts M_values M_rows M_placeOf M_falling M_made M_runs M_allRuns M_begin M_size M_pool M_pooled M_ways M_merges M_takes M_taken M_parts M_every M_samples M_sample M_ends M_partSize M_merged M_most M_done M_on M_ticks M_mergedAll M_again M_paces M_up M_byHost M_heap M_used M_planned M_gone v2 v3 v4 N _ _ _ h40 _ _ _ hw (lv_sub hl [2, 3, 4, 5, 1, 0] rfl) (fun H locs ls hw hl => ?_)
      refine lv_iload hx hb dX7_runs_161 (lv_at hl 4 rfl) ?_
      refine lv_iconst (v := (-1)) hx hb dX7_runs_163 (by decide) ?_
      refine lv_icmp_ne (tgt := 173) hx hb dX7_runs_164 (by decide) (fun b41 => ?_) (fun b41 => ?_)
      · replace hf := it_f hf b41
        refine lv_iload hx hb dX7_runs_173 (lv_at hl 3 rfl) ?_
        refine lv_iconst (v := (-1)) hx hb dX7_runs_175 (by decide) ?_
        obtain ⟨y42, y43, y44, h45, hf⟩ := bd3_ob hf
        refine join_ (nL := 7) (dC, dI) A 212 [] (w_M aM cI cJ cZ M_sorts M_values M_rows M_placeOf M_falling M_made y42 M_allRuns y43 y44 M_pool M_pooled M_ways M_merges M_takes M_taken M_parts M_every M_samples M_sample M_ends M_partSize M_merged M_most M_done M_on M_ticks M_mergedAll M_again M_paces M_up M_byHost M_heap M_used M_planned M_gone) [(0, .ref (aM 0)), (2, .int v2), (3, .int v3), (5, .int e39)] (fun H locs ls hw hl => ?_) (fun jn => ?_)
        · refine lv_aload_n hx hb dX7_runs_212 rfl (lv_at hl 0 rfl) ?_
          refine va_get (D := (dC, dI)) (ci := 7) (v := .ref (aM 20)) (C := RX7) (T := TX7) (N := 36) hx hb hts i_X7_runs_X7 hown hK hw.1 0 rfl rfl 32 (by decide) (hts _ m_X7_runs_7) (fun _ h9 => h9) rfl dX7_runs_213 ?_
          refine lv_iload hx hb dX7_runs_216 (lv_at hl 3 rfl) ?_
          have g46 := ix_in (gd_l hf)
          replace hf := gd_r hf
          refine va_iald hx hb hK hw.1 20 0 rfl rfl g46 dX7_runs_218 ?_
          refine lv_topi (fun x47 ex47 => ?_)
          replace hf := nl_at hf ex47
          refine lv_istore (lv' := [(4, .int x47), (0, .ref (aM 0)), (2, .int v2), (3, .int v3), (5, .int e39)]) hx hb dX7_runs_219 hl (by decide) rfl (fun ls hl => ?_)
          refine lv_aload_n hx hb dX7_runs_221 rfl (lv_at hl 1 rfl) ?_
          refine va_get (D := (dC, dI)) (ci := 7) (v := .ref (aM 7)) (C := RX7) (T := TX7) (N := 36) hx hb hts i_X7_runs_X7 hown hK hw.1 0 rfl rfl 10 (by decide) (hts _ m_X7_runs_8) (fun _ h9 => h9) rfl dX7_runs_222 ?_
          refine lv_aload_n hx hb dX7_runs_225 rfl (lv_at hl 1 rfl) ?_
          refine va_get (D := (dC, dI)) (ci := 7) (v := .int M_pooled) (C := RX7) (T := TX7) (N := 36) hx hb hts i_X7_runs_X7 hown hK hw.1 0 rfl rfl 11 (by decide) (hts _ m_X7_runs_1) (fun _ h9 => h9) rfl dX7_runs_226 ?_
          refine lv_iload hx hb dX7_runs_229 (lv_at hl 0 rfl) ?_
          have g48 := ix_in (gd_l hf)
          replace hf := gd_r hf
          refine g_iast hx hb hK hw 7 0 rfl rfl g48 dX7_runs_231 (fun H locs hw => ?_)
          replace hw : Wd (dC, dI) A s.heap H locs (w_M aM cI cJ cZ M_sorts M_values M_rows M_placeOf M_falling M_made y42 M_allRuns y43 y44 (upd M_pool M_pooled.toNatClampNeg x47) M_pooled M_ways M_merges M_takes M_taken M_parts M_every M_samples M_sample M_ends M_partSize M_merged M_most M_done M_on M_ticks M_mergedAll M_again M_paces M_up M_byHost M_heap M_used M_planned M_gone) := hw
          refine lv_aload_n hx hb dX7_runs_232 rfl (lv_at hl 1 rfl) ?_
          refine lv_dup hx hb dX7_runs_233 rfl ?_
          refine va_get (D := (dC, dI)) (ci := 7) (v := .int M_pooled) (C := RX7) (T := TX7) (N := 36) hx hb hts i_X7_runs_X7 hown hK hw.1 0 rfl rfl 11 (by decide) (hts _ m_X7_runs_1) (fun _ h9 => h9) rfl dX7_runs_234 ?_
          refine lv_iconst (v := 1) hx hb dX7_runs_237 (by decide) ?_
          refine lv_iadd hx hb dX7_runs_238 ?_
          refine lv_topi (fun x49 ex49 => ?_)
          replace hf := nl_at hf ex49
          refine g_put (D := (dC, dI)) (ci := 7) (v := .int x49) (ty := .int) (C := RX7) (T := TX7) (N := 36) hx hb hts i_X7_runs_X7 tyX7 tyX7_ok nmX7 hown hK hw 0 rfl rfl 11 (by decide) (hts _ m_X7_runs_1) (fun _ h9 => h9) rfl (by decide +kernel) rfl rfl (Nat.le_of_ble_eq_true rfl) dX7_runs_239 (fun H locs hw => ?_)
          replace hw : Wd (dC, dI) A s.heap H locs (w_M aM cI cJ cZ M_sorts M_values M_rows M_placeOf M_falling M_made y42 M_allRuns y43 y44 (upd M_pool M_pooled.toNatClampNeg x47) x49 M_ways M_merges M_takes M_taken M_parts M_every M_samples M_sample M_ends M_partSize M_merged M_most M_done M_on M_ticks M_mergedAll M_again M_paces M_up M_byHost M_heap M_used M_planned M_gone) := hw
          refine lv_aload_n hx hb dX7_runs_242 rfl (lv_at hl 1 rfl) ?_
          refine va_get (D := (dC, dI)) (ci := 7) (v := .ref (aM 6)) (C := RX7) (T := TX7) (N := 36) hx hb hts i_X7_runs_X7 hown hK hw.1 0 rfl rfl 9 (by decide) (hts _ m_X7_runs_9) (fun _ h9 => h9) rfl dX7_runs_243 ?_
          refine lv_aload_n hx hb dX7_runs_246 rfl (lv_at hl 1 rfl) ?_
          refine va_get (D := (dC, dI)) (ci := 7) (v := .int y42) (C := RX7) (T := TX7) (N := 36) hx hb hts i_X7_runs_X7 hown hK hw.1 0 rfl rfl 6 (by decide) (hts _ m_X7_runs_0) (fun _ h9 => h9) rfl dX7_runs_247 ?_
          refine lv_iconst (v := 1) hx hb dX7_runs_250 (by decide) ?_
          refine lv_isub hx hb dX7_runs_251 ?_
          refine lv_dup2_11 hx hb dX7_runs_252 rfl rfl ?_
          have g50 := ix_in (gd_l hf)
          replace hf := gd_r hf
          refine va_iald hx hb hK hw.1 6 0 rfl rfl g50 dX7_runs_253 ?_
          refine lv_iconst (v := 1) hx hb dX7_runs_254 (by decide) ?_
          refine lv_iadd hx hb dX7_runs_255 ?_
          refine lv_topi (fun x51 ex51 => ?_)
          replace hf := nl_at hf ex51
          have g52 := ix_in (gd_l hf)
          replace hf := gd_r hf
          refine g_iast hx hb hK hw 6 0 rfl rfl g52 dX7_runs_256 (fun H locs hw => ?_)
          replace hw : Wd (dC, dI) A s.heap H locs (w_M aM cI cJ cZ M_sorts M_values M_rows M_placeOf M_falling M_made y42 M_allRuns y43 (upd y44 (y42 - 1).toNatClampNeg x51) (upd M_pool M_pooled.toNatClampNeg x47) x49 M_ways M_merges M_takes M_taken M_parts M_every M_samples M_sample M_ends M_partSize M_merged M_most M_done M_on M_ticks M_mergedAll M_again M_paces M_up M_byHost M_heap M_used M_planned M_gone) := hw
          refine lv_iload_n hx hb dX7_runs_257 rfl (lv_at hl 3 rfl) ?_
          refine lv_aload_n hx hb dX7_runs_258 rfl (lv_at hl 1 rfl) ?_
          refine va_get (D := (dC, dI)) (ci := 7) (v := .int M_rows) (C := RX7) (T := TX7) (N := 36) hx hb hts i_X7_runs_X7 hown hK hw.1 0 rfl rfl 2 (by decide) (hts _ m_X7_runs_6) (fun _ h9 => h9) rfl dX7_runs_259 ?_
          refine lv_icmp_ge (tgt := 279) hx hb dX7_runs_262 (by decide) (fun b53 => ?_) (fun b53 => ?_)
          · replace hf := it_t hf b53
            obtain ⟨x54, ex54⟩ : ∃ y : Int32, y = v2 + (-1) := ⟨_, rfl⟩
            replace hf := nl_at hf ex54
            refine lv_iinc (v := x54) (lv' := [(2, .int x54), (4, .int x47), (0, .ref (aM 0)), (3, .int v3), (5, .int e39)]) hx hb dX7_runs_279 hl (k := 2) rfl (by rw [ex54]; rfl) (by decide) rfl (fun ls hl => ?_)
            refine lv_aload_n hx hb dX7_runs_282 rfl (lv_at hl 2 rfl) ?_
            refine va_get (D := (dC, dI)) (ci := 7) (v := .ref (aM 20)) (C := RX7) (T := TX7) (N := 36) hx hb hts i_X7_runs_X7 hown hK hw.1 0 rfl rfl 32 (by decide) (hts _ m_X7_runs_7) (fun _ h9 => h9) rfl dX7_runs_283 ?_
            refine lv_iload hx hb dX7_runs_286 (lv_at hl 4 rfl) ?_
            refine lv_aload_n hx hb dX7_runs_288 rfl (lv_at hl 2 rfl) ?_
            refine va_get (D := (dC, dI)) (ci := 7) (v := .ref (aM 20)) (C := RX7) (T := TX7) (N := 36) hx hb hts i_X7_runs_X7 hown hK hw.1 0 rfl rfl 32 (by decide) (hts _ m_X7_runs_7) (fun _ h9 => h9) rfl dX7_runs_289 ?_
            refine lv_iload_n hx hb dX7_runs_292 rfl (lv_at hl 0 rfl) ?_
            have g55 := ix_in (gd_l hf)
            replace hf := gd_r hf
            refine va_iald hx hb hK hw.1 20 0 rfl rfl g55 dX7_runs_293 ?_
            refine lv_topi (fun x56 ex56 => ?_)
            replace hf := nl_at hf ex56
            have g57 := ix_in (gd_l hf)
            replace hf := gd_r hf
            refine g_iast hx hb hK hw 20 0 rfl rfl g57 dX7_runs_294 (fun H locs hw => ?_)
            replace hw : Wd (dC, dI) A s.heap H locs (w_M aM cI cJ cZ M_sorts M_values M_rows M_placeOf M_falling M_made y42 M_allRuns y43 (upd y44 (y42 - 1).toNatClampNeg x51) (upd M_pool M_pooled.toNatClampNeg x47) x49 M_ways M_merges M_takes M_taken M_parts M_every M_samples M_sample M_ends M_partSize M_merged M_most M_done M_on M_ticks M_mergedAll M_again M_paces M_up M_byHost (upd M_heap e39.toNatClampNeg x56) M_used M_planned M_gone) := hw
            refine lv_goto (tgt := 78) hx hb dX7_runs_295 (by decide) ?_
            exact ih _ _ _ _ _ _ _ _ _ _ _ _ _ _ _ hf _ _ _ hw (lv_sub hl [2, 0, 3, 1] rfl) kx
          · replace hf := it_f hf b53
            refine lv_aload_n hx hb dX7_runs_265 rfl (lv_at hl 1 rfl) ?_
            refine va_get (D := (dC, dI)) (ci := 7) (v := .ref (aM 20)) (C := RX7) (T := TX7) (N := 36) hx hb hts i_X7_runs_X7 hown hK hw.1 0 rfl rfl 32 (by decide) (hts _ m_X7_runs_7) (fun _ h9 => h9) rfl dX7_runs_266 ?_
            refine lv_iload hx hb dX7_runs_269 (lv_at hl 4 rfl) ?_
            refine lv_iload_n hx hb dX7_runs_271 rfl (lv_at hl 3 rfl) ?_
            have g58 := ix_in (gd_l hf)
            replace hf := gd_r hf
            refine g_iast hx hb hK hw 20 0 rfl rfl g58 dX7_runs_272 (fun H locs hw => ?_)
            replace hw : Wd (dC, dI) A s.heap H locs (w_M aM cI cJ cZ M_sorts M_values M_rows M_placeOf M_falling M_made y42 M_allRuns y43 (upd y44 (y42 - 1).toNatClampNeg x51) (upd M_pool M_pooled.toNatClampNeg x47) x49 M_ways M_merges M_takes M_taken M_parts M_every M_samples M_sample M_ends M_partSize M_merged M_most M_done M_on M_ticks M_mergedAll M_again M_paces M_up M_byHost (upd M_heap e39.toNatClampNeg v3) M_used M_planned M_gone) := hw
            obtain ⟨x59, ex59⟩ : ∃ y : Int32, y = v3 + 1 := ⟨_, rfl⟩
            replace hf := nl_at hf ex59
            refine lv_iinc (v := x59) (lv' := [(3, .int x59), (4, .int x47), (0, .ref (aM 0)), (2, .int v2), (5, .int e39)]) hx hb dX7_runs_273 hl (k := 3) rfl (by rw [ex59]; rfl) (by decide) rfl (fun ls hl => ?_)
            refine lv_goto (tgt := 295) hx hb dX7_runs_276 (by decide) ?_
            refine lv_goto (tgt := 78) hx hb dX7_runs_295 (by decide) ?_
            exact ih _ _ _ _ _ _ _ _ _ _ _ _ _ _ _ hf _ _ _ hw (lv_sub hl [2, 3, 0, 1] rfl) kx
        · replace hf := h45
          refine lv_icmp_ne (tgt := 212) hx hb dX7_runs_176 (by decide) (fun b60 => ?_) (fun b60 => ?_)
          · replace hf := it_f hf b60
            cases hf
            exact jn _ _ _ hw (lv_sub hl [0, 1, 2, 4] rfl)
          · replace hf := it_t hf b60
            refine lv_aload_n hx hb dX7_runs_179 rfl (lv_at hl 0 rfl) ?_
            refine va_get (D := (dC, dI)) (ci := 7) (v := .ref (aM 5)) (C := RX7) (T := TX7) (N := 36) hx hb hts i_X7_runs_X7 hown hK hw.1 0 rfl rfl 8 (by decide) (hts _ m_X7_runs_10) (fun _ h9 => h9) rfl dX7_runs_180 ?_
            refine lv_aload_n hx hb dX7_runs_183 rfl (lv_at hl 0 rfl) ?_
            refine va_get (D := (dC, dI)) (ci := 7) (v := .int M_runs) (C := RX7) (T := TX7) (N := 36) hx hb hts i_X7_runs_X7 hown hK hw.1 0 rfl rfl 6 (by decide) (hts _ m_X7_runs_0) (fun _ h9 => h9) rfl dX7_runs_184 ?_
            refine lv_aload_n hx hb dX7_runs_187 rfl (lv_at hl 0 rfl) ?_
            refine va_get (D := (dC, dI)) (ci := 7) (v := .int M_pooled) (C := RX7) (T := TX7) (N := 36) hx hb hts i_X7_runs_X7 hown hK hw.1 0 rfl rfl 11 (by decide) (hts _ m_X7_runs_1) (fun _ h9 => h9) rfl dX7_runs_188 ?_
            have g61 := ix_in (gd_l hf)
            replace hf := gd_r hf
            refine g_iast hx hb hK hw 5 0 rfl rfl g61 dX7_runs_191 (fun H locs hw => ?_)
            replace hw : Wd (dC, dI) A s.heap H locs (w_M aM cI cJ cZ M_sorts M_values M_rows M_placeOf M_falling M_made M_runs M_allRuns (upd M_begin M_runs.toNatClampNeg M_pooled) M_size M_pool M_pooled M_ways M_merges M_takes M_taken M_parts M_every M_samples M_sample M_ends M_partSize M_merged M_most M_done M_on M_ticks M_mergedAll M_again M_paces M_up M_byHost M_heap M_used M_planned M_gone) := hw
            refine lv_aload_n hx hb dX7_runs_192 rfl (lv_at hl 0 rfl) ?_
            refine va_get (D := (dC, dI)) (ci := 7) (v := .ref (aM 6)) (C := RX7) (T := TX7) (N := 36) hx hb hts i_X7_runs_X7 hown hK hw.1 0 rfl rfl 9 (by decide) (hts _ m_X7_runs_9) (fun _ h9 => h9) rfl dX7_runs_193 ?_
            refine lv_aload_n hx hb dX7_runs_196 rfl (lv_at hl 0 rfl) ?_
            refine va_get (D := (dC, dI)) (ci := 7) (v := .int M_runs) (C := RX7) (T := TX7) (N := 36) hx hb hts i_X7_runs_X7 hown hK hw.1 0 rfl rfl 6 (by decide) (hts _ m_X7_runs_0) (fun _ h9 => h9) rfl dX7_runs_197 ?_
            refine lv_iconst (v := 0) hx hb dX7_runs_200 (by decide) ?_
            have g62 := ix_in (gd_l hf)
            replace hf := gd_r hf
            refine g_iast hx hb hK hw 6 0 rfl rfl g62 dX7_runs_201 (fun H locs hw => ?_)
            replace hw : Wd (dC, dI) A s.heap H locs (w_M aM cI cJ cZ M_sorts M_values M_rows M_placeOf M_falling M_made M_runs M_allRuns (upd M_begin M_runs.toNatClampNeg M_pooled) (upd M_size M_runs.toNatClampNeg 0) M_pool M_pooled M_ways M_merges M_takes M_taken M_parts M_every M_samples M_sample M_ends M_partSize M_merged M_most M_done M_on M_ticks M_mergedAll M_again M_paces M_up M_byHost M_heap M_used M_planned M_gone) := hw
            refine lv_aload_n hx hb dX7_runs_202 rfl (lv_at hl 0 rfl) ?_
            refine lv_dup hx hb dX7_runs_203 rfl ?_
            refine va_get (D := (dC, dI)) (ci := 7) (v := .int M_runs) (C := RX7) (T := TX7) (N := 36) hx hb hts i_X7_runs_X7 hown hK hw.1 0 rfl rfl 6 (by decide) (hts _ m_X7_runs_0) (fun _ h9 => h9) rfl dX7_runs_204 ?_
            refine lv_iconst (v := 1) hx hb dX7_runs_207 (by decide) ?_
            refine lv_iadd hx hb dX7_runs_208 ?_
            refine lv_topi (fun x63 ex63 => ?_)
            replace hf := nl_at hf ex63
            refine g_put (D := (dC, dI)) (ci := 7) (v := .int x63) (ty := .int) (C := RX7) (T := TX7) (N := 36) hx hb hts i_X7_runs_X7 tyX7 tyX7_ok nmX7 hown hK hw 0 rfl rfl 6 (by decide) (hts _ m_X7_runs_0) (fun _ h9 => h9) rfl (by decide +kernel) rfl rfl (Nat.le_of_ble_eq_true rfl) dX7_runs_209 (fun H locs hw => ?_)
            replace hw : Wd (dC, dI) A s.heap H locs (w_M aM cI cJ cZ M_sorts M_values M_rows M_placeOf M_falling M_made x63 M_allRuns (upd M_begin M_runs.toNatClampNeg M_pooled) (upd M_size M_runs.toNatClampNeg 0) M_pool M_pooled M_ways M_merges M_takes M_taken M_parts M_every M_samples M_sample M_ends M_partSize M_merged M_most M_done M_on M_ticks M_mergedAll M_again M_paces M_up M_byHost M_heap M_used M_planned M_gone) := hw
            cases hf
            exact jn _ _ _ hw (lv_sub hl [0, 1, 2, 4] rfl)
      · replace hf := it_t hf b41
        refine lv_iconst (v := (-1)) hx hb dX7_runs_167 (by decide) ?_
        refine lv_istore (lv' := [(4, .int (-1)), (0, .ref (aM 0)), (2, .int v2), (3, .int v3), (5, .int e39)]) hx hb dX7_runs_168 hl (by decide) rfl (fun ls hl => ?_)
        refine lv_goto (tgt := 78) hx hb dX7_runs_170 (by decide) ?_
        exact ih _ _ _ _ _ _ _ _ _ _ _ _ _ _ _ hf _ _ _ hw (lv_sub hl [1, 2, 3, 0] rfl) kx
set_option maxHeartbeats 4000000 in
set_option maxRecDepth 100000 in
theorem c_X7_runs (l : Launch) (dC : Nat → ClassId) (dI : Nat → Nat → Nat) (cI cJ cZ : ClassId) (aM : Nat → Nat) (N : Nat) (M_sorts : (Nat → Int32)) (M_values : (Nat → Int32)) (M_rows : Int32) (M_placeOf : (Nat → Int32)) (M_falling : (Nat → Int32)) (M_made : Int32) (M_runs : Int32) (M_allRuns : Int32) (M_begin : (Nat → Int32)) (M_size : (Nat → Int32)) (M_pool : (Nat → Int32)) (M_pooled : Int32) (M_ways : Int32) (M_merges : Int32) (M_takes : (Nat → Int32)) (M_taken : (Nat → Int32)) (M_parts : Int32) (M_every : Int32) (M_samples : Int32) (M_sample : (Nat → Int32)) (M_ends : (Nat → Int32)) (M_partSize : (Nat → Int32)) (M_merged : (Nat → Int32)) (M_most : (Nat → Int32)) (M_done : (Nat → Int32)) (M_on : (Nat → Int32)) (M_ticks : Int32) (M_mergedAll : Int32) (M_again : Int32) (M_paces : (Nat → Int32)) (M_up : (Nat → Int32)) (M_byHost : (Nat → Int32)) (M_heap : (Nat → Int32)) (M_used : (Nat → Int32)) (M_planned : (Nat → Int32)) (M_gone : (Nat → Int32)) (v1 : Int32) {r : Int32} {o_M_made : Int32} {o_M_runs : Int32} {o_M_allRuns : Int32} {o_M_begin : (Nat → Int32)} {o_M_size : (Nat → Int32)} {o_M_pool : (Nat → Int32)} {o_M_pooled : Int32} {o_M_ways : Int32} {o_M_merges : Int32} {o_M_parts : Int32} {o_M_samples : Int32} {o_M_heap : (Nat → Int32)} (hf : f_X7_runs N M_sorts M_values M_rows M_placeOf M_falling M_made M_runs M_allRuns M_begin M_size M_pool M_pooled M_ways M_merges M_parts M_samples M_heap v1 = some (r, o_M_made, o_M_runs, o_M_allRuns, o_M_begin, o_M_size, o_M_pool, o_M_pooled, o_M_ways, o_M_merges, o_M_parts, o_M_samples, o_M_heap)) :
    CtI l yX7_runs wsX7_runs rm_X7_runs (dC, dI) (tyl cI cJ cZ) [.ref (aM 0), .int v1] (w_M aM cI cJ cZ M_sorts M_values M_rows M_placeOf M_falling M_made M_runs M_allRuns M_begin M_size M_pool M_pooled M_ways M_merges M_takes M_taken M_parts M_every M_samples M_sample M_ends M_partSize M_merged M_most M_done M_on M_ticks M_mergedAll M_again M_paces M_up M_byHost M_heap M_used M_planned M_gone) (w_M aM cI cJ cZ M_sorts M_values M_rows M_placeOf M_falling o_M_made o_M_runs o_M_allRuns o_M_begin o_M_size o_M_pool o_M_pooled o_M_ways o_M_merges M_takes M_taken o_M_parts M_every o_M_samples M_sample M_ends M_partSize M_merged M_most M_done M_on M_ticks M_mergedAll M_again M_paces M_up M_byHost o_M_heap M_used M_planned M_gone) r := by
  refine startI (cc := cX7_runs) (maxL := 7) (rt := (some .int)) (by decide +kernel) rfl (Nat.le_of_ble_eq_true rfl) ?_
  intro p e s m below meth c A ls X hr hlocks hw hl
  replace X : Cx p m c cX7_runs 7 s _ wsX7_runs RX7 (dC, dI) (tyl cI cJ cZ) A := X
  replace hl : lv_has ls 7 [(0, .ref (aM 0)), (1, .int v1)] := hl
  obtain ⟨hx, hb, hml, hown, hts⟩ := X.1
  have hK := X.2.1
  have hN := X.2.2.2
  unfold f_X7_runs at hf
  refine lv_iload_n hx hb dX7_runs_0 rfl (lv_at hl 1 rfl) ?_
  refine lv_iconst (v := 1) hx hb dX7_runs_1 (by decide) ?_
  refine lv_bipush (v := 40) hx hb dX7_runs_2 (by decide) ?_
  obtain ⟨r1, h2, hf⟩ := bd1_ob hf
  refine clSI (As := [.int v1, .int (1 : Int32), .int (40 : Int32)]) (rest := []) X (c_X7_is l dC dI cI cJ cZ N v1 (1 : Int32) (40 : Int32) h2) (va_cwS 3 hts gX7_runs_X7_is rfl rfl rfl (by decide +kernel) ⟨Nat.le_of_ble_eq_true rfl, Nat.le_of_ble_eq_true rfl⟩) hw [] rfl rfl rfl rfl hl.1 rfl (Nat.le_of_ble_eq_true rfl) dX7_runs_4 ⟨Nat.zero_le _, Nat.zero_le _⟩ (fun H locs hw => ?_)
  replace hw : Wd (dC, dI) A s.heap H locs (w_M aM cI cJ cZ M_sorts M_values M_rows M_placeOf M_falling M_made M_runs M_allRuns M_begin M_size M_pool M_pooled M_ways M_merges M_takes M_taken M_parts M_every M_samples M_sample M_ends M_partSize M_merged M_most M_done M_on M_ticks M_mergedAll M_again M_paces M_up M_byHost M_heap M_used M_planned M_gone) := hw
  refine lv_if_ne (tgt := 12) hx hb dX7_runs_7 (by decide) (fun b3 => ?_) (fun b3 => ?_)
  · replace hf := it_f hf b3
    refine lv_aload_n hx hb dX7_runs_12 rfl (lv_at hl 0 rfl) ?_
    refine lv_iconst (v := 0) hx hb dX7_runs_13 (by decide) ?_
    refine g_put (D := (dC, dI)) (ci := 7) (v := .int 0) (ty := .int) (C := RX7) (T := TX7) (N := 36) hx hb hts i_X7_runs_X7 tyX7 tyX7_ok nmX7 hown hK hw 0 rfl rfl 6 (by decide) (hts _ m_X7_runs_0) (fun _ h9 => h9) rfl (by decide +kernel) rfl rfl (Nat.le_of_ble_eq_true rfl) dX7_runs_14 (fun H locs hw => ?_)
    replace hw : Wd (dC, dI) A s.heap H locs (w_M aM cI cJ cZ M_sorts M_values M_rows M_placeOf M_falling M_made 0 M_allRuns M_begin M_size M_pool M_pooled M_ways M_merges M_takes M_taken M_parts M_every M_samples M_sample M_ends M_partSize M_merged M_most M_done M_on M_ticks M_mergedAll M_again M_paces M_up M_byHost M_heap M_used M_planned M_gone) := hw
    refine lv_aload_n hx hb dX7_runs_17 rfl (lv_at hl 0 rfl) ?_
    refine lv_iconst (v := 0) hx hb dX7_runs_18 (by decide) ?_
    refine g_put (D := (dC, dI)) (ci := 7) (v := .int 0) (ty := .int) (C := RX7) (T := TX7) (N := 36) hx hb hts i_X7_runs_X7 tyX7 tyX7_ok nmX7 hown hK hw 0 rfl rfl 11 (by decide) (hts _ m_X7_runs_1) (fun _ h9 => h9) rfl (by decide +kernel) rfl rfl (Nat.le_of_ble_eq_true rfl) dX7_runs_19 (fun H locs hw => ?_)
    replace hw : Wd (dC, dI) A s.heap H locs (w_M aM cI cJ cZ M_sorts M_values M_rows M_placeOf M_falling M_made 0 M_allRuns M_begin M_size M_pool 0 M_ways M_merges M_takes M_taken M_parts M_every M_samples M_sample M_ends M_partSize M_merged M_most M_done M_on M_ticks M_mergedAll M_again M_paces M_up M_byHost M_heap M_used M_planned M_gone) := hw
    refine lv_aload_n hx hb dX7_runs_22 rfl (lv_at hl 0 rfl) ?_
    refine lv_iconst (v := (-1)) hx hb dX7_runs_23 (by decide) ?_
    refine g_put (D := (dC, dI)) (ci := 7) (v := .int (-1)) (ty := .int) (C := RX7) (T := TX7) (N := 36) hx hb hts i_X7_runs_X7 tyX7 tyX7_ok nmX7 hown hK hw 0 rfl rfl 12 (by decide) (hts _ m_X7_runs_2) (fun _ h9 => h9) rfl (by decide +kernel) rfl rfl (Nat.le_of_ble_eq_true rfl) dX7_runs_24 (fun H locs hw => ?_)
    replace hw : Wd (dC, dI) A s.heap H locs (w_M aM cI cJ cZ M_sorts M_values M_rows M_placeOf M_falling M_made 0 M_allRuns M_begin M_size M_pool 0 (-1) M_merges M_takes M_taken M_parts M_every M_samples M_sample M_ends M_partSize M_merged M_most M_done M_on M_ticks M_mergedAll M_again M_paces M_up M_byHost M_heap M_used M_planned M_gone) := hw
    refine lv_aload_n hx hb dX7_runs_27 rfl (lv_at hl 0 rfl) ?_
    refine lv_iconst (v := 0) hx hb dX7_runs_28 (by decide) ?_
    refine g_put (D := (dC, dI)) (ci := 7) (v := .int 0) (ty := .int) (C := RX7) (T := TX7) (N := 36) hx hb hts i_X7_runs_X7 tyX7 tyX7_ok nmX7 hown hK hw 0 rfl rfl 13 (by decide) (hts _ m_X7_runs_3) (fun _ h9 => h9) rfl (by decide +kernel) rfl rfl (Nat.le_of_ble_eq_true rfl) dX7_runs_29 (fun H locs hw => ?_)
    replace hw : Wd (dC, dI) A s.heap H locs (w_M aM cI cJ cZ M_sorts M_values M_rows M_placeOf M_falling M_made 0 M_allRuns M_begin M_size M_pool 0 (-1) 0 M_takes M_taken M_parts M_every M_samples M_sample M_ends M_partSize M_merged M_most M_done M_on M_ticks M_mergedAll M_again M_paces M_up M_byHost M_heap M_used M_planned M_gone) := hw
    refine lv_aload_n hx hb dX7_runs_32 rfl (lv_at hl 0 rfl) ?_
    refine lv_iconst (v := 0) hx hb dX7_runs_33 (by decide) ?_
    refine g_put (D := (dC, dI)) (ci := 7) (v := .int 0) (ty := .int) (C := RX7) (T := TX7) (N := 36) hx hb hts i_X7_runs_X7 tyX7 tyX7_ok nmX7 hown hK hw 0 rfl rfl 16 (by decide) (hts _ m_X7_runs_4) (fun _ h9 => h9) rfl (by decide +kernel) rfl rfl (Nat.le_of_ble_eq_true rfl) dX7_runs_34 (fun H locs hw => ?_)
    replace hw : Wd (dC, dI) A s.heap H locs (w_M aM cI cJ cZ M_sorts M_values M_rows M_placeOf M_falling M_made 0 M_allRuns M_begin M_size M_pool 0 (-1) 0 M_takes M_taken 0 M_every M_samples M_sample M_ends M_partSize M_merged M_most M_done M_on M_ticks M_mergedAll M_again M_paces M_up M_byHost M_heap M_used M_planned M_gone) := hw
    refine lv_aload_n hx hb dX7_runs_37 rfl (lv_at hl 0 rfl) ?_
    refine lv_iconst (v := 0) hx hb dX7_runs_38 (by decide) ?_
    refine g_put (D := (dC, dI)) (ci := 7) (v := .int 0) (ty := .int) (C := RX7) (T := TX7) (N := 36) hx hb hts i_X7_runs_X7 tyX7 tyX7_ok nmX7 hown hK hw 0 rfl rfl 18 (by decide) (hts _ m_X7_runs_5) (fun _ h9 => h9) rfl (by decide +kernel) rfl rfl (Nat.le_of_ble_eq_true rfl) dX7_runs_39 (fun H locs hw => ?_)
    replace hw : Wd (dC, dI) A s.heap H locs (w_M aM cI cJ cZ M_sorts M_values M_rows M_placeOf M_falling M_made 0 M_allRuns M_begin M_size M_pool 0 (-1) 0 M_takes M_taken 0 M_every 0 M_sample M_ends M_partSize M_merged M_most M_done M_on M_ticks M_mergedAll M_again M_paces M_up M_byHost M_heap M_used M_planned M_gone) := hw
    refine lv_iconst (v := 0) hx hb dX7_runs_42 (by decide) ?_
    refine lv_istore_n (lv' := [(2, .int 0), (0, .ref (aM 0)), (1, .int v1)]) hx hb dX7_runs_43 rfl hl (by decide) rfl (fun ls hl => ?_)
    refine lv_iconst (v := 0) hx hb dX7_runs_44 (by decide) ?_
    refine lv_istore_n (lv' := [(3, .int 0), (2, .int 0), (0, .ref (aM 0)), (1, .int v1)]) hx hb dX7_runs_45 rfl hl (by decide) rfl (fun ls hl => ?_)
    obtain ⟨e9, e10, e11, h12, hf⟩ := bd3_ob hf
    refine t_X7_runs_46 aM X N M_sorts M_values M_rows M_placeOf M_falling M_made 0 M_allRuns M_begin M_size M_pool 0 (-1) 0 M_takes M_taken 0 M_every 0 M_sample M_ends M_partSize M_merged M_most M_done M_on M_ticks M_mergedAll M_again M_paces M_up M_byHost M_used M_planned M_gone v1 N _ _ _ _ _ _ h12 _ _ _ hw (lv_sub hl [2, 3, 1, 0] rfl) (fun H locs ls hw hl => ?_)
    refine lv_iconst (v := (-1)) hx hb dX7_runs_75 (by decide) ?_
    refine lv_istore (lv' := [(4, .int (-1)), (0, .ref (aM 0)), (2, .int e9), (3, .int e10)]) hx hb dX7_runs_76 hl (by decide) rfl (fun ls hl => ?_)
    obtain ⟨e64, e65, e66, e67, e68, e69, h70, hf⟩ := bd6_ob hf
    refine t_X7_runs_78 aM X N M_sorts M_values M_rows M_placeOf M_falling M_made M_allRuns (-1) 0 M_takes M_taken 0 M_every 0 M_sample M_ends M_partSize M_merged M_most M_done M_on M_ticks M_mergedAll M_again M_paces M_up M_byHost M_used M_planned M_gone N _ _ _ _ _ _ _ _ _ _ _ _ _ _ _ h70 _ _ _ hw (lv_sub hl [1, 2, 3, 0] rfl) (fun H locs ls hw hl => ?_)
    refine lv_aload_n hx hb dX7_runs_298 rfl (lv_at hl 0 rfl) ?_
    refine lv_aload_n hx hb dX7_runs_299 rfl (lv_at hl 0 rfl) ?_
    refine va_get (D := (dC, dI)) (ci := 7) (v := .int e64) (C := RX7) (T := TX7) (N := 36) hx hb hts i_X7_runs_X7 hown hK hw.1 0 rfl rfl 6 (by decide) (hts _ m_X7_runs_0) (fun _ h9 => h9) rfl dX7_runs_300 ?_
    refine g_put (D := (dC, dI)) (ci := 7) (v := .int e64) (ty := .int) (C := RX7) (T := TX7) (N := 36) hx hb hts i_X7_runs_X7 tyX7 tyX7_ok nmX7 hown hK hw 0 rfl rfl 7 (by decide) (hts _ m_X7_runs_11) (fun _ h9 => h9) rfl (by decide +kernel) rfl rfl (Nat.le_of_ble_eq_true rfl) dX7_runs_303 (fun H locs hw => ?_)
    replace hw : Wd (dC, dI) A s.heap H locs (w_M aM cI cJ cZ M_sorts M_values M_rows M_placeOf M_falling M_made e64 e64 e65 e66 e67 e68 (-1) 0 M_takes M_taken 0 M_every 0 M_sample M_ends M_partSize M_merged M_most M_done M_on M_ticks M_mergedAll M_again M_paces M_up M_byHost e69 M_used M_planned M_gone) := hw
    refine lv_aload_n hx hb dX7_runs_306 rfl (lv_at hl 0 rfl) ?_
    refine lv_aload_n hx hb dX7_runs_307 rfl (lv_at hl 0 rfl) ?_
    refine va_get (D := (dC, dI)) (ci := 7) (v := .int e64) (C := RX7) (T := TX7) (N := 36) hx hb hts i_X7_runs_X7 hown hK hw.1 0 rfl rfl 6 (by decide) (hts _ m_X7_runs_0) (fun _ h9 => h9) rfl dX7_runs_308 ?_
    refine lv_if_le (tgt := 318) hx hb dX7_runs_311 (by decide) (fun b71 => ?_) (fun b71 => ?_)
    · replace hf := it_t hf b71
      refine lv_iconst (v := 0) hx hb dX7_runs_318 (by decide) ?_
      refine g_put (D := (dC, dI)) (ci := 7) (v := .int 0) (ty := .boolean) (C := RX7) (T := TX7) (N := 36) hx hb hts i_X7_runs_X7 tyX7 tyX7_ok nmX7 hown hK hw 0 rfl rfl 5 (by decide) (hts _ m_X7_runs_12) (fun _ h9 => h9) rfl (by decide +kernel) (by decide) (by decide) (Nat.le_of_ble_eq_true rfl) dX7_runs_319 (fun H locs hw => ?_)
      replace hw : Wd (dC, dI) A s.heap H locs (w_M aM cI cJ cZ M_sorts M_values M_rows M_placeOf M_falling 0 e64 e64 e65 e66 e67 e68 (-1) 0 M_takes M_taken 0 M_every 0 M_sample M_ends M_partSize M_merged M_most M_done M_on M_ticks M_mergedAll M_again M_paces M_up M_byHost e69 M_used M_planned M_gone) := hw
      refine lv_aload_n hx hb dX7_runs_322 rfl (lv_at hl 0 rfl) ?_
      refine va_get (D := (dC, dI)) (ci := 7) (v := .int e64) (C := RX7) (T := TX7) (N := 36) hx hb hts i_X7_runs_X7 hown hK hw.1 0 rfl rfl 6 (by decide) (hts _ m_X7_runs_0) (fun _ h9 => h9) rfl dX7_runs_323 ?_
      cases hf
      exact endI X hr rfl hlocks rfl hw dX7_runs_326
    · replace hf := it_f hf b71
      refine lv_iconst (v := 1) hx hb dX7_runs_314 (by decide) ?_
      refine lv_goto (tgt := 319) hx hb dX7_runs_315 (by decide) ?_
      refine g_put (D := (dC, dI)) (ci := 7) (v := .int 1) (ty := .boolean) (C := RX7) (T := TX7) (N := 36) hx hb hts i_X7_runs_X7 tyX7 tyX7_ok nmX7 hown hK hw 0 rfl rfl 5 (by decide) (hts _ m_X7_runs_12) (fun _ h9 => h9) rfl (by decide +kernel) (by decide) (by decide) (Nat.le_of_ble_eq_true rfl) dX7_runs_319 (fun H locs hw => ?_)
      replace hw : Wd (dC, dI) A s.heap H locs (w_M aM cI cJ cZ M_sorts M_values M_rows M_placeOf M_falling 1 e64 e64 e65 e66 e67 e68 (-1) 0 M_takes M_taken 0 M_every 0 M_sample M_ends M_partSize M_merged M_most M_done M_on M_ticks M_mergedAll M_again M_paces M_up M_byHost e69 M_used M_planned M_gone) := hw
      refine lv_aload_n hx hb dX7_runs_322 rfl (lv_at hl 0 rfl) ?_
      refine va_get (D := (dC, dI)) (ci := 7) (v := .int e64) (C := RX7) (T := TX7) (N := 36) hx hb hts i_X7_runs_X7 hown hK hw.1 0 rfl rfl 6 (by decide) (hts _ m_X7_runs_0) (fun _ h9 => h9) rfl dX7_runs_323 ?_
      cases hf
      exact endI X hr rfl hlocks rfl hw dX7_runs_326
  · replace hf := it_t hf b3
    refine lv_iconst (v := (-1)) hx hb dX7_runs_10 (by decide) ?_
    cases hf
    exact endI X hr rfl hlocks rfl hw dX7_runs_11
