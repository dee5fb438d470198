def rm_X7_isIn : Room := { frames := 1, cells := 0, slots := 0, locals := 22 }
set_option maxRecDepth 20000 in
theorem i_X7_isIn_X7 : ∀ w ∈ u_ws RX7 TX7 36, w ∈ wsX7_isIn := by decide +kernel
set_option maxRecDepth 20000 in
theorem m_X7_isIn_0 : Cond.fieldLink RX7 62 "GreatSortModel" "parts" "I" ∈ wsX7_isIn := by decide +kernel
set_option maxRecDepth 20000 in
theorem m_X7_isIn_1 : Cond.fieldLink RX7 74 "GreatSortModel" "ends" "[I" ∈ wsX7_isIn := by decide +kernel
set_option maxHeartbeats 4000000 in
set_option maxRecDepth 100000 in
theorem c_X7_isIn (l : Launch) (dC : Nat → ClassId) (dI : Nat → Nat → Nat) (cI cJ cZ : ClassId) (aM : Nat → Nat) (N : Nat) (M_sorts : (Nat → Int32)) (M_values : (Nat → Int32)) (M_rows : Int32) (M_placeOf : (Nat → Int32)) (M_falling : (Nat → Int32)) (M_made : Int32) (M_runs : Int32) (M_allRuns : Int32) (M_begin : (Nat → Int32)) (M_size : (Nat → Int32)) (M_pool : (Nat → Int32)) (M_pooled : Int32) (M_ways : Int32) (M_merges : Int32) (M_takes : (Nat → Int32)) (M_taken : (Nat → Int32)) (M_parts : Int32) (M_every : Int32) (M_samples : Int32) (M_sample : (Nat → Int32)) (M_ends : (Nat → Int32)) (M_partSize : (Nat → Int32)) (M_merged : (Nat → Int32)) (M_most : (Nat → Int32)) (M_done : (Nat → Int32)) (M_on : (Nat → Int32)) (M_ticks : Int32) (M_mergedAll : Int32) (M_again : Int32) (M_paces : (Nat → Int32)) (M_up : (Nat → Int32)) (M_byHost : (Nat → Int32)) (M_heap : (Nat → Int32)) (M_used : (Nat → Int32)) (M_planned : (Nat → Int32)) (M_gone : (Nat → Int32)) (v1 : Int32) (v2 : Int32) {r : Int32} (hf : f_X7_isIn N M_sorts M_values M_placeOf M_falling M_parts M_ends v1 v2 = some r) :
    CtI l yX7_isIn wsX7_isIn rm_X7_isIn (dC, dI) (tyl cI cJ cZ) [.ref (aM 0), .int v1, .int v2] (w_M aM cI cJ cZ M_sorts M_values M_rows M_placeOf M_falling M_made M_runs M_allRuns M_begin M_size M_pool M_pooled M_ways M_merges M_takes M_taken M_parts M_every M_samples M_sample M_ends M_partSize M_merged M_most M_done M_on M_ticks M_mergedAll M_again M_paces M_up M_byHost M_heap M_used M_planned M_gone) (w_M aM cI cJ cZ M_sorts M_values M_rows M_placeOf M_falling M_made M_runs M_allRuns M_begin M_size M_pool M_pooled M_ways M_merges M_takes M_taken M_parts M_every M_samples M_sample M_ends M_partSize M_merged M_most M_done M_on M_ticks M_mergedAll M_again M_paces M_up M_byHost M_heap M_used M_planned M_gone) r := by
  refine startI (cc := cX7_isIn) (maxL := 3) (rt := (some .boolean)) (by decide +kernel) rfl (Nat.le_of_ble_eq_true rfl) ?_
  intro p e s m below meth c A ls X hr hlocks hw hl
  replace X : Cx p m c cX7_isIn 3 s _ wsX7_isIn RX7 (dC, dI) (tyl cI cJ cZ) A := X
  replace hl : lv_has ls 3 [(0, .ref (aM 0)), (1, .int v1), (2, .int v2)] := hl
  obtain ⟨hx, hb, hml, hown, hts⟩ := X.1
  have hK := X.2.1
  have hN := X.2.2.2
  unfold f_X7_isIn at hf
  refine lv_iload_n hx hb dX7_isIn_0 rfl (lv_at hl 2 rfl) ?_
  refine lv_if_le (tgt := 34) hx hb dX7_isIn_1 (by decide) (fun b1 => ?_) (fun b1 => ?_)
  · replace hf := it_t hf b1
    refine lv_iload_n hx hb dX7_isIn_34 rfl (lv_at hl 2 rfl) ?_
    refine lv_aload_n hx hb dX7_isIn_35 rfl (lv_at hl 0 rfl) ?_
    refine va_get (D := (dC, dI)) (ci := 7) (v := .int M_parts) (C := RX7) (T := TX7) (N := 36) hx hb hts i_X7_isIn_X7 hown hK hw.1 0 rfl rfl 16 (by decide) (hts _ m_X7_isIn_0) (fun _ h9 => h9) rfl dX7_isIn_36 ?_
    refine lv_iconst (v := 1) hx hb dX7_isIn_39 (by decide) ?_
    refine lv_isub hx hb dX7_isIn_40 ?_
    refine lv_icmp_ne (tgt := 46) hx hb dX7_isIn_41 (by decide) (fun b2 => ?_) (fun b2 => ?_)
    · replace hf := it_f hf b2
      refine lv_aload_n hx hb dX7_isIn_46 rfl (lv_at hl 0 rfl) ?_
      refine va_get (D := (dC, dI)) (ci := 7) (v := .ref (aM 11)) (C := RX7) (T := TX7) (N := 36) hx hb hts i_X7_isIn_X7 hown hK hw.1 0 rfl rfl 20 (by decide) (hts _ m_X7_isIn_1) (fun _ h9 => h9) rfl dX7_isIn_47 ?_
      refine lv_iload_n hx hb dX7_isIn_50 rfl (lv_at hl 2 rfl) ?_
      have g3 := ix_in (gd_l hf)
      replace hf := gd_r hf
      refine va_iald hx hb hK hw.1 11 0 rfl rfl g3 dX7_isIn_51 ?_
      refine lv_iconst (v := (-1)) hx hb dX7_isIn_52 (by decide) ?_
      refine lv_icmp_eq (tgt := 74) hx hb dX7_isIn_53 (by decide) (fun b4 => ?_) (fun b4 => ?_)
      · replace hf := it_t hf b4
        refine lv_iconst (v := 0) hx hb dX7_isIn_74 (by decide) ?_
        have g5 := bz_nar (gd_l hf)
        replace hf := gd_r hf
        cases hf
        exact endI X hr g5 hlocks rfl hw dX7_isIn_75
      · replace hf := it_f hf b4
        refine lv_aload_n hx hb dX7_isIn_56 rfl (lv_at hl 0 rfl) ?_
        refine lv_aload_n hx hb dX7_isIn_57 rfl (lv_at hl 0 rfl) ?_
        refine va_get (D := (dC, dI)) (ci := 7) (v := .ref (aM 11)) (C := RX7) (T := TX7) (N := 36) hx hb hts i_X7_isIn_X7 hown hK hw.1 0 rfl rfl 20 (by decide) (hts _ m_X7_isIn_1) (fun _ h9 => h9) rfl dX7_isIn_58 ?_
        refine lv_iload_n hx hb dX7_isIn_61 rfl (lv_at hl 2 rfl) ?_
        have g6 := ix_in (gd_l hf)
        replace hf := gd_r hf
        refine va_iald hx hb hK hw.1 11 0 rfl rfl g6 dX7_isIn_62 ?_
        refine lv_iload_n hx hb dX7_isIn_63 rfl (lv_at hl 1 rfl) ?_
        obtain ⟨r7, h8, hf⟩ := bd1_ob hf
        refine clFI (As := [.int (M_ends v2.toNatClampNeg), .int v1]) (rest := []) X (c_X7_ahead l dC dI cI cJ cZ aM N M_sorts M_values M_rows M_placeOf M_falling M_made M_runs M_allRuns M_begin M_size M_pool M_pooled M_ways M_merges M_takes M_taken M_parts M_every M_samples M_sample M_ends M_partSize M_merged M_most M_done M_on M_ticks M_mergedAll M_again M_paces M_up M_byHost M_heap M_used M_planned M_gone (M_ends v2.toNatClampNeg) v1 h8) (cwV 2 hts gX7_isIn_X7_ahead rfl rfl rfl (by decide +kernel) ⟨Nat.le_of_ble_eq_true rfl, Nat.le_of_ble_eq_true rfl⟩) (ci := 7) (k0 := 0) rfl rfl rfl hw rfl rfl hl.1 rfl (Nat.le_of_ble_eq_true rfl) dX7_isIn_64 ⟨Nat.zero_le _, Nat.zero_le _⟩ (fun H locs hw => ?_)
        refine lv_if_ne (tgt := 74) hx hb dX7_isIn_67 (by decide) (fun b9 => ?_) (fun b9 => ?_)
        · replace hf := it_f hf b9
          refine lv_iconst (v := 0) hx hb dX7_isIn_74 (by decide) ?_
          have g10 := bz_nar (gd_l hf)
          replace hf := gd_r hf
          cases hf
          exact endI X hr g10 hlocks rfl hw dX7_isIn_75
        · replace hf := it_t hf b9
          refine lv_iconst (v := 1) hx hb dX7_isIn_70 (by decide) ?_
          refine lv_goto (tgt := 75) hx hb dX7_isIn_71 (by decide) ?_
          have g11 := bz_nar (gd_l hf)
          replace hf := gd_r hf
          cases hf
          exact endI X hr g11 hlocks rfl hw dX7_isIn_75
    · replace hf := it_t hf b2
      refine lv_iconst (v := 1) hx hb dX7_isIn_44 (by decide) ?_
      have g12 := bz_nar (gd_l hf)
      replace hf := gd_r hf
      cases hf
      exact endI X hr g12 hlocks rfl hw dX7_isIn_45
  · replace hf := it_f hf b1
    refine lv_aload_n hx hb dX7_isIn_4 rfl (lv_at hl 0 rfl) ?_
    refine va_get (D := (dC, dI)) (ci := 7) (v := .ref (aM 11)) (C := RX7) (T := TX7) (N := 36) hx hb hts i_X7_isIn_X7 hown hK hw.1 0 rfl rfl 20 (by decide) (hts _ m_X7_isIn_1) (fun _ h9 => h9) rfl dX7_isIn_5 ?_
    refine lv_iload_n hx hb dX7_isIn_8 rfl (lv_at hl 2 rfl) ?_
    refine lv_iconst (v := 1) hx hb dX7_isIn_9 (by decide) ?_
    refine lv_isub hx hb dX7_isIn_10 ?_
    have g13 := ix_in (gd_l hf)
    replace hf := gd_r hf
    refine va_iald hx hb hK hw.1 11 0 rfl rfl g13 dX7_isIn_11 ?_
    refine lv_iconst (v := (-1)) hx hb dX7_isIn_12 (by decide) ?_
    refine lv_icmp_eq (tgt := 34) hx hb dX7_isIn_13 (by decide) (fun b14 => ?_) (fun b14 => ?_)
    · replace hf := it_t hf b14
      refine lv_iload_n hx hb dX7_isIn_34 rfl (lv_at hl 2 rfl) ?_
      refine lv_aload_n hx hb dX7_isIn_35 rfl (lv_at hl 0 rfl) ?_
      refine va_get (D := (dC, dI)) (ci := 7) (v := .int M_parts) (C := RX7) (T := TX7) (N := 36) hx hb hts i_X7_isIn_X7 hown hK hw.1 0 rfl rfl 16 (by decide) (hts _ m_X7_isIn_0) (fun _ h9 => h9) rfl dX7_isIn_36 ?_
      refine lv_iconst (v := 1) hx hb dX7_isIn_39 (by decide) ?_
      refine lv_isub hx hb dX7_isIn_40 ?_
      refine lv_icmp_ne (tgt := 46) hx hb dX7_isIn_41 (by decide) (fun b15 => ?_) (fun b15 => ?_)
      · replace hf := it_f hf b15
        refine lv_aload_n hx hb dX7_isIn_46 rfl (lv_at hl 0 rfl) ?_
        refine va_get (D := (dC, dI)) (ci := 7) (v := .ref (aM 11)) (C := RX7) (T := TX7) (N := 36) hx hb hts i_X7_isIn_X7 hown hK hw.1 0 rfl rfl 20 (by decide) (hts _ m_X7_isIn_1) (fun _ h9 => h9) rfl dX7_isIn_47 ?_
        refine lv_iload_n hx hb dX7_isIn_50 rfl (lv_at hl 2 rfl) ?_
        have g16 := ix_in (gd_l hf)
        replace hf := gd_r hf
        refine va_iald hx hb hK hw.1 11 0 rfl rfl g16 dX7_isIn_51 ?_
        refine lv_iconst (v := (-1)) hx hb dX7_isIn_52 (by decide) ?_
        refine lv_icmp_eq (tgt := 74) hx hb dX7_isIn_53 (by decide) (fun b17 => ?_) (fun b17 => ?_)
        · replace hf := it_t hf b17
          refine lv_iconst (v := 0) hx hb dX7_isIn_74 (by decide) ?_
          have g18 := bz_nar (gd_l hf)
          replace hf := gd_r hf
          cases hf
          exact endI X hr g18 hlocks rfl hw dX7_isIn_75
        · replace hf := it_f hf b17
          refine lv_aload_n hx hb dX7_isIn_56 rfl (lv_at hl 0 rfl) ?_
          refine lv_aload_n hx hb dX7_isIn_57 rfl (lv_at hl 0 rfl) ?_
          refine va_get (D := (dC, dI)) (ci := 7) (v := .ref (aM 11)) (C := RX7) (T := TX7) (N := 36) hx hb hts i_X7_isIn_X7 hown hK hw.1 0 rfl rfl 20 (by decide) (hts _ m_X7_isIn_1) (fun _ h9 => h9) rfl dX7_isIn_58 ?_
          refine lv_iload_n hx hb dX7_isIn_61 rfl (lv_at hl 2 rfl) ?_
          have g19 := ix_in (gd_l hf)
          replace hf := gd_r hf
          refine va_iald hx hb hK hw.1 11 0 rfl rfl g19 dX7_isIn_62 ?_
          refine lv_iload_n hx hb dX7_isIn_63 rfl (lv_at hl 1 rfl) ?_
          obtain ⟨r20, h21, hf⟩ := bd1_ob hf
          refine clFI (As := [.int (M_ends v2.toNatClampNeg), .int v1]) (rest := []) X (c_X7_ahead l dC dI cI cJ cZ aM N M_sorts M_values M_rows M_placeOf M_falling M_made M_runs M_allRuns M_begin M_size M_pool M_pooled M_ways M_merges M_takes M_taken M_parts M_every M_samples M_sample M_ends M_partSize M_merged M_most M_done M_on M_ticks M_mergedAll M_again M_paces M_up M_byHost M_heap M_used M_planned M_gone (M_ends v2.toNatClampNeg) v1 h21) (cwV 2 hts gX7_isIn_X7_ahead rfl rfl rfl (by decide +kernel) ⟨Nat.le_of_ble_eq_true rfl, Nat.le_of_ble_eq_true rfl⟩) (ci := 7) (k0 := 0) rfl rfl rfl hw rfl rfl hl.1 rfl (Nat.le_of_ble_eq_true rfl) dX7_isIn_64 ⟨Nat.zero_le _, Nat.zero_le _⟩ (fun H locs hw => ?_)
          refine lv_if_ne (tgt := 74) hx hb dX7_isIn_67 (by decide) (fun b22 => ?_) (fun b22 => ?_)
          · replace hf := it_f hf b22
            refine lv_iconst (v := 0) hx hb dX7_isIn_74 (by decide) ?_
            have g23 := bz_nar (gd_l hf)
            replace hf := gd_r hf
            cases hf
            exact endI X hr g23 hlocks rfl hw dX7_isIn_75
          · replace hf := it_t hf b22
            refine lv_iconst (v := 1) hx hb dX7_isIn_70 (by decide) ?_
            refine lv_goto (tgt := 75) hx hb dX7_isIn_71 (by decide) ?_
            have g24 := bz_nar (gd_l hf)
            replace hf := gd_r hf
            cases hf
            exact endI X hr g24 hlocks rfl hw dX7_isIn_75
      · replace hf := it_t hf b15
        refine lv_iconst (v := 1) hx hb dX7_isIn_44 (by decide) ?_
        have g25 := bz_nar (gd_l hf)
        replace hf := gd_r hf
        cases hf
        exact endI X hr g25 hlocks rfl hw dX7_isIn_45
    · replace hf := it_f hf b14
      refine lv_aload_n hx hb dX7_isIn_16 rfl (lv_at hl 0 rfl) ?_
      refine lv_aload_n hx hb dX7_isIn_17 rfl (lv_at hl 0 rfl) ?_
      refine va_get (D := (dC, dI)) (ci := 7) (v := .ref (aM 11)) (C := RX7) (T := TX7) (N := 36) hx hb hts i_X7_isIn_X7 hown hK hw.1 0 rfl rfl 20 (by decide) (hts _ m_X7_isIn_1) (fun _ h9 => h9) rfl dX7_isIn_18 ?_
      refine lv_iload_n hx hb dX7_isIn_21 rfl (lv_at hl 2 rfl) ?_
      refine lv_iconst (v := 1) hx hb dX7_isIn_22 (by decide) ?_
      refine lv_isub hx hb dX7_isIn_23 ?_
      have g26 := ix_in (gd_l hf)
      replace hf := gd_r hf
      refine va_iald hx hb hK hw.1 11 0 rfl rfl g26 dX7_isIn_24 ?_
      refine lv_iload_n hx hb dX7_isIn_25 rfl (lv_at hl 1 rfl) ?_
      obtain ⟨r27, h28, hf⟩ := bd1_ob hf
      refine clFI (As := [.int (M_ends (v2 - 1).toNatClampNeg), .int v1]) (rest := []) X (c_X7_ahead l dC dI cI cJ cZ aM N M_sorts M_values M_rows M_placeOf M_falling M_made M_runs M_allRuns M_begin M_size M_pool M_pooled M_ways M_merges M_takes M_taken M_parts M_every M_samples M_sample M_ends M_partSize M_merged M_most M_done M_on M_ticks M_mergedAll M_again M_paces M_up M_byHost M_heap M_used M_planned M_gone (M_ends (v2 - 1).toNatClampNeg) v1 h28) (cwV 2 hts gX7_isIn_X7_ahead rfl rfl rfl (by decide +kernel) ⟨Nat.le_of_ble_eq_true rfl, Nat.le_of_ble_eq_true rfl⟩) (ci := 7) (k0 := 0) rfl rfl rfl hw rfl rfl hl.1 rfl (Nat.le_of_ble_eq_true rfl) dX7_isIn_26 ⟨Nat.zero_le _, Nat.zero_le _⟩ (fun H locs hw => ?_)
      refine lv_if_ne (tgt := 34) hx hb dX7_isIn_29 (by decide) (fun b29 => ?_) (fun b29 => ?_)
      · replace hf := it_f hf b29
        refine lv_iload_n hx hb dX7_isIn_34 rfl (lv_at hl 2 rfl) ?_
        refine lv_aload_n hx hb dX7_isIn_35 rfl (lv_at hl 0 rfl) ?_
        refine va_get (D := (dC, dI)) (ci := 7) (v := .int M_parts) (C := RX7) (T := TX7) (N := 36) hx hb hts i_X7_isIn_X7 hown hK hw.1 0 rfl rfl 16 (by decide) (hts _ m_X7_isIn_0) (fun _ h9 => h9) rfl dX7_isIn_36 ?_
        refine lv_iconst (v := 1) hx hb dX7_isIn_39 (by decide) ?_
        refine lv_isub hx hb dX7_isIn_40 ?_
        refine lv_icmp_ne (tgt := 46) hx hb dX7_isIn_41 (by decide) (fun b30 => ?_) (fun b30 => ?_)
        · replace hf := it_f hf b30
          refine lv_aload_n hx hb dX7_isIn_46 rfl (lv_at hl 0 rfl) ?_
          refine va_get (D := (dC, dI)) (ci := 7) (v := .ref (aM 11)) (C := RX7) (T := TX7) (N := 36) hx hb hts i_X7_isIn_X7 hown hK hw.1 0 rfl rfl 20 (by decide) (hts _ m_X7_isIn_1) (fun _ h9 => h9) rfl dX7_isIn_47 ?_
          refine lv_iload_n hx hb dX7_isIn_50 rfl (lv_at hl 2 rfl) ?_
          have g31 := ix_in (gd_l hf)
          replace hf := gd_r hf
          refine va_iald hx hb hK hw.1 11 0 rfl rfl g31 dX7_isIn_51 ?_
          refine lv_iconst (v := (-1)) hx hb dX7_isIn_52 (by decide) ?_
          refine lv_icmp_eq (tgt := 74) hx hb dX7_isIn_53 (by decide) (fun b32 => ?_) (fun b32 => ?_)
          · replace hf := it_t hf b32
            refine lv_iconst (v := 0) hx hb dX7_isIn_74 (by decide) ?_
            have g33 := bz_nar (gd_l hf)
            replace hf := gd_r hf
            cases hf
            exact endI X hr g33 hlocks rfl hw dX7_isIn_75
          · replace hf := it_f hf b32
            refine lv_aload_n hx hb dX7_isIn_56 rfl (lv_at hl 0 rfl) ?_
            refine lv_aload_n hx hb dX7_isIn_57 rfl (lv_at hl 0 rfl) ?_
            refine va_get (D := (dC, dI)) (ci := 7) (v := .ref (aM 11)) (C := RX7) (T := TX7) (N := 36) hx hb hts i_X7_isIn_X7 hown hK hw.1 0 rfl rfl 20 (by decide) (hts _ m_X7_isIn_1) (fun _ h9 => h9) rfl dX7_isIn_58 ?_
            refine lv_iload_n hx hb dX7_isIn_61 rfl (lv_at hl 2 rfl) ?_
            have g34 := ix_in (gd_l hf)
            replace hf := gd_r hf
            refine va_iald hx hb hK hw.1 11 0 rfl rfl g34 dX7_isIn_62 ?_
            refine lv_iload_n hx hb dX7_isIn_63 rfl (lv_at hl 1 rfl) ?_
            obtain ⟨r35, h36, hf⟩ := bd1_ob hf
            refine clFI (As := [.int (M_ends v2.toNatClampNeg), .int v1]) (rest := []) X (c_X7_ahead l dC dI cI cJ cZ aM N M_sorts M_values M_rows M_placeOf M_falling M_made M_runs M_allRuns M_begin M_size M_pool M_pooled M_ways M_merges M_takes M_taken M_parts M_every M_samples M_sample M_ends M_partSize M_merged M_most M_done M_on M_ticks M_mergedAll M_again M_paces M_up M_byHost M_heap M_used M_planned M_gone (M_ends v2.toNatClampNeg) v1 h36) (cwV 2 hts gX7_isIn_X7_ahead rfl rfl rfl (by decide +kernel) ⟨Nat.le_of_ble_eq_true rfl, Nat.le_of_ble_eq_true rfl⟩) (ci := 7) (k0 := 0) rfl rfl rfl hw rfl rfl hl.1 rfl (Nat.le_of_ble_eq_true rfl) dX7_isIn_64 ⟨Nat.zero_le _, Nat.zero_le _⟩ (fun H locs hw => ?_)
            refine lv_if_ne (tgt := 74) hx hb dX7_isIn_67 (by decide) (fun b37 => ?_) (fun b37 => ?_)
            · replace hf := it_f hf b37
              refine lv_iconst (v := 0) hx hb dX7_isIn_74 (by decide) ?_
              have g38 := bz_nar (gd_l hf)
              replace hf := gd_r hf
              cases hf
              exact endI X hr g38 hlocks rfl hw dX7_isIn_75
            · replace hf := it_t hf b37
              refine lv_iconst (v := 1) hx hb dX7_isIn_70 (by decide) ?_
              refine lv_goto (tgt := 75) hx hb dX7_isIn_71 (by decide) ?_
              have g39 := bz_nar (gd_l hf)
              replace hf := gd_r hf
              cases hf
              exact endI X hr g39 hlocks rfl hw dX7_isIn_75
        · replace hf := it_t hf b30
          refine lv_iconst (v := 1) hx hb dX7_isIn_44 (by decide) ?_
          have g40 := bz_nar (gd_l hf)
          replace hf := gd_r hf
          cases hf
          exact endI X hr g40 hlocks rfl hw dX7_isIn_45
      · replace hf := it_t hf b29
        refine lv_iconst (v := 0) hx hb dX7_isIn_32 (by decide) ?_
        have g41 := bz_nar (gd_l hf)
        replace hf := gd_r hf
        cases hf
        exact endI X hr g41 hlocks rfl hw dX7_isIn_33
def rm_X7_left : Room := { frames := 0, cells := 0, slots := 0, locals := 0 }
set_option maxRecDepth 20000 in
theorem i_X7_left_X7 : ∀ w ∈ u_ws RX7 TX7 36, w ∈ wsX7_left := by decide +kernel
set_option maxRecDepth 20000 in
theorem m_X7_left_0 : Cond.fieldLink RX7 62 "GreatSortModel" "parts" "I" ∈ wsX7_left := by decide +kernel
set_option maxRecDepth 20000 in
theorem m_X7_left_1 : Cond.fieldLink RX7 89 "GreatSortModel" "on" "[I" ∈ wsX7_left := by decide +kernel
set_option maxRecDepth 20000 in
theorem m_X7_left_2 : Cond.fieldLink RX7 77 "GreatSortModel" "partSize" "[I" ∈ wsX7_left := by decide +kernel
set_option maxRecDepth 20000 in
theorem m_X7_left_3 : Cond.fieldLink RX7 80 "GreatSortModel" "merged" "[I" ∈ wsX7_left := by decide +kernel
set_option maxHeartbeats 4000000 in
set_option maxRecDepth 100000 in
theorem t_X7_left_4 {p : Program} {l : Launch} {e : Env} {s : State} {m : MethodId} {args : Array Value} {below : List Frame} {meth : Method} {c : Code} {Q : State → Prop} {dC : Nat → ClassId} {dI : Nat → Nat → Nat} {cI cJ cZ : ClassId} {A : Nat → Prop} (aM : Nat → Nat) (X : Cx p m c cX7_left 4 s args wsX7_left RX7 (dC, dI) (tyl cI cJ cZ) A) (N : Nat) (M_sorts : (Nat → Int32)) (M_values : (Nat → Int32)) (M_rows : Int32) (M_placeOf : (Nat → Int32)) (M_falling : (Nat → Int32)) (M_made : Int32) (M_runs : Int32) (M_allRuns : Int32) (M_begin : (Nat → Int32)) (M_size : (Nat → Int32)) (M_pool : (Nat → Int32)) (M_pooled : Int32) (M_ways : Int32) (M_merges : Int32) (M_takes : (Nat → Int32)) (M_taken : (Nat → Int32)) (M_parts : Int32) (M_every : Int32) (M_samples : Int32) (M_sample : (Nat → Int32)) (M_ends : (Nat → Int32)) (M_partSize : (Nat → Int32)) (M_merged : (Nat → Int32)) (M_most : (Nat → Int32)) (M_done : (Nat → Int32)) (M_on : (Nat → Int32)) (M_ticks : Int32) (M_mergedAll : Int32) (M_again : Int32) (M_paces : (Nat → Int32)) (M_up : (Nat → Int32)) (M_byHost : (Nat → Int32)) (M_heap : (Nat → Int32)) (M_used : (Nat → Int32)) (M_planned : (Nat → Int32)) (M_gone : (Nat → Int32)) (v1 : Int32) :
    ∀ (n : Nat) (v2 : Int32) (v3 : Int32) (e2 : Int32), l_X7_left_4 N M_parts M_partSize M_merged M_on v1 n v2 v3 = some e2 → ∀ (H : Heap) (locs : List Loc) (ls : Array Slot), Wd (dC, dI) A s.heap H locs (w_M aM cI cJ cZ M_sorts M_values M_rows M_placeOf M_falling M_made M_runs M_allRuns M_begin M_size M_pool M_pooled M_ways M_merges M_takes M_taken M_parts M_every M_samples M_sample M_ends M_partSize M_merged M_most M_done M_on M_ticks M_mergedAll M_again M_paces M_up M_byHost M_heap M_used M_planned M_gone) → lv_has ls 4 [(0, .ref (aM 0)), (1, .int v1), (2, .int v2), (3, .int v3)] → (∀ (H : Heap) (locs : List Loc) (ls : Array Slot), Wd (dC, dI) A s.heap H locs (w_M aM cI cJ cZ M_sorts M_values M_rows M_placeOf M_falling M_made M_runs M_allRuns M_begin M_size M_pool M_pooled M_ways M_merges M_takes M_taken M_parts M_every M_samples M_sample M_ends M_partSize M_merged M_most M_done M_on M_ticks M_mergedAll M_again M_paces M_up M_byHost M_heap M_used M_planned M_gone) → lv_has ls 4 [(2, .int e2)] → W p l e rm_X7_left s m args below meth c H locs 0 0 Q (F0 m 48 ls [])) → W p l e rm_X7_left s m args below meth c H locs 0 0 Q (F0 m 4 ls []) := by
  obtain ⟨hx, hb, hml, hown, hts⟩ := X.1
  have hK := X.2.1
  have hN := X.2.2.2
  intro n
  induction n with
  | zero =>
    intro _ _ _ hf
    cases hf
  | succ n ih =>
    intro v2 v3 e2 hf H locs ls hw hl kx
    rw [l_X7_left_4] at hf
    refine lv_iload_n hx hb dX7_left_4 rfl (lv_at hl 3 rfl) ?_
    refine lv_aload_n hx hb dX7_left_5 rfl (lv_at hl 0 rfl) ?_
    refine va_get (D := (dC, dI)) (ci := 7) (v := .int M_parts) (C := RX7) (T := TX7) (N := 36) hx hb hts i_X7_left_X7 hown hK hw.1 0 rfl rfl 16 (by decide) (hts _ m_X7_left_0) (fun _ h9 => h9) rfl dX7_left_6 ?_
    refine lv_icmp_ge (tgt := 48) hx hb dX7_left_9 (by decide) (fun b1 => ?_) (fun b1 => ?_)
    · replace hf := it_t hf b1
      cases hf
      exact kx _ _ _ hw (lv_sub hl [2] rfl)
    · replace hf := it_f hf b1
      refine lv_iload_n hx hb dX7_left_12 rfl (lv_at hl 2 rfl) ?_
      refine lv_aload_n hx hb dX7_left_13 rfl (lv_at hl 0 rfl) ?_
      refine va_get (D := (dC, dI)) (ci := 7) (v := .ref (aM 16)) (C := RX7) (T := TX7) (N := 36) hx hb hts i_X7_left_X7 hown hK hw.1 0 rfl rfl 25 (by decide) (hts _ m_X7_left_1) (fun _ h9 => h9) rfl dX7_left_14 ?_
      refine lv_iload_n hx hb dX7_left_17 rfl (lv_at hl 3 rfl) ?_
      have g2 := ix_in (gd_l hf)
      replace hf := gd_r hf
      refine va_iald hx hb hK hw.1 16 0 rfl rfl g2 dX7_left_18 ?_
      refine lv_iload_n hx hb dX7_left_19 rfl (lv_at hl 1 rfl) ?_
      refine lv_icmp_ne (tgt := 39) hx hb dX7_left_20 (by decide) (fun b3 => ?_) (fun b3 => ?_)
      · replace hf := it_f hf b3
        refine lv_iconst (v := 0) hx hb dX7_left_39 (by decide) ?_
        refine lv_iadd hx hb dX7_left_40 ?_
        refine lv_topi (fun x4 ex4 => ?_)
        replace hf := nl_at hf ex4
        refine lv_istore_n (lv' := [(2, .int x4), (0, .ref (aM 0)), (1, .int v1), (3, .int v3)]) hx hb dX7_left_41 rfl hl (by decide) rfl (fun ls hl => ?_)
        obtain ⟨x5, ex5⟩ : ∃ y : Int32, y = v3 + 1 := ⟨_, rfl⟩
        replace hf := nl_at hf ex5
        refine lv_iinc (v := x5) (lv' := [(3, .int x5), (2, .int x4), (0, .ref (aM 0)), (1, .int v1)]) hx hb dX7_left_42 hl (k := 3) rfl (by rw [ex5]; rfl) (by decide) rfl (fun ls hl => ?_)
        refine lv_goto (tgt := 4) hx hb dX7_left_45 (by decide) ?_
        exact ih _ _ _ hf _ _ _ hw (lv_sub hl [2, 3, 1, 0] rfl) kx
      · replace hf := it_t hf b3
        refine lv_aload_n hx hb dX7_left_23 rfl (lv_at hl 0 rfl) ?_
        refine va_get (D := (dC, dI)) (ci := 7) (v := .ref (aM 12)) (C := RX7) (T := TX7) (N := 36) hx hb hts i_X7_left_X7 hown hK hw.1 0 rfl rfl 21 (by decide) (hts _ m_X7_left_2) (fun _ h9 => h9) rfl dX7_left_24 ?_
        refine lv_iload_n hx hb dX7_left_27 rfl (lv_at hl 3 rfl) ?_
        have g6 := ix_in (gd_l hf)
        replace hf := gd_r hf
        refine va_iald hx hb hK hw.1 12 0 rfl rfl g6 dX7_left_28 ?_
        refine lv_aload_n hx hb dX7_left_29 rfl (lv_at hl 0 rfl) ?_
        refine va_get (D := (dC, dI)) (ci := 7) (v := .ref (aM 13)) (C := RX7) (T := TX7) (N := 36) hx hb hts i_X7_left_X7 hown hK hw.1 0 rfl rfl 22 (by decide) (hts _ m_X7_left_3) (fun _ h9 => h9) rfl dX7_left_30 ?_
        refine lv_iload_n hx hb dX7_left_33 rfl (lv_at hl 3 rfl) ?_
        have g7 := ix_in (gd_l hf)
        replace hf := gd_r hf
        refine va_iald hx hb hK hw.1 13 0 rfl rfl g7 dX7_left_34 ?_
        refine lv_isub hx hb dX7_left_35 ?_
        refine lv_goto (tgt := 40) hx hb dX7_left_36 (by decide) ?_
        refine lv_iadd hx hb dX7_left_40 ?_
        refine lv_topi (fun x8 ex8 => ?_)
        replace hf := nl_at hf ex8
        refine lv_istore_n (lv' := [(2, .int x8), (0, .ref (aM 0)), (1, .int v1), (3, .int v3)]) hx hb dX7_left_41 rfl hl (by decide) rfl (fun ls hl => ?_)
        obtain ⟨x9, ex9⟩ : ∃ y : Int32, y = v3 + 1 := ⟨_, rfl⟩
        replace hf := nl_at hf ex9
        refine lv_iinc (v := x9) (lv' := [(3, .int x9), (2, .int x8), (0, .ref (aM 0)), (1, .int v1)]) hx hb dX7_left_42 hl (k := 3) rfl (by rw [ex9]; rfl) (by decide) rfl (fun ls hl => ?_)
        refine lv_goto (tgt := 4) hx hb dX7_left_45 (by decide) ?_
        exact ih _ _ _ hf _ _ _ hw (lv_sub hl [2, 3, 1, 0] rfl) kx
set_option maxHeartbeats 4000000 in
set_option maxRecDepth 100000 in
theorem c_X7_left (l : Launch) (dC : Nat → ClassId) (dI : Nat → Nat → Nat) (cI cJ cZ : ClassId) (aM : Nat → Nat) (N : Nat) (M_sorts : (Nat → Int32)) (M_values : (Nat → Int32)) (M_rows : Int32) (M_placeOf : (Nat → Int32)) (M_falling : (Nat → Int32)) (M_made : Int32) (M_runs : Int32) (M_allRuns : Int32) (M_begin : (Nat → Int32)) (M_size : (Nat → Int32)) (M_pool : (Nat → Int32)) (M_pooled : Int32) (M_ways : Int32) (M_merges : Int32) (M_takes : (Nat → Int32)) (M_taken : (Nat → Int32)) (M_parts : Int32) (M_every : Int32) (M_samples : Int32) (M_sample : (Nat → Int32)) (M_ends : (Nat → Int32)) (M_partSize : (Nat → Int32)) (M_merged : (Nat → Int32)) (M_most : (Nat → Int32)) (M_done : (Nat → Int32)) (M_on : (Nat → Int32)) (M_ticks : Int32) (M_mergedAll : Int32) (M_again : Int32) (M_paces : (Nat → Int32)) (M_up : (Nat → Int32)) (M_byHost : (Nat → Int32)) (M_heap : (Nat → Int32)) (M_used : (Nat → Int32)) (M_planned : (Nat → Int32)) (M_gone : (Nat → Int32)) (v1 : Int32) {r : Int32} (hf : f_X7_left N M_parts M_partSize M_merged M_on v1 = some r) :
    CtI l yX7_left wsX7_left rm_X7_left (dC, dI) (tyl cI cJ cZ) [.ref (aM 0), .int v1] (w_M aM cI cJ cZ M_sorts M_values M_rows M_placeOf M_falling M_made M_runs M_allRuns M_begin M_size M_pool M_pooled M_ways M_merges M_takes M_taken M_parts M_every M_samples M_sample M_ends M_partSize M_merged M_most M_done M_on M_ticks M_mergedAll M_again M_paces M_up M_byHost M_heap M_used M_planned M_gone) (w_M aM cI cJ cZ M_sorts M_values M_rows M_placeOf M_falling M_made M_runs M_allRuns M_begin M_size M_pool M_pooled M_ways M_merges M_takes M_taken M_parts M_every M_samples M_sample M_ends M_partSize M_merged M_most M_done M_on M_ticks M_mergedAll M_again M_paces M_up M_byHost M_heap M_used M_planned M_gone) r := by
  refine startI (cc := cX7_left) (maxL := 4) (rt := (some .int)) (by decide +kernel) rfl (Nat.le_of_ble_eq_true rfl) ?_
  intro p e s m below meth c A ls X hr hlocks hw hl
  replace X : Cx p m c cX7_left 4 s _ wsX7_left RX7 (dC, dI) (tyl cI cJ cZ) A := X
  replace hl : lv_has ls 4 [(0, .ref (aM 0)), (1, .int v1)] := hl
  obtain ⟨hx, hb, hml, hown, hts⟩ := X.1
  have hK := X.2.1
  have hN := X.2.2.2
  unfold f_X7_left at hf
  refine lv_iconst (v := 0) hx hb dX7_left_0 (by decide) ?_
  refine lv_istore_n (lv' := [(2, .int 0), (0, .ref (aM 0)), (1, .int v1)]) hx hb dX7_left_1 rfl hl (by decide) rfl (fun ls hl => ?_)
  refine lv_iconst (v := 0) hx hb dX7_left_2 (by decide) ?_
  refine lv_istore_n (lv' := [(3, .int 0), (2, .int 0), (0, .ref (aM 0)), (1, .int v1)]) hx hb dX7_left_3 rfl hl (by decide) rfl (fun ls hl => ?_)
  obtain ⟨e10, h11, hf⟩ := bd1_ob hf
  refine t_X7_left_4 aM X N M_sorts M_values M_rows M_placeOf M_falling M_made M_runs M_allRuns M_begin M_size M_pool M_pooled M_ways M_merges M_takes M_taken M_parts M_every M_samples M_sample M_ends M_partSize M_merged M_most M_done M_on M_ticks M_mergedAll M_again M_paces M_up M_byHost M_heap M_used M_planned M_gone v1 N _ _ _ h11 _ _ _ hw (lv_sub hl [2, 3, 1, 0] rfl) (fun H locs ls hw hl => ?_)
  refine lv_iload_n hx hb dX7_left_48 rfl (lv_at hl 0 rfl) ?_
  cases hf
  exact endI X hr rfl hlocks rfl hw dX7_left_49
def rm_X7_leaves : Room := { frames := 1, cells := 0, slots := 0, locals := 23 }
set_option maxRecDepth 20000 in
theorem i_X7_leaves_X7 : ∀ w ∈ u_ws RX7 TX7 36, w ∈ wsX7_leaves := by decide +kernel
set_option maxRecDepth 20000 in
theorem m_X7_leaves_0 : Cond.fieldLink RX7 62 "GreatSortModel" "parts" "I" ∈ wsX7_leaves := by decide +kernel
set_option maxRecDepth 20000 in
theorem m_X7_leaves_1 : Cond.fieldLink RX7 89 "GreatSortModel" "on" "[I" ∈ wsX7_leaves := by decide +kernel
set_option maxRecDepth 20000 in
theorem m_X7_leaves_2 : Cond.fieldLink RX7 80 "GreatSortModel" "merged" "[I" ∈ wsX7_leaves := by decide +kernel
set_option maxRecDepth 20000 in
theorem m_X7_leaves_3 : Cond.fieldLink RX7 86 "GreatSortModel" "done" "[Z" ∈ wsX7_leaves := by decide +kernel
set_option maxRecDepth 20000 in
theorem m_X7_leaves_4 : Cond.fieldLink RX7 104 "GreatSortModel" "up" "[Z" ∈ wsX7_leaves := by decide +kernel
set_option maxHeartbeats 4000000 in
set_option maxRecDepth 100000 in
theorem t_X7_leaves_55 {p : Program} {l : Launch} {e : Env} {s : State} {m : MethodId} {args : Array Value} {below : List Frame} {meth : Method} {c : Code} {Q : State → Prop} {dC : Nat → ClassId} {dI : Nat → Nat → Nat} {cI cJ cZ : ClassId} {A : Nat → Prop} (aM : Nat → Nat) (X : Cx p m c cX7_leaves 6 s args wsX7_leaves RX7 (dC, dI) (tyl cI cJ cZ) A) (N : Nat) (M_sorts : (Nat → Int32)) (M_values : (Nat → Int32)) (M_rows : Int32) (M_placeOf : (Nat → Int32)) (M_falling : (Nat → Int32)) (M_made : Int32) (M_runs : Int32) (M_allRuns : Int32) (M_begin : (Nat → Int32)) (M_size : (Nat → Int32)) (M_pool : (Nat → Int32)) (M_pooled : Int32) (M_ways : Int32) (M_merges : Int32) (M_takes : (Nat → Int32)) (M_taken : (Nat → Int32)) (M_parts : Int32) (M_every : Int32) (M_samples : Int32) (M_sample : (Nat → Int32)) (M_ends : (Nat → Int32)) (M_partSize : (Nat → Int32)) (M_merged : (Nat → Int32)) (M_most : (Nat → Int32)) (M_done : (Nat → Int32)) (M_on : (Nat → Int32)) (M_ticks : Int32) (M_mergedAll : Int32) (M_again : Int32) (M_paces : (Nat → Int32)) (M_up : (Nat → Int32)) (M_byHost : (Nat → Int32)) (M_heap : (Nat → Int32)) (M_used : (Nat → Int32)) (M_planned : (Nat → Int32)) (M_gone : (Nat → Int32)) (v1 : Int32) (v2 : Int32) (v3 : Int32) :
    ∀ (n : Nat) (v4 : Int32) (v5 : Int32) (e4 : Int32), l_X7_leaves_55 N M_parts M_partSize M_merged M_on M_up n v4 v5 = some e4 → ∀ (H : Heap) (locs : List Loc) (ls : Array Slot), Wd (dC, dI) A s.heap H locs (w_M aM cI cJ cZ M_sorts M_values M_rows M_placeOf M_falling M_made M_runs M_allRuns M_begin M_size M_pool M_pooled M_ways M_merges M_takes M_taken M_parts M_every M_samples M_sample M_ends M_partSize M_merged M_most M_done M_on M_ticks M_mergedAll M_again M_paces M_up M_byHost M_heap M_used M_planned M_gone) → lv_has ls 6 [(0, .ref (aM 0)), (1, .int v1), (2, .int v2), (3, .int v3), (4, .int v4), (5, .int v5)] → (∀ (H : Heap) (locs : List Loc) (ls : Array Slot), Wd (dC, dI) A s.heap H locs (w_M aM cI cJ cZ M_sorts M_values M_rows M_placeOf M_falling M_made M_runs M_allRuns M_begin M_size M_pool M_pooled M_ways M_merges M_takes M_taken M_parts M_every M_samples M_sample M_ends M_partSize M_merged M_most M_done M_on M_ticks M_mergedAll M_again M_paces M_up M_byHost M_heap M_used M_planned M_gone) → lv_has ls 6 [(0, .ref (aM 0)), (1, .int v1), (2, .int v2), (3, .int v3), (4, .int e4)] → W p l e rm_X7_leaves s m args below meth c H locs 0 0 Q (F0 m 103 ls [])) → W p l e rm_X7_leaves s m args below meth c H locs 0 0 Q (F0 m 55 ls []) := by
  obtain ⟨hx, hb, hml, hown, hts⟩ := X.1
  have hK := X.2.1
  have hN := X.2.2.2
  intro n
  induction n with
  | zero =>
    intro _ _ _ hf
    cases hf
  | succ n ih =>
    intro v4 v5 e4 hf H locs ls hw hl kx
    rw [l_X7_leaves_55] at hf
    refine lv_iload hx hb dX7_leaves_55 (lv_at hl 5 rfl) ?_
    refine lv_bipush (v := 8) hx hb dX7_leaves_57 (by decide) ?_
    refine lv_icmp_ge (tgt := 103) hx hb dX7_leaves_59 (by decide) (fun b8 => ?_) (fun b8 => ?_)
    · replace hf := it_t hf b8
      cases hf
      exact kx _ _ _ hw (lv_sub hl [0, 1, 2, 3, 4] rfl)
    · replace hf := it_f hf b8
      refine lv_aload_n hx hb dX7_leaves_62 rfl (lv_at hl 0 rfl) ?_
      refine va_get (D := (dC, dI)) (ci := 7) (v := .ref (aM 18)) (C := RX7) (T := TX7) (N := 36) hx hb hts i_X7_leaves_X7 hown hK hw.1 0 rfl rfl 30 (by decide) (hts _ m_X7_leaves_4) (fun _ h9 => h9) rfl dX7_leaves_63 ?_
      refine lv_iload hx hb dX7_leaves_66 (lv_at hl 5 rfl) ?_
      have g9 := ix_in (gd_l hf)
      replace hf := gd_r hf
      refine va_zald hx hb hK hw.1 18 2 rfl rfl g9 dX7_leaves_68 ?_
      refine lv_if_eq (tgt := 97) hx hb dX7_leaves_69 (by decide) (fun b10 => ?_) (fun b10 => ?_)
      · replace hf := it_t hf b10
        obtain ⟨x11, ex11⟩ : ∃ y : Int32, y = v5 + 1 := ⟨_, rfl⟩
        replace hf := nl_at hf ex11
        refine lv_iinc (v := x11) (lv' := [(5, .int x11), (0, .ref (aM 0)), (1, .int v1), (2, .int v2), (3, .int v3), (4, .int v4)]) hx hb dX7_leaves_97 hl (k := 5) rfl (by rw [ex11]; rfl) (by decide) rfl (fun ls hl => ?_)
        refine lv_goto (tgt := 55) hx hb dX7_leaves_100 (by decide) ?_
        exact ih _ _ _ hf _ _ _ hw (lv_sub hl [1, 2, 3, 4, 5, 0] rfl) kx
      · replace hf := it_f hf b10
        refine lv_iload hx hb dX7_leaves_72 (lv_at hl 4 rfl) ?_
        refine lv_iconst (v := (-1)) hx hb dX7_leaves_74 (by decide) ?_
        refine lv_icmp_eq (tgt := 93) hx hb dX7_leaves_75 (by decide) (fun b12 => ?_) (fun b12 => ?_)
        · replace hf := it_t hf b12
          refine lv_iload hx hb dX7_leaves_93 (lv_at hl 5 rfl) ?_
          refine lv_istore (lv' := [(4, .int v5), (0, .ref (aM 0)), (1, .int v1), (2, .int v2), (3, .int v3), (5, .int v5)]) hx hb dX7_leaves_95 hl (by decide) rfl (fun ls hl => ?_)
          obtain ⟨x13, ex13⟩ : ∃ y : Int32, y = v5 + 1 := ⟨_, rfl⟩
          replace hf := nl_at hf ex13
          refine lv_iinc (v := x13) (lv' := [(5, .int x13), (4, .int v5), (0, .ref (aM 0)), (1, .int v1), (2, .int v2), (3, .int v3)]) hx hb dX7_leaves_97 hl (k := 5) rfl (by rw [ex13]; rfl) (by decide) rfl (fun ls hl => ?_)
          refine lv_goto (tgt := 55) hx hb dX7_leaves_100 (by decide) ?_
          exact ih _ _ _ hf _ _ _ hw (lv_sub hl [2, 3, 4, 5, 1, 0] rfl) kx
        · replace hf := it_f hf b12
          refine lv_aload_n hx hb dX7_leaves_78 rfl (lv_at hl 0 rfl) ?_
          refine lv_iload hx hb dX7_leaves_79 (lv_at hl 5 rfl) ?_
          obtain ⟨r14, h15, hf⟩ := bd1_ob hf
          refine clFI (As := [.int v5]) (rest := []) X (c_X7_left l dC dI cI cJ cZ aM N M_sorts M_values M_rows M_placeOf M_falling M_made M_runs M_allRuns M_begin M_size M_pool M_pooled M_ways M_merges M_takes M_taken M_parts M_every M_samples M_sample M_ends M_partSize M_merged M_most M_done M_on M_ticks M_mergedAll M_again M_paces M_up M_byHost M_heap M_used M_planned M_gone v5 h15) (cwV 1 hts gX7_leaves_X7_left rfl rfl rfl (by decide +kernel) ⟨Nat.le_of_ble_eq_true rfl, Nat.le_of_ble_eq_true rfl⟩) (ci := 7) (k0 := 0) rfl rfl rfl hw rfl rfl hl.1 rfl (Nat.le_of_ble_eq_true rfl) dX7_leaves_81 ⟨Nat.zero_le _, Nat.zero_le _⟩ (fun H locs hw => ?_)
          refine lv_aload_n hx hb dX7_leaves_84 rfl (lv_at hl 0 rfl) ?_
          refine lv_iload hx hb dX7_leaves_85 (lv_at hl 4 rfl) ?_
          obtain ⟨r16, h17, hf⟩ := bd1_ob hf
          refine clFI (As := [.int v4]) (rest := [.int r14]) X (c_X7_left l dC dI cI cJ cZ aM N M_sorts M_values M_rows M_placeOf M_falling M_made M_runs M_allRuns M_begin M_size M_pool M_pooled M_ways M_merges M_takes M_taken M_parts M_every M_samples M_sample M_ends M_partSize M_merged M_most M_done M_on M_ticks M_mergedAll M_again M_paces M_up M_byHost M_heap M_used M_planned M_gone v4 h17) (cwV 1 hts gX7_leaves_X7_left rfl rfl rfl (by decide +kernel) ⟨Nat.le_of_ble_eq_true rfl, Nat.le_of_ble_eq_true rfl⟩) (ci := 7) (k0 := 0) rfl rfl rfl hw rfl rfl hl.1 rfl (Nat.le_of_ble_eq_true rfl) dX7_leaves_87 ⟨Nat.zero_le _, Nat.zero_le _⟩ (fun H locs hw => ?_)
          refine lv_icmp_ge (tgt := 97) hx hb dX7_leaves_90 (by decide) (fun b18 => ?_) (fun b18 => ?_)
          · replace hf := it_t hf b18
            obtain ⟨x19, ex19⟩ : ∃ y : Int32, y = v5 + 1 := ⟨_, rfl⟩
            replace hf := nl_at hf ex19
            refine lv_iinc (v := x19) (lv' := [(5, .int x19), (0, .ref (aM 0)), (1, .int v1), (2, .int v2), (3, .int v3), (4, .int v4)]) hx hb dX7_leaves_97 hl (k := 5) rfl (by rw [ex19]; rfl) (by decide) rfl (fun ls hl => ?_)
            refine lv_goto (tgt := 55) hx hb dX7_leaves_100 (by decide) ?_
            exact ih _ _ _ hf _ _ _ hw (lv_sub hl [1, 2, 3, 4, 5, 0] rfl) kx
          · replace hf := it_f hf b18
            refine lv_iload hx hb dX7_leaves_93 (lv_at hl 5 rfl) ?_
            refine lv_istore (lv' := [(4, .int v5), (0, .ref (aM 0)), (1, .int v1), (2, .int v2), (3, .int v3), (5, .int v5)]) hx hb dX7_leaves_95 hl (by decide) rfl (fun ls hl => ?_)
            obtain ⟨x20, ex20⟩ : ∃ y : Int32, y = v5 + 1 := ⟨_, rfl⟩
            replace hf := nl_at hf ex20
            refine lv_iinc (v := x20) (lv' := [(5, .int x20), (4, .int v5), (0, .ref (aM 0)), (1, .int v1), (2, .int v2), (3, .int v3)]) hx hb dX7_leaves_97 hl (k := 5) rfl (by rw [ex20]; rfl) (by decide) rfl (fun ls hl => ?_)
            refine lv_goto (tgt := 55) hx hb dX7_leaves_100 (by decide) ?_
            exact ih _ _ _ hf _ _ _ hw (lv_sub hl [2, 3, 4, 5, 1, 0] rfl) kx
set_option maxHeartbeats 4000000 in
set_option maxRecDepth 100000 in
theorem t_X7_leaves_4 {p : Program} {l : Launch} {e : Env} {s : State} {m : MethodId} {args : Array Value} {below : List Frame} {meth : Method} {c : Code} {Q : State → Prop} {dC : Nat → ClassId} {dI : Nat → Nat → Nat} {cI cJ cZ : ClassId} {A : Nat → Prop} (aM : Nat → Nat) (X : Cx p m c cX7_leaves 6 s args wsX7_leaves RX7 (dC, dI) (tyl cI cJ cZ) A) (N : Nat) (M_sorts : (Nat → Int32)) (M_values : (Nat → Int32)) (M_rows : Int32) (M_placeOf : (Nat → Int32)) (M_falling : (Nat → Int32)) (M_made : Int32) (M_runs : Int32) (M_allRuns : Int32) (M_begin : (Nat → Int32)) (M_size : (Nat → Int32)) (M_pool : (Nat → Int32)) (M_pooled : Int32) (M_ways : Int32) (M_merges : Int32) (M_takes : (Nat → Int32)) (M_taken : (Nat → Int32)) (M_parts : Int32) (M_every : Int32) (M_samples : Int32) (M_sample : (Nat → Int32)) (M_ends : (Nat → Int32)) (M_partSize : (Nat → Int32)) (M_most : (Nat → Int32)) (M_ticks : Int32) (M_mergedAll : Int32) (M_again : Int32) (M_paces : (Nat → Int32)) (M_up : (Nat → Int32)) (M_byHost : (Nat → Int32)) (M_heap : (Nat → Int32)) (M_used : (Nat → Int32)) (M_planned : (Nat → Int32)) (M_gone : (Nat → Int32)) (v1 : Int32) :
    ∀ (n : Nat) (v2 : Int32) (v3 : Int32) (M_merged : (Nat → Int32)) (M_done : (Nat → Int32)) (M_on : (Nat → Int32)) (e2 : Int32) (e_M_merged : (Nat → Int32)) (e_M_done : (Nat → Int32)) (e_M_on : (Nat → Int32)), l_X7_leaves_4 N M_parts M_partSize M_up v1 n v2 v3 M_merged M_done M_on = some (e2, e_M_merged, e_M_done, e_M_on) → ∀ (H : Heap) (locs : List Loc) (ls : Array Slot), Wd (dC, dI) A s.heap H locs (w_M aM cI cJ cZ M_sorts M_values M_rows M_placeOf M_falling M_made M_runs M_allRuns M_begin M_size M_pool M_pooled M_ways M_merges M_takes M_taken M_parts M_every M_samples M_sample M_ends M_partSize M_merged M_most M_done M_on M_ticks M_mergedAll M_again M_paces M_up M_byHost M_heap M_used M_planned M_gone) → lv_has ls 6 [(0, .ref (aM 0)), (1, .int v1), (2, .int v2), (3, .int v3)] → (∀ (H : Heap) (locs : List Loc) (ls : Array Slot), Wd (dC, dI) A s.heap H locs (w_M aM cI cJ cZ M_sorts M_values M_rows M_placeOf M_falling M_made M_runs M_allRuns M_begin M_size M_pool M_pooled M_ways M_merges M_takes M_taken M_parts M_every M_samples M_sample M_ends M_partSize e_M_merged M_most e_M_done e_M_on M_ticks M_mergedAll M_again M_paces M_up M_byHost M_heap M_used M_planned M_gone) → lv_has ls 6 [(2, .int e2)] → W p l e rm_X7_leaves s m args below meth c H locs 0 0 Q (F0 m 117 ls [])) → W p l e rm_X7_leaves s m args below meth c H locs 0 0 Q (F0 m 4 ls []) := by
  obtain ⟨hx, hb, hml, hown, hts⟩ := X.1
  have hK := X.2.1
  have hN := X.2.2.2
  intro n
  induction n with
  | zero =>
    intro _ _ _ _ _ _ _ _ _ hf
    cases hf
  | succ n ih =>
    intro v2 v3 M_merged M_done M_on e2 e_M_merged e_M_done e_M_on hf H locs ls hw hl kx
    rw [l_X7_leaves_4] at hf
    refine lv_iload_n hx hb dX7_leaves_4 rfl (lv_at hl 3 rfl) ?_
    refine lv_aload_n hx hb dX7_leaves_5 rfl (lv_at hl 0 rfl) ?_
    refine va_get (D := (dC, dI)) (ci := 7) (v := .int M_parts) (C := RX7) (T := TX7) (N := 36) hx hb hts i_X7_leaves_X7 hown hK hw.1 0 rfl rfl 16 (by decide) (hts _ m_X7_leaves_0) (fun _ h9 => h9) rfl dX7_leaves_6 ?_
    refine lv_icmp_ge (tgt := 117) hx hb dX7_leaves_9 (by decide) (fun b1 => ?_) (fun b1 => ?_)
    · replace hf := it_t hf b1
      cases hf
      exact kx _ _ _ hw (lv_sub hl [2] rfl)
    · replace hf := it_f hf b1
      refine lv_aload_n hx hb dX7_leaves_12 rfl (lv_at hl 0 rfl) ?_
      refine va_get (D := (dC, dI)) (ci := 7) (v := .ref (aM 16)) (C := RX7) (T := TX7) (N := 36) hx hb hts i_X7_leaves_X7 hown hK hw.1 0 rfl rfl 25 (by decide) (hts _ m_X7_leaves_1) (fun _ h9 => h9) rfl dX7_leaves_13 ?_
      refine lv_iload_n hx hb dX7_leaves_16 rfl (lv_at hl 3 rfl) ?_
      have g2 := ix_in (gd_l hf)
      replace hf := gd_r hf
      refine va_iald hx hb hK hw.1 16 0 rfl rfl g2 dX7_leaves_17 ?_
      refine lv_iload_n hx hb dX7_leaves_18 rfl (lv_at hl 1 rfl) ?_
      refine lv_icmp_eq (tgt := 25) hx hb dX7_leaves_19 (by decide) (fun b3 => ?_) (fun b3 => ?_)
      · replace hf := it_t hf b3
        obtain ⟨x4, ex4⟩ : ∃ y : Int32, y = v2 + 1 := ⟨_, rfl⟩
        replace hf := nl_at hf ex4
        refine lv_iinc (v := x4) (lv' := [(2, .int x4), (0, .ref (aM 0)), (1, .int v1), (3, .int v3)]) hx hb dX7_leaves_25 hl (k := 2) rfl (by rw [ex4]; rfl) (by decide) rfl (fun ls hl => ?_)
        refine lv_aload_n hx hb dX7_leaves_28 rfl (lv_at hl 1 rfl) ?_
        refine va_get (D := (dC, dI)) (ci := 7) (v := .ref (aM 13)) (C := RX7) (T := TX7) (N := 36) hx hb hts i_X7_leaves_X7 hown hK hw.1 0 rfl rfl 22 (by decide) (hts _ m_X7_leaves_2) (fun _ h9 => h9) rfl dX7_leaves_29 ?_
        refine lv_iload_n hx hb dX7_leaves_32 rfl (lv_at hl 3 rfl) ?_
        refine lv_iconst (v := 0) hx hb dX7_leaves_33 (by decide) ?_
        have g5 := ix_in (gd_l hf)
        replace hf := gd_r hf
        refine g_iast hx hb hK hw 13 0 rfl rfl g5 dX7_leaves_34 (fun H locs hw => ?_)
        replace hw : Wd (dC, dI) A s.heap H locs (w_M aM cI cJ cZ M_sorts M_values M_rows M_placeOf M_falling M_made M_runs M_allRuns M_begin M_size M_pool M_pooled M_ways M_merges M_takes M_taken M_parts M_every M_samples M_sample M_ends M_partSize (upd M_merged v3.toNatClampNeg 0) M_most M_done M_on M_ticks M_mergedAll M_again M_paces M_up M_byHost M_heap M_used M_planned M_gone) := hw
        refine lv_aload_n hx hb dX7_leaves_35 rfl (lv_at hl 1 rfl) ?_
        refine va_get (D := (dC, dI)) (ci := 7) (v := .ref (aM 15)) (C := RX7) (T := TX7) (N := 36) hx hb hts i_X7_leaves_X7 hown hK hw.1 0 rfl rfl 24 (by decide) (hts _ m_X7_leaves_3) (fun _ h9 => h9) rfl dX7_leaves_36 ?_
        refine lv_iload_n hx hb dX7_leaves_39 rfl (lv_at hl 3 rfl) ?_
        refine lv_iconst (v := 0) hx hb dX7_leaves_40 (by decide) ?_
        have g6 := ix_in (gd_l hf)
        replace hf := gd_r hf
        refine g_zast hx hb hK hw 15 2 rfl rfl g6 dX7_leaves_41 (fun H locs hw => ?_)
        replace hw : Wd (dC, dI) A s.heap H locs (w_M aM cI cJ cZ M_sorts M_values M_rows M_placeOf M_falling M_made M_runs M_allRuns M_begin M_size M_pool M_pooled M_ways M_merges M_takes M_taken M_parts M_every M_samples M_sample M_ends M_partSize (upd M_merged v3.toNatClampNeg 0) M_most (upd M_done v3.toNatClampNeg (vp_nar .boolean 0)) M_on M_ticks M_mergedAll M_again M_paces M_up M_byHost M_heap M_used M_planned M_gone) := hw
        refine lv_aload_n hx hb dX7_leaves_42 rfl (lv_at hl 1 rfl) ?_
        refine va_get (D := (dC, dI)) (ci := 7) (v := .ref (aM 16)) (C := RX7) (T := TX7) (N := 36) hx hb hts i_X7_leaves_X7 hown hK hw.1 0 rfl rfl 25 (by decide) (hts _ m_X7_leaves_1) (fun _ h9 => h9) rfl dX7_leaves_43 ?_
        refine lv_iload_n hx hb dX7_leaves_46 rfl (lv_at hl 3 rfl) ?_
        refine lv_iconst (v := (-1)) hx hb dX7_leaves_47 (by decide) ?_
        have g7 := ix_in (gd_l hf)
        replace hf := gd_r hf
        refine g_iast hx hb hK hw 16 0 rfl rfl g7 dX7_leaves_48 (fun H locs hw => ?_)
        replace hw : Wd (dC, dI) A s.heap H locs (w_M aM cI cJ cZ M_sorts M_values M_rows M_placeOf M_falling M_made M_runs M_allRuns M_begin M_size M_pool M_pooled M_ways M_merges M_takes M_taken M_parts M_every M_samples M_sample M_ends M_partSize (upd M_merged v3.toNatClampNeg 0) M_most (upd M_done v3.toNatClampNeg (vp_nar .boolean 0)) (upd M_on v3.toNatClampNeg (-1)) M_ticks M_mergedAll M_again M_paces M_up M_byHost M_heap M_used M_planned M_gone) := hw
        refine lv_iconst (v := (-1)) hx hb dX7_leaves_49 (by decide) ?_
        refine lv_istore (lv' := [(4, .int (-1)), (2, .int x4), (0, .ref (aM 0)), (1, .int v1), (3, .int v3)]) hx hb dX7_leaves_50 hl (by decide) rfl (fun ls hl => ?_)
        refine lv_iconst (v := 0) hx hb dX7_leaves_52 (by decide) ?_
        refine lv_istore (lv' := [(5, .int 0), (4, .int (-1)), (2, .int x4), (0, .ref (aM 0)), (1, .int v1), (3, .int v3)]) hx hb dX7_leaves_53 hl (by decide) rfl (fun ls hl => ?_)
        obtain ⟨e21, h22, hf⟩ := bd1_ob hf
        refine t_X7_leaves_55 aM X N M_sorts M_values M_rows M_placeOf M_falling M_made M_runs M_allRuns M_begin M_size M_pool M_pooled M_ways M_merges M_takes M_taken M_parts M_every M_samples M_sample M_ends M_partSize (upd M_merged v3.toNatClampNeg 0) M_most (upd M_done v3.toNatClampNeg (vp_nar .boolean 0)) (upd M_on v3.toNatClampNeg (-1)) M_ticks M_mergedAll M_again M_paces M_up M_byHost M_heap M_used M_planned M_gone v1 x4 v3 N _ _ _ h22 _ _ _ hw (lv_sub hl [3, 4, 2, 5, 1, 0] rfl) (fun H locs ls hw hl => ?_)
        refine lv_aload_n hx hb dX7_leaves_103 rfl (lv_at hl 0 rfl) ?_
        refine va_get (D := (dC, dI)) (ci := 7) (v := .ref (aM 16)) (C := RX7) (T := TX7) (N := 36) hx hb hts i_X7_leaves_X7 hown hK hw.1 0 rfl rfl 25 (by decide) (hts _ m_X7_leaves_1) (fun _ h9 => h9) rfl dX7_leaves_104 ?_
        refine lv_iload_n hx hb dX7_leaves_107 rfl (lv_at hl 3 rfl) ?_
        refine lv_iload hx hb dX7_leaves_108 (lv_at hl 4 rfl) ?_
        have g23 := ix_in (gd_l hf)
        replace hf := gd_r hf
        refine g_iast hx hb hK hw 16 0 rfl rfl g23 dX7_leaves_110 (fun H locs hw => ?_)
        replace hw : Wd (dC, dI) A s.heap H locs (w_M aM cI cJ cZ M_sorts M_values M_rows M_placeOf M_falling M_made M_runs M_allRuns M_begin M_size M_pool M_pooled M_ways M_merges M_takes M_taken M_parts M_every M_samples M_sample M_ends M_partSize (upd M_merged v3.toNatClampNeg 0) M_most (upd M_done v3.toNatClampNeg (vp_nar .boolean 0)) (upd (upd M_on v3.toNatClampNeg (-1)) v3.toNatClampNeg e21) M_ticks M_mergedAll M_again M_paces M_up M_byHost M_heap M_used M_planned M_gone) := hw
        obtain ⟨x24, ex24⟩ : ∃ y : Int32, y = v3 + 1 := ⟨_, rfl⟩
        replace hf := nl_at hf ex24
        refine lv_iinc (v := x24) (lv' := [(3, .int x24), (0, .ref (aM 0)), (1, .int v1), (2, .int x4), (4, .int e21)]) hx hb dX7_leaves_111 hl (k := 3) rfl (by rw [ex24]; rfl) (by decide) rfl (fun ls hl => ?_)
        refine lv_goto (tgt := 4) hx hb dX7_leaves_114 (by decide) ?_
        exact ih _ _ _ _ _ _ _ _ _ hf _ _ _ hw (lv_sub hl [1, 2, 3, 0] rfl) kx
      · replace hf := it_f hf b3
        refine lv_goto (tgt := 111) hx hb dX7_leaves_22 (by decide) ?_
        obtain ⟨x25, ex25⟩ : ∃ y : Int32, y = v3 + 1 := ⟨_, rfl⟩
        replace hf := nl_at hf ex25
        refine lv_iinc (v := x25) (lv' := [(3, .int x25), (0, .ref (aM 0)), (1, .int v1), (2, .int v2)]) hx hb dX7_leaves_111 hl (k := 3) rfl (by rw [ex25]; rfl) (by decide) rfl (fun ls hl => ?_)
        refine lv_goto (tgt := 4) hx hb dX7_leaves_114 (by decide) ?_
        exact ih _ _ _ _ _ _ _ _ _ hf _ _ _ hw (lv_sub hl [1, 2, 3, 0] rfl) kx
set_option maxHeartbeats 4000000 in
set_option maxRecDepth 100000 in
theorem c_X7_leaves (l : Launch) (dC : Nat → ClassId) (dI : Nat → Nat → Nat) (cI cJ cZ : ClassId) (aM : Nat → Nat) (N : Nat) (M_sorts : (Nat → Int32)) (M_values : (Nat → Int32)) (M_rows : Int32) (M_placeOf : (Nat → Int32)) (M_falling : (Nat → Int32)) (M_made : Int32) (M_runs : Int32) (M_allRuns : Int32) (M_begin : (Nat → Int32)) (M_size : (Nat → Int32)) (M_pool : (Nat → Int32)) (M_pooled : Int32) (M_ways : Int32) (M_merges : Int32) (M_takes : (Nat → Int32)) (M_taken : (Nat → Int32)) (M_parts : Int32) (M_every : Int32) (M_samples : Int32) (M_sample : (Nat → Int32)) (M_ends : (Nat → Int32)) (M_partSize : (Nat → Int32)) (M_merged : (Nat → Int32)) (M_most : (Nat → Int32)) (M_done : (Nat → Int32)) (M_on : (Nat → Int32)) (M_ticks : Int32) (M_mergedAll : Int32) (M_again : Int32) (M_paces : (Nat → Int32)) (M_up : (Nat → Int32)) (M_byHost : (Nat → Int32)) (M_heap : (Nat → Int32)) (M_used : (Nat → Int32)) (M_planned : (Nat → Int32)) (M_gone : (Nat → Int32)) (v1 : Int32) {r : Int32} {o_M_merged : (Nat → Int32)} {o_M_done : (Nat → Int32)} {o_M_on : (Nat → Int32)} (hf : f_X7_leaves N M_parts M_partSize M_merged M_done M_on M_up v1 = some (r, o_M_merged, o_M_done, o_M_on)) :
    CtI l yX7_leaves wsX7_leaves rm_X7_leaves (dC, dI) (tyl cI cJ cZ) [.ref (aM 0), .int v1] (w_M aM cI cJ cZ M_sorts M_values M_rows M_placeOf M_falling M_made M_runs M_allRuns M_begin M_size M_pool M_pooled M_ways M_merges M_takes M_taken M_parts M_every M_samples M_sample M_ends M_partSize M_merged M_most M_done M_on M_ticks M_mergedAll M_again M_paces M_up M_byHost M_heap M_used M_planned M_gone) (w_M aM cI cJ cZ M_sorts M_values M_rows M_placeOf M_falling M_made M_runs M_allRuns M_begin M_size M_pool M_pooled M_ways M_merges M_takes M_taken M_parts M_every M_samples M_sample M_ends M_partSize o_M_merged M_most o_M_done o_M_on M_ticks M_mergedAll M_again M_paces M_up M_byHost M_heap M_used M_planned M_gone) r := by
  refine startI (cc := cX7_leaves) (maxL := 6) (rt := (some .int)) (by decide +kernel) rfl (Nat.le_of_ble_eq_true rfl) ?_
  intro p e s m below meth c A ls X hr hlocks hw hl
  replace X : Cx p m c cX7_leaves 6 s _ wsX7_leaves RX7 (dC, dI) (tyl cI cJ cZ) A := X
  replace hl : lv_has ls 6 [(0, .ref (aM 0)), (1, .int v1)] := hl
  obtain ⟨hx, hb, hml, hown, hts⟩ := X.1
  have hK := X.2.1
  have hN := X.2.2.2
  unfold f_X7_leaves at hf
  refine lv_iconst (v := 0) hx hb dX7_leaves_0 (by decide) ?_
  refine lv_istore_n (lv' := [(2, .int 0), (0, .ref (aM 0)), (1, .int v1)]) hx hb dX7_leaves_1 rfl hl (by decide) rfl (fun ls hl => ?_)
  refine lv_iconst (v := 0) hx hb dX7_leaves_2 (by decide) ?_
  refine lv_istore_n (lv' := [(3, .int 0), (2, .int 0), (0, .ref (aM 0)), (1, .int v1)]) hx hb dX7_leaves_3 rfl hl (by decide) rfl (fun ls hl => ?_)
  obtain ⟨e26, e27, e28, e29, h30, hf⟩ := bd4_ob hf
  refine t_X7_leaves_4 aM X N M_sorts M_values M_rows M_placeOf M_falling M_made M_runs M_allRuns M_begin M_size M_pool M_pooled M_ways M_merges M_takes M_taken M_parts M_every M_samples M_sample M_ends M_partSize M_most M_ticks M_mergedAll M_again M_paces M_up M_byHost M_heap M_used M_planned M_gone v1 N _ _ _ _ _ _ _ _ _ h30 _ _ _ hw (lv_sub hl [2, 3, 1, 0] rfl) (fun H locs ls hw hl => ?_)
  refine lv_iload_n hx hb dX7_leaves_117 rfl (lv_at hl 0 rfl) ?_
  cases hf
  exact endI X hr rfl hlocks rfl hw dX7_leaves_118
def rm_X7_cut : Room := { frames := 2, cells := 0, slots := 0, locals := 48 }
set_option maxRecDepth 20000 in
theorem i_X7_cut_X7 : ∀ w ∈ u_ws RX7 TX7 36, w ∈ wsX7_cut := by decide +kernel
set_option maxRecDepth 20000 in
theorem m_X7_cut_0 : Cond.fieldLink RX7 27 "GreatSortModel" "made" "Z" ∈ wsX7_cut := by decide +kernel
set_option maxRecDepth 20000 in
theorem m_X7_cut_1 : Cond.fieldLink RX7 62 "GreatSortModel" "parts" "I" ∈ wsX7_cut := by decide +kernel
set_option maxRecDepth 20000 in
theorem m_X7_cut_2 : Cond.fieldLink RX7 65 "GreatSortModel" "every" "I" ∈ wsX7_cut := by decide +kernel
set_option maxRecDepth 20000 in
theorem m_X7_cut_3 : Cond.fieldLink RX7 68 "GreatSortModel" "samples" "I" ∈ wsX7_cut := by decide +kernel
set_option maxRecDepth 20000 in
theorem m_X7_cut_4 : Cond.fieldLink RX7 31 "GreatSortModel" "runs" "I" ∈ wsX7_cut := by decide +kernel
set_option maxRecDepth 20000 in
theorem m_X7_cut_5 : Cond.fieldLink RX7 40 "GreatSortModel" "size" "[I" ∈ wsX7_cut := by decide +kernel
set_option maxRecDepth 20000 in
theorem m_X7_cut_6 : Cond.fieldLink RX7 44 "GreatSortModel" "pool" "[I" ∈ wsX7_cut := by decide +kernel
set_option maxRecDepth 20000 in
theorem m_X7_cut_7 : Cond.fieldLink RX7 37 "GreatSortModel" "begin" "[I" ∈ wsX7_cut := by decide +kernel
set_option maxRecDepth 20000 in
theorem m_X7_cut_8 : Cond.fieldLink RX7 71 "GreatSortModel" "sample" "[I" ∈ wsX7_cut := by decide +kernel
set_option maxRecDepth 20000 in
theorem m_X7_cut_9 : Cond.fieldLink RX7 74 "GreatSortModel" "ends" "[I" ∈ wsX7_cut := by decide +kernel
set_option maxRecDepth 20000 in
theorem m_X7_cut_10 : Cond.fieldLink RX7 77 "GreatSortModel" "partSize" "[I" ∈ wsX7_cut := by decide +kernel
set_option maxRecDepth 20000 in
theorem m_X7_cut_11 : Cond.fieldLink RX7 80 "GreatSortModel" "merged" "[I" ∈ wsX7_cut := by decide +kernel
set_option maxRecDepth 20000 in
theorem m_X7_cut_12 : Cond.fieldLink RX7 83 "GreatSortModel" "most" "[I" ∈ wsX7_cut := by decide +kernel
set_option maxRecDepth 20000 in
theorem m_X7_cut_13 : Cond.fieldLink RX7 86 "GreatSortModel" "done" "[Z" ∈ wsX7_cut := by decide +kernel
set_option maxRecDepth 20000 in
theorem m_X7_cut_14 : Cond.fieldLink RX7 89 "GreatSortModel" "on" "[I" ∈ wsX7_cut := by decide +kernel
set_option maxRecDepth 20000 in
theorem m_X7_cut_15 : Cond.fieldLink RX7 92 "GreatSortModel" "ticks" "I" ∈ wsX7_cut := by decide +kernel
set_option maxRecDepth 20000 in
theorem m_X7_cut_16 : Cond.fieldLink RX7 95 "GreatSortModel" "mergedAll" "I" ∈ wsX7_cut := by decide +kernel
set_option maxRecDepth 20000 in
theorem m_X7_cut_17 : Cond.fieldLink RX7 98 "GreatSortModel" "again" "I" ∈ wsX7_cut := by decide +kernel
set_option maxRecDepth 20000 in
theorem m_X7_cut_18 : Cond.fieldLink RX7 107 "GreatSortModel" "byHost" "[I" ∈ wsX7_cut := by decide +kernel
set_option maxRecDepth 20000 in
theorem m_X7_cut_19 : Cond.fieldLink RX7 104 "GreatSortModel" "up" "[Z" ∈ wsX7_cut := by decide +kernel
set_option maxHeartbeats 4000000 in
set_option maxRecDepth 100000 in
theorem t_X7_cut_92 {p : Program} {l : Launch} {e : Env} {s : State} {m : MethodId} {args : Array Value} {below : List Frame} {meth : Method} {c : Code} {Q : State → Prop} {dC : Nat → ClassId} {dI : Nat → Nat → Nat} {cI cJ cZ : ClassId} {A : Nat → Prop} (aM : Nat → Nat) (X : Cx p m c cX7_cut 7 s args wsX7_cut RX7 (dC, dI) (tyl cI cJ cZ) A) (N : Nat) (M_sorts : (Nat → Int32)) (M_values : (Nat → Int32)) (M_rows : Int32) (M_placeOf : (Nat → Int32)) (M_falling : (Nat → Int32)) (M_made : Int32) (M_runs : Int32) (M_allRuns : Int32) (M_begin : (Nat → Int32)) (M_size : (Nat → Int32)) (M_pool : (Nat → Int32)) (M_pooled : Int32) (M_ways : Int32) (M_merges : Int32) (M_takes : (Nat → Int32)) (M_taken : (Nat → Int32)) (M_parts : Int32) (M_every : Int32) (M_samples : Int32) (M_ends : (Nat → Int32)) (M_partSize : (Nat → Int32)) (M_merged : (Nat → Int32)) (M_most : (Nat → Int32)) (M_done : (Nat → Int32)) (M_on : (Nat → Int32)) (M_ticks : Int32) (M_mergedAll : Int32) (M_again : Int32) (M_paces : (Nat → Int32)) (M_up : (Nat → Int32)) (M_byHost : (Nat → Int32)) (M_heap : (Nat → Int32)) (M_used : (Nat → Int32)) (M_planned : (Nat → Int32)) (M_gone : (Nat → Int32)) (v1 : Int32) (v2 : Int32) (v3 : Int32) (v4 : Int32) (v5 : Int32) :
    ∀ (n : Nat) (v6 : Int32) (M_sample : (Nat → Int32)) (e6 : Int32) (e_M_sample : (Nat → Int32)), l_X7_cut_92 N M_sorts M_values M_placeOf M_falling v5 n v6 M_sample = some (e6, e_M_sample) → ∀ (H : Heap) (locs : List Loc) (ls : Array Slot), Wd (dC, dI) A s.heap H locs (w_M aM cI cJ cZ M_sorts M_values M_rows M_placeOf M_falling M_made M_runs M_allRuns M_begin M_size M_pool M_pooled M_ways M_merges M_takes M_taken M_parts M_every M_samples M_sample M_ends M_partSize M_merged M_most M_done M_on M_ticks M_mergedAll M_again M_paces M_up M_byHost M_heap M_used M_planned M_gone) → lv_has ls 7 [(0, .ref (aM 0)), (1, .int v1), (2, .int v2), (3, .int v3), (4, .int v4), (5, .int v5), (6, .int v6)] → (∀ (H : Heap) (locs : List Loc) (ls : Array Slot), Wd (dC, dI) A s.heap H locs (w_M aM cI cJ cZ M_sorts M_values M_rows M_placeOf M_falling M_made M_runs M_allRuns M_begin M_size M_pool M_pooled M_ways M_merges M_takes M_taken M_parts M_every M_samples e_M_sample M_ends M_partSize M_merged M_most M_done M_on M_ticks M_mergedAll M_again M_paces M_up M_byHost M_heap M_used M_planned M_gone) → lv_has ls 7 [(0, .ref (aM 0)), (1, .int v1), (2, .int v2), (3, .int v3), (4, .int v4), (5, .int v5), (6, .int e6)] → W p l e rm_X7_cut s m args below meth c H locs 0 0 Q (F0 m 137 ls [])) → W p l e rm_X7_cut s m args below meth c H locs 0 0 Q (F0 m 92 ls []) := by
  obtain ⟨hx, hb, hml, hown, hts⟩ := X.1
  have hK := X.2.1
  have hN := X.2.2.2
  intro n
  induction n with
  | zero =>
    intro _ _ _ _ hf
    cases hf
  | succ n ih =>
    intro v6 M_sample e6 e_M_sample hf H locs ls hw hl kx
    rw [l_X7_cut_92] at hf
    refine lv_iload hx hb dX7_cut_92 (lv_at hl 6 rfl) ?_
    refine lv_if_le (tgt := 137) hx hb dX7_cut_94 (by decide) (fun b15 => ?_) (fun b15 => ?_)
    · replace hf := it_t hf b15
      cases hf
      exact kx _ _ _ hw (lv_sub hl [0, 1, 2, 3, 4, 5, 6] rfl)
    · replace hf := it_f hf b15
      refine lv_aload_n hx hb dX7_cut_97 rfl (lv_at hl 0 rfl) ?_
      refine lv_iload hx hb dX7_cut_98 (lv_at hl 5 rfl) ?_
      refine lv_aload_n hx hb dX7_cut_100 rfl (lv_at hl 0 rfl) ?_
      refine va_get (D := (dC, dI)) (ci := 7) (v := .ref (aM 10)) (C := RX7) (T := TX7) (N := 36) hx hb hts i_X7_cut_X7 hown hK hw.1 0 rfl rfl 19 (by decide) (hts _ m_X7_cut_8) (fun _ h9 => h9) rfl dX7_cut_101 ?_
      refine lv_iload hx hb dX7_cut_104 (lv_at hl 6 rfl) ?_
      refine lv_iconst (v := 1) hx hb dX7_cut_106 (by decide) ?_
      refine lv_isub hx hb dX7_cut_107 ?_
      have g16 := ix_in (gd_l hf)
      replace hf := gd_r hf
      refine va_iald hx hb hK hw.1 10 0 rfl rfl g16 dX7_cut_108 ?_
      obtain ⟨r17, h18, hf⟩ := bd1_ob hf
      refine clFI (As := [.int v5, .int (M_sample (v6 - 1).toNatClampNeg)]) (rest := []) X (c_X7_ahead l dC dI cI cJ cZ aM N M_sorts M_values M_rows M_placeOf M_falling M_made M_runs M_allRuns M_begin M_size M_pool M_pooled M_ways M_merges M_takes M_taken M_parts M_every M_samples M_sample M_ends M_partSize M_merged M_most M_done M_on M_ticks M_mergedAll M_again M_paces M_up M_byHost M_heap M_used M_planned M_gone v5 (M_sample (v6 - 1).toNatClampNeg) h18) (cwV 2 hts gX7_cut_X7_ahead rfl rfl rfl (by decide +kernel) ⟨Nat.le_of_ble_eq_true rfl, Nat.le_of_ble_eq_true rfl⟩) (ci := 7) (k0 := 0) rfl rfl rfl hw rfl rfl hl.1 rfl (Nat.le_of_ble_eq_true rfl) dX7_cut_109 ⟨Nat.zero_le _, Nat.zero_le _⟩ (fun H locs hw => ?_)
      refine lv_if_eq (tgt := 137) hx hb dX7_cut_112 (by decide) (fun b19 => ?_) (fun b19 => ?_)
      · replace hf := it_t hf b19
        cases hf
        exact kx _ _ _ hw (lv_sub hl [0, 1, 2, 3, 4, 5, 6] rfl)
      · replace hf := it_f hf b19
        refine lv_aload_n hx hb dX7_cut_115 rfl (lv_at hl 0 rfl) ?_
        refine va_get (D := (dC, dI)) (ci := 7) (v := .ref (aM 10)) (C := RX7) (T := TX7) (N := 36) hx hb hts i_X7_cut_X7 hown hK hw.1 0 rfl rfl 19 (by decide) (hts _ m_X7_cut_8) (fun _ h9 => h9) rfl dX7_cut_116 ?_
        refine lv_iload hx hb dX7_cut_119 (lv_at hl 6 rfl) ?_
        refine lv_aload_n hx hb dX7_cut_121 rfl (lv_at hl 0 rfl) ?_
        refine va_get (D := (dC, dI)) (ci := 7) (v := .ref (aM 10)) (C := RX7) (T := TX7) (N := 36) hx hb hts i_X7_cut_X7 hown hK hw.1 0 rfl rfl 19 (by decide) (hts _ m_X7_cut_8) (fun _ h9 => h9) rfl dX7_cut_122 ?_
        refine lv_iload hx hb dX7_cut_125 (lv_at hl 6 rfl) ?_
        refine lv_iconst (v := 1) hx hb dX7_cut_127 (by decide) ?_
        refine lv_isub hx hb dX7_cut_128 ?_
        have g20 := ix_in (gd_l hf)
        replace hf := gd_r hf
        refine va_iald hx hb hK hw.1 10 0 rfl rfl g20 dX7_cut_129 ?_
        refine lv_topi (fun x21 ex21 => ?_)
        replace hf := nl_at hf ex21
        have g22 := ix_in (gd_l hf)
        replace hf := gd_r hf
        refine g_iast hx hb hK hw 10 0 rfl rfl g22 dX7_cut_130 (fun H locs hw => ?_)
        replace hw : Wd (dC, dI) A s.heap H locs (w_M aM cI cJ cZ M_sorts M_values M_rows M_placeOf M_falling M_made M_runs M_allRuns M_begin M_size M_pool M_pooled M_ways M_merges M_takes M_taken M_parts M_every M_samples (upd M_sample v6.toNatClampNeg x21) M_ends M_partSize M_merged M_most M_done M_on M_ticks M_mergedAll M_again M_paces M_up M_byHost M_heap M_used M_planned M_gone) := hw
        obtain ⟨x23, ex23⟩ : ∃ y : Int32, y = v6 + (-1) := ⟨_, rfl⟩
        replace hf := nl_at hf ex23
        refine lv_iinc (v := x23) (lv' := [(6, .int x23), (0, .ref (aM 0)), (1, .int v1), (2, .int v2), (3, .int v3), (4, .int v4), (5, .int v5)]) hx hb dX7_cut_131 hl (k := 6) rfl (by rw [ex23]; rfl) (by decide) rfl (fun ls hl => ?_)
        refine lv_goto (tgt := 92) hx hb dX7_cut_134 (by decide) ?_
        exact ih _ _ _ _ hf _ _ _ hw (lv_sub hl [1, 2, 3, 4, 5, 6, 0] rfl) kx
set_option maxHeartbeats 4000000 in
set_option maxRecDepth 100000 in
theorem t_X7_cut_59 {p : Program} {l : Launch} {e : Env} {s : State} {m : MethodId} {args : Array Value} {below : List Frame} {meth : Method} {c : Code} {Q : State → Prop} {dC : Nat → ClassId} {dI : Nat → Nat → Nat} {cI cJ cZ : ClassId} {A : Nat → Prop} (aM : Nat → Nat) (X : Cx p m c cX7_cut 7 s args wsX7_cut RX7 (dC, dI) (tyl cI cJ cZ) A) (N : Nat) (M_sorts : (Nat → Int32)) (M_values : (Nat → Int32)) (M_rows : Int32) (M_placeOf : (Nat → Int32)) (M_falling : (Nat → Int32)) (M_made : Int32) (M_runs : Int32) (M_allRuns : Int32) (M_begin : (Nat → Int32)) (M_size : (Nat → Int32)) (M_pool : (Nat → Int32)) (M_pooled : Int32) (M_ways : Int32) (M_merges : Int32) (M_takes : (Nat → Int32)) (M_taken : (Nat → Int32)) (M_parts : Int32) (M_every : Int32) (M_ends : (Nat → Int32)) (M_partSize : (Nat → Int32)) (M_merged : (Nat → Int32)) (M_most : (Nat → Int32)) (M_done : (Nat → Int32)) (M_on : (Nat → Int32)) (M_ticks : Int32) (M_mergedAll : Int32) (M_again : Int32) (M_paces : (Nat → Int32)) (M_up : (Nat → Int32)) (M_byHost : (Nat → Int32)) (M_heap : (Nat → Int32)) (M_used : (Nat → Int32)) (M_planned : (Nat → Int32)) (M_gone : (Nat → Int32)) (v1 : Int32) (v2 : Int32) (v3 : Int32) :
    ∀ (n : Nat) (v4 : Int32) (M_samples : Int32) (M_sample : (Nat → Int32)) (e_M_samples : Int32) (e_M_sample : (Nat → Int32)), l_X7_cut_59 N M_sorts M_values M_placeOf M_falling M_begin M_size M_pool v2 v3 n v4 M_samples M_sample = some (e_M_samples, e_M_sample) → ∀ (H : Heap) (locs : List Loc) (ls : Array Slot), Wd (dC, dI) A s.heap H locs (w_M aM cI cJ cZ M_sorts M_values M_rows M_placeOf M_falling M_made M_runs M_allRuns M_begin M_size M_pool M_pooled M_ways M_merges M_takes M_taken M_parts M_every M_samples M_sample M_ends M_partSize M_merged M_most M_done M_on M_ticks M_mergedAll M_again M_paces M_up M_byHost M_heap M_used M_planned M_gone) → lv_has ls 7 [(0, .ref (aM 0)), (1, .int v1), (2, .int v2), (3, .int v3), (4, .int v4)] → (∀ (H : Heap) (locs : List Loc) (ls : Array Slot), Wd (dC, dI) A s.heap H locs (w_M aM cI cJ cZ M_sorts M_values M_rows M_placeOf M_falling M_made M_runs M_allRuns M_begin M_size M_pool M_pooled M_ways M_merges M_takes M_taken M_parts M_every e_M_samples e_M_sample M_ends M_partSize M_merged M_most M_done M_on M_ticks M_mergedAll M_again M_paces M_up M_byHost M_heap M_used M_planned M_gone) → lv_has ls 7 [(0, .ref (aM 0)), (1, .int v1), (2, .int v2), (3, .int v3)] → W p l e rm_X7_cut s m args below meth c H locs 0 0 Q (F0 m 165 ls [])) → W p l e rm_X7_cut s m args below meth c H locs 0 0 Q (F0 m 59 ls []) := by
  obtain ⟨hx, hb, hml, hown, hts⟩ := X.1
  have hK := X.2.1
  have hN := X.2.2.2
  intro n
  induction n with
  | zero =>
    intro _ _ _ _ _ hf
    cases hf
  | succ n ih =>
    intro v4 M_samples M_sample e_M_samples e_M_sample hf H locs ls hw hl kx
    rw [l_X7_cut_59] at hf
    refine lv_iload hx hb dX7_cut_59 (lv_at hl 4 rfl) ?_
    refine lv_aload_n hx hb dX7_cut_61 rfl (lv_at hl 0 rfl) ?_
    refine va_get (D := (dC, dI)) (ci := 7) (v := .ref (aM 6)) (C := RX7) (T := TX7) (N := 36) hx hb hts i_X7_cut_X7 hown hK hw.1 0 rfl rfl 9 (by decide) (hts _ m_X7_cut_5) (fun _ h9 => h9) rfl dX7_cut_62 ?_
    refine lv_iload_n hx hb dX7_cut_65 rfl (lv_at hl 3 rfl) ?_
    have g10 := ix_in (gd_l hf)
    replace hf := gd_r hf
    refine va_iald hx hb hK hw.1 6 0 rfl rfl g10 dX7_cut_66 ?_
    refine lv_icmp_ge (tgt := 165) hx hb dX7_cut_67 (by decide) (fun b11 => ?_) (fun b11 => ?_)
    · replace hf := it_t hf b11
      cases hf
      exact kx _ _ _ hw (lv_sub hl [0, 1, 2, 3] rfl)
    · replace hf := it_f hf b11
      refine lv_aload_n hx hb dX7_cut_70 rfl (lv_at hl 0 rfl) ?_
      refine va_get (D := (dC, dI)) (ci := 7) (v := .ref (aM 7)) (C := RX7) (T := TX7) (N := 36) hx hb hts i_X7_cut_X7 hown hK hw.1 0 rfl rfl 10 (by decide) (hts _ m_X7_cut_6) (fun _ h9 => h9) rfl dX7_cut_71 ?_
      refine lv_aload_n hx hb dX7_cut_74 rfl (lv_at hl 0 rfl) ?_
      refine va_get (D := (dC, dI)) (ci := 7) (v := .ref (aM 5)) (C := RX7) (T := TX7) (N := 36) hx hb hts i_X7_cut_X7 hown hK hw.1 0 rfl rfl 8 (by decide) (hts _ m_X7_cut_7) (fun _ h9 => h9) rfl dX7_cut_75 ?_
      refine lv_iload_n hx hb dX7_cut_78 rfl (lv_at hl 3 rfl) ?_
      have g12 := ix_in (gd_l hf)
      replace hf := gd_r hf
      refine va_iald hx hb hK hw.1 5 0 rfl rfl g12 dX7_cut_79 ?_
      refine lv_iload hx hb dX7_cut_80 (lv_at hl 4 rfl) ?_
      refine lv_iadd hx hb dX7_cut_82 ?_
      have g13 := ix_in (gd_l hf)
      replace hf := gd_r hf
      refine va_iald hx hb hK hw.1 7 0 rfl rfl g13 dX7_cut_83 ?_
      refine lv_topi (fun x14 ex14 => ?_)
      replace hf := nl_at hf ex14
      refine lv_istore (lv' := [(5, .int x14), (0, .ref (aM 0)), (1, .int v1), (2, .int v2), (3, .int v3), (4, .int v4)]) hx hb dX7_cut_84 hl (by decide) rfl (fun ls hl => ?_)
      refine lv_aload_n hx hb dX7_cut_86 rfl (lv_at hl 1 rfl) ?_
      refine va_get (D := (dC, dI)) (ci := 7) (v := .int M_samples) (C := RX7) (T := TX7) (N := 36) hx hb hts i_X7_cut_X7 hown hK hw.1 0 rfl rfl 18 (by decide) (hts _ m_X7_cut_3) (fun _ h9 => h9) rfl dX7_cut_87 ?_
      refine lv_istore (lv' := [(6, .int M_samples), (5, .int x14), (0, .ref (aM 0)), (1, .int v1), (2, .int v2), (3, .int v3), (4, .int v4)]) hx hb dX7_cut_90 hl (by decide) rfl (fun ls hl => ?_)
      obtain ⟨e24, e25, h26, hf⟩ := bd2_ob hf
      refine t_X7_cut_92 aM X N M_sorts M_values M_rows M_placeOf M_falling M_made M_runs M_allRuns M_begin M_size M_pool M_pooled M_ways M_merges M_takes M_taken M_parts M_every M_samples M_ends M_partSize M_merged M_most M_done M_on M_ticks M_mergedAll M_again M_paces M_up M_byHost M_heap M_used M_planned M_gone v1 v2 v3 v4 x14 N _ _ _ _ h26 _ _ _ hw (lv_sub hl [2, 3, 4, 5, 6, 1, 0] rfl) (fun H locs ls hw hl => ?_)
      refine lv_aload_n hx hb dX7_cut_137 rfl (lv_at hl 0 rfl) ?_
      refine va_get (D := (dC, dI)) (ci := 7) (v := .ref (aM 10)) (C := RX7) (T := TX7) (N := 36) hx hb hts i_X7_cut_X7 hown hK hw.1 0 rfl rfl 19 (by decide) (hts _ m_X7_cut_8) (fun _ h9 => h9) rfl dX7_cut_138 ?_
      refine lv_iload hx hb dX7_cut_141 (lv_at hl 6 rfl) ?_
      refine lv_iload hx hb dX7_cut_143 (lv_at hl 5 rfl) ?_
      have g27 := ix_in (gd_l hf)
      replace hf := gd_r hf
      refine g_iast hx hb hK hw 10 0 rfl rfl g27 dX7_cut_145 (fun H locs hw => ?_)
      replace hw : Wd (dC, dI) A s.heap H locs (w_M aM cI cJ cZ M_sorts M_values M_rows M_placeOf M_falling M_made M_runs M_allRuns M_begin M_size M_pool M_pooled M_ways M_merges M_takes M_taken M_parts M_every M_samples (upd e25 e24.toNatClampNeg x14) M_ends M_partSize M_merged M_most M_done M_on M_ticks M_mergedAll M_again M_paces M_up M_byHost M_heap M_used M_planned M_gone) := hw
      refine lv_aload_n hx hb dX7_cut_146 rfl (lv_at hl 0 rfl) ?_
      refine lv_dup hx hb dX7_cut_147 rfl ?_
      refine va_get (D := (dC, dI)) (ci := 7) (v := .int M_samples) (C := RX7) (T := TX7) (N := 36) hx hb hts i_X7_cut_X7 hown hK hw.1 0 rfl rfl 18 (by decide) (hts _ m_X7_cut_3) (fun _ h9 => h9) rfl dX7_cut_148 ?_
      refine lv_iconst (v := 1) hx hb dX7_cut_151 (by decide) ?_
      refine lv_iadd hx hb dX7_cut_152 ?_
      refine lv_topi (fun x28 ex28 => ?_)
      replace hf := nl_at hf ex28
      refine g_put (D := (dC, dI)) (ci := 7) (v := .int x28) (ty := .int) (C := RX7) (T := TX7) (N := 36) hx hb hts i_X7_cut_X7 tyX7 tyX7_ok nmX7 hown hK hw 0 rfl rfl 18 (by decide) (hts _ m_X7_cut_3) (fun _ h9 => h9) rfl (by decide +kernel) rfl rfl (Nat.le_of_ble_eq_true rfl) dX7_cut_153 (fun H locs hw => ?_)
      replace hw : Wd (dC, dI) A s.heap H locs (w_M aM cI cJ cZ M_sorts M_values M_rows M_placeOf M_falling M_made M_runs M_allRuns M_begin M_size M_pool M_pooled M_ways M_merges M_takes M_taken M_parts M_every x28 (upd e25 e24.toNatClampNeg x14) M_ends M_partSize M_merged M_most M_done M_on M_ticks M_mergedAll M_again M_paces M_up M_byHost M_heap M_used M_planned M_gone) := hw
      refine lv_iload hx hb dX7_cut_156 (lv_at hl 4 rfl) ?_
      refine lv_iload_n hx hb dX7_cut_158 rfl (lv_at hl 2 rfl) ?_
      refine lv_iadd hx hb dX7_cut_159 ?_
      refine lv_topi (fun x29 ex29 => ?_)
      replace hf := nl_at hf ex29
      refine lv_istore (lv' := [(4, .int x29), (0, .ref (aM 0)), (1, .int v1), (2, .int v2), (3, .int v3), (5, .int x14), (6, .int e24)]) hx hb dX7_cut_160 hl (by decide) rfl (fun ls hl => ?_)
      refine lv_goto (tgt := 59) hx hb dX7_cut_162 (by decide) ?_
      exact ih _ _ _ _ _ hf _ _ _ hw (lv_sub hl [1, 2, 3, 4, 0] rfl) kx
set_option maxHeartbeats 4000000 in
set_option maxRecDepth 100000 in
theorem t_X7_cut_46 {p : Program} {l : Launch} {e : Env} {s : State} {m : MethodId} {args : Array Value} {below : List Frame} {meth : Method} {c : Code} {Q : State → Prop} {dC : Nat → ClassId} {dI : Nat → Nat → Nat} {cI cJ cZ : ClassId} {A : Nat → Prop} (aM : Nat → Nat) (X : Cx p m c cX7_cut 7 s args wsX7_cut RX7 (dC, dI) (tyl cI cJ cZ) A) (N : Nat) (M_sorts : (Nat → Int32)) (M_values : (Nat → Int32)) (M_rows : Int32) (M_placeOf : (Nat → Int32)) (M_falling : (Nat → Int32)) (M_made : Int32) (M_runs : Int32) (M_allRuns : Int32) (M_begin : (Nat → Int32)) (M_size : (Nat → Int32)) (M_pool : (Nat → Int32)) (M_pooled : Int32) (M_ways : Int32) (M_merges : Int32) (M_takes : (Nat → Int32)) (M_taken : (Nat → Int32)) (M_parts : Int32) (M_every : Int32) (M_ends : (Nat → Int32)) (M_partSize : (Nat → Int32)) (M_merged : (Nat → Int32)) (M_most : (Nat → Int32)) (M_done : (Nat → Int32)) (M_on : (Nat → Int32)) (M_ticks : Int32) (M_mergedAll : Int32) (M_again : Int32) (M_paces : (Nat → Int32)) (M_up : (Nat → Int32)) (M_byHost : (Nat → Int32)) (M_heap : (Nat → Int32)) (M_used : (Nat → Int32)) (M_planned : (Nat → Int32)) (M_gone : (Nat → Int32)) (v1 : Int32) (v2 : Int32) :
    ∀ (n : Nat) (v3 : Int32) (M_samples : Int32) (M_sample : (Nat → Int32)) (e_M_samples : Int32) (e_M_sample : (Nat → Int32)), l_X7_cut_46 N M_sorts M_values M_placeOf M_falling M_runs M_begin M_size M_pool v2 n v3 M_samples M_sample = some (e_M_samples, e_M_sample) → ∀ (H : Heap) (locs : List Loc) (ls : Array Slot), Wd (dC, dI) A s.heap H locs (w_M aM cI cJ cZ M_sorts M_values M_rows M_placeOf M_falling M_made M_runs M_allRuns M_begin M_size M_pool M_pooled M_ways M_merges M_takes M_taken M_parts M_every M_samples M_sample M_ends M_partSize M_merged M_most M_done M_on M_ticks M_mergedAll M_again M_paces M_up M_byHost M_heap M_used M_planned M_gone) → lv_has ls 7 [(0, .ref (aM 0)), (1, .int v1), (2, .int v2), (3, .int v3)] → (∀ (H : Heap) (locs : List Loc) (ls : Array Slot), Wd (dC, dI) A s.heap H locs (w_M aM cI cJ cZ M_sorts M_values M_rows M_placeOf M_falling M_made M_runs M_allRuns M_begin M_size M_pool M_pooled M_ways M_merges M_takes M_taken M_parts M_every e_M_samples e_M_sample M_ends M_partSize M_merged M_most M_done M_on M_ticks M_mergedAll M_again M_paces M_up M_byHost M_heap M_used M_planned M_gone) → lv_has ls 7 [(0, .ref (aM 0)), (1, .int v1)] → W p l e rm_X7_cut s m args below meth c H locs 0 0 Q (F0 m 171 ls [])) → W p l e rm_X7_cut s m args below meth c H locs 0 0 Q (F0 m 46 ls []) := by
  obtain ⟨hx, hb, hml, hown, hts⟩ := X.1
  have hK := X.2.1
  have hN := X.2.2.2
  intro n
  induction n with
  | zero =>
    intro _ _ _ _ _ hf
    cases hf
  | succ n ih =>
    intro v3 M_samples M_sample e_M_samples e_M_sample hf H locs ls hw hl kx
    rw [l_X7_cut_46] at hf
    refine lv_iload_n hx hb dX7_cut_46 rfl (lv_at hl 3 rfl) ?_
    refine lv_aload_n hx hb dX7_cut_47 rfl (lv_at hl 0 rfl) ?_
    refine va_get (D := (dC, dI)) (ci := 7) (v := .int M_runs) (C := RX7) (T := TX7) (N := 36) hx hb hts i_X7_cut_X7 hown hK hw.1 0 rfl rfl 6 (by decide) (hts _ m_X7_cut_4) (fun _ h9 => h9) rfl dX7_cut_48 ?_
    refine lv_icmp_ge (tgt := 171) hx hb dX7_cut_51 (by decide) (fun b8 => ?_) (fun b8 => ?_)
    · replace hf := it_t hf b8
      cases hf
      exact kx _ _ _ hw (lv_sub hl [0, 1] rfl)
    · replace hf := it_f hf b8
      refine lv_iload_n hx hb dX7_cut_54 rfl (lv_at hl 2 rfl) ?_
      refine lv_iconst (v := 1) hx hb dX7_cut_55 (by decide) ?_
      refine lv_isub hx hb dX7_cut_56 ?_
      refine lv_topi (fun x9 ex9 => ?_)
      replace hf := nl_at hf ex9
      refine lv_istore (lv' := [(4, .int x9), (0, .ref (aM 0)), (1, .int v1), (2, .int v2), (3, .int v3)]) hx hb dX7_cut_57 hl (by decide) rfl (fun ls hl => ?_)
      obtain ⟨e30, e31, h32, hf⟩ := bd2_ob hf
      refine t_X7_cut_59 aM X N M_sorts M_values M_rows M_placeOf M_falling M_made M_runs M_allRuns M_begin M_size M_pool M_pooled M_ways M_merges M_takes M_taken M_parts M_every M_ends M_partSize M_merged M_most M_done M_on M_ticks M_mergedAll M_again M_paces M_up M_byHost M_heap M_used M_planned M_gone v1 v2 v3 N _ _ _ _ _ h32 _ _ _ hw (lv_sub hl [1, 2, 3, 4, 0] rfl) (fun H locs ls hw hl => ?_)
      obtain ⟨x33, ex33⟩ : ∃ y : Int32, y = v3 + 1 := ⟨_, rfl⟩
      replace hf := nl_at hf ex33
      refine lv_iinc (v := x33) (lv' := [(3, .int x33), (0, .ref (aM 0)), (1, .int v1), (2, .int v2)]) hx hb dX7_cut_165 hl (k := 3) rfl (by rw [ex33]; rfl) (by decide) rfl (fun ls hl => ?_)
      refine lv_goto (tgt := 46) hx hb dX7_cut_168 (by decide) ?_
      exact ih _ _ _ _ _ hf _ _ _ hw (lv_sub hl [1, 2, 3, 0] rfl) kx
set_option maxHeartbeats 4000000 in
set_option maxRecDepth 100000 in
theorem t_X7_cut_173 {p : Program} {l : Launch} {e : Env} {s : State} {m : MethodId} {args : Array Value} {below : List Frame} {meth : Method} {c : Code} {Q : State → Prop} {dC : Nat → ClassId} {dI : Nat → Nat → Nat} {cI cJ cZ : ClassId} {A : Nat → Prop} (aM : Nat → Nat) (X : Cx p m c cX7_cut 7 s args wsX7_cut RX7 (dC, dI) (tyl cI cJ cZ) A) (N : Nat) (M_sorts : (Nat → Int32)) (M_values : (Nat → Int32)) (M_rows : Int32) (M_placeOf : (Nat → Int32)) (M_falling : (Nat → Int32)) (M_made : Int32) (M_runs : Int32) (M_allRuns : Int32) (M_begin : (Nat → Int32)) (M_size : (Nat → Int32)) (M_pool : (Nat → Int32)) (M_pooled : Int32) (M_ways : Int32) (M_merges : Int32) (M_takes : (Nat → Int32)) (M_taken : (Nat → Int32)) (M_parts : Int32) (M_every : Int32) (M_samples : Int32) (M_sample : (Nat → Int32)) (M_partSize : (Nat → Int32)) (M_merged : (Nat → Int32)) (M_most : (Nat → Int32)) (M_done : (Nat → Int32)) (M_on : (Nat → Int32)) (M_ticks : Int32) (M_mergedAll : Int32) (M_again : Int32) (M_paces : (Nat → Int32)) (M_up : (Nat → Int32)) (M_byHost : (Nat → Int32)) (M_heap : (Nat → Int32)) (M_used : (Nat → Int32)) (M_planned : (Nat → Int32)) (M_gone : (Nat → Int32)) (v1 : Int32) :
    ∀ (n : Nat) (v3 : Int32) (M_ends : (Nat → Int32)) (e_M_ends : (Nat → Int32)), l_X7_cut_173 N M_samples M_sample v1 n v3 M_ends = some e_M_ends → ∀ (H : Heap) (locs : List Loc) (ls : Array Slot), Wd (dC, dI) A s.heap H locs (w_M aM cI cJ cZ M_sorts M_values M_rows M_placeOf M_falling M_made M_runs M_allRuns M_begin M_size M_pool M_pooled M_ways M_merges M_takes M_taken M_parts M_every M_samples M_sample M_ends M_partSize M_merged M_most M_done M_on M_ticks M_mergedAll M_again M_paces M_up M_byHost M_heap M_used M_planned M_gone) → lv_has ls 7 [(0, .ref (aM 0)), (1, .int v1), (3, .int v3)] → (∀ (H : Heap) (locs : List Loc) (ls : Array Slot), Wd (dC, dI) A s.heap H locs (w_M aM cI cJ cZ M_sorts M_values M_rows M_placeOf M_falling M_made M_runs M_allRuns M_begin M_size M_pool M_pooled M_ways M_merges M_takes M_taken M_parts M_every M_samples M_sample e_M_ends M_partSize M_merged M_most M_done M_on M_ticks M_mergedAll M_again M_paces M_up M_byHost M_heap M_used M_planned M_gone) → lv_has ls 7 [(0, .ref (aM 0)), (1, .int v1)] → W p l e rm_X7_cut s m args below meth c H locs 0 0 Q (F0 m 225 ls [])) → W p l e rm_X7_cut s m args below meth c H locs 0 0 Q (F0 m 173 ls []) := by
  obtain ⟨hx, hb, hml, hown, hts⟩ := X.1
  have hK := X.2.1
  have hN := X.2.2.2
  intro n
  induction n with
  | zero =>
    intro _ _ _ hf
    cases hf
  | succ n ih =>
    intro v3 M_ends e_M_ends hf H locs ls hw hl kx
    rw [l_X7_cut_173] at hf
    refine lv_iload_n hx hb dX7_cut_173 rfl (lv_at hl 2 rfl) ?_
    refine lv_iload_n hx hb dX7_cut_174 rfl (lv_at hl 1 rfl) ?_
    refine lv_icmp_gt (tgt := 225) hx hb dX7_cut_175 (by decide) (fun b37 => ?_) (fun b37 => ?_)
    · replace hf := it_t hf b37
      cases hf
      exact kx _ _ _ hw (lv_sub hl [0, 1] rfl)
    · replace hf := it_f hf b37
      refine lv_iload_n hx hb dX7_cut_178 rfl (lv_at hl 2 rfl) ?_
      refine lv_aload_n hx hb dX7_cut_179 rfl (lv_at hl 0 rfl) ?_
      refine va_get (D := (dC, dI)) (ci := 7) (v := .int M_samples) (C := RX7) (T := TX7) (N := 36) hx hb hts i_X7_cut_X7 hown hK hw.1 0 rfl rfl 18 (by decide) (hts _ m_X7_cut_3) (fun _ h9 => h9) rfl dX7_cut_180 ?_
      refine lv_imul hx hb dX7_cut_183 ?_
      refine lv_iload_n hx hb dX7_cut_184 rfl (lv_at hl 1 rfl) ?_
      have g38 := nz_ne (gd_l hf)
      replace hf := gd_r hf
      refine lv_idiv hx hb dX7_cut_185 g38 ?_
      refine lv_iconst (v := 1) hx hb dX7_cut_186 (by decide) ?_
      refine lv_isub hx hb dX7_cut_187 ?_
      refine lv_topi (fun x39 ex39 => ?_)
      replace hf := nl_at hf ex39
      refine lv_istore (lv' := [(4, .int x39), (0, .ref (aM 0)), (1, .int v1), (3, .int v3)]) hx hb dX7_cut_188 hl (by decide) rfl (fun ls hl => ?_)
      refine lv_aload_n hx hb dX7_cut_190 rfl (lv_at hl 1 rfl) ?_
      refine va_get (D := (dC, dI)) (ci := 7) (v := .ref (aM 11)) (C := RX7) (T := TX7) (N := 36) hx hb hts i_X7_cut_X7 hown hK hw.1 0 rfl rfl 20 (by decide) (hts _ m_X7_cut_9) (fun _ h9 => h9) rfl dX7_cut_191 ?_
      refine lv_iload_n hx hb dX7_cut_194 rfl (lv_at hl 3 rfl) ?_
      refine lv_iconst (v := 1) hx hb dX7_cut_195 (by decide) ?_
      refine lv_isub hx hb dX7_cut_196 ?_
      refine lv_iload_n hx hb dX7_cut_197 rfl (lv_at hl 3 rfl) ?_
      refine lv_iload_n hx hb dX7_cut_198 rfl (lv_at hl 2 rfl) ?_
      refine lv_icmp_eq (tgt := 207) hx hb dX7_cut_199 (by decide) (fun b40 => ?_) (fun b40 => ?_)
      · replace hf := it_t hf b40
        refine lv_iconst (v := (-1)) hx hb dX7_cut_207 (by decide) ?_
        refine lv_goto (tgt := 218) hx hb dX7_cut_208 (by decide) ?_
        have g41 := ix_in (gd_l hf)
        replace hf := gd_r hf
        refine g_iast hx hb hK hw 11 0 rfl rfl g41 dX7_cut_218 (fun H locs hw => ?_)
        replace hw : Wd (dC, dI) A s.heap H locs (w_M aM cI cJ cZ M_sorts M_values M_rows M_placeOf M_falling M_made M_runs M_allRuns M_begin M_size M_pool M_pooled M_ways M_merges M_takes M_taken M_parts M_every M_samples M_sample (upd M_ends (v3 - 1).toNatClampNeg (-1)) M_partSize M_merged M_most M_done M_on M_ticks M_mergedAll M_again M_paces M_up M_byHost M_heap M_used M_planned M_gone) := hw
        obtain ⟨x42, ex42⟩ : ∃ y : Int32, y = v3 + 1 := ⟨_, rfl⟩
        replace hf := nl_at hf ex42
        refine lv_iinc (v := x42) (lv' := [(3, .int x42), (4, .int x39), (0, .ref (aM 0)), (1, .int v1)]) hx hb dX7_cut_219 hl (k := 3) rfl (by rw [ex42]; rfl) (by decide) rfl (fun ls hl => ?_)
        refine lv_goto (tgt := 173) hx hb dX7_cut_222 (by decide) ?_
        exact ih _ _ _ hf _ _ _ hw (lv_sub hl [2, 3, 0] rfl) kx
      · replace hf := it_f hf b40
        refine lv_iload hx hb dX7_cut_202 (lv_at hl 0 rfl) ?_
        refine lv_if_ge (tgt := 211) hx hb dX7_cut_204 (by decide) (fun b43 => ?_) (fun b43 => ?_)
        · replace hf := it_t hf b43
          refine lv_aload_n hx hb dX7_cut_211 rfl (lv_at hl 1 rfl) ?_
          refine va_get (D := (dC, dI)) (ci := 7) (v := .ref (aM 10)) (C := RX7) (T := TX7) (N := 36) hx hb hts i_X7_cut_X7 hown hK hw.1 0 rfl rfl 19 (by decide) (hts _ m_X7_cut_8) (fun _ h9 => h9) rfl dX7_cut_212 ?_
          refine lv_iload hx hb dX7_cut_215 (lv_at hl 0 rfl) ?_
          have g44 := ix_in (gd_l hf)
          replace hf := gd_r hf
          refine va_iald hx hb hK hw.1 10 0 rfl rfl g44 dX7_cut_217 ?_
          refine lv_topi (fun x45 ex45 => ?_)
          replace hf := nl_at hf ex45
          have g46 := ix_in (gd_l hf)
          replace hf := gd_r hf
          refine g_iast hx hb hK hw 11 0 rfl rfl g46 dX7_cut_218 (fun H locs hw => ?_)
          replace hw : Wd (dC, dI) A s.heap H locs (w_M aM cI cJ cZ M_sorts M_values M_rows M_placeOf M_falling M_made M_runs M_allRuns M_begin M_size M_pool M_pooled M_ways M_merges M_takes M_taken M_parts M_every M_samples M_sample (upd M_ends (v3 - 1).toNatClampNeg x45) M_partSize M_merged M_most M_done M_on M_ticks M_mergedAll M_again M_paces M_up M_byHost M_heap M_used M_planned M_gone) := hw
          obtain ⟨x47, ex47⟩ : ∃ y : Int32, y = v3 + 1 := ⟨_, rfl⟩
          replace hf := nl_at hf ex47
          refine lv_iinc (v := x47) (lv' := [(3, .int x47), (4, .int x39), (0, .ref (aM 0)), (1, .int v1)]) hx hb dX7_cut_219 hl (k := 3) rfl (by rw [ex47]; rfl) (by decide) rfl (fun ls hl => ?_)
          refine lv_goto (tgt := 173) hx hb dX7_cut_222 (by decide) ?_
          exact ih _ _ _ hf _ _ _ hw (lv_sub hl [2, 3, 0] rfl) kx
        · replace hf := it_f hf b43
          refine lv_iconst (v := (-1)) hx hb dX7_cut_207 (by decide) ?_
          refine lv_goto (tgt := 218) hx hb dX7_cut_208 (by decide) ?_
          have g48 := ix_in (gd_l hf)
          replace hf := gd_r hf
          refine g_iast hx hb hK hw 11 0 rfl rfl g48 dX7_cut_218 (fun H locs hw => ?_)
          replace hw : Wd (dC, dI) A s.heap H locs (w_M aM cI cJ cZ M_sorts M_values M_rows M_placeOf M_falling M_made M_runs M_allRuns M_begin M_size M_pool M_pooled M_ways M_merges M_takes M_taken M_parts M_every M_samples M_sample (upd M_ends (v3 - 1).toNatClampNeg (-1)) M_partSize M_merged M_most M_done M_on M_ticks M_mergedAll M_again M_paces M_up M_byHost M_heap M_used M_planned M_gone) := hw
          obtain ⟨x49, ex49⟩ : ∃ y : Int32, y = v3 + 1 := ⟨_, rfl⟩
          replace hf := nl_at hf ex49
          refine lv_iinc (v := x49) (lv' := [(3, .int x49), (4, .int x39), (0, .ref (aM 0)), (1, .int v1)]) hx hb dX7_cut_219 hl (k := 3) rfl (by rw [ex49]; rfl) (by decide) rfl (fun ls hl => ?_)
          refine lv_goto (tgt := 173) hx hb dX7_cut_222 (by decide) ?_
          exact ih _ _ _ hf _ _ _ hw (lv_sub hl [2, 3, 0] rfl) kx
set_option maxHeartbeats 4000000 in
set_option maxRecDepth 100000 in
theorem t_X7_cut_227 {p : Program} {l : Launch} {e : Env} {s : State} {m : MethodId} {args : Array Value} {below : List Frame} {meth : Method} {c : Code} {Q : State → Prop} {dC : Nat → ClassId} {dI : Nat → Nat → Nat} {cI cJ cZ : ClassId} {A : Nat → Prop} (aM : Nat → Nat) (X : Cx p m c cX7_cut 7 s args wsX7_cut RX7 (dC, dI) (tyl cI cJ cZ) A) (N : Nat) (M_sorts : (Nat → Int32)) (M_values : (Nat → Int32)) (M_rows : Int32) (M_placeOf : (Nat → Int32)) (M_falling : (Nat → Int32)) (M_made : Int32) (M_runs : Int32) (M_allRuns : Int32) (M_begin : (Nat → Int32)) (M_size : (Nat → Int32)) (M_pool : (Nat → Int32)) (M_pooled : Int32) (M_ways : Int32) (M_merges : Int32) (M_takes : (Nat → Int32)) (M_taken : (Nat → Int32)) (M_parts : Int32) (M_every : Int32) (M_samples : Int32) (M_sample : (Nat → Int32)) (M_ends : (Nat → Int32)) (M_ticks : Int32) (M_mergedAll : Int32) (M_again : Int32) (M_paces : (Nat → Int32)) (M_up : (Nat → Int32)) (M_byHost : (Nat → Int32)) (M_heap : (Nat → Int32)) (M_used : (Nat → Int32)) (M_planned : (Nat → Int32)) (M_gone : (Nat → Int32)) (v1 : Int32) :
    ∀ (n : Nat) (v3 : Int32) (M_partSize : (Nat → Int32)) (M_merged : (Nat → Int32)) (M_most : (Nat → Int32)) (M_done : (Nat → Int32)) (M_on : (Nat → Int32)) (e_M_partSize : (Nat → Int32)) (e_M_merged : (Nat → Int32)) (e_M_most : (Nat → Int32)) (e_M_done : (Nat → Int32)) (e_M_on : (Nat → Int32)), l_X7_cut_227 N v1 n v3 M_partSize M_merged M_most M_done M_on = some (e_M_partSize, e_M_merged, e_M_most, e_M_done, e_M_on) → ∀ (H : Heap) (locs : List Loc) (ls : Array Slot), Wd (dC, dI) A s.heap H locs (w_M aM cI cJ cZ M_sorts M_values M_rows M_placeOf M_falling M_made M_runs M_allRuns M_begin M_size M_pool M_pooled M_ways M_merges M_takes M_taken M_parts M_every M_samples M_sample M_ends M_partSize M_merged M_most M_done M_on M_ticks M_mergedAll M_again M_paces M_up M_byHost M_heap M_used M_planned M_gone) → lv_has ls 7 [(0, .ref (aM 0)), (1, .int v1), (3, .int v3)] → (∀ (H : Heap) (locs : List Loc) (ls : Array Slot), Wd (dC, dI) A s.heap H locs (w_M aM cI cJ cZ M_sorts M_values M_rows M_placeOf M_falling M_made M_runs M_allRuns M_begin M_size M_pool M_pooled M_ways M_merges M_takes M_taken M_parts M_every M_samples M_sample M_ends e_M_partSize e_M_merged e_M_most e_M_done e_M_on M_ticks M_mergedAll M_again M_paces M_up M_byHost M_heap M_used M_planned M_gone) → lv_has ls 7 [(0, .ref (aM 0)), (1, .int v1)] → W p l e rm_X7_cut s m args below meth c H locs 0 0 Q (F0 m 273 ls [])) → W p l e rm_X7_cut s m args below meth c H locs 0 0 Q (F0 m 227 ls []) := by
  obtain ⟨hx, hb, hml, hown, hts⟩ := X.1
  have hK := X.2.1
  have hN := X.2.2.2
  intro n
  induction n with
  | zero =>
    intro _ _ _ _ _ _ _ _ _ _ _ hf
    cases hf
  | succ n ih =>
    intro v3 M_partSize M_merged M_most M_done M_on e_M_partSize e_M_merged e_M_most e_M_done e_M_on hf H locs ls hw hl kx
    rw [l_X7_cut_227] at hf
    refine lv_iload_n hx hb dX7_cut_227 rfl (lv_at hl 2 rfl) ?_
    refine lv_iload_n hx hb dX7_cut_228 rfl (lv_at hl 1 rfl) ?_
    refine lv_icmp_ge (tgt := 273) hx hb dX7_cut_229 (by decide) (fun b52 => ?_) (fun b52 => ?_)
    · replace hf := it_t hf b52
      cases hf
      exact kx _ _ _ hw (lv_sub hl [0, 1] rfl)
    · replace hf := it_f hf b52
      refine lv_aload_n hx hb dX7_cut_232 rfl (lv_at hl 0 rfl) ?_
      refine va_get (D := (dC, dI)) (ci := 7) (v := .ref (aM 12)) (C := RX7) (T := TX7) (N := 36) hx hb hts i_X7_cut_X7 hown hK hw.1 0 rfl rfl 21 (by decide) (hts _ m_X7_cut_10) (fun _ h9 => h9) rfl dX7_cut_233 ?_
      refine lv_iload_n hx hb dX7_cut_236 rfl (lv_at hl 2 rfl) ?_
      refine lv_iconst (v := 0) hx hb dX7_cut_237 (by decide) ?_
      have g53 := ix_in (gd_l hf)
      replace hf := gd_r hf
      refine g_iast hx hb hK hw 12 0 rfl rfl g53 dX7_cut_238 (fun H locs hw => ?_)
      replace hw : Wd (dC, dI) A s.heap H locs (w_M aM cI cJ cZ M_sorts M_values M_rows M_placeOf M_falling M_made M_runs M_allRuns M_begin M_size M_pool M_pooled M_ways M_merges M_takes M_taken M_parts M_every M_samples M_sample M_ends (upd M_partSize v3.toNatClampNeg 0) M_merged M_most M_done M_on M_ticks M_mergedAll M_again M_paces M_up M_byHost M_heap M_used M_planned M_gone) := hw
      refine lv_aload_n hx hb dX7_cut_239 rfl (lv_at hl 0 rfl) ?_
      refine va_get (D := (dC, dI)) (ci := 7) (v := .ref (aM 13)) (C := RX7) (T := TX7) (N := 36) hx hb hts i_X7_cut_X7 hown hK hw.1 0 rfl rfl 22 (by decide) (hts _ m_X7_cut_11) (fun _ h9 => h9) rfl dX7_cut_240 ?_
      refine lv_iload_n hx hb dX7_cut_243 rfl (lv_at hl 2 rfl) ?_
      refine lv_iconst (v := 0) hx hb dX7_cut_244 (by decide) ?_
      have g54 := ix_in (gd_l hf)
      replace hf := gd_r hf
      refine g_iast hx hb hK hw 13 0 rfl rfl g54 dX7_cut_245 (fun H locs hw => ?_)
      replace hw : Wd (dC, dI) A s.heap H locs (w_M aM cI cJ cZ M_sorts M_values M_rows M_placeOf M_falling M_made M_runs M_allRuns M_begin M_size M_pool M_pooled M_ways M_merges M_takes M_taken M_parts M_every M_samples M_sample M_ends (upd M_partSize v3.toNatClampNeg 0) (upd M_merged v3.toNatClampNeg 0) M_most M_done M_on M_ticks M_mergedAll M_again M_paces M_up M_byHost M_heap M_used M_planned M_gone) := hw
      refine lv_aload_n hx hb dX7_cut_246 rfl (lv_at hl 0 rfl) ?_
      refine va_get (D := (dC, dI)) (ci := 7) (v := .ref (aM 14)) (C := RX7) (T := TX7) (N := 36) hx hb hts i_X7_cut_X7 hown hK hw.1 0 rfl rfl 23 (by decide) (hts _ m_X7_cut_12) (fun _ h9 => h9) rfl dX7_cut_247 ?_
      refine lv_iload_n hx hb dX7_cut_250 rfl (lv_at hl 2 rfl) ?_
      refine lv_iconst (v := 0) hx hb dX7_cut_251 (by decide) ?_
      have g55 := ix_in (gd_l hf)
      replace hf := gd_r hf
      refine g_iast hx hb hK hw 14 0 rfl rfl g55 dX7_cut_252 (fun H locs hw => ?_)
      replace hw : Wd (dC, dI) A s.heap H locs (w_M aM cI cJ cZ M_sorts M_values M_rows M_placeOf M_falling M_made M_runs M_allRuns M_begin M_size M_pool M_pooled M_ways M_merges M_takes M_taken M_parts M_every M_samples M_sample M_ends (upd M_partSize v3.toNatClampNeg 0) (upd M_merged v3.toNatClampNeg 0) (upd M_most v3.toNatClampNeg 0) M_done M_on M_ticks M_mergedAll M_again M_paces M_up M_byHost M_heap M_used M_planned M_gone) := hw
      refine lv_aload_n hx hb dX7_cut_253 rfl (lv_at hl 0 rfl) ?_
      refine va_get (D := (dC, dI)) (ci := 7) (v := .ref (aM 15)) (C := RX7) (T := TX7) (N := 36) hx hb hts i_X7_cut_X7 hown hK hw.1 0 rfl rfl 24 (by decide) (hts _ m_X7_cut_13) (fun _ h9 => h9) rfl dX7_cut_254 ?_
      refine lv_iload_n hx hb dX7_cut_257 rfl (lv_at hl 2 rfl) ?_
      refine lv_iconst (v := 0) hx hb dX7_cut_258 (by decide) ?_
      have g56 := ix_in (gd_l hf)
      replace hf := gd_r hf
      refine g_zast hx hb hK hw 15 2 rfl rfl g56 dX7_cut_259 (fun H locs hw => ?_)
      replace hw : Wd (dC, dI) A s.heap H locs (w_M aM cI cJ cZ M_sorts M_values M_rows M_placeOf M_falling M_made M_runs M_allRuns M_begin M_size M_pool M_pooled M_ways M_merges M_takes M_taken M_parts M_every M_samples M_sample M_ends (upd M_partSize v3.toNatClampNeg 0) (upd M_merged v3.toNatClampNeg 0) (upd M_most v3.toNatClampNeg 0) (upd M_done v3.toNatClampNeg (vp_nar .boolean 0)) M_on M_ticks M_mergedAll M_again M_paces M_up M_byHost M_heap M_used M_planned M_gone) := hw
      refine lv_aload_n hx hb dX7_cut_260 rfl (lv_at hl 0 rfl) ?_
      refine va_get (D := (dC, dI)) (ci := 7) (v := .ref (aM 16)) (C := RX7) (T := TX7) (N := 36) hx hb hts i_X7_cut_X7 hown hK hw.1 0 rfl rfl 25 (by decide) (hts _ m_X7_cut_14) (fun _ h9 => h9) rfl dX7_cut_261 ?_
      refine lv_iload_n hx hb dX7_cut_264 rfl (lv_at hl 2 rfl) ?_
      refine lv_iload_n hx hb dX7_cut_265 rfl (lv_at hl 2 rfl) ?_
      have g57 := ix_in (gd_l hf)
      replace hf := gd_r hf
      refine g_iast hx hb hK hw 16 0 rfl rfl g57 dX7_cut_266 (fun H locs hw => ?_)
      replace hw : Wd (dC, dI) A s.heap H locs (w_M aM cI cJ cZ M_sorts M_values M_rows M_placeOf M_falling M_made M_runs M_allRuns M_begin M_size M_pool M_pooled M_ways M_merges M_takes M_taken M_parts M_every M_samples M_sample M_ends (upd M_partSize v3.toNatClampNeg 0) (upd M_merged v3.toNatClampNeg 0) (upd M_most v3.toNatClampNeg 0) (upd M_done v3.toNatClampNeg (vp_nar .boolean 0)) (upd M_on v3.toNatClampNeg v3) M_ticks M_mergedAll M_again M_paces M_up M_byHost M_heap M_used M_planned M_gone) := hw
      obtain ⟨x58, ex58⟩ : ∃ y : Int32, y = v3 + 1 := ⟨_, rfl⟩
      replace hf := nl_at hf ex58
      refine lv_iinc (v := x58) (lv' := [(3, .int x58), (0, .ref (aM 0)), (1, .int v1)]) hx hb dX7_cut_267 hl (k := 2) rfl (by rw [ex58]; rfl) (by decide) rfl (fun ls hl => ?_)
      refine lv_goto (tgt := 227) hx hb dX7_cut_270 (by decide) ?_
      exact ih _ _ _ _ _ _ _ _ _ _ _ hf _ _ _ hw (lv_sub hl [1, 2, 0] rfl) kx
set_option maxHeartbeats 4000000 in
set_option maxRecDepth 100000 in
theorem t_X7_cut_320 {p : Program} {l : Launch} {e : Env} {s : State} {m : MethodId} {args : Array Value} {below : List Frame} {meth : Method} {c : Code} {Q : State → Prop} {dC : Nat → ClassId} {dI : Nat → Nat → Nat} {cI cJ cZ : ClassId} {A : Nat → Prop} (aM : Nat → Nat) (X : Cx p m c cX7_cut 7 s args wsX7_cut RX7 (dC, dI) (tyl cI cJ cZ) A) (N : Nat) (M_sorts : (Nat → Int32)) (M_values : (Nat → Int32)) (M_rows : Int32) (M_placeOf : (Nat → Int32)) (M_falling : (Nat → Int32)) (M_made : Int32) (M_runs : Int32) (M_allRuns : Int32) (M_begin : (Nat → Int32)) (M_size : (Nat → Int32)) (M_pool : (Nat → Int32)) (M_pooled : Int32) (M_ways : Int32) (M_merges : Int32) (M_takes : (Nat → Int32)) (M_taken : (Nat → Int32)) (M_parts : Int32) (M_every : Int32) (M_samples : Int32) (M_sample : (Nat → Int32)) (M_ends : (Nat → Int32)) (M_merged : (Nat → Int32)) (M_most : (Nat → Int32)) (M_done : (Nat → Int32)) (M_on : (Nat → Int32)) (M_ticks : Int32) (M_mergedAll : Int32) (M_again : Int32) (M_paces : (Nat → Int32)) (M_up : (Nat → Int32)) (M_byHost : (Nat → Int32)) (M_heap : (Nat → Int32)) (M_used : (Nat → Int32)) (M_planned : (Nat → Int32)) (M_gone : (Nat → Int32)) (v1 : Int32) (v3 : Int32) (v4 : Int32) :
    ∀ (n : Nat) (v5 : Int32) (M_partSize : (Nat → Int32)) (e_M_partSize : (Nat → Int32)), l_X7_cut_320 N M_sorts M_values M_placeOf M_falling M_pool M_parts M_ends v1 v4 n v5 M_partSize = some e_M_partSize → ∀ (H : Heap) (locs : List Loc) (ls : Array Slot), Wd (dC, dI) A s.heap H locs (w_M aM cI cJ cZ M_sorts M_values M_rows M_placeOf M_falling M_made M_runs M_allRuns M_begin M_size M_pool M_pooled M_ways M_merges M_takes M_taken M_parts M_every M_samples M_sample M_ends M_partSize M_merged M_most M_done M_on M_ticks M_mergedAll M_again M_paces M_up M_byHost M_heap M_used M_planned M_gone) → lv_has ls 7 [(0, .ref (aM 0)), (1, .int v1), (3, .int v3), (4, .int v4), (5, .int v5)] → (∀ (H : Heap) (locs : List Loc) (ls : Array Slot), Wd (dC, dI) A s.heap H locs (w_M aM cI cJ cZ M_sorts M_values M_rows M_placeOf M_falling M_made M_runs M_allRuns M_begin M_size M_pool M_pooled M_ways M_merges M_takes M_taken M_parts M_every M_samples M_sample M_ends e_M_partSize M_merged M_most M_done M_on M_ticks M_mergedAll M_again M_paces M_up M_byHost M_heap M_used M_planned M_gone) → lv_has ls 7 [(0, .ref (aM 0)), (1, .int v1), (3, .int v3), (4, .int v4)] → W p l e rm_X7_cut s m args below meth c H locs 0 0 Q (F0 m 363 ls [])) → W p l e rm_X7_cut s m args below meth c H locs 0 0 Q (F0 m 320 ls []) := by
  obtain ⟨hx, hb, hml, hown, hts⟩ := X.1
  have hK := X.2.1
  have hN := X.2.2.2
  intro n
  induction n with
  | zero =>
    intro _ _ _ hf
    cases hf
  | succ n ih =>
    intro v5 M_partSize e_M_partSize hf H locs ls hw hl kx
    rw [l_X7_cut_320] at hf
    refine lv_iload hx hb dX7_cut_320 (lv_at hl 4 rfl) ?_
    refine lv_iload_n hx hb dX7_cut_322 rfl (lv_at hl 1 rfl) ?_
    refine lv_icmp_ge (tgt := 363) hx hb dX7_cut_323 (by decide) (fun b68 => ?_) (fun b68 => ?_)
    · replace hf := it_t hf b68
      cases hf
      exact kx _ _ _ hw (lv_sub hl [0, 1, 2, 3] rfl)
    · replace hf := it_f hf b68
      refine lv_aload_n hx hb dX7_cut_326 rfl (lv_at hl 0 rfl) ?_
      refine va_get (D := (dC, dI)) (ci := 7) (v := .ref (aM 12)) (C := RX7) (T := TX7) (N := 36) hx hb hts i_X7_cut_X7 hown hK hw.1 0 rfl rfl 21 (by decide) (hts _ m_X7_cut_10) (fun _ h9 => h9) rfl dX7_cut_327 ?_
      refine lv_iload hx hb dX7_cut_330 (lv_at hl 4 rfl) ?_
      refine lv_dup2_11 hx hb dX7_cut_332 rfl rfl ?_
      have g69 := ix_in (gd_l hf)
      replace hf := gd_r hf
      refine va_iald hx hb hK hw.1 12 0 rfl rfl g69 dX7_cut_333 ?_
      refine lv_aload_n hx hb dX7_cut_334 rfl (lv_at hl 0 rfl) ?_
      refine lv_aload_n hx hb dX7_cut_335 rfl (lv_at hl 0 rfl) ?_
      refine va_get (D := (dC, dI)) (ci := 7) (v := .ref (aM 7)) (C := RX7) (T := TX7) (N := 36) hx hb hts i_X7_cut_X7 hown hK hw.1 0 rfl rfl 10 (by decide) (hts _ m_X7_cut_6) (fun _ h9 => h9) rfl dX7_cut_336 ?_
      refine lv_iload hx hb dX7_cut_339 (lv_at hl 3 rfl) ?_
      have g70 := ix_in (gd_l hf)
      replace hf := gd_r hf
      refine va_iald hx hb hK hw.1 7 0 rfl rfl g70 dX7_cut_341 ?_
      refine lv_iload hx hb dX7_cut_342 (lv_at hl 4 rfl) ?_
      obtain ⟨r71, h72, hf⟩ := bd1_ob hf
      refine clFI (As := [.int (M_pool v4.toNatClampNeg), .int v5]) (rest := [.int (M_partSize v5.toNatClampNeg), .int v5, .ref (aM 12)]) X (c_X7_isIn l dC dI cI cJ cZ aM N M_sorts M_values M_rows M_placeOf M_falling M_made M_runs M_allRuns M_begin M_size M_pool M_pooled M_ways M_merges M_takes M_taken M_parts M_every M_samples M_sample M_ends M_partSize M_merged M_most M_done M_on M_ticks M_mergedAll M_again M_paces M_up M_byHost M_heap M_used M_planned M_gone (M_pool v4.toNatClampNeg) v5 h72) (cwV 2 hts gX7_cut_X7_isIn rfl rfl rfl (by decide +kernel) ⟨Nat.le_of_ble_eq_true rfl, Nat.le_of_ble_eq_true rfl⟩) (ci := 7) (k0 := 0) rfl rfl rfl hw rfl rfl hl.1 rfl (Nat.le_of_ble_eq_true rfl) dX7_cut_344 ⟨Nat.zero_le _, Nat.zero_le _⟩ (fun H locs hw => ?_)
      refine lv_if_eq (tgt := 354) hx hb dX7_cut_347 (by decide) (fun b73 => ?_) (fun b73 => ?_)
      · replace hf := it_t hf b73
        refine lv_iconst (v := 0) hx hb dX7_cut_354 (by decide) ?_
        refine lv_iadd hx hb dX7_cut_355 ?_
        refine lv_topi (fun x74 ex74 => ?_)
        replace hf := nl_at hf ex74
        have g75 := ix_in (gd_l hf)
        replace hf := gd_r hf
        refine g_iast hx hb hK hw 12 0 rfl rfl g75 dX7_cut_356 (fun H locs hw => ?_)
        replace hw : Wd (dC, dI) A s.heap H locs (w_M aM cI cJ cZ M_sorts M_values M_rows M_placeOf M_falling M_made M_runs M_allRuns M_begin M_size M_pool M_pooled M_ways M_merges M_takes M_taken M_parts M_every M_samples M_sample M_ends (upd M_partSize v5.toNatClampNeg x74) M_merged M_most M_done M_on M_ticks M_mergedAll M_again M_paces M_up M_byHost M_heap M_used M_planned M_gone) := hw
        obtain ⟨x76, ex76⟩ : ∃ y : Int32, y = v5 + 1 := ⟨_, rfl⟩
        replace hf := nl_at hf ex76
        refine lv_iinc (v := x76) (lv' := [(5, .int x76), (0, .ref (aM 0)), (1, .int v1), (3, .int v3), (4, .int v4)]) hx hb dX7_cut_357 hl (k := 4) rfl (by rw [ex76]; rfl) (by decide) rfl (fun ls hl => ?_)
        refine lv_goto (tgt := 320) hx hb dX7_cut_360 (by decide) ?_
        exact ih _ _ _ hf _ _ _ hw (lv_sub hl [1, 2, 3, 4, 0] rfl) kx
      · replace hf := it_f hf b73
        refine lv_iconst (v := 1) hx hb dX7_cut_350 (by decide) ?_
        refine lv_goto (tgt := 355) hx hb dX7_cut_351 (by decide) ?_
        refine lv_iadd hx hb dX7_cut_355 ?_
        refine lv_topi (fun x77 ex77 => ?_)
        replace hf := nl_at hf ex77
        have g78 := ix_in (gd_l hf)
        replace hf := gd_r hf
        refine g_iast hx hb hK hw 12 0 rfl rfl g78 dX7_cut_356 (fun H locs hw => ?_)
        replace hw : Wd (dC, dI) A s.heap H locs (w_M aM cI cJ cZ M_sorts M_values M_rows M_placeOf M_falling M_made M_runs M_allRuns M_begin M_size M_pool M_pooled M_ways M_merges M_takes M_taken M_parts M_every M_samples M_sample M_ends (upd M_partSize v5.toNatClampNeg x77) M_merged M_most M_done M_on M_ticks M_mergedAll M_again M_paces M_up M_byHost M_heap M_used M_planned M_gone) := hw
        obtain ⟨x79, ex79⟩ : ∃ y : Int32, y = v5 + 1 := ⟨_, rfl⟩
        replace hf := nl_at hf ex79
        refine lv_iinc (v := x79) (lv' := [(5, .int x79), (0, .ref (aM 0)), (1, .int v1), (3, .int v3), (4, .int v4)]) hx hb dX7_cut_357 hl (k := 4) rfl (by rw [ex79]; rfl) (by decide) rfl (fun ls hl => ?_)
        refine lv_goto (tgt := 320) hx hb dX7_cut_360 (by decide) ?_
        exact ih _ _ _ hf _ _ _ hw (lv_sub hl [1, 2, 3, 4, 0] rfl) kx
set_option maxHeartbeats 4000000 in
set_option maxRecDepth 100000 in
theorem t_X7_cut_311 {p : Program} {l : Launch} {e : Env} {s : State} {m : MethodId} {args : Array Value} {below : List Frame} {meth : Method} {c : Code} {Q : State → Prop} {dC : Nat → ClassId} {dI : Nat → Nat → Nat} {cI cJ cZ : ClassId} {A : Nat → Prop} (aM : Nat → Nat) (X : Cx p m c cX7_cut 7 s args wsX7_cut RX7 (dC, dI) (tyl cI cJ cZ) A) (N : Nat) (M_sorts : (Nat → Int32)) (M_values : (Nat → Int32)) (M_rows : Int32) (M_placeOf : (Nat → Int32)) (M_falling : (Nat → Int32)) (M_made : Int32) (M_runs : Int32) (M_allRuns : Int32) (M_begin : (Nat → Int32)) (M_size : (Nat → Int32)) (M_pool : (Nat → Int32)) (M_pooled : Int32) (M_ways : Int32) (M_merges : Int32) (M_takes : (Nat → Int32)) (M_taken : (Nat → Int32)) (M_parts : Int32) (M_every : Int32) (M_samples : Int32) (M_sample : (Nat → Int32)) (M_ends : (Nat → Int32)) (M_merged : (Nat → Int32)) (M_most : (Nat → Int32)) (M_done : (Nat → Int32)) (M_on : (Nat → Int32)) (M_ticks : Int32) (M_mergedAll : Int32) (M_again : Int32) (M_paces : (Nat → Int32)) (M_up : (Nat → Int32)) (M_byHost : (Nat → Int32)) (M_heap : (Nat → Int32)) (M_used : (Nat → Int32)) (M_planned : (Nat → Int32)) (M_gone : (Nat → Int32)) (v1 : Int32) (v3 : Int32) :
    ∀ (n : Nat) (v4 : Int32) (M_partSize : (Nat → Int32)) (e_M_partSize : (Nat → Int32)), l_X7_cut_311 N M_sorts M_values M_placeOf M_falling M_pool M_parts M_ends v1 v3 n v4 M_partSize = some e_M_partSize → ∀ (H : Heap) (locs : List Loc) (ls : Array Slot), Wd (dC, dI) A s.heap H locs (w_M aM cI cJ cZ M_sorts M_values M_rows M_placeOf M_falling M_made M_runs M_allRuns M_begin M_size M_pool M_pooled M_ways M_merges M_takes M_taken M_parts M_every M_samples M_sample M_ends M_partSize M_merged M_most M_done M_on M_ticks M_mergedAll M_again M_paces M_up M_byHost M_heap M_used M_planned M_gone) → lv_has ls 7 [(0, .ref (aM 0)), (1, .int v1), (3, .int v3), (4, .int v4)] → (∀ (H : Heap) (locs : List Loc) (ls : Array Slot), Wd (dC, dI) A s.heap H locs (w_M aM cI cJ cZ M_sorts M_values M_rows M_placeOf M_falling M_made M_runs M_allRuns M_begin M_size M_pool M_pooled M_ways M_merges M_takes M_taken M_parts M_every M_samples M_sample M_ends e_M_partSize M_merged M_most M_done M_on M_ticks M_mergedAll M_again M_paces M_up M_byHost M_heap M_used M_planned M_gone) → lv_has ls 7 [(0, .ref (aM 0))] → W p l e rm_X7_cut s m args below meth c H locs 0 0 Q (F0 m 369 ls [])) → W p l e rm_X7_cut s m args below meth c H locs 0 0 Q (F0 m 311 ls []) := by
  obtain ⟨hx, hb, hml, hown, hts⟩ := X.1
  have hK := X.2.1
  have hN := X.2.2.2
  intro n
  induction n with
  | zero =>
    intro _ _ _ hf
    cases hf
  | succ n ih =>
    intro v4 M_partSize e_M_partSize hf H locs ls hw hl kx
    rw [l_X7_cut_311] at hf
    refine lv_iload hx hb dX7_cut_311 (lv_at hl 3 rfl) ?_
    refine lv_iload_n hx hb dX7_cut_313 rfl (lv_at hl 2 rfl) ?_
    refine lv_icmp_ge (tgt := 369) hx hb dX7_cut_314 (by decide) (fun b67 => ?_) (fun b67 => ?_)
    · replace hf := it_t hf b67
      cases hf
      exact kx _ _ _ hw (lv_sub hl [0] rfl)
    · replace hf := it_f hf b67
      refine lv_iconst (v := 0) hx hb dX7_cut_317 (by decide) ?_
      refine lv_istore (lv' := [(5, .int 0), (0, .ref (aM 0)), (1, .int v1), (3, .int v3), (4, .int v4)]) hx hb dX7_cut_318 hl (by decide) rfl (fun ls hl => ?_)
      obtain ⟨e80, h81, hf⟩ := bd1_ob hf
      refine t_X7_cut_320 aM X N M_sorts M_values M_rows M_placeOf M_falling M_made M_runs M_allRuns M_begin M_size M_pool M_pooled M_ways M_merges M_takes M_taken M_parts M_every M_samples M_sample M_ends M_merged M_most M_done M_on M_ticks M_mergedAll M_again M_paces M_up M_byHost M_heap M_used M_planned M_gone v1 v3 v4 N _ _ _ h81 _ _ _ hw (lv_sub hl [1, 2, 3, 4, 0] rfl) (fun H locs ls hw hl => ?_)
      obtain ⟨x82, ex82⟩ : ∃ y : Int32, y = v4 + 1 := ⟨_, rfl⟩
      replace hf := nl_at hf ex82
      refine lv_iinc (v := x82) (lv' := [(4, .int x82), (0, .ref (aM 0)), (1, .int v1), (3, .int v3)]) hx hb dX7_cut_363 hl (k := 3) rfl (by rw [ex82]; rfl) (by decide) rfl (fun ls hl => ?_)
      refine lv_goto (tgt := 311) hx hb dX7_cut_366 (by decide) ?_
      exact ih _ _ _ hf _ _ _ hw (lv_sub hl [1, 2, 3, 0] rfl) kx
set_option maxHeartbeats 4000000 in
set_option maxRecDepth 100000 in
theorem t_X7_cut_387 {p : Program} {l : Launch} {e : Env} {s : State} {m : MethodId} {args : Array Value} {below : List Frame} {meth : Method} {c : Code} {Q : State → Prop} {dC : Nat → ClassId} {dI : Nat → Nat → Nat} {cI cJ cZ : ClassId} {A : Nat → Prop} (aM : Nat → Nat) (X : Cx p m c cX7_cut 7 s args wsX7_cut RX7 (dC, dI) (tyl cI cJ cZ) A) (N : Nat) (M_sorts : (Nat → Int32)) (M_values : (Nat → Int32)) (M_rows : Int32) (M_placeOf : (Nat → Int32)) (M_falling : (Nat → Int32)) (M_made : Int32) (M_runs : Int32) (M_allRuns : Int32) (M_begin : (Nat → Int32)) (M_size : (Nat → Int32)) (M_pool : (Nat → Int32)) (M_pooled : Int32) (M_ways : Int32) (M_merges : Int32) (M_takes : (Nat → Int32)) (M_taken : (Nat → Int32)) (M_parts : Int32) (M_every : Int32) (M_samples : Int32) (M_sample : (Nat → Int32)) (M_ends : (Nat → Int32)) (M_partSize : (Nat → Int32)) (M_merged : (Nat → Int32)) (M_most : (Nat → Int32)) (M_done : (Nat → Int32)) (M_on : (Nat → Int32)) (M_ticks : Int32) (M_mergedAll : Int32) (M_again : Int32) (M_paces : (Nat → Int32)) (M_up : (Nat → Int32)) (M_heap : (Nat → Int32)) (M_used : (Nat → Int32)) (M_planned : (Nat → Int32)) (M_gone : (Nat → Int32))  :
    ∀ (n : Nat) (v4 : Int32) (M_byHost : (Nat → Int32)) (e_M_byHost : (Nat → Int32)), l_X7_cut_387 N  n v4 M_byHost = some e_M_byHost → ∀ (H : Heap) (locs : List Loc) (ls : Array Slot), Wd (dC, dI) A s.heap H locs (w_M aM cI cJ cZ M_sorts M_values M_rows M_placeOf M_falling M_made M_runs M_allRuns M_begin M_size M_pool M_pooled M_ways M_merges M_takes M_taken M_parts M_every M_samples M_sample M_ends M_partSize M_merged M_most M_done M_on M_ticks M_mergedAll M_again M_paces M_up M_byHost M_heap M_used M_planned M_gone) → lv_has ls 7 [(0, .ref (aM 0)), (4, .int v4)] → (∀ (H : Heap) (locs : List Loc) (ls : Array Slot), Wd (dC, dI) A s.heap H locs (w_M aM cI cJ cZ M_sorts M_values M_rows M_placeOf M_falling M_made M_runs M_allRuns M_begin M_size M_pool M_pooled M_ways M_merges M_takes M_taken M_parts M_every M_samples M_sample M_ends M_partSize M_merged M_most M_done M_on M_ticks M_mergedAll M_again M_paces M_up e_M_byHost M_heap M_used M_planned M_gone) → lv_has ls 7 [(0, .ref (aM 0))] → W p l e rm_X7_cut s m args below meth c H locs 0 0 Q (F0 m 408 ls [])) → W p l e rm_X7_cut s m args below meth c H locs 0 0 Q (F0 m 387 ls []) := by
  obtain ⟨hx, hb, hml, hown, hts⟩ := X.1
  have hK := X.2.1
  have hN := X.2.2.2
  intro n
  induction n with
  | zero =>
    intro _ _ _ hf
    cases hf
  | succ n ih =>
    intro v4 M_byHost e_M_byHost hf H locs ls hw hl kx
    rw [l_X7_cut_387] at hf
    refine lv_iload hx hb dX7_cut_387 (lv_at hl 1 rfl) ?_
    refine lv_bipush (v := 8) hx hb dX7_cut_389 (by decide) ?_
    refine lv_icmp_ge (tgt := 408) hx hb dX7_cut_391 (by decide) (fun b85 => ?_) (fun b85 => ?_)
    · replace hf := it_t hf b85
      cases hf
      exact kx _ _ _ hw (lv_sub hl [0] rfl)
    · replace hf := it_f hf b85
      refine lv_aload_n hx hb dX7_cut_394 rfl (lv_at hl 0 rfl) ?_
      refine va_get (D := (dC, dI)) (ci := 7) (v := .ref (aM 19)) (C := RX7) (T := TX7) (N := 36) hx hb hts i_X7_cut_X7 hown hK hw.1 0 rfl rfl 31 (by decide) (hts _ m_X7_cut_18) (fun _ h9 => h9) rfl dX7_cut_395 ?_
      refine lv_iload hx hb dX7_cut_398 (lv_at hl 1 rfl) ?_
      refine lv_iconst (v := 0) hx hb dX7_cut_400 (by decide) ?_
      have g86 := ix_in (gd_l hf)
      replace hf := gd_r hf
      refine g_iast hx hb hK hw 19 0 rfl rfl g86 dX7_cut_401 (fun H locs hw => ?_)
      replace hw : Wd (dC, dI) A s.heap H locs (w_M aM cI cJ cZ M_sorts M_values M_rows M_placeOf M_falling M_made M_runs M_allRuns M_begin M_size M_pool M_pooled M_ways M_merges M_takes M_taken M_parts M_every M_samples M_sample M_ends M_partSize M_merged M_most M_done M_on M_ticks M_mergedAll M_again M_paces M_up (upd M_byHost v4.toNatClampNeg 0) M_heap M_used M_planned M_gone) := hw
      obtain ⟨x87, ex87⟩ : ∃ y : Int32, y = v4 + 1 := ⟨_, rfl⟩
      replace hf := nl_at hf ex87
      refine lv_iinc (v := x87) (lv' := [(4, .int x87), (0, .ref (aM 0))]) hx hb dX7_cut_402 hl (k := 1) rfl (by rw [ex87]; rfl) (by decide) rfl (fun ls hl => ?_)
      refine lv_goto (tgt := 387) hx hb dX7_cut_405 (by decide) ?_
      exact ih _ _ _ hf _ _ _ hw (lv_sub hl [1, 0] rfl) kx
set_option maxHeartbeats 4000000 in
set_option maxRecDepth 100000 in
theorem t_X7_cut_411 {p : Program} {l : Launch} {e : Env} {s : State} {m : MethodId} {args : Array Value} {below : List Frame} {meth : Method} {c : Code} {Q : State → Prop} {dC : Nat → ClassId} {dI : Nat → Nat → Nat} {cI cJ cZ : ClassId} {A : Nat → Prop} (aM : Nat → Nat) (X : Cx p m c cX7_cut 7 s args wsX7_cut RX7 (dC, dI) (tyl cI cJ cZ) A) (N : Nat) (M_sorts : (Nat → Int32)) (M_values : (Nat → Int32)) (M_rows : Int32) (M_placeOf : (Nat → Int32)) (M_falling : (Nat → Int32)) (M_made : Int32) (M_runs : Int32) (M_allRuns : Int32) (M_begin : (Nat → Int32)) (M_size : (Nat → Int32)) (M_pool : (Nat → Int32)) (M_pooled : Int32) (M_ways : Int32) (M_merges : Int32) (M_takes : (Nat → Int32)) (M_taken : (Nat → Int32)) (M_parts : Int32) (M_every : Int32) (M_samples : Int32) (M_sample : (Nat → Int32)) (M_ends : (Nat → Int32)) (M_partSize : (Nat → Int32)) (M_most : (Nat → Int32)) (M_ticks : Int32) (M_mergedAll : Int32) (M_again : Int32) (M_paces : (Nat → Int32)) (M_up : (Nat → Int32)) (M_byHost : (Nat → Int32)) (M_heap : (Nat → Int32)) (M_used : (Nat → Int32)) (M_planned : (Nat → Int32)) (M_gone : (Nat → Int32))  :
    ∀ (n : Nat) (v4 : Int32) (M_merged : (Nat → Int32)) (M_done : (Nat → Int32)) (M_on : (Nat → Int32)) (e_M_merged : (Nat → Int32)) (e_M_done : (Nat → Int32)) (e_M_on : (Nat → Int32)), l_X7_cut_411 N M_parts M_partSize M_up n v4 M_merged M_done M_on = some (e_M_merged, e_M_done, e_M_on) → ∀ (H : Heap) (locs : List Loc) (ls : Array Slot), Wd (dC, dI) A s.heap H locs (w_M aM cI cJ cZ M_sorts M_values M_rows M_placeOf M_falling M_made M_runs M_allRuns M_begin M_size M_pool M_pooled M_ways M_merges M_takes M_taken M_parts M_every M_samples M_sample M_ends M_partSize M_merged M_most M_done M_on M_ticks M_mergedAll M_again M_paces M_up M_byHost M_heap M_used M_planned M_gone) → lv_has ls 7 [(0, .ref (aM 0)), (4, .int v4)] → (∀ (H : Heap) (locs : List Loc) (ls : Array Slot), Wd (dC, dI) A s.heap H locs (w_M aM cI cJ cZ M_sorts M_values M_rows M_placeOf M_falling M_made M_runs M_allRuns M_begin M_size M_pool M_pooled M_ways M_merges M_takes M_taken M_parts M_every M_samples M_sample M_ends M_partSize e_M_merged M_most e_M_done e_M_on M_ticks M_mergedAll M_again M_paces M_up M_byHost M_heap M_used M_planned M_gone) → lv_has ls 7 [(0, .ref (aM 0))] → W p l e rm_X7_cut s m args below meth c H locs 0 0 Q (F0 m 441 ls [])) → W p l e rm_X7_cut s m args below meth c H locs 0 0 Q (F0 m 411 ls []) := by
  obtain ⟨hx, hb, hml, hown, hts⟩ := X.1
  have hK := X.2.1
  have hN := X.2.2.2
  intro n
  induction n with
  | zero =>
    intro _ _ _ _ _ _ _ hf
    cases hf
  | succ n ih =>
    intro v4 M_merged M_done M_on e_M_merged e_M_done e_M_on hf H locs ls hw hl kx
    rw [l_X7_cut_411] at hf
    refine lv_iload hx hb dX7_cut_411 (lv_at hl 1 rfl) ?_
    refine lv_bipush (v := 8) hx hb dX7_cut_413 (by decide) ?_
    refine lv_icmp_ge (tgt := 441) hx hb dX7_cut_415 (by decide) (fun b90 => ?_) (fun b90 => ?_)
    · replace hf := it_t hf b90
      cases hf
      exact kx _ _ _ hw (lv_sub hl [0] rfl)
    · replace hf := it_f hf b90
      refine lv_aload_n hx hb dX7_cut_418 rfl (lv_at hl 0 rfl) ?_
      refine va_get (D := (dC, dI)) (ci := 7) (v := .ref (aM 18)) (C := RX7) (T := TX7) (N := 36) hx hb hts i_X7_cut_X7 hown hK hw.1 0 rfl rfl 30 (by decide) (hts _ m_X7_cut_19) (fun _ h9 => h9) rfl dX7_cut_419 ?_
      refine lv_iload hx hb dX7_cut_422 (lv_at hl 1 rfl) ?_
      have g91 := ix_in (gd_l hf)
      replace hf := gd_r hf
      refine va_zald hx hb hK hw.1 18 2 rfl rfl g91 dX7_cut_424 ?_
      refine lv_if_ne (tgt := 435) hx hb dX7_cut_425 (by decide) (fun b92 => ?_) (fun b92 => ?_)
      · replace hf := it_f hf b92
        obtain ⟨x93, ex93⟩ : ∃ y : Int32, y = v4 + 1 := ⟨_, rfl⟩
        replace hf := nl_at hf ex93
        refine lv_iinc (v := x93) (lv' := [(4, .int x93), (0, .ref (aM 0))]) hx hb dX7_cut_435 hl (k := 1) rfl (by rw [ex93]; rfl) (by decide) rfl (fun ls hl => ?_)
        refine lv_goto (tgt := 411) hx hb dX7_cut_438 (by decide) ?_
        exact ih _ _ _ _ _ _ _ hf _ _ _ hw (lv_sub hl [1, 0] rfl) kx
      · replace hf := it_t hf b92
        refine lv_aload_n hx hb dX7_cut_428 rfl (lv_at hl 0 rfl) ?_
        refine lv_iload hx hb dX7_cut_429 (lv_at hl 1 rfl) ?_
        obtain ⟨r94, c95, c96, c97, h98, hf⟩ := bd4_ob hf
        refine clFI (As := [.int v4]) (rest := []) X (c_X7_leaves l dC dI cI cJ cZ aM N M_sorts M_values M_rows M_placeOf M_falling M_made M_runs M_allRuns M_begin M_size M_pool M_pooled M_ways M_merges M_takes M_taken M_parts M_every M_samples M_sample M_ends M_partSize M_merged M_most M_done M_on M_ticks M_mergedAll M_again M_paces M_up M_byHost M_heap M_used M_planned M_gone v4 h98) (cwV 1 hts gX7_cut_X7_leaves rfl rfl rfl (by decide +kernel) ⟨Nat.le_of_ble_eq_true rfl, Nat.le_of_ble_eq_true rfl⟩) (ci := 7) (k0 := 0) rfl rfl rfl hw rfl rfl hl.1 rfl (Nat.le_of_ble_eq_true rfl) dX7_cut_431 ⟨Nat.zero_le _, Nat.zero_le _⟩ (fun H locs hw => ?_)
        refine lv_pop hx hb dX7_cut_434 rfl ?_
        obtain ⟨x99, ex99⟩ : ∃ y : Int32, y = v4 + 1 := ⟨_, rfl⟩
        replace hf := nl_at hf ex99
        refine lv_iinc (v := x99) (lv' := [(4, .int x99), (0, .ref (aM 0))]) hx hb dX7_cut_435 hl (k := 1) rfl (by rw [ex99]; rfl) (by decide) rfl (fun ls hl => ?_)
        refine lv_goto (tgt := 411) hx hb dX7_cut_438 (by decide) ?_
        exact ih _ _ _ _ _ _ _ hf _ _ _ hw (lv_sub hl [1, 0] rfl) kx
set_option maxHeartbeats 4000000 in
set_option maxRecDepth 100000 in
theorem c_X7_cut (l : Launch) (dC : Nat → ClassId) (dI : Nat → Nat → Nat) (cI cJ cZ : ClassId) (aM : Nat → Nat) (N : Nat) (M_sorts : (Nat → Int32)) (M_values : (Nat → Int32)) (M_rows : Int32) (M_placeOf : (Nat → Int32)) (M_falling : (Nat → Int32)) (M_made : Int32) (M_runs : Int32) (M_allRuns : Int32) (M_begin : (Nat → Int32)) (M_size : (Nat → Int32)) (M_pool : (Nat → Int32)) (M_pooled : Int32) (M_ways : Int32) (M_merges : Int32) (M_takes : (Nat → Int32)) (M_taken : (Nat → Int32)) (M_parts : Int32) (M_every : Int32) (M_samples : Int32) (M_sample : (Nat → Int32)) (M_ends : (Nat → Int32)) (M_partSize : (Nat → Int32)) (M_merged : (Nat → Int32)) (M_most : (Nat → Int32)) (M_done : (Nat → Int32)) (M_on : (Nat → Int32)) (M_ticks : Int32) (M_mergedAll : Int32) (M_again : Int32) (M_paces : (Nat → Int32)) (M_up : (Nat → Int32)) (M_byHost : (Nat → Int32)) (M_heap : (Nat → Int32)) (M_used : (Nat → Int32)) (M_planned : (Nat → Int32)) (M_gone : (Nat → Int32)) (v1 : Int32) (v2 : Int32) {r : Int32} {o_M_parts : Int32} {o_M_every : Int32} {o_M_samples : Int32} {o_M_sample : (Nat → Int32)} {o_M_ends : (Nat → Int32)} {o_M_partSize : (Nat → Int32)} {o_M_merged : (Nat → Int32)} {o_M_most : (Nat → Int32)} {o_M_done : (Nat → Int32)} {o_M_on : (Nat → Int32)} {o_M_ticks : Int32} {o_M_mergedAll : Int32} {o_M_again : Int32} {o_M_byHost : (Nat → Int32)} (hf : f_X7_cut N M_sorts M_values M_placeOf M_falling M_made M_runs M_begin M_size M_pool M_parts M_every M_samples M_sample M_ends M_partSize M_merged M_most M_done M_on M_ticks M_mergedAll M_again M_up M_byHost v1 v2 = some (r, o_M_parts, o_M_every, o_M_samples, o_M_sample, o_M_ends, o_M_partSize, o_M_merged, o_M_most, o_M_done, o_M_on, o_M_ticks, o_M_mergedAll, o_M_again, o_M_byHost)) :
    CtI l yX7_cut wsX7_cut rm_X7_cut (dC, dI) (tyl cI cJ cZ) [.ref (aM 0), .int v1, .int v2] (w_M aM cI cJ cZ M_sorts M_values M_rows M_placeOf M_falling M_made M_runs M_allRuns M_begin M_size M_pool M_pooled M_ways M_merges M_takes M_taken M_parts M_every M_samples M_sample M_ends M_partSize M_merged M_most M_done M_on M_ticks M_mergedAll M_again M_paces M_up M_byHost M_heap M_used M_planned M_gone) (w_M aM cI cJ cZ M_sorts M_values M_rows M_placeOf M_falling M_made M_runs M_allRuns M_begin M_size M_pool M_pooled M_ways M_merges M_takes M_taken o_M_parts o_M_every o_M_samples o_M_sample o_M_ends o_M_partSize o_M_merged o_M_most o_M_done o_M_on o_M_ticks o_M_mergedAll o_M_again M_paces M_up o_M_byHost M_heap M_used M_planned M_gone) r := by
  refine startI (cc := cX7_cut) (maxL := 7) (rt := (some .int)) (by decide +kernel) rfl (Nat.le_of_ble_eq_true rfl) ?_
  intro p e s m below meth c A ls X hr hlocks hw hl
  replace X : Cx p m c cX7_cut 7 s _ wsX7_cut RX7 (dC, dI) (tyl cI cJ cZ) A := X
  replace hl : lv_has ls 7 [(0, .ref (aM 0)), (1, .int v1), (2, .int v2)] := hl
  obtain ⟨hx, hb, hml, hown, hts⟩ := X.1
  have hK := X.2.1
  have hN := X.2.2.2
  unfold f_X7_cut at hf
  refine lv_aload_n hx hb dX7_cut_0 rfl (lv_at hl 0 rfl) ?_
  refine va_get (D := (dC, dI)) (ci := 7) (v := .int M_made) (C := RX7) (T := TX7) (N := 36) hx hb hts i_X7_cut_X7 hown hK hw.1 0 rfl rfl 5 (by decide) (hts _ m_X7_cut_0) (fun _ h9 => h9) rfl dX7_cut_1 ?_
  refine lv_if_eq (tgt := 27) hx hb dX7_cut_4 (by decide) (fun b1 => ?_) (fun b1 => ?_)
  · replace hf := it_t hf b1
    refine lv_iconst (v := (-1)) hx hb dX7_cut_27 (by decide) ?_
    cases hf
    exact endI X hr rfl hlocks rfl hw dX7_cut_28
  · replace hf := it_f hf b1
    refine lv_iload_n hx hb dX7_cut_7 rfl (lv_at hl 1 rfl) ?_
    refine lv_iconst (v := 1) hx hb dX7_cut_8 (by decide) ?_
    refine lv_bipush (v := 8) hx hb dX7_cut_9 (by decide) ?_
    obtain ⟨r2, h3, hf⟩ := bd1_ob hf
    refine clSI (As := [.int v1, .int (1 : Int32), .int (8 : Int32)]) (rest := []) X (c_X7_is l dC dI cI cJ cZ N v1 (1 : Int32) (8 : Int32) h3) (va_cwS 3 hts gX7_cut_X7_is rfl rfl rfl (by decide +kernel) ⟨Nat.le_of_ble_eq_true rfl, Nat.le_of_ble_eq_true rfl⟩) hw [] rfl rfl rfl rfl hl.1 rfl (Nat.le_of_ble_eq_true rfl) dX7_cut_11 ⟨Nat.zero_le _, Nat.zero_le _⟩ (fun H locs hw => ?_)
    replace hw : Wd (dC, dI) A s.heap H locs (w_M aM cI cJ cZ M_sorts M_values M_rows M_placeOf M_falling M_made M_runs M_allRuns M_begin M_size M_pool M_pooled M_ways M_merges M_takes M_taken M_parts M_every M_samples M_sample M_ends M_partSize M_merged M_most M_done M_on M_ticks M_mergedAll M_again M_paces M_up M_byHost M_heap M_used M_planned M_gone) := hw
    refine lv_if_eq (tgt := 27) hx hb dX7_cut_14 (by decide) (fun b4 => ?_) (fun b4 => ?_)
    · replace hf := it_t hf b4
      refine lv_iconst (v := (-1)) hx hb dX7_cut_27 (by decide) ?_
      cases hf
      exact endI X hr rfl hlocks rfl hw dX7_cut_28
    · replace hf := it_f hf b4
      refine lv_iload_n hx hb dX7_cut_17 rfl (lv_at hl 2 rfl) ?_
      refine lv_iconst (v := 1) hx hb dX7_cut_18 (by decide) ?_
      refine lv_bipush (v := 20) hx hb dX7_cut_19 (by decide) ?_
      obtain ⟨r5, h6, hf⟩ := bd1_ob hf
      refine clSI (As := [.int v2, .int (1 : Int32), .int (20 : Int32)]) (rest := []) X (c_X7_is l dC dI cI cJ cZ N v2 (1 : Int32) (20 : Int32) h6) (va_cwS 3 hts gX7_cut_X7_is rfl rfl rfl (by decide +kernel) ⟨Nat.le_of_ble_eq_true rfl, Nat.le_of_ble_eq_true rfl⟩) hw [] rfl rfl rfl rfl hl.1 rfl (Nat.le_of_ble_eq_true rfl) dX7_cut_21 ⟨Nat.zero_le _, Nat.zero_le _⟩ (fun H locs hw => ?_)
      replace hw : Wd (dC, dI) A s.heap H locs (w_M aM cI cJ cZ M_sorts M_values M_rows M_placeOf M_falling M_made M_runs M_allRuns M_begin M_size M_pool M_pooled M_ways M_merges M_takes M_taken M_parts M_every M_samples M_sample M_ends M_partSize M_merged M_most M_done M_on M_ticks M_mergedAll M_again M_paces M_up M_byHost M_heap M_used M_planned M_gone) := hw
      refine lv_if_ne (tgt := 29) hx hb dX7_cut_24 (by decide) (fun b7 => ?_) (fun b7 => ?_)
      · replace hf := it_f hf b7
        refine lv_aload_n hx hb dX7_cut_29 rfl (lv_at hl 0 rfl) ?_
        refine lv_iload_n hx hb dX7_cut_30 rfl (lv_at hl 1 rfl) ?_
        refine g_put (D := (dC, dI)) (ci := 7) (v := .int v1) (ty := .int) (C := RX7) (T := TX7) (N := 36) hx hb hts i_X7_cut_X7 tyX7 tyX7_ok nmX7 hown hK hw 0 rfl rfl 16 (by decide) (hts _ m_X7_cut_1) (fun _ h9 => h9) rfl (by decide +kernel) rfl rfl (Nat.le_of_ble_eq_true rfl) dX7_cut_31 (fun H locs hw => ?_)
        replace hw : Wd (dC, dI) A s.heap H locs (w_M aM cI cJ cZ M_sorts M_values M_rows M_placeOf M_falling M_made M_runs M_allRuns M_begin M_size M_pool M_pooled M_ways M_merges M_takes M_taken v1 M_every M_samples M_sample M_ends M_partSize M_merged M_most M_done M_on M_ticks M_mergedAll M_again M_paces M_up M_byHost M_heap M_used M_planned M_gone) := hw
        refine lv_aload_n hx hb dX7_cut_34 rfl (lv_at hl 0 rfl) ?_
        refine lv_iload_n hx hb dX7_cut_35 rfl (lv_at hl 2 rfl) ?_
        refine g_put (D := (dC, dI)) (ci := 7) (v := .int v2) (ty := .int) (C := RX7) (T := TX7) (N := 36) hx hb hts i_X7_cut_X7 tyX7 tyX7_ok nmX7 hown hK hw 0 rfl rfl 17 (by decide) (hts _ m_X7_cut_2) (fun _ h9 => h9) rfl (by decide +kernel) rfl rfl (Nat.le_of_ble_eq_true rfl) dX7_cut_36 (fun H locs hw => ?_)
        replace hw : Wd (dC, dI) A s.heap H locs (w_M aM cI cJ cZ M_sorts M_values M_rows M_placeOf M_falling M_made M_runs M_allRuns M_begin M_size M_pool M_pooled M_ways M_merges M_takes M_taken v1 v2 M_samples M_sample M_ends M_partSize M_merged M_most M_done M_on M_ticks M_mergedAll M_again M_paces M_up M_byHost M_heap M_used M_planned M_gone) := hw
        refine lv_aload_n hx hb dX7_cut_39 rfl (lv_at hl 0 rfl) ?_
        refine lv_iconst (v := 0) hx hb dX7_cut_40 (by decide) ?_
        refine g_put (D := (dC, dI)) (ci := 7) (v := .int 0) (ty := .int) (C := RX7) (T := TX7) (N := 36) hx hb hts i_X7_cut_X7 tyX7 tyX7_ok nmX7 hown hK hw 0 rfl rfl 18 (by decide) (hts _ m_X7_cut_3) (fun _ h9 => h9) rfl (by decide +kernel) rfl rfl (Nat.le_of_ble_eq_true rfl) dX7_cut_41 (fun H locs hw => ?_)
        replace hw : Wd (dC, dI) A s.heap H locs (w_M aM cI cJ cZ M_sorts M_values M_rows M_placeOf M_falling M_made M_runs M_allRuns M_begin M_size M_pool M_pooled M_ways M_merges M_takes M_taken v1 v2 0 M_sample M_ends M_partSize M_merged M_most M_done M_on M_ticks M_mergedAll M_again M_paces M_up M_byHost M_heap M_used M_planned M_gone) := hw
        refine lv_iconst (v := 0) hx hb dX7_cut_44 (by decide) ?_
        refine lv_istore_n (lv' := [(3, .int 0), (0, .ref (aM 0)), (1, .int v1), (2, .int v2)]) hx hb dX7_cut_45 rfl hl (by decide) rfl (fun ls hl => ?_)
        obtain ⟨e34, e35, h36, hf⟩ := bd2_ob hf
        refine t_X7_cut_46 aM X N M_sorts M_values M_rows M_placeOf M_falling M_made M_runs M_allRuns M_begin M_size M_pool M_pooled M_ways M_merges M_takes M_taken v1 v2 M_ends M_partSize M_merged M_most M_done M_on M_ticks M_mergedAll M_again M_paces M_up M_byHost M_heap M_used M_planned M_gone v1 v2 N _ _ _ _ _ h36 _ _ _ hw (lv_sub hl [1, 2, 3, 0] rfl) (fun H locs ls hw hl => ?_)
        refine lv_iconst (v := 1) hx hb dX7_cut_171 (by decide) ?_
        refine lv_istore_n (lv' := [(3, .int 1), (0, .ref (aM 0)), (1, .int v1)]) hx hb dX7_cut_172 rfl hl (by decide) rfl (fun ls hl => ?_)
        obtain ⟨e50, h51, hf⟩ := bd1_ob hf
        refine t_X7_cut_173 aM X N M_sorts M_values M_rows M_placeOf M_falling M_made M_runs M_allRuns M_begin M_size M_pool M_pooled M_ways M_merges M_takes M_taken v1 v2 e34 e35 M_partSize M_merged M_most M_done M_on M_ticks M_mergedAll M_again M_paces M_up M_byHost M_heap M_used M_planned M_gone v1 N _ _ _ h51 _ _ _ hw (lv_sub hl [1, 2, 0] rfl) (fun H locs ls hw hl => ?_)
        refine lv_iconst (v := 0) hx hb dX7_cut_225 (by decide) ?_
        refine lv_istore_n (lv' := [(3, .int 0), (0, .ref (aM 0)), (1, .int v1)]) hx hb dX7_cut_226 rfl hl (by decide) rfl (fun ls hl => ?_)
        obtain ⟨e59, e60, e61, e62, e63, h64, hf⟩ := bd5_ob hf
        refine t_X7_cut_227 aM X N M_sorts M_values M_rows M_placeOf M_falling M_made M_runs M_allRuns M_begin M_size M_pool M_pooled M_ways M_merges M_takes M_taken v1 v2 e34 e35 e50 M_ticks M_mergedAll M_again M_paces M_up M_byHost M_heap M_used M_planned M_gone v1 N _ _ _ _ _ _ _ _ _ _ _ h64 _ _ _ hw (lv_sub hl [1, 2, 0] rfl) (fun H locs ls hw hl => ?_)
        refine lv_aload_n hx hb dX7_cut_273 rfl (lv_at hl 0 rfl) ?_
        refine va_get (D := (dC, dI)) (ci := 7) (v := .int M_runs) (C := RX7) (T := TX7) (N := 36) hx hb hts i_X7_cut_X7 hown hK hw.1 0 rfl rfl 6 (by decide) (hts _ m_X7_cut_4) (fun _ h9 => h9) rfl dX7_cut_274 ?_
        obtain ⟨y65, h66, hf⟩ := bd1_ob hf
        refine join_ (nL := 7) (dC, dI) A 307 [.int y65] (w_M aM cI cJ cZ M_sorts M_values M_rows M_placeOf M_falling M_made M_runs M_allRuns M_begin M_size M_pool M_pooled M_ways M_merges M_takes M_taken v1 v2 e34 e35 e50 e59 e60 e61 e62 e63 M_ticks M_mergedAll M_again M_paces M_up M_byHost M_heap M_used M_planned M_gone) [(0, .ref (aM 0)), (1, .int v1)] (fun H locs ls hw hl => ?_) (fun jn => ?_)
        · refine lv_istore_n (lv' := [(3, .int y65), (0, .ref (aM 0)), (1, .int v1)]) hx hb dX7_cut_307 rfl hl (by decide) rfl (fun ls hl => ?_)
          refine lv_iconst (v := 0) hx hb dX7_cut_308 (by decide) ?_
          refine lv_istore (lv' := [(4, .int 0), (3, .int y65), (0, .ref (aM 0)), (1, .int v1)]) hx hb dX7_cut_309 hl (by decide) rfl (fun ls hl => ?_)
          obtain ⟨e83, h84, hf⟩ := bd1_ob hf
          refine t_X7_cut_311 aM X N M_sorts M_values M_rows M_placeOf M_falling M_made M_runs M_allRuns M_begin M_size M_pool M_pooled M_ways M_merges M_takes M_taken v1 v2 e34 e35 e50 e60 e61 e62 e63 M_ticks M_mergedAll M_again M_paces M_up M_byHost M_heap M_used M_planned M_gone v1 y65 N _ _ _ h84 _ _ _ hw (lv_sub hl [2, 3, 1, 0] rfl) (fun H locs ls hw hl => ?_)
          refine lv_aload_n hx hb dX7_cut_369 rfl (lv_at hl 0 rfl) ?_
          refine lv_iconst (v := 0) hx hb dX7_cut_370 (by decide) ?_
          refine g_put (D := (dC, dI)) (ci := 7) (v := .int 0) (ty := .int) (C := RX7) (T := TX7) (N := 36) hx hb hts i_X7_cut_X7 tyX7 tyX7_ok nmX7 hown hK hw 0 rfl rfl 26 (by decide) (hts _ m_X7_cut_15) (fun _ h9 => h9) rfl (by decide +kernel) rfl rfl (Nat.le_of_ble_eq_true rfl) dX7_cut_371 (fun H locs hw => ?_)
          replace hw : Wd (dC, dI) A s.heap H locs (w_M aM cI cJ cZ M_sorts M_values M_rows M_placeOf M_falling M_made M_runs M_allRuns M_begin M_size M_pool M_pooled M_ways M_merges M_takes M_taken v1 v2 e34 e35 e50 e83 e60 e61 e62 e63 0 M_mergedAll M_again M_paces M_up M_byHost M_heap M_used M_planned M_gone) := hw
          refine lv_aload_n hx hb dX7_cut_374 rfl (lv_at hl 0 rfl) ?_
          refine lv_iconst (v := 0) hx hb dX7_cut_375 (by decide) ?_
          refine g_put (D := (dC, dI)) (ci := 7) (v := .int 0) (ty := .int) (C := RX7) (T := TX7) (N := 36) hx hb hts i_X7_cut_X7 tyX7 tyX7_ok nmX7 hown hK hw 0 rfl rfl 27 (by decide) (hts _ m_X7_cut_16) (fun _ h9 => h9) rfl (by decide +kernel) rfl rfl (Nat.le_of_ble_eq_true rfl) dX7_cut_376 (fun H locs hw => ?_)
          replace hw : Wd (dC, dI) A s.heap H locs (w_M aM cI cJ cZ M_sorts M_values M_rows M_placeOf M_falling M_made M_runs M_allRuns M_begin M_size M_pool M_pooled M_ways M_merges M_takes M_taken v1 v2 e34 e35 e50 e83 e60 e61 e62 e63 0 0 M_again M_paces M_up M_byHost M_heap M_used M_planned M_gone) := hw
          refine lv_aload_n hx hb dX7_cut_379 rfl (lv_at hl 0 rfl) ?_
          refine lv_iconst (v := 0) hx hb dX7_cut_380 (by decide) ?_
          refine g_put (D := (dC, dI)) (ci := 7) (v := .int 0) (ty := .int) (C := RX7) (T := TX7) (N := 36) hx hb hts i_X7_cut_X7 tyX7 tyX7_ok nmX7 hown hK hw 0 rfl rfl 28 (by decide) (hts _ m_X7_cut_17) (fun _ h9 => h9) rfl (by decide +kernel) rfl rfl (Nat.le_of_ble_eq_true rfl) dX7_cut_381 (fun H locs hw => ?_)
          replace hw : Wd (dC, dI) A s.heap H locs (w_M aM cI cJ cZ M_sorts M_values M_rows M_placeOf M_falling M_made M_runs M_allRuns M_begin M_size M_pool M_pooled M_ways M_merges M_takes M_taken v1 v2 e34 e35 e50 e83 e60 e61 e62 e63 0 0 0 M_paces M_up M_byHost M_heap M_used M_planned M_gone) := hw
          refine lv_iconst (v := 0) hx hb dX7_cut_384 (by decide) ?_
          refine lv_istore (lv' := [(4, .int 0), (0, .ref (aM 0))]) hx hb dX7_cut_385 hl (by decide) rfl (fun ls hl => ?_)
          obtain ⟨e88, h89, hf⟩ := bd1_ob hf
          refine t_X7_cut_387 aM X N M_sorts M_values M_rows M_placeOf M_falling M_made M_runs M_allRuns M_begin M_size M_pool M_pooled M_ways M_merges M_takes M_taken v1 v2 e34 e35 e50 e83 e60 e61 e62 e63 0 0 0 M_paces M_up M_heap M_used M_planned M_gone N _ _ _ h89 _ _ _ hw (lv_sub hl [1, 0] rfl) (fun H locs ls hw hl => ?_)
          refine lv_iconst (v := 0) hx hb dX7_cut_408 (by decide) ?_
          refine lv_istore (lv' := [(4, .int 0), (0, .ref (aM 0))]) hx hb dX7_cut_409 hl (by decide) rfl (fun ls hl => ?_)
          obtain ⟨e100, e101, e102, h103, hf⟩ := bd3_ob hf
          refine t_X7_cut_411 aM X N M_sorts M_values M_rows M_placeOf M_falling M_made M_runs M_allRuns M_begin M_size M_pool M_pooled M_ways M_merges M_takes M_taken v1 v2 e34 e35 e50 e83 e61 0 0 0 M_paces M_up e88 M_heap M_used M_planned M_gone N _ _ _ _ _ _ _ h103 _ _ _ hw (lv_sub hl [1, 0] rfl) (fun H locs ls hw hl => ?_)
          refine lv_aload_n hx hb dX7_cut_441 rfl (lv_at hl 0 rfl) ?_
          refine va_get (D := (dC, dI)) (ci := 7) (v := .int e34) (C := RX7) (T := TX7) (N := 36) hx hb hts i_X7_cut_X7 hown hK hw.1 0 rfl rfl 18 (by decide) (hts _ m_X7_cut_3) (fun _ h9 => h9) rfl dX7_cut_442 ?_
          cases hf
          exact endI X hr rfl hlocks rfl hw dX7_cut_445
        · replace hf := h66
          refine lv_if_ne (tgt := 284) hx hb dX7_cut_277 (by decide) (fun b104 => ?_) (fun b104 => ?_)
          · replace hf := it_f hf b104
            refine lv_aload_n hx hb dX7_cut_284 rfl (lv_at hl 0 rfl) ?_
            refine va_get (D := (dC, dI)) (ci := 7) (v := .ref (aM 5)) (C := RX7) (T := TX7) (N := 36) hx hb hts i_X7_cut_X7 hown hK hw.1 0 rfl rfl 8 (by decide) (hts _ m_X7_cut_7) (fun _ h9 => h9) rfl dX7_cut_285 ?_
            refine lv_aload_n hx hb dX7_cut_288 rfl (lv_at hl 0 rfl) ?_
            refine va_get (D := (dC, dI)) (ci := 7) (v := .int M_runs) (C := RX7) (T := TX7) (N := 36) hx hb hts i_X7_cut_X7 hown hK hw.1 0 rfl rfl 6 (by decide) (hts _ m_X7_cut_4) (fun _ h9 => h9) rfl dX7_cut_289 ?_
            refine lv_iconst (v := 1) hx hb dX7_cut_292 (by decide) ?_
            refine lv_isub hx hb dX7_cut_293 ?_
            have g105 := ix_in (gd_l hf)
            replace hf := gd_r hf
            refine va_iald hx hb hK hw.1 5 0 rfl rfl g105 dX7_cut_294 ?_
            refine lv_aload_n hx hb dX7_cut_295 rfl (lv_at hl 0 rfl) ?_
            refine va_get (D := (dC, dI)) (ci := 7) (v := .ref (aM 6)) (C := RX7) (T := TX7) (N := 36) hx hb hts i_X7_cut_X7 hown hK hw.1 0 rfl rfl 9 (by decide) (hts _ m_X7_cut_5) (fun _ h9 => h9) rfl dX7_cut_296 ?_
            refine lv_aload_n hx hb dX7_cut_299 rfl (lv_at hl 0 rfl) ?_
            refine va_get (D := (dC, dI)) (ci := 7) (v := .int M_runs) (C := RX7) (T := TX7) (N := 36) hx hb hts i_X7_cut_X7 hown hK hw.1 0 rfl rfl 6 (by decide) (hts _ m_X7_cut_4) (fun _ h9 => h9) rfl dX7_cut_300 ?_
            refine lv_iconst (v := 1) hx hb dX7_cut_303 (by decide) ?_
            refine lv_isub hx hb dX7_cut_304 ?_
            have g106 := ix_in (gd_l hf)
            replace hf := gd_r hf
            refine va_iald hx hb hK hw.1 6 0 rfl rfl g106 dX7_cut_305 ?_
            refine lv_iadd hx hb dX7_cut_306 ?_
            cases hf
            exact jn _ _ _ hw (lv_sub hl [0, 1] rfl)
          · replace hf := it_t hf b104
            refine lv_iconst (v := 0) hx hb dX7_cut_280 (by decide) ?_
            refine lv_goto (tgt := 307) hx hb dX7_cut_281 (by decide) ?_
            cases hf
            exact jn _ _ _ hw (lv_sub hl [0, 1] rfl)
      · replace hf := it_t hf b7
        refine lv_iconst (v := (-1)) hx hb dX7_cut_27 (by decide) ?_
        cases hf
        exact endI X hr rfl hlocks rfl hw dX7_cut_28
