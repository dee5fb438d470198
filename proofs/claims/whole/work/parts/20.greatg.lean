def rm_X6_pace : Room := { frames := 2, cells := 0, slots := 0, locals := 42 }
set_option maxRecDepth 20000 in
theorem i_X6_pace_X6 : ∀ w ∈ u_ws RX6 TX6 6, w ∈ wsX6_pace := by decide +kernel
set_option maxRecDepth 20000 in
theorem i_X6_pace_X2 : ∀ w ∈ u_ws RX2 TX2 2, w ∈ wsX6_pace := by decide +kernel
set_option maxRecDepth 20000 in
theorem m_X6_pace_0 : Cond.fieldLink RX6 47 "GreatSort" "hosts" "LGreatSort$Hosts;" ∈ wsX6_pace := by decide +kernel
set_option maxHeartbeats 4000000 in
set_option maxRecDepth 100000 in
theorem c_X6_pace (l : Launch) (dC : Nat → ClassId) (dI : Nat → Nat → Nat) (cI cJ cZ : ClassId) (aG aW aH aR aP aC aO : Nat → Nat) (N : Nat) (W_sorts : (Nat → Int32)) (W_values : (Nat → Int32)) (W_turns : (Nat → Int32)) (W_falling : (Nat → Int32)) (W_count : Int32) (H_items : (Nat → Int64)) (H_size : Int32) (R_members : (Nat → Int32)) (R_starts : (Nat → Int32)) (R_inOrder : (Nat → Int32)) (R_standing : (Nat → Int32)) (R_heads : (Nat → Int32)) (R_tails : (Nat → Int32)) (R_rowsInAll : Int32) (R_made : Int32) (R_all : Int32) (R_filled : Int32) (P_takenRuns : (Nat → Int32)) (P_starts : (Nat → Int32)) (P_queued : (Nat → Int32)) (P_merges : Int32) (P_told : Int32) (C_sampled : (Nat → Int32)) (C_sampleStandings : (Nat → Int32)) (C_sizes : (Nat → Int32)) (C_ends : (Nat → Int32)) (C_lies : (Nat → Int32)) (C_merged : (Nat → Int32)) (C_reached : (Nat → Int32)) (C_done : (Nat → Int32)) (C_mergedBy : (Nat → Int32)) (C_parts : Int32) (C_samples : Int32) (C_bound : Int32) (C_ticks : Int32) (C_mergedInAll : Int32) (C_mergedAgain : Int32) (O_paces : (Nat → Int32)) (O_up : (Nat → Int32)) (v1 : Int32) (v2 : Int32) {r : Int32} {o_O_paces : (Nat → Int32)} (hf : f_X6_pace N O_paces v1 v2 = some (r, o_O_paces)) :
    CtI l yX6_pace wsX6_pace rm_X6_pace (dC, dI) (tyl cI cJ cZ) [.ref (aG 0), .int v1, .int v2] (w_GWHRPCO aG aW aH aR aP aC aO cI cJ cZ W_sorts W_values W_turns W_falling W_count H_items H_size R_members R_starts R_inOrder R_standing R_heads R_tails R_rowsInAll R_made R_all R_filled P_takenRuns P_starts P_queued P_merges P_told C_sampled C_sampleStandings C_sizes C_ends C_lies C_merged C_reached C_done C_mergedBy C_parts C_samples C_bound C_ticks C_mergedInAll C_mergedAgain O_paces O_up) (w_GWHRPCO aG aW aH aR aP aC aO cI cJ cZ W_sorts W_values W_turns W_falling W_count H_items H_size R_members R_starts R_inOrder R_standing R_heads R_tails R_rowsInAll R_made R_all R_filled P_takenRuns P_starts P_queued P_merges P_told C_sampled C_sampleStandings C_sizes C_ends C_lies C_merged C_reached C_done C_mergedBy C_parts C_samples C_bound C_ticks C_mergedInAll C_mergedAgain o_O_paces O_up) r := by
  refine startI (cc := cX6_pace) (maxL := 3) (rt := (some .boolean)) (by decide +kernel) rfl (Nat.le_of_ble_eq_true rfl) ?_
  intro p e s m below meth c A ls X hr hlocks hw hl
  replace X : Cx p m c cX6_pace 3 s _ wsX6_pace RX6 (dC, dI) (tyl cI cJ cZ) A := X
  replace hl : lv_has ls 3 [(0, .ref (aG 0)), (1, .int v1), (2, .int v2)] := hl
  obtain ⟨hx, hb, hml, hown, hts⟩ := X.1
  have hK := X.2.1
  have hN := X.2.2.2
  unfold f_X6_pace at hf
  refine lv_iload_n hx hb dX6_pace_0 rfl (lv_at hl 1 rfl) ?_
  obtain ⟨r1, h2, hf⟩ := bd1_ob hf
  refine clSI (As := [.int v1]) (rest := []) X (c_X6_isHost l dC dI cI cJ cZ N v1 h2) (va_cwS 1 hts gX6_pace_X6_isHost rfl rfl rfl (by decide +kernel) ⟨Nat.le_of_ble_eq_true rfl, Nat.le_of_ble_eq_true rfl⟩) hw [] rfl rfl rfl rfl hl.1 rfl (Nat.le_of_ble_eq_true rfl) dX6_pace_1 ⟨Nat.zero_le _, Nat.zero_le _⟩ (fun H locs hw => ?_)
  replace hw : Wd (dC, dI) A s.heap H locs (w_GWHRPCO aG aW aH aR aP aC aO cI cJ cZ W_sorts W_values W_turns W_falling W_count H_items H_size R_members R_starts R_inOrder R_standing R_heads R_tails R_rowsInAll R_made R_all R_filled P_takenRuns P_starts P_queued P_merges P_told C_sampled C_sampleStandings C_sizes C_ends C_lies C_merged C_reached C_done C_mergedBy C_parts C_samples C_bound C_ticks C_mergedInAll C_mergedAgain O_paces O_up) := hw
  refine lv_if_eq (tgt := 17) hx hb dX6_pace_4 (by decide) (fun b3 => ?_) (fun b3 => ?_)
  · replace hf := it_t hf b3
    refine lv_iconst (v := 0) hx hb dX6_pace_17 (by decide) ?_
    have g4 := bz_nar (gd_l hf)
    replace hf := gd_r hf
    cases hf
    exact endI X hr g4 hlocks rfl hw dX6_pace_18
  · replace hf := it_f hf b3
    refine lv_iload_n hx hb dX6_pace_7 rfl (lv_at hl 2 rfl) ?_
    refine lv_iconst (v := 0) hx hb dX6_pace_8 (by decide) ?_
    refine lv_bipush (v := 50) hx hb dX6_pace_9 (by decide) ?_
    obtain ⟨r5, h6, hf⟩ := bd1_ob hf
    refine clSI (As := [.int v2, .int (0 : Int32), .int (50 : Int32)]) (rest := []) X (c_X6_isIn l dC dI cI cJ cZ N v2 (0 : Int32) (50 : Int32) h6) (va_cwS 3 hts gX6_pace_X6_isIn rfl rfl rfl (by decide +kernel) ⟨Nat.le_of_ble_eq_true rfl, Nat.le_of_ble_eq_true rfl⟩) hw [] rfl rfl rfl rfl hl.1 rfl (Nat.le_of_ble_eq_true rfl) dX6_pace_11 ⟨Nat.zero_le _, Nat.zero_le _⟩ (fun H locs hw => ?_)
    replace hw : Wd (dC, dI) A s.heap H locs (w_GWHRPCO aG aW aH aR aP aC aO cI cJ cZ W_sorts W_values W_turns W_falling W_count H_items H_size R_members R_starts R_inOrder R_standing R_heads R_tails R_rowsInAll R_made R_all R_filled P_takenRuns P_starts P_queued P_merges P_told C_sampled C_sampleStandings C_sizes C_ends C_lies C_merged C_reached C_done C_mergedBy C_parts C_samples C_bound C_ticks C_mergedInAll C_mergedAgain O_paces O_up) := hw
    refine lv_if_ne (tgt := 19) hx hb dX6_pace_14 (by decide) (fun b7 => ?_) (fun b7 => ?_)
    · replace hf := it_f hf b7
      refine lv_aload_n hx hb dX6_pace_19 rfl (lv_at hl 0 rfl) ?_
      refine va_get (D := (dC, dI)) (ci := 6) (v := .ref (aO 0)) (C := RX6) (T := TX6) (N := 6) hx hb hts i_X6_pace_X6 hown hK hw.1 0 rfl rfl 5 (by decide) (hts _ m_X6_pace_0) (fun _ h9 => h9) rfl dX6_pace_20 ?_
      refine va_getN (D := (dC, dI)) (ci := 2) (v := .ref (aO 1)) (C := RX2) (T := TX2) (N := 2) hx hb hts i_X6_pace_X2 hown hK hw.1 29 rfl rfl 0 (by decide) (va_Nw.use rfl (hN _ nk_9)) (fun _ h9 => h9) rfl dX6_pace_23 ?_
      refine lv_iload_n hx hb dX6_pace_26 rfl (lv_at hl 1 rfl) ?_
      refine lv_iload_n hx hb dX6_pace_27 rfl (lv_at hl 2 rfl) ?_
      have g8 := ix_in (gd_l hf)
      replace hf := gd_r hf
      refine g_iast hx hb hK hw 30 0 rfl rfl g8 dX6_pace_28 (fun H locs hw => ?_)
      replace hw : Wd (dC, dI) A s.heap H locs (w_GWHRPCO aG aW aH aR aP aC aO cI cJ cZ W_sorts W_values W_turns W_falling W_count H_items H_size R_members R_starts R_inOrder R_standing R_heads R_tails R_rowsInAll R_made R_all R_filled P_takenRuns P_starts P_queued P_merges P_told C_sampled C_sampleStandings C_sizes C_ends C_lies C_merged C_reached C_done C_mergedBy C_parts C_samples C_bound C_ticks C_mergedInAll C_mergedAgain (upd O_paces v1.toNatClampNeg v2) O_up) := hw
      refine lv_iconst (v := 1) hx hb dX6_pace_29 (by decide) ?_
      have g9 := bz_nar (gd_l hf)
      replace hf := gd_r hf
      cases hf
      exact endI X hr g9 hlocks rfl hw dX6_pace_30
    · replace hf := it_t hf b7
      refine lv_iconst (v := 0) hx hb dX6_pace_17 (by decide) ?_
      have g10 := bz_nar (gd_l hf)
      replace hf := gd_r hf
      cases hf
      exact endI X hr g10 hlocks rfl hw dX6_pace_18
def rm_X6_fall : Room := { frames := 3, cells := 0, slots := 0, locals := 72 }
set_option maxRecDepth 20000 in
theorem i_X6_fall_X6 : ∀ w ∈ u_ws RX6 TX6 6, w ∈ wsX6_fall := by decide +kernel
set_option maxRecDepth 20000 in
theorem i_X6_fall_X2 : ∀ w ∈ u_ws RX2 TX2 2, w ∈ wsX6_fall := by decide +kernel
set_option maxRecDepth 20000 in
theorem m_X6_fall_0 : Cond.fieldLink RX6 47 "GreatSort" "hosts" "LGreatSort$Hosts;" ∈ wsX6_fall := by decide +kernel
set_option maxRecDepth 20000 in
theorem m_X6_fall_1 : Cond.fieldLink RX6 40 "GreatSort" "cut" "LGreatSort$Cut;" ∈ wsX6_fall := by decide +kernel
set_option maxHeartbeats 4000000 in
set_option maxRecDepth 100000 in
theorem c_X6_fall (l : Launch) (dC : Nat → ClassId) (dI : Nat → Nat → Nat) (cI cJ cZ : ClassId) (aG aW aH aR aP aC aO : Nat → Nat) (N : Nat) (W_sorts : (Nat → Int32)) (W_values : (Nat → Int32)) (W_turns : (Nat → Int32)) (W_falling : (Nat → Int32)) (W_count : Int32) (H_items : (Nat → Int64)) (H_size : Int32) (R_members : (Nat → Int32)) (R_starts : (Nat → Int32)) (R_inOrder : (Nat → Int32)) (R_standing : (Nat → Int32)) (R_heads : (Nat → Int32)) (R_tails : (Nat → Int32)) (R_rowsInAll : Int32) (R_made : Int32) (R_all : Int32) (R_filled : Int32) (P_takenRuns : (Nat → Int32)) (P_starts : (Nat → Int32)) (P_queued : (Nat → Int32)) (P_merges : Int32) (P_told : Int32) (C_sampled : (Nat → Int32)) (C_sampleStandings : (Nat → Int32)) (C_sizes : (Nat → Int32)) (C_ends : (Nat → Int32)) (C_lies : (Nat → Int32)) (C_merged : (Nat → Int32)) (C_reached : (Nat → Int32)) (C_done : (Nat → Int32)) (C_mergedBy : (Nat → Int32)) (C_parts : Int32) (C_samples : Int32) (C_bound : Int32) (C_ticks : Int32) (C_mergedInAll : Int32) (C_mergedAgain : Int32) (O_paces : (Nat → Int32)) (O_up : (Nat → Int32)) (v1 : Int32) {r : Int32} {o_C_lies : (Nat → Int32)} {o_C_merged : (Nat → Int32)} {o_C_done : (Nat → Int32)} {o_O_up : (Nat → Int32)} (hf : f_X6_fall N C_sizes C_lies C_merged C_done C_parts O_up v1 = some (r, o_C_lies, o_C_merged, o_C_done, o_O_up)) :
    CtI l yX6_fall wsX6_fall rm_X6_fall (dC, dI) (tyl cI cJ cZ) [.ref (aG 0), .int v1] (w_GWHRPCO aG aW aH aR aP aC aO cI cJ cZ W_sorts W_values W_turns W_falling W_count H_items H_size R_members R_starts R_inOrder R_standing R_heads R_tails R_rowsInAll R_made R_all R_filled P_takenRuns P_starts P_queued P_merges P_told C_sampled C_sampleStandings C_sizes C_ends C_lies C_merged C_reached C_done C_mergedBy C_parts C_samples C_bound C_ticks C_mergedInAll C_mergedAgain O_paces O_up) (w_GWHRPCO aG aW aH aR aP aC aO cI cJ cZ W_sorts W_values W_turns W_falling W_count H_items H_size R_members R_starts R_inOrder R_standing R_heads R_tails R_rowsInAll R_made R_all R_filled P_takenRuns P_starts P_queued P_merges P_told C_sampled C_sampleStandings C_sizes C_ends o_C_lies o_C_merged C_reached o_C_done C_mergedBy C_parts C_samples C_bound C_ticks C_mergedInAll C_mergedAgain O_paces o_O_up) r := by
  refine startI (cc := cX6_fall) (maxL := 2) (rt := (some .int)) (by decide +kernel) rfl (Nat.le_of_ble_eq_true rfl) ?_
  intro p e s m below meth c A ls X hr hlocks hw hl
  replace X : Cx p m c cX6_fall 2 s _ wsX6_fall RX6 (dC, dI) (tyl cI cJ cZ) A := X
  replace hl : lv_has ls 2 [(0, .ref (aG 0)), (1, .int v1)] := hl
  obtain ⟨hx, hb, hml, hown, hts⟩ := X.1
  have hK := X.2.1
  have hN := X.2.2.2
  unfold f_X6_fall at hf
  refine lv_iload_n hx hb dX6_fall_0 rfl (lv_at hl 1 rfl) ?_
  obtain ⟨r1, h2, hf⟩ := bd1_ob hf
  refine clSI (As := [.int v1]) (rest := []) X (c_X6_isHost l dC dI cI cJ cZ N v1 h2) (va_cwS 1 hts gX6_fall_X6_isHost rfl rfl rfl (by decide +kernel) ⟨Nat.le_of_ble_eq_true rfl, Nat.le_of_ble_eq_true rfl⟩) hw [] rfl rfl rfl rfl hl.1 rfl (Nat.le_of_ble_eq_true rfl) dX6_fall_1 ⟨Nat.zero_le _, Nat.zero_le _⟩ (fun H locs hw => ?_)
  replace hw : Wd (dC, dI) A s.heap H locs (w_GWHRPCO aG aW aH aR aP aC aO cI cJ cZ W_sorts W_values W_turns W_falling W_count H_items H_size R_members R_starts R_inOrder R_standing R_heads R_tails R_rowsInAll R_made R_all R_filled P_takenRuns P_starts P_queued P_merges P_told C_sampled C_sampleStandings C_sizes C_ends C_lies C_merged C_reached C_done C_mergedBy C_parts C_samples C_bound C_ticks C_mergedInAll C_mergedAgain O_paces O_up) := hw
  refine lv_if_eq (tgt := 19) hx hb dX6_fall_4 (by decide) (fun b3 => ?_) (fun b3 => ?_)
  · replace hf := it_t hf b3
    refine lv_iconst (v := (-1)) hx hb dX6_fall_19 (by decide) ?_
    cases hf
    exact endI X hr rfl hlocks rfl hw dX6_fall_20
  · replace hf := it_f hf b3
    refine lv_aload_n hx hb dX6_fall_7 rfl (lv_at hl 0 rfl) ?_
    refine va_get (D := (dC, dI)) (ci := 6) (v := .ref (aO 0)) (C := RX6) (T := TX6) (N := 6) hx hb hts i_X6_fall_X6 hown hK hw.1 0 rfl rfl 5 (by decide) (hts _ m_X6_fall_0) (fun _ h9 => h9) rfl dX6_fall_8 ?_
    refine va_getN (D := (dC, dI)) (ci := 2) (v := .ref (aO 2)) (C := RX2) (T := TX2) (N := 2) hx hb hts i_X6_fall_X2 hown hK hw.1 29 rfl rfl 1 (by decide) (va_Nw.use rfl (hN _ nk_10)) (fun _ h9 => h9) rfl dX6_fall_11 ?_
    refine lv_iload_n hx hb dX6_fall_14 rfl (lv_at hl 1 rfl) ?_
    have g4 := ix_in (gd_l hf)
    replace hf := gd_r hf
    refine va_zald hx hb hK hw.1 31 2 rfl rfl g4 dX6_fall_15 ?_
    refine lv_if_ne (tgt := 21) hx hb dX6_fall_16 (by decide) (fun b5 => ?_) (fun b5 => ?_)
    · replace hf := it_f hf b5
      refine lv_aload_n hx hb dX6_fall_21 rfl (lv_at hl 0 rfl) ?_
      refine va_get (D := (dC, dI)) (ci := 6) (v := .ref (aO 0)) (C := RX6) (T := TX6) (N := 6) hx hb hts i_X6_fall_X6 hown hK hw.1 0 rfl rfl 5 (by decide) (hts _ m_X6_fall_0) (fun _ h9 => h9) rfl dX6_fall_22 ?_
      refine va_getN (D := (dC, dI)) (ci := 2) (v := .ref (aO 2)) (C := RX2) (T := TX2) (N := 2) hx hb hts i_X6_fall_X2 hown hK hw.1 29 rfl rfl 1 (by decide) (va_Nw.use rfl (hN _ nk_10)) (fun _ h9 => h9) rfl dX6_fall_25 ?_
      refine lv_iload_n hx hb dX6_fall_28 rfl (lv_at hl 1 rfl) ?_
      refine lv_iconst (v := 0) hx hb dX6_fall_29 (by decide) ?_
      have g6 := ix_in (gd_l hf)
      replace hf := gd_r hf
      refine g_zast hx hb hK hw 31 2 rfl rfl g6 dX6_fall_30 (fun H locs hw => ?_)
      replace hw : Wd (dC, dI) A s.heap H locs (w_GWHRPCO aG aW aH aR aP aC aO cI cJ cZ W_sorts W_values W_turns W_falling W_count H_items H_size R_members R_starts R_inOrder R_standing R_heads R_tails R_rowsInAll R_made R_all R_filled P_takenRuns P_starts P_queued P_merges P_told C_sampled C_sampleStandings C_sizes C_ends C_lies C_merged C_reached C_done C_mergedBy C_parts C_samples C_bound C_ticks C_mergedInAll C_mergedAgain O_paces (upd O_up v1.toNatClampNeg (vp_nar .boolean 0))) := hw
      refine lv_aload_n hx hb dX6_fall_31 rfl (lv_at hl 0 rfl) ?_
      refine va_get (D := (dC, dI)) (ci := 6) (v := .ref (aC 0)) (C := RX6) (T := TX6) (N := 6) hx hb hts i_X6_fall_X6 hown hK hw.1 0 rfl rfl 4 (by decide) (hts _ m_X6_fall_1) (fun _ h9 => h9) rfl dX6_fall_32 ?_
      refine lv_iload_n hx hb dX6_fall_35 rfl (lv_at hl 1 rfl) ?_
      refine lv_aload_n hx hb dX6_fall_36 rfl (lv_at hl 0 rfl) ?_
      refine va_get (D := (dC, dI)) (ci := 6) (v := .ref (aO 0)) (C := RX6) (T := TX6) (N := 6) hx hb hts i_X6_fall_X6 hown hK hw.1 0 rfl rfl 5 (by decide) (hts _ m_X6_fall_0) (fun _ h9 => h9) rfl dX6_fall_37 ?_
      obtain ⟨r7, c8, c9, c10, h11, hf⟩ := bd4_ob hf
      refine clVI (As := [.int v1, .ref (aO 0)]) (rest := []) X (c_X0_moveFrom l dC dI cI cJ cZ aC aO N C_sampled C_sampleStandings C_sizes C_ends C_lies C_merged C_reached C_done C_mergedBy C_parts C_samples C_bound C_ticks C_mergedInAll C_mergedAgain O_paces (upd O_up v1.toNatClampNeg (vp_nar .boolean 0)) v1 h11) (cwV 2 hts gX6_fall_X0_moveFrom rfl rfl rfl (by decide +kernel) ⟨Nat.le_of_ble_eq_true rfl, Nat.le_of_ble_eq_true rfl⟩) (ci := 0) (k0 := 0) rfl rfl rfl hw [19, 20, 21, 22, 23, 24, 25, 26, 27, 28, 29, 30, 31] rfl rfl rfl rfl hl.1 rfl (Nat.le_of_ble_eq_true rfl) dX6_fall_40 ⟨Nat.zero_le _, Nat.zero_le _⟩ (fun H locs hw => ?_)
      replace hw : Wd (dC, dI) A s.heap H locs (w_GWHRPCO aG aW aH aR aP aC aO cI cJ cZ W_sorts W_values W_turns W_falling W_count H_items H_size R_members R_starts R_inOrder R_standing R_heads R_tails R_rowsInAll R_made R_all R_filled P_takenRuns P_starts P_queued P_merges P_told C_sampled C_sampleStandings C_sizes C_ends c8 c9 C_reached c10 C_mergedBy C_parts C_samples C_bound C_ticks C_mergedInAll C_mergedAgain O_paces (upd O_up v1.toNatClampNeg (vp_nar .boolean 0))) := hw
      cases hf
      exact endI X hr rfl hlocks rfl hw dX6_fall_43
    · replace hf := it_t hf b5
      refine lv_iconst (v := (-1)) hx hb dX6_fall_19 (by decide) ?_
      cases hf
      exact endI X hr rfl hlocks rfl hw dX6_fall_20
def rm_X6_rise : Room := { frames := 2, cells := 0, slots := 0, locals := 42 }
set_option maxRecDepth 20000 in
theorem i_X6_rise_X6 : ∀ w ∈ u_ws RX6 TX6 6, w ∈ wsX6_rise := by decide +kernel
set_option maxRecDepth 20000 in
theorem i_X6_rise_X2 : ∀ w ∈ u_ws RX2 TX2 2, w ∈ wsX6_rise := by decide +kernel
set_option maxRecDepth 20000 in
theorem m_X6_rise_0 : Cond.fieldLink RX6 47 "GreatSort" "hosts" "LGreatSort$Hosts;" ∈ wsX6_rise := by decide +kernel
set_option maxRecDepth 20000 in
theorem m_X6_rise_1 : Cond.fieldLink RX6 40 "GreatSort" "cut" "LGreatSort$Cut;" ∈ wsX6_rise := by decide +kernel
set_option maxHeartbeats 4000000 in
set_option maxRecDepth 100000 in
theorem c_X6_rise (l : Launch) (dC : Nat → ClassId) (dI : Nat → Nat → Nat) (cI cJ cZ : ClassId) (aG aW aH aR aP aC aO : Nat → Nat) (N : Nat) (W_sorts : (Nat → Int32)) (W_values : (Nat → Int32)) (W_turns : (Nat → Int32)) (W_falling : (Nat → Int32)) (W_count : Int32) (H_items : (Nat → Int64)) (H_size : Int32) (R_members : (Nat → Int32)) (R_starts : (Nat → Int32)) (R_inOrder : (Nat → Int32)) (R_standing : (Nat → Int32)) (R_heads : (Nat → Int32)) (R_tails : (Nat → Int32)) (R_rowsInAll : Int32) (R_made : Int32) (R_all : Int32) (R_filled : Int32) (P_takenRuns : (Nat → Int32)) (P_starts : (Nat → Int32)) (P_queued : (Nat → Int32)) (P_merges : Int32) (P_told : Int32) (C_sampled : (Nat → Int32)) (C_sampleStandings : (Nat → Int32)) (C_sizes : (Nat → Int32)) (C_ends : (Nat → Int32)) (C_lies : (Nat → Int32)) (C_merged : (Nat → Int32)) (C_reached : (Nat → Int32)) (C_done : (Nat → Int32)) (C_mergedBy : (Nat → Int32)) (C_parts : Int32) (C_samples : Int32) (C_bound : Int32) (C_ticks : Int32) (C_mergedInAll : Int32) (C_mergedAgain : Int32) (O_paces : (Nat → Int32)) (O_up : (Nat → Int32)) (v1 : Int32) {r : Int32} {o_C_lies : (Nat → Int32)} {o_O_up : (Nat → Int32)} (hf : f_X6_rise N C_lies C_parts O_up v1 = some (r, o_C_lies, o_O_up)) :
    CtI l yX6_rise wsX6_rise rm_X6_rise (dC, dI) (tyl cI cJ cZ) [.ref (aG 0), .int v1] (w_GWHRPCO aG aW aH aR aP aC aO cI cJ cZ W_sorts W_values W_turns W_falling W_count H_items H_size R_members R_starts R_inOrder R_standing R_heads R_tails R_rowsInAll R_made R_all R_filled P_takenRuns P_starts P_queued P_merges P_told C_sampled C_sampleStandings C_sizes C_ends C_lies C_merged C_reached C_done C_mergedBy C_parts C_samples C_bound C_ticks C_mergedInAll C_mergedAgain O_paces O_up) (w_GWHRPCO aG aW aH aR aP aC aO cI cJ cZ W_sorts W_values W_turns W_falling W_count H_items H_size R_members R_starts R_inOrder R_standing R_heads R_tails R_rowsInAll R_made R_all R_filled P_takenRuns P_starts P_queued P_merges P_told C_sampled C_sampleStandings C_sizes C_ends o_C_lies C_merged C_reached C_done C_mergedBy C_parts C_samples C_bound C_ticks C_mergedInAll C_mergedAgain O_paces o_O_up) r := by
  refine startI (cc := cX6_rise) (maxL := 2) (rt := (some .int)) (by decide +kernel) rfl (Nat.le_of_ble_eq_true rfl) ?_
  intro p e s m below meth c A ls X hr hlocks hw hl
  replace X : Cx p m c cX6_rise 2 s _ wsX6_rise RX6 (dC, dI) (tyl cI cJ cZ) A := X
  replace hl : lv_has ls 2 [(0, .ref (aG 0)), (1, .int v1)] := hl
  obtain ⟨hx, hb, hml, hown, hts⟩ := X.1
  have hK := X.2.1
  have hN := X.2.2.2
  unfold f_X6_rise at hf
  refine lv_iload_n hx hb dX6_rise_0 rfl (lv_at hl 1 rfl) ?_
  obtain ⟨r1, h2, hf⟩ := bd1_ob hf
  refine clSI (As := [.int v1]) (rest := []) X (c_X6_isHost l dC dI cI cJ cZ N v1 h2) (va_cwS 1 hts gX6_rise_X6_isHost rfl rfl rfl (by decide +kernel) ⟨Nat.le_of_ble_eq_true rfl, Nat.le_of_ble_eq_true rfl⟩) hw [] rfl rfl rfl rfl hl.1 rfl (Nat.le_of_ble_eq_true rfl) dX6_rise_1 ⟨Nat.zero_le _, Nat.zero_le _⟩ (fun H locs hw => ?_)
  replace hw : Wd (dC, dI) A s.heap H locs (w_GWHRPCO aG aW aH aR aP aC aO cI cJ cZ W_sorts W_values W_turns W_falling W_count H_items H_size R_members R_starts R_inOrder R_standing R_heads R_tails R_rowsInAll R_made R_all R_filled P_takenRuns P_starts P_queued P_merges P_told C_sampled C_sampleStandings C_sizes C_ends C_lies C_merged C_reached C_done C_mergedBy C_parts C_samples C_bound C_ticks C_mergedInAll C_mergedAgain O_paces O_up) := hw
  refine lv_if_eq (tgt := 19) hx hb dX6_rise_4 (by decide) (fun b3 => ?_) (fun b3 => ?_)
  · replace hf := it_t hf b3
    refine lv_iconst (v := (-1)) hx hb dX6_rise_19 (by decide) ?_
    cases hf
    exact endI X hr rfl hlocks rfl hw dX6_rise_20
  · replace hf := it_f hf b3
    refine lv_aload_n hx hb dX6_rise_7 rfl (lv_at hl 0 rfl) ?_
    refine va_get (D := (dC, dI)) (ci := 6) (v := .ref (aO 0)) (C := RX6) (T := TX6) (N := 6) hx hb hts i_X6_rise_X6 hown hK hw.1 0 rfl rfl 5 (by decide) (hts _ m_X6_rise_0) (fun _ h9 => h9) rfl dX6_rise_8 ?_
    refine va_getN (D := (dC, dI)) (ci := 2) (v := .ref (aO 2)) (C := RX2) (T := TX2) (N := 2) hx hb hts i_X6_rise_X2 hown hK hw.1 29 rfl rfl 1 (by decide) (va_Nw.use rfl (hN _ nk_10)) (fun _ h9 => h9) rfl dX6_rise_11 ?_
    refine lv_iload_n hx hb dX6_rise_14 rfl (lv_at hl 1 rfl) ?_
    have g4 := ix_in (gd_l hf)
    replace hf := gd_r hf
    refine va_zald hx hb hK hw.1 31 2 rfl rfl g4 dX6_rise_15 ?_
    refine lv_if_eq (tgt := 21) hx hb dX6_rise_16 (by decide) (fun b5 => ?_) (fun b5 => ?_)
    · replace hf := it_t hf b5
      refine lv_aload_n hx hb dX6_rise_21 rfl (lv_at hl 0 rfl) ?_
      refine va_get (D := (dC, dI)) (ci := 6) (v := .ref (aO 0)) (C := RX6) (T := TX6) (N := 6) hx hb hts i_X6_rise_X6 hown hK hw.1 0 rfl rfl 5 (by decide) (hts _ m_X6_rise_0) (fun _ h9 => h9) rfl dX6_rise_22 ?_
      refine va_getN (D := (dC, dI)) (ci := 2) (v := .ref (aO 2)) (C := RX2) (T := TX2) (N := 2) hx hb hts i_X6_rise_X2 hown hK hw.1 29 rfl rfl 1 (by decide) (va_Nw.use rfl (hN _ nk_10)) (fun _ h9 => h9) rfl dX6_rise_25 ?_
      refine lv_iload_n hx hb dX6_rise_28 rfl (lv_at hl 1 rfl) ?_
      refine lv_iconst (v := 1) hx hb dX6_rise_29 (by decide) ?_
      have g6 := ix_in (gd_l hf)
      replace hf := gd_r hf
      refine g_zast hx hb hK hw 31 2 rfl rfl g6 dX6_rise_30 (fun H locs hw => ?_)
      replace hw : Wd (dC, dI) A s.heap H locs (w_GWHRPCO aG aW aH aR aP aC aO cI cJ cZ W_sorts W_values W_turns W_falling W_count H_items H_size R_members R_starts R_inOrder R_standing R_heads R_tails R_rowsInAll R_made R_all R_filled P_takenRuns P_starts P_queued P_merges P_told C_sampled C_sampleStandings C_sizes C_ends C_lies C_merged C_reached C_done C_mergedBy C_parts C_samples C_bound C_ticks C_mergedInAll C_mergedAgain O_paces (upd O_up v1.toNatClampNeg (vp_nar .boolean 1))) := hw
      refine lv_aload_n hx hb dX6_rise_31 rfl (lv_at hl 0 rfl) ?_
      refine va_get (D := (dC, dI)) (ci := 6) (v := .ref (aC 0)) (C := RX6) (T := TX6) (N := 6) hx hb hts i_X6_rise_X6 hown hK hw.1 0 rfl rfl 4 (by decide) (hts _ m_X6_rise_1) (fun _ h9 => h9) rfl dX6_rise_32 ?_
      refine lv_iload_n hx hb dX6_rise_35 rfl (lv_at hl 1 rfl) ?_
      obtain ⟨r7, c8, h9, hf⟩ := bd2_ob hf
      refine clVI (As := [.int v1]) (rest := []) X (c_X0_bringTo l dC dI cI cJ cZ aC N C_sampled C_sampleStandings C_sizes C_ends C_lies C_merged C_reached C_done C_mergedBy C_parts C_samples C_bound C_ticks C_mergedInAll C_mergedAgain v1 h9) (cwV 1 hts gX6_rise_X0_bringTo rfl rfl rfl (by decide +kernel) ⟨Nat.le_of_ble_eq_true rfl, Nat.le_of_ble_eq_true rfl⟩) (ci := 0) (k0 := 0) rfl rfl rfl hw [19, 20, 21, 22, 23, 24, 25, 26, 27, 28] rfl rfl rfl rfl hl.1 rfl (Nat.le_of_ble_eq_true rfl) dX6_rise_36 ⟨Nat.zero_le _, Nat.zero_le _⟩ (fun H locs hw => ?_)
      replace hw : Wd (dC, dI) A s.heap H locs (w_GWHRPCO aG aW aH aR aP aC aO cI cJ cZ W_sorts W_values W_turns W_falling W_count H_items H_size R_members R_starts R_inOrder R_standing R_heads R_tails R_rowsInAll R_made R_all R_filled P_takenRuns P_starts P_queued P_merges P_told C_sampled C_sampleStandings C_sizes C_ends c8 C_merged C_reached C_done C_mergedBy C_parts C_samples C_bound C_ticks C_mergedInAll C_mergedAgain O_paces (upd O_up v1.toNatClampNeg (vp_nar .boolean 1))) := hw
      cases hf
      exact endI X hr rfl hlocks rfl hw dX6_rise_39
    · replace hf := it_f hf b5
      refine lv_iconst (v := (-1)) hx hb dX6_rise_19 (by decide) ?_
      cases hf
      exact endI X hr rfl hlocks rfl hw dX6_rise_20
