def rm_X6_falls : Room := { frames := 1, cells := 0, slots := 0, locals := 22 }
set_option maxRecDepth 20000 in
theorem i_X6_falls_X6 : ∀ w ∈ u_ws RX6 TX6 6, w ∈ wsX6_falls := by decide +kernel
set_option maxRecDepth 20000 in
theorem i_X6_falls_X5 : ∀ w ∈ u_ws RX5 TX5 10, w ∈ wsX6_falls := by decide +kernel
set_option maxRecDepth 20000 in
theorem i_X6_falls_X4 : ∀ w ∈ u_ws RX4 TX4 5, w ∈ wsX6_falls := by decide +kernel
set_option maxRecDepth 20000 in
theorem m_X6_falls_0 : Cond.fieldLink RX6 26 "GreatSort" "runs" "LGreatSort$Runs;" ∈ wsX6_falls := by decide +kernel
set_option maxRecDepth 20000 in
theorem m_X6_falls_1 : Cond.fieldLink RX6 12 "GreatSort" "rows" "LGreatSort$Rows;" ∈ wsX6_falls := by decide +kernel
set_option maxHeartbeats 4000000 in
set_option maxRecDepth 100000 in
theorem c_X6_falls (l : Launch) (dC : Nat → ClassId) (dI : Nat → Nat → Nat) (cI cJ cZ : ClassId) (aG aW aH aR aP aC aO : Nat → Nat) (N : Nat) (W_sorts : (Nat → Int32)) (W_values : (Nat → Int32)) (W_turns : (Nat → Int32)) (W_falling : (Nat → Int32)) (W_count : Int32) (H_items : (Nat → Int64)) (H_size : Int32) (R_members : (Nat → Int32)) (R_starts : (Nat → Int32)) (R_inOrder : (Nat → Int32)) (R_standing : (Nat → Int32)) (R_heads : (Nat → Int32)) (R_tails : (Nat → Int32)) (R_rowsInAll : Int32) (R_made : Int32) (R_all : Int32) (R_filled : Int32) (P_takenRuns : (Nat → Int32)) (P_starts : (Nat → Int32)) (P_queued : (Nat → Int32)) (P_merges : Int32) (P_told : Int32) (C_sampled : (Nat → Int32)) (C_sampleStandings : (Nat → Int32)) (C_sizes : (Nat → Int32)) (C_ends : (Nat → Int32)) (C_lies : (Nat → Int32)) (C_merged : (Nat → Int32)) (C_reached : (Nat → Int32)) (C_done : (Nat → Int32)) (C_mergedBy : (Nat → Int32)) (C_parts : Int32) (C_samples : Int32) (C_bound : Int32) (C_ticks : Int32) (C_mergedInAll : Int32) (C_mergedAgain : Int32) (O_paces : (Nat → Int32)) (O_up : (Nat → Int32)) (v1 : Int32) (v2 : Int32) {r : Int32} {o_W_falling : (Nat → Int32)} (hf : f_X6_falls N W_falling R_made v1 v2 = some (r, o_W_falling)) :
    CtI l yX6_falls wsX6_falls rm_X6_falls (dC, dI) (tyl cI cJ cZ) [.ref (aG 0), .int v1, .int v2] (w_GWHRPCO aG aW aH aR aP aC aO cI cJ cZ W_sorts W_values W_turns W_falling W_count H_items H_size R_members R_starts R_inOrder R_standing R_heads R_tails R_rowsInAll R_made R_all R_filled P_takenRuns P_starts P_queued P_merges P_told C_sampled C_sampleStandings C_sizes C_ends C_lies C_merged C_reached C_done C_mergedBy C_parts C_samples C_bound C_ticks C_mergedInAll C_mergedAgain O_paces O_up) (w_GWHRPCO aG aW aH aR aP aC aO cI cJ cZ W_sorts W_values W_turns o_W_falling W_count H_items H_size R_members R_starts R_inOrder R_standing R_heads R_tails R_rowsInAll R_made R_all R_filled P_takenRuns P_starts P_queued P_merges P_told C_sampled C_sampleStandings C_sizes C_ends C_lies C_merged C_reached C_done C_mergedBy C_parts C_samples C_bound C_ticks C_mergedInAll C_mergedAgain O_paces O_up) r := by
  refine startI (cc := cX6_falls) (maxL := 3) (rt := (some .boolean)) (by decide +kernel) rfl (Nat.le_of_ble_eq_true rfl) ?_
  intro p e s m below meth c A ls X hr hlocks hw hl
  replace X : Cx p m c cX6_falls 3 s _ wsX6_falls RX6 (dC, dI) (tyl cI cJ cZ) A := X
  replace hl : lv_has ls 3 [(0, .ref (aG 0)), (1, .int v1), (2, .int v2)] := hl
  obtain ⟨hx, hb, hml, hown, hts⟩ := X.1
  have hK := X.2.1
  have hN := X.2.2.2
  unfold f_X6_falls at hf
  refine lv_aload_n hx hb dX6_falls_0 rfl (lv_at hl 0 rfl) ?_
  refine va_get (D := (dC, dI)) (ci := 6) (v := .ref (aR 0)) (C := RX6) (T := TX6) (N := 6) hx hb hts i_X6_falls_X6 hown hK hw.1 0 rfl rfl 2 (by decide) (hts _ m_X6_falls_0) (fun _ h9 => h9) rfl dX6_falls_1 ?_
  refine va_getN (D := (dC, dI)) (ci := 5) (v := .int R_made) (C := RX5) (T := TX5) (N := 10) hx hb hts i_X6_falls_X5 hown hK hw.1 8 rfl rfl 7 (by decide) (va_Nw.use rfl (hN _ nk_16)) (fun _ h9 => h9) rfl dX6_falls_4 ?_
  refine lv_if_gt (tgt := 19) hx hb dX6_falls_7 (by decide) (fun b1 => ?_) (fun b1 => ?_)
  · replace hf := it_t hf b1
    refine lv_iconst (v := 0) hx hb dX6_falls_19 (by decide) ?_
    have g2 := bz_nar (gd_l hf)
    replace hf := gd_r hf
    cases hf
    exact endI X hr g2 hlocks rfl hw dX6_falls_20
  · replace hf := it_f hf b1
    refine lv_iload_n hx hb dX6_falls_10 rfl (lv_at hl 1 rfl) ?_
    refine lv_iconst (v := 0) hx hb dX6_falls_11 (by decide) ?_
    refine lv_iconst (v := 3) hx hb dX6_falls_12 (by decide) ?_
    obtain ⟨r3, h4, hf⟩ := bd1_ob hf
    refine clSI (As := [.int v1, .int (0 : Int32), .int (3 : Int32)]) (rest := []) X (c_X6_isIn l dC dI cI cJ cZ N v1 (0 : Int32) (3 : Int32) h4) (va_cwS 3 hts gX6_falls_X6_isIn rfl rfl rfl (by decide +kernel) ⟨Nat.le_of_ble_eq_true rfl, Nat.le_of_ble_eq_true rfl⟩) hw [] rfl rfl rfl rfl hl.1 rfl (Nat.le_of_ble_eq_true rfl) dX6_falls_13 ⟨Nat.zero_le _, Nat.zero_le _⟩ (fun H locs hw => ?_)
    replace hw : Wd (dC, dI) A s.heap H locs (w_GWHRPCO aG aW aH aR aP aC aO cI cJ cZ W_sorts W_values W_turns W_falling W_count H_items H_size R_members R_starts R_inOrder R_standing R_heads R_tails R_rowsInAll R_made R_all R_filled P_takenRuns P_starts P_queued P_merges P_told C_sampled C_sampleStandings C_sizes C_ends C_lies C_merged C_reached C_done C_mergedBy C_parts C_samples C_bound C_ticks C_mergedInAll C_mergedAgain O_paces O_up) := hw
    refine lv_if_ne (tgt := 21) hx hb dX6_falls_16 (by decide) (fun b5 => ?_) (fun b5 => ?_)
    · replace hf := it_f hf b5
      refine lv_aload_n hx hb dX6_falls_21 rfl (lv_at hl 0 rfl) ?_
      refine va_get (D := (dC, dI)) (ci := 6) (v := .ref (aW 0)) (C := RX6) (T := TX6) (N := 6) hx hb hts i_X6_falls_X6 hown hK hw.1 0 rfl rfl 0 (by decide) (hts _ m_X6_falls_1) (fun _ h9 => h9) rfl dX6_falls_22 ?_
      refine va_getN (D := (dC, dI)) (ci := 4) (v := .ref (aW 4)) (C := RX4) (T := TX4) (N := 5) hx hb hts i_X6_falls_X4 hown hK hw.1 1 rfl rfl 3 (by decide) (va_Nw.use rfl (hN _ nk_18)) (fun _ h9 => h9) rfl dX6_falls_25 ?_
      refine lv_iload_n hx hb dX6_falls_28 rfl (lv_at hl 1 rfl) ?_
      refine lv_iload_n hx hb dX6_falls_29 rfl (lv_at hl 2 rfl) ?_
      have g6 := ix_in (gd_l hf)
      replace hf := gd_r hf
      refine g_zast hx hb hK hw 5 2 rfl rfl g6 dX6_falls_30 (fun H locs hw => ?_)
      replace hw : Wd (dC, dI) A s.heap H locs (w_GWHRPCO aG aW aH aR aP aC aO cI cJ cZ W_sorts W_values W_turns (upd W_falling v1.toNatClampNeg (vp_nar .boolean v2)) W_count H_items H_size R_members R_starts R_inOrder R_standing R_heads R_tails R_rowsInAll R_made R_all R_filled P_takenRuns P_starts P_queued P_merges P_told C_sampled C_sampleStandings C_sizes C_ends C_lies C_merged C_reached C_done C_mergedBy C_parts C_samples C_bound C_ticks C_mergedInAll C_mergedAgain O_paces O_up) := hw
      refine lv_iconst (v := 1) hx hb dX6_falls_31 (by decide) ?_
      have g7 := bz_nar (gd_l hf)
      replace hf := gd_r hf
      cases hf
      exact endI X hr g7 hlocks rfl hw dX6_falls_32
    · replace hf := it_t hf b5
      refine lv_iconst (v := 0) hx hb dX6_falls_19 (by decide) ?_
      have g8 := bz_nar (gd_l hf)
      replace hf := gd_r hf
      cases hf
      exact endI X hr g8 hlocks rfl hw dX6_falls_20
def rm_X6_row : Room := { frames := 2, cells := 0, slots := 0, locals := 43 }
set_option maxRecDepth 20000 in
theorem i_X6_row_X6 : ∀ w ∈ u_ws RX6 TX6 6, w ∈ wsX6_row := by decide +kernel
set_option maxRecDepth 20000 in
theorem i_X6_row_X4 : ∀ w ∈ u_ws RX4 TX4 5, w ∈ wsX6_row := by decide +kernel
set_option maxRecDepth 20000 in
theorem m_X6_row_0 : Cond.fieldLink RX6 12 "GreatSort" "rows" "LGreatSort$Rows;" ∈ wsX6_row := by decide +kernel
set_option maxRecDepth 20000 in
theorem m_X6_row_1 : Cond.constant RX6 91 (-1000000) ∈ wsX6_row := by decide +kernel
set_option maxHeartbeats 4000000 in
set_option maxRecDepth 100000 in
theorem c_X6_row (l : Launch) (dC : Nat → ClassId) (dI : Nat → Nat → Nat) (cI cJ cZ : ClassId) (aG aW aH aR aP aC aO : Nat → Nat) (N : Nat) (W_sorts : (Nat → Int32)) (W_values : (Nat → Int32)) (W_turns : (Nat → Int32)) (W_falling : (Nat → Int32)) (W_count : Int32) (H_items : (Nat → Int64)) (H_size : Int32) (R_members : (Nat → Int32)) (R_starts : (Nat → Int32)) (R_inOrder : (Nat → Int32)) (R_standing : (Nat → Int32)) (R_heads : (Nat → Int32)) (R_tails : (Nat → Int32)) (R_rowsInAll : Int32) (R_made : Int32) (R_all : Int32) (R_filled : Int32) (P_takenRuns : (Nat → Int32)) (P_starts : (Nat → Int32)) (P_queued : (Nat → Int32)) (P_merges : Int32) (P_told : Int32) (C_sampled : (Nat → Int32)) (C_sampleStandings : (Nat → Int32)) (C_sizes : (Nat → Int32)) (C_ends : (Nat → Int32)) (C_lies : (Nat → Int32)) (C_merged : (Nat → Int32)) (C_reached : (Nat → Int32)) (C_done : (Nat → Int32)) (C_mergedBy : (Nat → Int32)) (C_parts : Int32) (C_samples : Int32) (C_bound : Int32) (C_ticks : Int32) (C_mergedInAll : Int32) (C_mergedAgain : Int32) (O_paces : (Nat → Int32)) (O_up : (Nat → Int32)) (v1 : Int32) (v2 : Int32) {r : Int32} (hf : f_X6_row N W_sorts W_values W_count v1 v2 = some r) :
    CtI l yX6_row wsX6_row rm_X6_row (dC, dI) (tyl cI cJ cZ) [.ref (aG 0), .int v1, .int v2] (w_GWHRPCO aG aW aH aR aP aC aO cI cJ cZ W_sorts W_values W_turns W_falling W_count H_items H_size R_members R_starts R_inOrder R_standing R_heads R_tails R_rowsInAll R_made R_all R_filled P_takenRuns P_starts P_queued P_merges P_told C_sampled C_sampleStandings C_sizes C_ends C_lies C_merged C_reached C_done C_mergedBy C_parts C_samples C_bound C_ticks C_mergedInAll C_mergedAgain O_paces O_up) (w_GWHRPCO aG aW aH aR aP aC aO cI cJ cZ W_sorts W_values W_turns W_falling W_count H_items H_size R_members R_starts R_inOrder R_standing R_heads R_tails R_rowsInAll R_made R_all R_filled P_takenRuns P_starts P_queued P_merges P_told C_sampled C_sampleStandings C_sizes C_ends C_lies C_merged C_reached C_done C_mergedBy C_parts C_samples C_bound C_ticks C_mergedInAll C_mergedAgain O_paces O_up) r := by
  refine startI (cc := cX6_row) (maxL := 3) (rt := (some .int)) (by decide +kernel) rfl (Nat.le_of_ble_eq_true rfl) ?_
  intro p e s m below meth c A ls X hr hlocks hw hl
  replace X : Cx p m c cX6_row 3 s _ wsX6_row RX6 (dC, dI) (tyl cI cJ cZ) A := X
  replace hl : lv_has ls 3 [(0, .ref (aG 0)), (1, .int v1), (2, .int v2)] := hl
  obtain ⟨hx, hb, hml, hown, hts⟩ := X.1
  have hK := X.2.1
  have hN := X.2.2.2
  unfold f_X6_row at hf
  refine lv_aload_n hx hb dX6_row_0 rfl (lv_at hl 0 rfl) ?_
  refine va_get (D := (dC, dI)) (ci := 6) (v := .ref (aW 0)) (C := RX6) (T := TX6) (N := 6) hx hb hts i_X6_row_X6 hown hK hw.1 0 rfl rfl 0 (by decide) (hts _ m_X6_row_0) (fun _ h9 => h9) rfl dX6_row_1 ?_
  refine lv_iload_n hx hb dX6_row_4 rfl (lv_at hl 1 rfl) ?_
  obtain ⟨r1, h2, hf⟩ := bd1_ob hf
  refine clVI (As := [.int v1]) (rest := []) X (c_X4_has l dC dI cI cJ cZ aW N W_sorts W_values W_turns W_falling W_count v1 h2) (cwV 1 hts gX6_row_X4_has rfl rfl rfl (by decide +kernel) ⟨Nat.le_of_ble_eq_true rfl, Nat.le_of_ble_eq_true rfl⟩) (ci := 4) (k0 := 0) rfl rfl rfl hw [1, 2, 3, 4, 5] rfl rfl rfl rfl hl.1 rfl (Nat.le_of_ble_eq_true rfl) dX6_row_5 ⟨Nat.zero_le _, Nat.zero_le _⟩ (fun H locs hw => ?_)
  replace hw : Wd (dC, dI) A s.heap H locs (w_GWHRPCO aG aW aH aR aP aC aO cI cJ cZ W_sorts W_values W_turns W_falling W_count H_items H_size R_members R_starts R_inOrder R_standing R_heads R_tails R_rowsInAll R_made R_all R_filled P_takenRuns P_starts P_queued P_merges P_told C_sampled C_sampleStandings C_sizes C_ends C_lies C_merged C_reached C_done C_mergedBy C_parts C_samples C_bound C_ticks C_mergedInAll C_mergedAgain O_paces O_up) := hw
  refine lv_if_ne (tgt := 14) hx hb dX6_row_8 (by decide) (fun b3 => ?_) (fun b3 => ?_)
  · replace hf := it_f hf b3
    refine lv_iload_n hx hb dX6_row_14 rfl (lv_at hl 2 rfl) ?_
    by_cases b4 : v2 = 0
    · replace hf := it_t hf b4
      refine lv_lookup (tgt := 40) (off := 25) hx hb dX6_row_15 (by decide) (by rw [b4]; first | done | rfl) (by decide) ?_
      refine lv_aload_n hx hb dX6_row_40 rfl (lv_at hl 0 rfl) ?_
      refine va_get (D := (dC, dI)) (ci := 6) (v := .ref (aW 0)) (C := RX6) (T := TX6) (N := 6) hx hb hts i_X6_row_X6 hown hK hw.1 0 rfl rfl 0 (by decide) (hts _ m_X6_row_0) (fun _ h9 => h9) rfl dX6_row_41 ?_
      refine va_getN (D := (dC, dI)) (ci := 4) (v := .ref (aW 1)) (C := RX4) (T := TX4) (N := 5) hx hb hts i_X6_row_X4 hown hK hw.1 1 rfl rfl 0 (by decide) (va_Nw.use rfl (hN _ nk_19)) (fun _ h9 => h9) rfl dX6_row_44 ?_
      refine lv_iload_n hx hb dX6_row_47 rfl (lv_at hl 1 rfl) ?_
      have g5 := ix_in (gd_l hf)
      replace hf := gd_r hf
      refine va_iald hx hb hK hw.1 2 0 rfl rfl g5 dX6_row_48 ?_
      cases hf
      exact endI X hr rfl hlocks rfl hw dX6_row_49
    · replace hf := it_f hf b4
      by_cases b6 : v2 = 1
      · replace hf := it_t hf b6
        refine lv_lookup (tgt := 50) (off := 35) hx hb dX6_row_15 (by decide) (by rw [b6]; first | done | rfl) (by decide) ?_
        refine lv_aload_n hx hb dX6_row_50 rfl (lv_at hl 0 rfl) ?_
        refine va_get (D := (dC, dI)) (ci := 6) (v := .ref (aW 0)) (C := RX6) (T := TX6) (N := 6) hx hb hts i_X6_row_X6 hown hK hw.1 0 rfl rfl 0 (by decide) (hts _ m_X6_row_0) (fun _ h9 => h9) rfl dX6_row_51 ?_
        refine va_getN (D := (dC, dI)) (ci := 4) (v := .ref (aW 2)) (C := RX4) (T := TX4) (N := 5) hx hb hts i_X6_row_X4 hown hK hw.1 1 rfl rfl 1 (by decide) (va_Nw.use rfl (hN _ nk_20)) (fun _ h9 => h9) rfl dX6_row_54 ?_
        refine lv_iload_n hx hb dX6_row_57 rfl (lv_at hl 1 rfl) ?_
        have g7 := ix_in (gd_l hf)
        replace hf := gd_r hf
        refine va_iald hx hb hK hw.1 3 0 rfl rfl g7 dX6_row_58 ?_
        cases hf
        exact endI X hr rfl hlocks rfl hw dX6_row_59
      · replace hf := it_f hf b6
        refine lv_lookup (tgt := 60) (off := 45) hx hb dX6_row_15 (by decide) (by rw [lv_osw b4 (a := 0) (by decide), lv_osw b6 (a := 1) (by decide)]; first | done | rfl) (by decide) ?_
        refine lv_ldc (v := (-1000000)) hx hb hown (hts _ m_X6_row_1) dX6_row_60 ?_
        cases hf
        exact endI X hr rfl hlocks rfl hw dX6_row_62
  · replace hf := it_t hf b3
    refine lv_ldc (v := (-1000000)) hx hb hown (hts _ m_X6_row_1) dX6_row_11 ?_
    cases hf
    exact endI X hr rfl hlocks rfl hw dX6_row_13
def rm_X6_against : Room := { frames := 3, cells := 0, slots := 0, locals := 66 }
set_option maxRecDepth 20000 in
theorem i_X6_against_X6 : ∀ w ∈ u_ws RX6 TX6 6, w ∈ wsX6_against := by decide +kernel
set_option maxRecDepth 20000 in
theorem m_X6_against_0 : Cond.fieldLink RX6 12 "GreatSort" "rows" "LGreatSort$Rows;" ∈ wsX6_against := by decide +kernel
set_option maxHeartbeats 4000000 in
set_option maxRecDepth 100000 in
theorem c_X6_against (l : Launch) (dC : Nat → ClassId) (dI : Nat → Nat → Nat) (cI cJ cZ : ClassId) (aG aW aH aR aP aC aO : Nat → Nat) (N : Nat) (W_sorts : (Nat → Int32)) (W_values : (Nat → Int32)) (W_turns : (Nat → Int32)) (W_falling : (Nat → Int32)) (W_count : Int32) (H_items : (Nat → Int64)) (H_size : Int32) (R_members : (Nat → Int32)) (R_starts : (Nat → Int32)) (R_inOrder : (Nat → Int32)) (R_standing : (Nat → Int32)) (R_heads : (Nat → Int32)) (R_tails : (Nat → Int32)) (R_rowsInAll : Int32) (R_made : Int32) (R_all : Int32) (R_filled : Int32) (P_takenRuns : (Nat → Int32)) (P_starts : (Nat → Int32)) (P_queued : (Nat → Int32)) (P_merges : Int32) (P_told : Int32) (C_sampled : (Nat → Int32)) (C_sampleStandings : (Nat → Int32)) (C_sizes : (Nat → Int32)) (C_ends : (Nat → Int32)) (C_lies : (Nat → Int32)) (C_merged : (Nat → Int32)) (C_reached : (Nat → Int32)) (C_done : (Nat → Int32)) (C_mergedBy : (Nat → Int32)) (C_parts : Int32) (C_samples : Int32) (C_bound : Int32) (C_ticks : Int32) (C_mergedInAll : Int32) (C_mergedAgain : Int32) (O_paces : (Nat → Int32)) (O_up : (Nat → Int32)) (v1 : Int32) (v2 : Int32) {r : Int32} (hf : f_X6_against N W_sorts W_values W_turns W_falling W_count v1 v2 = some r) :
    CtI l yX6_against wsX6_against rm_X6_against (dC, dI) (tyl cI cJ cZ) [.ref (aG 0), .int v1, .int v2] (w_GWHRPCO aG aW aH aR aP aC aO cI cJ cZ W_sorts W_values W_turns W_falling W_count H_items H_size R_members R_starts R_inOrder R_standing R_heads R_tails R_rowsInAll R_made R_all R_filled P_takenRuns P_starts P_queued P_merges P_told C_sampled C_sampleStandings C_sizes C_ends C_lies C_merged C_reached C_done C_mergedBy C_parts C_samples C_bound C_ticks C_mergedInAll C_mergedAgain O_paces O_up) (w_GWHRPCO aG aW aH aR aP aC aO cI cJ cZ W_sorts W_values W_turns W_falling W_count H_items H_size R_members R_starts R_inOrder R_standing R_heads R_tails R_rowsInAll R_made R_all R_filled P_takenRuns P_starts P_queued P_merges P_told C_sampled C_sampleStandings C_sizes C_ends C_lies C_merged C_reached C_done C_mergedBy C_parts C_samples C_bound C_ticks C_mergedInAll C_mergedAgain O_paces O_up) r := by
  refine startI (cc := cX6_against) (maxL := 3) (rt := (some .int)) (by decide +kernel) rfl (Nat.le_of_ble_eq_true rfl) ?_
  intro p e s m below meth c A ls X hr hlocks hw hl
  replace X : Cx p m c cX6_against 3 s _ wsX6_against RX6 (dC, dI) (tyl cI cJ cZ) A := X
  replace hl : lv_has ls 3 [(0, .ref (aG 0)), (1, .int v1), (2, .int v2)] := hl
  obtain ⟨hx, hb, hml, hown, hts⟩ := X.1
  have hK := X.2.1
  have hN := X.2.2.2
  unfold f_X6_against at hf
  refine lv_aload_n hx hb dX6_against_0 rfl (lv_at hl 0 rfl) ?_
  refine va_get (D := (dC, dI)) (ci := 6) (v := .ref (aW 0)) (C := RX6) (T := TX6) (N := 6) hx hb hts i_X6_against_X6 hown hK hw.1 0 rfl rfl 0 (by decide) (hts _ m_X6_against_0) (fun _ h9 => h9) rfl dX6_against_1 ?_
  refine lv_iload_n hx hb dX6_against_4 rfl (lv_at hl 1 rfl) ?_
  obtain ⟨r1, h2, hf⟩ := bd1_ob hf
  refine clVI (As := [.int v1]) (rest := []) X (c_X4_has l dC dI cI cJ cZ aW N W_sorts W_values W_turns W_falling W_count v1 h2) (cwV 1 hts gX6_against_X4_has rfl rfl rfl (by decide +kernel) ⟨Nat.le_of_ble_eq_true rfl, Nat.le_of_ble_eq_true rfl⟩) (ci := 4) (k0 := 0) rfl rfl rfl hw [1, 2, 3, 4, 5] rfl rfl rfl rfl hl.1 rfl (Nat.le_of_ble_eq_true rfl) dX6_against_5 ⟨Nat.zero_le _, Nat.zero_le _⟩ (fun H locs hw => ?_)
  replace hw : Wd (dC, dI) A s.heap H locs (w_GWHRPCO aG aW aH aR aP aC aO cI cJ cZ W_sorts W_values W_turns W_falling W_count H_items H_size R_members R_starts R_inOrder R_standing R_heads R_tails R_rowsInAll R_made R_all R_filled P_takenRuns P_starts P_queued P_merges P_told C_sampled C_sampleStandings C_sizes C_ends C_lies C_merged C_reached C_done C_mergedBy C_parts C_samples C_bound C_ticks C_mergedInAll C_mergedAgain O_paces O_up) := hw
  refine lv_if_eq (tgt := 22) hx hb dX6_against_8 (by decide) (fun b3 => ?_) (fun b3 => ?_)
  · replace hf := it_t hf b3
    refine lv_bipush (v := (-2)) hx hb dX6_against_22 (by decide) ?_
    cases hf
    exact endI X hr rfl hlocks rfl hw dX6_against_24
  · replace hf := it_f hf b3
    refine lv_aload_n hx hb dX6_against_11 rfl (lv_at hl 0 rfl) ?_
    refine va_get (D := (dC, dI)) (ci := 6) (v := .ref (aW 0)) (C := RX6) (T := TX6) (N := 6) hx hb hts i_X6_against_X6 hown hK hw.1 0 rfl rfl 0 (by decide) (hts _ m_X6_against_0) (fun _ h9 => h9) rfl dX6_against_12 ?_
    refine lv_iload_n hx hb dX6_against_15 rfl (lv_at hl 2 rfl) ?_
    obtain ⟨r4, h5, hf⟩ := bd1_ob hf
    refine clVI (As := [.int v2]) (rest := []) X (c_X4_has l dC dI cI cJ cZ aW N W_sorts W_values W_turns W_falling W_count v2 h5) (cwV 1 hts gX6_against_X4_has rfl rfl rfl (by decide +kernel) ⟨Nat.le_of_ble_eq_true rfl, Nat.le_of_ble_eq_true rfl⟩) (ci := 4) (k0 := 0) rfl rfl rfl hw [1, 2, 3, 4, 5] rfl rfl rfl rfl hl.1 rfl (Nat.le_of_ble_eq_true rfl) dX6_against_16 ⟨Nat.zero_le _, Nat.zero_le _⟩ (fun H locs hw => ?_)
    replace hw : Wd (dC, dI) A s.heap H locs (w_GWHRPCO aG aW aH aR aP aC aO cI cJ cZ W_sorts W_values W_turns W_falling W_count H_items H_size R_members R_starts R_inOrder R_standing R_heads R_tails R_rowsInAll R_made R_all R_filled P_takenRuns P_starts P_queued P_merges P_told C_sampled C_sampleStandings C_sizes C_ends C_lies C_merged C_reached C_done C_mergedBy C_parts C_samples C_bound C_ticks C_mergedInAll C_mergedAgain O_paces O_up) := hw
    refine lv_if_ne (tgt := 25) hx hb dX6_against_19 (by decide) (fun b6 => ?_) (fun b6 => ?_)
    · replace hf := it_f hf b6
      refine lv_aload_n hx hb dX6_against_25 rfl (lv_at hl 0 rfl) ?_
      refine va_get (D := (dC, dI)) (ci := 6) (v := .ref (aW 0)) (C := RX6) (T := TX6) (N := 6) hx hb hts i_X6_against_X6 hown hK hw.1 0 rfl rfl 0 (by decide) (hts _ m_X6_against_0) (fun _ h9 => h9) rfl dX6_against_26 ?_
      refine lv_iload_n hx hb dX6_against_29 rfl (lv_at hl 1 rfl) ?_
      obtain ⟨r7, h8, hf⟩ := bd1_ob hf
      refine clVI (As := [.int v1]) (rest := []) X (c_X4_placeOf l dC dI cI cJ cZ aW N W_sorts W_values W_turns W_falling W_count v1 h8) (cwV 1 hts gX6_against_X4_placeOf rfl rfl rfl (by decide +kernel) ⟨Nat.le_of_ble_eq_true rfl, Nat.le_of_ble_eq_true rfl⟩) (ci := 4) (k0 := 0) rfl rfl rfl hw [1, 2, 3, 4, 5] rfl rfl rfl rfl hl.1 rfl (Nat.le_of_ble_eq_true rfl) dX6_against_30 ⟨Nat.zero_le _, Nat.zero_le _⟩ (fun H locs hw => ?_)
      replace hw : Wd (dC, dI) A s.heap H locs (w_GWHRPCO aG aW aH aR aP aC aO cI cJ cZ W_sorts W_values W_turns W_falling W_count H_items H_size R_members R_starts R_inOrder R_standing R_heads R_tails R_rowsInAll R_made R_all R_filled P_takenRuns P_starts P_queued P_merges P_told C_sampled C_sampleStandings C_sizes C_ends C_lies C_merged C_reached C_done C_mergedBy C_parts C_samples C_bound C_ticks C_mergedInAll C_mergedAgain O_paces O_up) := hw
      refine lv_aload_n hx hb dX6_against_33 rfl (lv_at hl 0 rfl) ?_
      refine va_get (D := (dC, dI)) (ci := 6) (v := .ref (aW 0)) (C := RX6) (T := TX6) (N := 6) hx hb hts i_X6_against_X6 hown hK hw.1 0 rfl rfl 0 (by decide) (hts _ m_X6_against_0) (fun _ h9 => h9) rfl dX6_against_34 ?_
      refine lv_iload_n hx hb dX6_against_37 rfl (lv_at hl 2 rfl) ?_
      obtain ⟨r9, h10, hf⟩ := bd1_ob hf
      refine clVI (As := [.int v2]) (rest := [.int r7]) X (c_X4_placeOf l dC dI cI cJ cZ aW N W_sorts W_values W_turns W_falling W_count v2 h10) (cwV 1 hts gX6_against_X4_placeOf rfl rfl rfl (by decide +kernel) ⟨Nat.le_of_ble_eq_true rfl, Nat.le_of_ble_eq_true rfl⟩) (ci := 4) (k0 := 0) rfl rfl rfl hw [1, 2, 3, 4, 5] rfl rfl rfl rfl hl.1 rfl (Nat.le_of_ble_eq_true rfl) dX6_against_38 ⟨Nat.zero_le _, Nat.zero_le _⟩ (fun H locs hw => ?_)
      replace hw : Wd (dC, dI) A s.heap H locs (w_GWHRPCO aG aW aH aR aP aC aO cI cJ cZ W_sorts W_values W_turns W_falling W_count H_items H_size R_members R_starts R_inOrder R_standing R_heads R_tails R_rowsInAll R_made R_all R_filled P_takenRuns P_starts P_queued P_merges P_told C_sampled C_sampleStandings C_sizes C_ends C_lies C_merged C_reached C_done C_mergedBy C_parts C_samples C_bound C_ticks C_mergedInAll C_mergedAgain O_paces O_up) := hw
      obtain ⟨r11, h12, hf⟩ := bd1_ob hf
      refine clSI (As := [.int r7, .int r9]) (rest := []) X (c_J6_compare_7cf53 l dC dI cI cJ cZ N r7 r9 h12) (va_cwS 2 hts gX6_against_J6_compare_7cf53 rfl rfl rfl (by decide +kernel) ⟨Nat.le_of_ble_eq_true rfl, Nat.le_of_ble_eq_true rfl⟩) hw [] rfl rfl rfl rfl hl.1 rfl (Nat.le_of_ble_eq_true rfl) dX6_against_41 ⟨Nat.zero_le _, Nat.zero_le _⟩ (fun H locs hw => ?_)
      replace hw : Wd (dC, dI) A s.heap H locs (w_GWHRPCO aG aW aH aR aP aC aO cI cJ cZ W_sorts W_values W_turns W_falling W_count H_items H_size R_members R_starts R_inOrder R_standing R_heads R_tails R_rowsInAll R_made R_all R_filled P_takenRuns P_starts P_queued P_merges P_told C_sampled C_sampleStandings C_sizes C_ends C_lies C_merged C_reached C_done C_mergedBy C_parts C_samples C_bound C_ticks C_mergedInAll C_mergedAgain O_paces O_up) := hw
      cases hf
      exact endI X hr rfl hlocks rfl hw dX6_against_44
    · replace hf := it_t hf b6
      refine lv_bipush (v := (-2)) hx hb dX6_against_22 (by decide) ?_
      cases hf
      exact endI X hr rfl hlocks rfl hw dX6_against_24
