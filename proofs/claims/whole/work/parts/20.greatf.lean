def rm_X6_cut : Room := { frames := 6, cells := 0, slots := 0, locals := 138 }
set_option maxRecDepth 20000 in
theorem i_X6_cut_X6 : ∀ w ∈ u_ws RX6 TX6 6, w ∈ wsX6_cut := by decide +kernel
set_option maxRecDepth 20000 in
theorem i_X6_cut_X5 : ∀ w ∈ u_ws RX5 TX5 10, w ∈ wsX6_cut := by decide +kernel
set_option maxRecDepth 20000 in
theorem i_X6_cut_X0 : ∀ w ∈ u_ws RX0 TX0 15, w ∈ wsX6_cut := by decide +kernel
set_option maxRecDepth 20000 in
theorem m_X6_cut_0 : Cond.fieldLink RX6 26 "GreatSort" "runs" "LGreatSort$Runs;" ∈ wsX6_cut := by decide +kernel
set_option maxRecDepth 20000 in
theorem m_X6_cut_1 : Cond.fieldLink RX6 40 "GreatSort" "cut" "LGreatSort$Cut;" ∈ wsX6_cut := by decide +kernel
set_option maxRecDepth 20000 in
theorem m_X6_cut_2 : Cond.fieldLink RX6 47 "GreatSort" "hosts" "LGreatSort$Hosts;" ∈ wsX6_cut := by decide +kernel
set_option maxHeartbeats 4000000 in
set_option maxRecDepth 100000 in
theorem c_X6_cut (l : Launch) (dC : Nat → ClassId) (dI : Nat → Nat → Nat) (cI cJ cZ : ClassId) (aG aW aH aR aP aC aO : Nat → Nat) (N : Nat) (W_sorts : (Nat → Int32)) (W_values : (Nat → Int32)) (W_turns : (Nat → Int32)) (W_falling : (Nat → Int32)) (W_count : Int32) (H_items : (Nat → Int64)) (H_size : Int32) (R_members : (Nat → Int32)) (R_starts : (Nat → Int32)) (R_inOrder : (Nat → Int32)) (R_standing : (Nat → Int32)) (R_heads : (Nat → Int32)) (R_tails : (Nat → Int32)) (R_rowsInAll : Int32) (R_made : Int32) (R_all : Int32) (R_filled : Int32) (P_takenRuns : (Nat → Int32)) (P_starts : (Nat → Int32)) (P_queued : (Nat → Int32)) (P_merges : Int32) (P_told : Int32) (C_sampled : (Nat → Int32)) (C_sampleStandings : (Nat → Int32)) (C_sizes : (Nat → Int32)) (C_ends : (Nat → Int32)) (C_lies : (Nat → Int32)) (C_merged : (Nat → Int32)) (C_reached : (Nat → Int32)) (C_done : (Nat → Int32)) (C_mergedBy : (Nat → Int32)) (C_parts : Int32) (C_samples : Int32) (C_bound : Int32) (C_ticks : Int32) (C_mergedInAll : Int32) (C_mergedAgain : Int32) (O_paces : (Nat → Int32)) (O_up : (Nat → Int32)) (v1 : Int32) (v2 : Int32) {r : Int32} {o_C_sampled : (Nat → Int32)} {o_C_sampleStandings : (Nat → Int32)} {o_C_sizes : (Nat → Int32)} {o_C_ends : (Nat → Int32)} {o_C_lies : (Nat → Int32)} {o_C_merged : (Nat → Int32)} {o_C_reached : (Nat → Int32)} {o_C_done : (Nat → Int32)} {o_C_mergedBy : (Nat → Int32)} {o_C_parts : Int32} {o_C_samples : Int32} {o_C_bound : Int32} {o_C_ticks : Int32} {o_C_mergedInAll : Int32} {o_C_mergedAgain : Int32} (hf : f_X6_cut N R_members R_starts R_inOrder R_standing R_rowsInAll R_made R_all C_sampled C_sampleStandings C_sizes C_ends C_lies C_merged C_reached C_done C_mergedBy C_parts C_samples C_bound C_ticks C_mergedInAll C_mergedAgain O_up v1 v2 = some (r, o_C_sampled, o_C_sampleStandings, o_C_sizes, o_C_ends, o_C_lies, o_C_merged, o_C_reached, o_C_done, o_C_mergedBy, o_C_parts, o_C_samples, o_C_bound, o_C_ticks, o_C_mergedInAll, o_C_mergedAgain)) :
    CtI l yX6_cut wsX6_cut rm_X6_cut (dC, dI) (tyl cI cJ cZ) [.ref (aG 0), .int v1, .int v2] (w_GWHRPCO aG aW aH aR aP aC aO cI cJ cZ W_sorts W_values W_turns W_falling W_count H_items H_size R_members R_starts R_inOrder R_standing R_heads R_tails R_rowsInAll R_made R_all R_filled P_takenRuns P_starts P_queued P_merges P_told C_sampled C_sampleStandings C_sizes C_ends C_lies C_merged C_reached C_done C_mergedBy C_parts C_samples C_bound C_ticks C_mergedInAll C_mergedAgain O_paces O_up) (w_GWHRPCO aG aW aH aR aP aC aO cI cJ cZ W_sorts W_values W_turns W_falling W_count H_items H_size R_members R_starts R_inOrder R_standing R_heads R_tails R_rowsInAll R_made R_all R_filled P_takenRuns P_starts P_queued P_merges P_told o_C_sampled o_C_sampleStandings o_C_sizes o_C_ends o_C_lies o_C_merged o_C_reached o_C_done o_C_mergedBy o_C_parts o_C_samples o_C_bound o_C_ticks o_C_mergedInAll o_C_mergedAgain O_paces O_up) r := by
  refine startI (cc := cX6_cut) (maxL := 3) (rt := (some .int)) (by decide +kernel) rfl (Nat.le_of_ble_eq_true rfl) ?_
  intro p e s m below meth c A ls X hr hlocks hw hl
  replace X : Cx p m c cX6_cut 3 s _ wsX6_cut RX6 (dC, dI) (tyl cI cJ cZ) A := X
  replace hl : lv_has ls 3 [(0, .ref (aG 0)), (1, .int v1), (2, .int v2)] := hl
  obtain ⟨hx, hb, hml, hown, hts⟩ := X.1
  have hK := X.2.1
  have hN := X.2.2.2
  unfold f_X6_cut at hf
  refine lv_aload_n hx hb dX6_cut_0 rfl (lv_at hl 0 rfl) ?_
  refine va_get (D := (dC, dI)) (ci := 6) (v := .ref (aR 0)) (C := RX6) (T := TX6) (N := 6) hx hb hts i_X6_cut_X6 hown hK hw.1 0 rfl rfl 2 (by decide) (hts _ m_X6_cut_0) (fun _ h9 => h9) rfl dX6_cut_1 ?_
  refine va_getN (D := (dC, dI)) (ci := 5) (v := .int R_made) (C := RX5) (T := TX5) (N := 10) hx hb hts i_X6_cut_X5 hown hK hw.1 8 rfl rfl 7 (by decide) (va_Nw.use rfl (hN _ nk_16)) (fun _ h9 => h9) rfl dX6_cut_4 ?_
  refine lv_if_eq (tgt := 30) hx hb dX6_cut_7 (by decide) (fun b1 => ?_) (fun b1 => ?_)
  · replace hf := it_t hf b1
    refine lv_iconst (v := (-1)) hx hb dX6_cut_30 (by decide) ?_
    cases hf
    exact endI X hr rfl hlocks rfl hw dX6_cut_31
  · replace hf := it_f hf b1
    refine lv_iload_n hx hb dX6_cut_10 rfl (lv_at hl 1 rfl) ?_
    refine lv_iconst (v := 1) hx hb dX6_cut_11 (by decide) ?_
    refine lv_bipush (v := 8) hx hb dX6_cut_12 (by decide) ?_
    obtain ⟨r2, h3, hf⟩ := bd1_ob hf
    refine clSI (As := [.int v1, .int (1 : Int32), .int (8 : Int32)]) (rest := []) X (c_X6_isIn l dC dI cI cJ cZ N v1 (1 : Int32) (8 : Int32) h3) (va_cwS 3 hts gX6_cut_X6_isIn rfl rfl rfl (by decide +kernel) ⟨Nat.le_of_ble_eq_true rfl, Nat.le_of_ble_eq_true rfl⟩) hw [] rfl rfl rfl rfl hl.1 rfl (Nat.le_of_ble_eq_true rfl) dX6_cut_14 ⟨Nat.zero_le _, Nat.zero_le _⟩ (fun H locs hw => ?_)
    replace hw : Wd (dC, dI) A s.heap H locs (w_GWHRPCO aG aW aH aR aP aC aO cI cJ cZ W_sorts W_values W_turns W_falling W_count H_items H_size R_members R_starts R_inOrder R_standing R_heads R_tails R_rowsInAll R_made R_all R_filled P_takenRuns P_starts P_queued P_merges P_told C_sampled C_sampleStandings C_sizes C_ends C_lies C_merged C_reached C_done C_mergedBy C_parts C_samples C_bound C_ticks C_mergedInAll C_mergedAgain O_paces O_up) := hw
    refine lv_if_eq (tgt := 30) hx hb dX6_cut_17 (by decide) (fun b4 => ?_) (fun b4 => ?_)
    · replace hf := it_t hf b4
      refine lv_iconst (v := (-1)) hx hb dX6_cut_30 (by decide) ?_
      cases hf
      exact endI X hr rfl hlocks rfl hw dX6_cut_31
    · replace hf := it_f hf b4
      refine lv_iload_n hx hb dX6_cut_20 rfl (lv_at hl 2 rfl) ?_
      refine lv_iconst (v := 1) hx hb dX6_cut_21 (by decide) ?_
      refine lv_bipush (v := 20) hx hb dX6_cut_22 (by decide) ?_
      obtain ⟨r5, h6, hf⟩ := bd1_ob hf
      refine clSI (As := [.int v2, .int (1 : Int32), .int (20 : Int32)]) (rest := []) X (c_X6_isIn l dC dI cI cJ cZ N v2 (1 : Int32) (20 : Int32) h6) (va_cwS 3 hts gX6_cut_X6_isIn rfl rfl rfl (by decide +kernel) ⟨Nat.le_of_ble_eq_true rfl, Nat.le_of_ble_eq_true rfl⟩) hw [] rfl rfl rfl rfl hl.1 rfl (Nat.le_of_ble_eq_true rfl) dX6_cut_24 ⟨Nat.zero_le _, Nat.zero_le _⟩ (fun H locs hw => ?_)
      replace hw : Wd (dC, dI) A s.heap H locs (w_GWHRPCO aG aW aH aR aP aC aO cI cJ cZ W_sorts W_values W_turns W_falling W_count H_items H_size R_members R_starts R_inOrder R_standing R_heads R_tails R_rowsInAll R_made R_all R_filled P_takenRuns P_starts P_queued P_merges P_told C_sampled C_sampleStandings C_sizes C_ends C_lies C_merged C_reached C_done C_mergedBy C_parts C_samples C_bound C_ticks C_mergedInAll C_mergedAgain O_paces O_up) := hw
      refine lv_if_ne (tgt := 32) hx hb dX6_cut_27 (by decide) (fun b7 => ?_) (fun b7 => ?_)
      · replace hf := it_f hf b7
        refine lv_aload_n hx hb dX6_cut_32 rfl (lv_at hl 0 rfl) ?_
        refine va_get (D := (dC, dI)) (ci := 6) (v := .ref (aC 0)) (C := RX6) (T := TX6) (N := 6) hx hb hts i_X6_cut_X6 hown hK hw.1 0 rfl rfl 4 (by decide) (hts _ m_X6_cut_1) (fun _ h9 => h9) rfl dX6_cut_33 ?_
        refine lv_aload_n hx hb dX6_cut_36 rfl (lv_at hl 0 rfl) ?_
        refine va_get (D := (dC, dI)) (ci := 6) (v := .ref (aR 0)) (C := RX6) (T := TX6) (N := 6) hx hb hts i_X6_cut_X6 hown hK hw.1 0 rfl rfl 2 (by decide) (hts _ m_X6_cut_0) (fun _ h9 => h9) rfl dX6_cut_37 ?_
        refine lv_iload_n hx hb dX6_cut_40 rfl (lv_at hl 1 rfl) ?_
        refine lv_iload_n hx hb dX6_cut_41 rfl (lv_at hl 2 rfl) ?_
        obtain ⟨c8, c9, c10, c11, c12, c13, c14, c15, c16, c17, c18, c19, c20, c21, h22, hf⟩ := bd14_ob hf
        refine clVV (As := [.ref (aR 0), .int v1, .int v2]) (rest := []) X (c_X0_makeOf l dC dI cI cJ cZ aR aC N R_members R_starts R_inOrder R_standing R_heads R_tails R_rowsInAll R_made R_all R_filled C_sampled C_sampleStandings C_sizes C_ends C_lies C_merged C_reached C_done C_mergedBy C_parts C_samples C_bound C_ticks C_mergedInAll C_mergedAgain v1 v2 h22) (cwV 3 hts gX6_cut_X0_makeOf rfl rfl rfl (by decide +kernel) ⟨Nat.le_of_ble_eq_true rfl, Nat.le_of_ble_eq_true rfl⟩) (ci := 0) (k0 := 7) rfl rfl rfl hw [8, 9, 10, 11, 12, 13, 14, 19, 20, 21, 22, 23, 24, 25, 26, 27, 28] rfl rfl rfl rfl hl.1 rfl (Nat.le_of_ble_eq_true rfl) dX6_cut_42 ⟨Nat.zero_le _, Nat.zero_le _⟩ (fun H locs hw => ?_)
        replace hw : Wd (dC, dI) A s.heap H locs (w_GWHRPCO aG aW aH aR aP aC aO cI cJ cZ W_sorts W_values W_turns W_falling W_count H_items H_size R_members R_starts R_inOrder R_standing R_heads R_tails R_rowsInAll R_made R_all R_filled P_takenRuns P_starts P_queued P_merges P_told c8 c9 c10 c11 C_lies c12 c13 c14 c15 c16 c17 c18 c19 c20 c21 O_paces O_up) := hw
        refine lv_aload_n hx hb dX6_cut_45 rfl (lv_at hl 0 rfl) ?_
        refine va_get (D := (dC, dI)) (ci := 6) (v := .ref (aC 0)) (C := RX6) (T := TX6) (N := 6) hx hb hts i_X6_cut_X6 hown hK hw.1 0 rfl rfl 4 (by decide) (hts _ m_X6_cut_1) (fun _ h9 => h9) rfl dX6_cut_46 ?_
        refine lv_aload_n hx hb dX6_cut_49 rfl (lv_at hl 0 rfl) ?_
        refine va_get (D := (dC, dI)) (ci := 6) (v := .ref (aO 0)) (C := RX6) (T := TX6) (N := 6) hx hb hts i_X6_cut_X6 hown hK hw.1 0 rfl rfl 5 (by decide) (hts _ m_X6_cut_2) (fun _ h9 => h9) rfl dX6_cut_50 ?_
        obtain ⟨c23, c24, c25, h26, hf⟩ := bd3_ob hf
        refine clVV (As := [.ref (aO 0)]) (rest := []) X (c_X0_layOn l dC dI cI cJ cZ aC aO N c8 c9 c10 c11 C_lies c12 c13 c14 c15 c16 c17 c18 c19 c20 c21 O_paces O_up h26) (cwV 1 hts gX6_cut_X0_layOn rfl rfl rfl (by decide +kernel) ⟨Nat.le_of_ble_eq_true rfl, Nat.le_of_ble_eq_true rfl⟩) (ci := 0) (k0 := 0) rfl rfl rfl hw [19, 20, 21, 22, 23, 24, 25, 26, 27, 28, 29, 30, 31] rfl rfl rfl rfl hl.1 rfl (Nat.le_of_ble_eq_true rfl) dX6_cut_53 ⟨Nat.zero_le _, Nat.zero_le _⟩ (fun H locs hw => ?_)
        replace hw : Wd (dC, dI) A s.heap H locs (w_GWHRPCO aG aW aH aR aP aC aO cI cJ cZ W_sorts W_values W_turns W_falling W_count H_items H_size R_members R_starts R_inOrder R_standing R_heads R_tails R_rowsInAll R_made R_all R_filled P_takenRuns P_starts P_queued P_merges P_told c8 c9 c10 c11 c23 c24 c13 c25 c15 c16 c17 c18 c19 c20 c21 O_paces O_up) := hw
        refine lv_aload_n hx hb dX6_cut_56 rfl (lv_at hl 0 rfl) ?_
        refine va_get (D := (dC, dI)) (ci := 6) (v := .ref (aC 0)) (C := RX6) (T := TX6) (N := 6) hx hb hts i_X6_cut_X6 hown hK hw.1 0 rfl rfl 4 (by decide) (hts _ m_X6_cut_1) (fun _ h9 => h9) rfl dX6_cut_57 ?_
        refine va_getN (D := (dC, dI)) (ci := 0) (v := .int c17) (C := RX0) (T := TX0) (N := 15) hx hb hts i_X6_cut_X0 hown hK hw.1 19 rfl rfl 10 (by decide) (va_Nw.use rfl (hN _ nk_2)) (fun _ h9 => h9) rfl dX6_cut_60 ?_
        cases hf
        exact endI X hr rfl hlocks rfl hw dX6_cut_63
      · replace hf := it_t hf b7
        refine lv_iconst (v := (-1)) hx hb dX6_cut_30 (by decide) ?_
        cases hf
        exact endI X hr rfl hlocks rfl hw dX6_cut_31
def rm_X6_bound : Room := { frames := 1, cells := 0, slots := 0, locals := 20 }
set_option maxRecDepth 20000 in
theorem i_X6_bound_X6 : ∀ w ∈ u_ws RX6 TX6 6, w ∈ wsX6_bound := by decide +kernel
set_option maxRecDepth 20000 in
theorem i_X6_bound_X0 : ∀ w ∈ u_ws RX0 TX0 15, w ∈ wsX6_bound := by decide +kernel
set_option maxRecDepth 20000 in
theorem m_X6_bound_0 : Cond.fieldLink RX6 40 "GreatSort" "cut" "LGreatSort$Cut;" ∈ wsX6_bound := by decide +kernel
set_option maxHeartbeats 4000000 in
set_option maxRecDepth 100000 in
theorem c_X6_bound (l : Launch) (dC : Nat → ClassId) (dI : Nat → Nat → Nat) (cI cJ cZ : ClassId) (aG aW aH aR aP aC aO : Nat → Nat) (N : Nat) (W_sorts : (Nat → Int32)) (W_values : (Nat → Int32)) (W_turns : (Nat → Int32)) (W_falling : (Nat → Int32)) (W_count : Int32) (H_items : (Nat → Int64)) (H_size : Int32) (R_members : (Nat → Int32)) (R_starts : (Nat → Int32)) (R_inOrder : (Nat → Int32)) (R_standing : (Nat → Int32)) (R_heads : (Nat → Int32)) (R_tails : (Nat → Int32)) (R_rowsInAll : Int32) (R_made : Int32) (R_all : Int32) (R_filled : Int32) (P_takenRuns : (Nat → Int32)) (P_starts : (Nat → Int32)) (P_queued : (Nat → Int32)) (P_merges : Int32) (P_told : Int32) (C_sampled : (Nat → Int32)) (C_sampleStandings : (Nat → Int32)) (C_sizes : (Nat → Int32)) (C_ends : (Nat → Int32)) (C_lies : (Nat → Int32)) (C_merged : (Nat → Int32)) (C_reached : (Nat → Int32)) (C_done : (Nat → Int32)) (C_mergedBy : (Nat → Int32)) (C_parts : Int32) (C_samples : Int32) (C_bound : Int32) (C_ticks : Int32) (C_mergedInAll : Int32) (C_mergedAgain : Int32) (O_paces : (Nat → Int32)) (O_up : (Nat → Int32))  {r : Int32} (hf : f_X6_bound N C_parts C_bound  = some r) :
    CtI l yX6_bound wsX6_bound rm_X6_bound (dC, dI) (tyl cI cJ cZ) [.ref (aG 0)] (w_GWHRPCO aG aW aH aR aP aC aO cI cJ cZ W_sorts W_values W_turns W_falling W_count H_items H_size R_members R_starts R_inOrder R_standing R_heads R_tails R_rowsInAll R_made R_all R_filled P_takenRuns P_starts P_queued P_merges P_told C_sampled C_sampleStandings C_sizes C_ends C_lies C_merged C_reached C_done C_mergedBy C_parts C_samples C_bound C_ticks C_mergedInAll C_mergedAgain O_paces O_up) (w_GWHRPCO aG aW aH aR aP aC aO cI cJ cZ W_sorts W_values W_turns W_falling W_count H_items H_size R_members R_starts R_inOrder R_standing R_heads R_tails R_rowsInAll R_made R_all R_filled P_takenRuns P_starts P_queued P_merges P_told C_sampled C_sampleStandings C_sizes C_ends C_lies C_merged C_reached C_done C_mergedBy C_parts C_samples C_bound C_ticks C_mergedInAll C_mergedAgain O_paces O_up) r := by
  refine startI (cc := cX6_bound) (maxL := 1) (rt := (some .int)) (by decide +kernel) rfl (Nat.le_of_ble_eq_true rfl) ?_
  intro p e s m below meth c A ls X hr hlocks hw hl
  replace X : Cx p m c cX6_bound 1 s _ wsX6_bound RX6 (dC, dI) (tyl cI cJ cZ) A := X
  replace hl : lv_has ls 1 [(0, .ref (aG 0))] := hl
  obtain ⟨hx, hb, hml, hown, hts⟩ := X.1
  have hK := X.2.1
  have hN := X.2.2.2
  unfold f_X6_bound at hf
  refine lv_aload_n hx hb dX6_bound_0 rfl (lv_at hl 0 rfl) ?_
  refine va_get (D := (dC, dI)) (ci := 6) (v := .ref (aC 0)) (C := RX6) (T := TX6) (N := 6) hx hb hts i_X6_bound_X6 hown hK hw.1 0 rfl rfl 4 (by decide) (hts _ m_X6_bound_0) (fun _ h9 => h9) rfl dX6_bound_1 ?_
  obtain ⟨r1, h2, hf⟩ := bd1_ob hf
  refine clVI (As := []) (rest := []) X (c_X0_stands l dC dI cI cJ cZ aC N C_sampled C_sampleStandings C_sizes C_ends C_lies C_merged C_reached C_done C_mergedBy C_parts C_samples C_bound C_ticks C_mergedInAll C_mergedAgain h2) (cwV 0 hts gX6_bound_X0_stands rfl rfl rfl (by decide +kernel) ⟨Nat.le_of_ble_eq_true rfl, Nat.le_of_ble_eq_true rfl⟩) (ci := 0) (k0 := 0) rfl rfl rfl hw [19, 20, 21, 22, 23, 24, 25, 26, 27, 28] rfl rfl rfl rfl hl.1 rfl (Nat.le_of_ble_eq_true rfl) dX6_bound_4 ⟨Nat.zero_le _, Nat.zero_le _⟩ (fun H locs hw => ?_)
  replace hw : Wd (dC, dI) A s.heap H locs (w_GWHRPCO aG aW aH aR aP aC aO cI cJ cZ W_sorts W_values W_turns W_falling W_count H_items H_size R_members R_starts R_inOrder R_standing R_heads R_tails R_rowsInAll R_made R_all R_filled P_takenRuns P_starts P_queued P_merges P_told C_sampled C_sampleStandings C_sizes C_ends C_lies C_merged C_reached C_done C_mergedBy C_parts C_samples C_bound C_ticks C_mergedInAll C_mergedAgain O_paces O_up) := hw
  refine lv_if_eq (tgt := 20) hx hb dX6_bound_7 (by decide) (fun b3 => ?_) (fun b3 => ?_)
  · replace hf := it_t hf b3
    refine lv_iconst (v := (-1)) hx hb dX6_bound_20 (by decide) ?_
    cases hf
    exact endI X hr rfl hlocks rfl hw dX6_bound_21
  · replace hf := it_f hf b3
    refine lv_aload_n hx hb dX6_bound_10 rfl (lv_at hl 0 rfl) ?_
    refine va_get (D := (dC, dI)) (ci := 6) (v := .ref (aC 0)) (C := RX6) (T := TX6) (N := 6) hx hb hts i_X6_bound_X6 hown hK hw.1 0 rfl rfl 4 (by decide) (hts _ m_X6_bound_0) (fun _ h9 => h9) rfl dX6_bound_11 ?_
    refine va_getN (D := (dC, dI)) (ci := 0) (v := .int C_bound) (C := RX0) (T := TX0) (N := 15) hx hb hts i_X6_bound_X0 hown hK hw.1 19 rfl rfl 11 (by decide) (va_Nw.use rfl (hN _ nk_3)) (fun _ h9 => h9) rfl dX6_bound_14 ?_
    refine lv_goto (tgt := 21) hx hb dX6_bound_17 (by decide) ?_
    cases hf
    exact endI X hr rfl hlocks rfl hw dX6_bound_21
def rm_X6_part : Room := { frames := 1, cells := 0, slots := 0, locals := 22 }
set_option maxRecDepth 20000 in
theorem i_X6_part_X6 : ∀ w ∈ u_ws RX6 TX6 6, w ∈ wsX6_part := by decide +kernel
set_option maxRecDepth 20000 in
theorem i_X6_part_X0 : ∀ w ∈ u_ws RX0 TX0 15, w ∈ wsX6_part := by decide +kernel
set_option maxRecDepth 20000 in
theorem m_X6_part_0 : Cond.fieldLink RX6 40 "GreatSort" "cut" "LGreatSort$Cut;" ∈ wsX6_part := by decide +kernel
set_option maxHeartbeats 4000000 in
set_option maxRecDepth 100000 in
theorem c_X6_part (l : Launch) (dC : Nat → ClassId) (dI : Nat → Nat → Nat) (cI cJ cZ : ClassId) (aG aW aH aR aP aC aO : Nat → Nat) (N : Nat) (W_sorts : (Nat → Int32)) (W_values : (Nat → Int32)) (W_turns : (Nat → Int32)) (W_falling : (Nat → Int32)) (W_count : Int32) (H_items : (Nat → Int64)) (H_size : Int32) (R_members : (Nat → Int32)) (R_starts : (Nat → Int32)) (R_inOrder : (Nat → Int32)) (R_standing : (Nat → Int32)) (R_heads : (Nat → Int32)) (R_tails : (Nat → Int32)) (R_rowsInAll : Int32) (R_made : Int32) (R_all : Int32) (R_filled : Int32) (P_takenRuns : (Nat → Int32)) (P_starts : (Nat → Int32)) (P_queued : (Nat → Int32)) (P_merges : Int32) (P_told : Int32) (C_sampled : (Nat → Int32)) (C_sampleStandings : (Nat → Int32)) (C_sizes : (Nat → Int32)) (C_ends : (Nat → Int32)) (C_lies : (Nat → Int32)) (C_merged : (Nat → Int32)) (C_reached : (Nat → Int32)) (C_done : (Nat → Int32)) (C_mergedBy : (Nat → Int32)) (C_parts : Int32) (C_samples : Int32) (C_bound : Int32) (C_ticks : Int32) (C_mergedInAll : Int32) (C_mergedAgain : Int32) (O_paces : (Nat → Int32)) (O_up : (Nat → Int32)) (v1 : Int32) (v2 : Int32) {r : Int32} (hf : f_X6_part N C_sizes C_ends C_lies C_merged C_parts v1 v2 = some r) :
    CtI l yX6_part wsX6_part rm_X6_part (dC, dI) (tyl cI cJ cZ) [.ref (aG 0), .int v1, .int v2] (w_GWHRPCO aG aW aH aR aP aC aO cI cJ cZ W_sorts W_values W_turns W_falling W_count H_items H_size R_members R_starts R_inOrder R_standing R_heads R_tails R_rowsInAll R_made R_all R_filled P_takenRuns P_starts P_queued P_merges P_told C_sampled C_sampleStandings C_sizes C_ends C_lies C_merged C_reached C_done C_mergedBy C_parts C_samples C_bound C_ticks C_mergedInAll C_mergedAgain O_paces O_up) (w_GWHRPCO aG aW aH aR aP aC aO cI cJ cZ W_sorts W_values W_turns W_falling W_count H_items H_size R_members R_starts R_inOrder R_standing R_heads R_tails R_rowsInAll R_made R_all R_filled P_takenRuns P_starts P_queued P_merges P_told C_sampled C_sampleStandings C_sizes C_ends C_lies C_merged C_reached C_done C_mergedBy C_parts C_samples C_bound C_ticks C_mergedInAll C_mergedAgain O_paces O_up) r := by
  refine startI (cc := cX6_part) (maxL := 3) (rt := (some .int)) (by decide +kernel) rfl (Nat.le_of_ble_eq_true rfl) ?_
  intro p e s m below meth c A ls X hr hlocks hw hl
  replace X : Cx p m c cX6_part 3 s _ wsX6_part RX6 (dC, dI) (tyl cI cJ cZ) A := X
  replace hl : lv_has ls 3 [(0, .ref (aG 0)), (1, .int v1), (2, .int v2)] := hl
  obtain ⟨hx, hb, hml, hown, hts⟩ := X.1
  have hK := X.2.1
  have hN := X.2.2.2
  unfold f_X6_part at hf
  refine lv_iload_n hx hb dX6_part_0 rfl (lv_at hl 1 rfl) ?_
  refine lv_iconst (v := 0) hx hb dX6_part_1 (by decide) ?_
  refine lv_aload_n hx hb dX6_part_2 rfl (lv_at hl 0 rfl) ?_
  refine va_get (D := (dC, dI)) (ci := 6) (v := .ref (aC 0)) (C := RX6) (T := TX6) (N := 6) hx hb hts i_X6_part_X6 hown hK hw.1 0 rfl rfl 4 (by decide) (hts _ m_X6_part_0) (fun _ h9 => h9) rfl dX6_part_3 ?_
  refine va_getN (D := (dC, dI)) (ci := 0) (v := .int C_parts) (C := RX0) (T := TX0) (N := 15) hx hb hts i_X6_part_X0 hown hK hw.1 19 rfl rfl 9 (by decide) (va_Nw.use rfl (hN _ nk_4)) (fun _ h9 => h9) rfl dX6_part_6 ?_
  refine lv_iconst (v := 1) hx hb dX6_part_9 (by decide) ?_
  refine lv_isub hx hb dX6_part_10 ?_
  obtain ⟨r1, h2, hf⟩ := bd1_ob hf
  refine clSI (As := [.int v1, .int (0 : Int32), .int (C_parts - 1)]) (rest := []) X (c_X6_isIn l dC dI cI cJ cZ N v1 (0 : Int32) (C_parts - 1) h2) (va_cwS 3 hts gX6_part_X6_isIn rfl rfl rfl (by decide +kernel) ⟨Nat.le_of_ble_eq_true rfl, Nat.le_of_ble_eq_true rfl⟩) hw [] rfl rfl rfl rfl hl.1 rfl (Nat.le_of_ble_eq_true rfl) dX6_part_11 ⟨Nat.zero_le _, Nat.zero_le _⟩ (fun H locs hw => ?_)
  replace hw : Wd (dC, dI) A s.heap H locs (w_GWHRPCO aG aW aH aR aP aC aO cI cJ cZ W_sorts W_values W_turns W_falling W_count H_items H_size R_members R_starts R_inOrder R_standing R_heads R_tails R_rowsInAll R_made R_all R_filled P_takenRuns P_starts P_queued P_merges P_told C_sampled C_sampleStandings C_sizes C_ends C_lies C_merged C_reached C_done C_mergedBy C_parts C_samples C_bound C_ticks C_mergedInAll C_mergedAgain O_paces O_up) := hw
  refine lv_if_ne (tgt := 20) hx hb dX6_part_14 (by decide) (fun b3 => ?_) (fun b3 => ?_)
  · replace hf := it_f hf b3
    refine lv_iload_n hx hb dX6_part_20 rfl (lv_at hl 2 rfl) ?_
    by_cases b4 : v2 = 0
    · replace hf := it_t hf b4
      refine lv_tableIn (tgt := 52) (off := 31) hx hb dX6_part_21 (by rw [b4]; decide) (by rw [b4]; decide) (by rw [b4]; first | done | decide) (by decide) ?_
      refine lv_aload_n hx hb dX6_part_52 rfl (lv_at hl 0 rfl) ?_
      refine va_get (D := (dC, dI)) (ci := 6) (v := .ref (aC 0)) (C := RX6) (T := TX6) (N := 6) hx hb hts i_X6_part_X6 hown hK hw.1 0 rfl rfl 4 (by decide) (hts _ m_X6_part_0) (fun _ h9 => h9) rfl dX6_part_53 ?_
      refine va_getN (D := (dC, dI)) (ci := 0) (v := .ref (aC 3)) (C := RX0) (T := TX0) (N := 15) hx hb hts i_X6_part_X0 hown hK hw.1 19 rfl rfl 2 (by decide) (va_Nw.use rfl (hN _ nk_5)) (fun _ h9 => h9) rfl dX6_part_56 ?_
      refine lv_iload_n hx hb dX6_part_59 rfl (lv_at hl 1 rfl) ?_
      have g5 := ix_in (gd_l hf)
      replace hf := gd_r hf
      refine va_iald hx hb hK hw.1 22 0 rfl rfl g5 dX6_part_60 ?_
      cases hf
      exact endI X hr rfl hlocks rfl hw dX6_part_61
    · replace hf := it_f hf b4
      by_cases b6 : v2 = 1
      · replace hf := it_t hf b6
        refine lv_tableIn (tgt := 62) (off := 41) hx hb dX6_part_21 (by rw [b6]; decide) (by rw [b6]; decide) (by rw [b6]; first | done | decide) (by decide) ?_
        refine lv_aload_n hx hb dX6_part_62 rfl (lv_at hl 0 rfl) ?_
        refine va_get (D := (dC, dI)) (ci := 6) (v := .ref (aC 0)) (C := RX6) (T := TX6) (N := 6) hx hb hts i_X6_part_X6 hown hK hw.1 0 rfl rfl 4 (by decide) (hts _ m_X6_part_0) (fun _ h9 => h9) rfl dX6_part_63 ?_
        refine va_getN (D := (dC, dI)) (ci := 0) (v := .ref (aC 6)) (C := RX0) (T := TX0) (N := 15) hx hb hts i_X6_part_X0 hown hK hw.1 19 rfl rfl 5 (by decide) (va_Nw.use rfl (hN _ nk_6)) (fun _ h9 => h9) rfl dX6_part_66 ?_
        refine lv_iload_n hx hb dX6_part_69 rfl (lv_at hl 1 rfl) ?_
        have g7 := ix_in (gd_l hf)
        replace hf := gd_r hf
        refine va_iald hx hb hK hw.1 25 0 rfl rfl g7 dX6_part_70 ?_
        cases hf
        exact endI X hr rfl hlocks rfl hw dX6_part_71
      · replace hf := it_f hf b6
        by_cases b8 : v2 = 2
        · replace hf := it_t hf b8
          refine lv_tableIn (tgt := 72) (off := 51) hx hb dX6_part_21 (by rw [b8]; decide) (by rw [b8]; decide) (by rw [b8]; first | done | decide) (by decide) ?_
          refine lv_aload_n hx hb dX6_part_72 rfl (lv_at hl 0 rfl) ?_
          refine va_get (D := (dC, dI)) (ci := 6) (v := .ref (aC 0)) (C := RX6) (T := TX6) (N := 6) hx hb hts i_X6_part_X6 hown hK hw.1 0 rfl rfl 4 (by decide) (hts _ m_X6_part_0) (fun _ h9 => h9) rfl dX6_part_73 ?_
          refine va_getN (D := (dC, dI)) (ci := 0) (v := .ref (aC 5)) (C := RX0) (T := TX0) (N := 15) hx hb hts i_X6_part_X0 hown hK hw.1 19 rfl rfl 4 (by decide) (va_Nw.use rfl (hN _ nk_7)) (fun _ h9 => h9) rfl dX6_part_76 ?_
          refine lv_iload_n hx hb dX6_part_79 rfl (lv_at hl 1 rfl) ?_
          have g9 := ix_in (gd_l hf)
          replace hf := gd_r hf
          refine va_iald hx hb hK hw.1 24 0 rfl rfl g9 dX6_part_80 ?_
          cases hf
          exact endI X hr rfl hlocks rfl hw dX6_part_81
        · replace hf := it_f hf b8
          by_cases b10 : v2 = 3
          · replace hf := it_t hf b10
            refine lv_tableIn (tgt := 82) (off := 61) hx hb dX6_part_21 (by rw [b10]; decide) (by rw [b10]; decide) (by rw [b10]; first | done | decide) (by decide) ?_
            refine lv_aload_n hx hb dX6_part_82 rfl (lv_at hl 0 rfl) ?_
            refine va_get (D := (dC, dI)) (ci := 6) (v := .ref (aC 0)) (C := RX6) (T := TX6) (N := 6) hx hb hts i_X6_part_X6 hown hK hw.1 0 rfl rfl 4 (by decide) (hts _ m_X6_part_0) (fun _ h9 => h9) rfl dX6_part_83 ?_
            refine va_getN (D := (dC, dI)) (ci := 0) (v := .ref (aC 4)) (C := RX0) (T := TX0) (N := 15) hx hb hts i_X6_part_X0 hown hK hw.1 19 rfl rfl 3 (by decide) (va_Nw.use rfl (hN _ nk_8)) (fun _ h9 => h9) rfl dX6_part_86 ?_
            refine lv_iload_n hx hb dX6_part_89 rfl (lv_at hl 1 rfl) ?_
            have g11 := ix_in (gd_l hf)
            replace hf := gd_r hf
            refine va_iald hx hb hK hw.1 23 0 rfl rfl g11 dX6_part_90 ?_
            cases hf
            exact endI X hr rfl hlocks rfl hw dX6_part_91
          · replace hf := it_f hf b10
            have n0_21 := lv_neT b4 (a := 0) (by decide)
            have n1_21 := lv_neT b6 (a := 1) (by decide)
            have n2_21 := lv_neT b8 (a := 2) (by decide)
            have n3_21 := lv_neT b10 (a := 3) (by decide)
            refine lv_tableOut (tgt := 92) hx hb dX6_part_21 (by omega) (by decide) ?_
            refine lv_bipush (v := (-2)) hx hb dX6_part_92 (by decide) ?_
            cases hf
            exact endI X hr rfl hlocks rfl hw dX6_part_94
  · replace hf := it_t hf b3
    refine lv_bipush (v := (-2)) hx hb dX6_part_17 (by decide) ?_
    cases hf
    exact endI X hr rfl hlocks rfl hw dX6_part_19
