def rm_X6_plan : Room := { frames := 4, cells := 0, slots := 0, locals := 102 }
set_option maxRecDepth 20000 in
theorem i_X6_plan_X6 : ∀ w ∈ u_ws RX6 TX6 6, w ∈ wsX6_plan := by decide +kernel
set_option maxRecDepth 20000 in
theorem i_X6_plan_X5 : ∀ w ∈ u_ws RX5 TX5 10, w ∈ wsX6_plan := by decide +kernel
set_option maxRecDepth 20000 in
theorem m_X6_plan_0 : Cond.fieldLink RX6 26 "GreatSort" "runs" "LGreatSort$Runs;" ∈ wsX6_plan := by decide +kernel
set_option maxRecDepth 20000 in
theorem m_X6_plan_1 : Cond.fieldLink RX6 33 "GreatSort" "plan" "LGreatSort$Plan;" ∈ wsX6_plan := by decide +kernel
set_option maxRecDepth 20000 in
theorem m_X6_plan_2 : Cond.fieldLink RX6 19 "GreatSort" "heap" "LGreatSort$Heap;" ∈ wsX6_plan := by decide +kernel
set_option maxHeartbeats 4000000 in
set_option maxRecDepth 100000 in
theorem c_X6_plan (l : Launch) (dC : Nat → ClassId) (dI : Nat → Nat → Nat) (cI cJ cZ : ClassId) (aG aW aH aR aP aC aO : Nat → Nat) (N : Nat) (W_sorts : (Nat → Int32)) (W_values : (Nat → Int32)) (W_turns : (Nat → Int32)) (W_falling : (Nat → Int32)) (W_count : Int32) (H_items : (Nat → Int64)) (H_size : Int32) (R_members : (Nat → Int32)) (R_starts : (Nat → Int32)) (R_inOrder : (Nat → Int32)) (R_standing : (Nat → Int32)) (R_heads : (Nat → Int32)) (R_tails : (Nat → Int32)) (R_rowsInAll : Int32) (R_made : Int32) (R_all : Int32) (R_filled : Int32) (P_takenRuns : (Nat → Int32)) (P_starts : (Nat → Int32)) (P_queued : (Nat → Int32)) (P_merges : Int32) (P_told : Int32) (C_sampled : (Nat → Int32)) (C_sampleStandings : (Nat → Int32)) (C_sizes : (Nat → Int32)) (C_ends : (Nat → Int32)) (C_lies : (Nat → Int32)) (C_merged : (Nat → Int32)) (C_reached : (Nat → Int32)) (C_done : (Nat → Int32)) (C_mergedBy : (Nat → Int32)) (C_parts : Int32) (C_samples : Int32) (C_bound : Int32) (C_ticks : Int32) (C_mergedInAll : Int32) (C_mergedAgain : Int32) (O_paces : (Nat → Int32)) (O_up : (Nat → Int32)) (v1 : Int32) {r : Int32} {o_H_items : (Nat → Int64)} {o_H_size : Int32} {o_R_all : Int32} {o_R_filled : Int32} {o_P_takenRuns : (Nat → Int32)} {o_P_starts : (Nat → Int32)} {o_P_merges : Int32} {o_P_told : Int32} (hf : f_X6_plan N H_items H_size R_starts R_rowsInAll R_made R_all R_filled P_takenRuns P_starts P_merges P_told v1 = some (r, o_H_items, o_H_size, o_R_all, o_R_filled, o_P_takenRuns, o_P_starts, o_P_merges, o_P_told)) :
    CtI l yX6_plan wsX6_plan rm_X6_plan (dC, dI) (tyl cI cJ cZ) [.ref (aG 0), .int v1] (w_GWHRPCO aG aW aH aR aP aC aO cI cJ cZ W_sorts W_values W_turns W_falling W_count H_items H_size R_members R_starts R_inOrder R_standing R_heads R_tails R_rowsInAll R_made R_all R_filled P_takenRuns P_starts P_queued P_merges P_told C_sampled C_sampleStandings C_sizes C_ends C_lies C_merged C_reached C_done C_mergedBy C_parts C_samples C_bound C_ticks C_mergedInAll C_mergedAgain O_paces O_up) (w_GWHRPCO aG aW aH aR aP aC aO cI cJ cZ W_sorts W_values W_turns W_falling W_count o_H_items o_H_size R_members R_starts R_inOrder R_standing R_heads R_tails R_rowsInAll R_made o_R_all o_R_filled o_P_takenRuns o_P_starts P_queued o_P_merges o_P_told C_sampled C_sampleStandings C_sizes C_ends C_lies C_merged C_reached C_done C_mergedBy C_parts C_samples C_bound C_ticks C_mergedInAll C_mergedAgain O_paces O_up) r := by
  refine startI (cc := cX6_plan) (maxL := 2) (rt := (some .int)) (by decide +kernel) rfl (Nat.le_of_ble_eq_true rfl) ?_
  intro p e s m below meth c A ls X hr hlocks hw hl
  replace X : Cx p m c cX6_plan 2 s _ wsX6_plan RX6 (dC, dI) (tyl cI cJ cZ) A := X
  replace hl : lv_has ls 2 [(0, .ref (aG 0)), (1, .int v1)] := hl
  obtain ⟨hx, hb, hml, hown, hts⟩ := X.1
  have hK := X.2.1
  have hN := X.2.2.2
  unfold f_X6_plan at hf
  refine lv_aload_n hx hb dX6_plan_0 rfl (lv_at hl 0 rfl) ?_
  refine va_get (D := (dC, dI)) (ci := 6) (v := .ref (aR 0)) (C := RX6) (T := TX6) (N := 6) hx hb hts i_X6_plan_X6 hown hK hw.1 0 rfl rfl 2 (by decide) (hts _ m_X6_plan_0) (fun _ h9 => h9) rfl dX6_plan_1 ?_
  refine va_getN (D := (dC, dI)) (ci := 5) (v := .int R_made) (C := RX5) (T := TX5) (N := 10) hx hb hts i_X6_plan_X5 hown hK hw.1 8 rfl rfl 7 (by decide) (va_Nw.use rfl (hN _ nk_16)) (fun _ h9 => h9) rfl dX6_plan_4 ?_
  refine lv_if_eq (tgt := 20) hx hb dX6_plan_7 (by decide) (fun b1 => ?_) (fun b1 => ?_)
  · replace hf := it_t hf b1
    refine lv_iconst (v := (-1)) hx hb dX6_plan_20 (by decide) ?_
    cases hf
    exact endI X hr rfl hlocks rfl hw dX6_plan_21
  · replace hf := it_f hf b1
    refine lv_iload_n hx hb dX6_plan_10 rfl (lv_at hl 1 rfl) ?_
    refine lv_iconst (v := 2) hx hb dX6_plan_11 (by decide) ?_
    refine lv_bipush (v := 8) hx hb dX6_plan_12 (by decide) ?_
    obtain ⟨r2, h3, hf⟩ := bd1_ob hf
    refine clSI (As := [.int v1, .int (2 : Int32), .int (8 : Int32)]) (rest := []) X (c_X6_isIn l dC dI cI cJ cZ N v1 (2 : Int32) (8 : Int32) h3) (va_cwS 3 hts gX6_plan_X6_isIn rfl rfl rfl (by decide +kernel) ⟨Nat.le_of_ble_eq_true rfl, Nat.le_of_ble_eq_true rfl⟩) hw [] rfl rfl rfl rfl hl.1 rfl (Nat.le_of_ble_eq_true rfl) dX6_plan_14 ⟨Nat.zero_le _, Nat.zero_le _⟩ (fun H locs hw => ?_)
    replace hw : Wd (dC, dI) A s.heap H locs (w_GWHRPCO aG aW aH aR aP aC aO cI cJ cZ W_sorts W_values W_turns W_falling W_count H_items H_size R_members R_starts R_inOrder R_standing R_heads R_tails R_rowsInAll R_made R_all R_filled P_takenRuns P_starts P_queued P_merges P_told C_sampled C_sampleStandings C_sizes C_ends C_lies C_merged C_reached C_done C_mergedBy C_parts C_samples C_bound C_ticks C_mergedInAll C_mergedAgain O_paces O_up) := hw
    refine lv_if_ne (tgt := 22) hx hb dX6_plan_17 (by decide) (fun b4 => ?_) (fun b4 => ?_)
    · replace hf := it_f hf b4
      refine lv_aload_n hx hb dX6_plan_22 rfl (lv_at hl 0 rfl) ?_
      refine va_get (D := (dC, dI)) (ci := 6) (v := .ref (aR 0)) (C := RX6) (T := TX6) (N := 6) hx hb hts i_X6_plan_X6 hown hK hw.1 0 rfl rfl 2 (by decide) (hts _ m_X6_plan_0) (fun _ h9 => h9) rfl dX6_plan_23 ?_
      obtain ⟨c5, c6, h7, hf⟩ := bd2_ob hf
      refine clVV (As := []) (rest := []) X (c_X5_forgetMerged l dC dI cI cJ cZ aR N R_members R_starts R_inOrder R_standing R_heads R_tails R_rowsInAll R_made R_all R_filled h7) (cwV 0 hts gX6_plan_X5_forgetMerged rfl rfl rfl (by decide +kernel) ⟨Nat.le_of_ble_eq_true rfl, Nat.le_of_ble_eq_true rfl⟩) (ci := 5) (k0 := 0) rfl rfl rfl hw [8, 9, 10, 11, 12, 13, 14] rfl rfl rfl rfl hl.1 rfl (Nat.le_of_ble_eq_true rfl) dX6_plan_26 ⟨Nat.zero_le _, Nat.zero_le _⟩ (fun H locs hw => ?_)
      replace hw : Wd (dC, dI) A s.heap H locs (w_GWHRPCO aG aW aH aR aP aC aO cI cJ cZ W_sorts W_values W_turns W_falling W_count H_items H_size R_members R_starts R_inOrder R_standing R_heads R_tails R_rowsInAll R_made c5 c6 P_takenRuns P_starts P_queued P_merges P_told C_sampled C_sampleStandings C_sizes C_ends C_lies C_merged C_reached C_done C_mergedBy C_parts C_samples C_bound C_ticks C_mergedInAll C_mergedAgain O_paces O_up) := hw
      refine lv_aload_n hx hb dX6_plan_29 rfl (lv_at hl 0 rfl) ?_
      refine va_get (D := (dC, dI)) (ci := 6) (v := .ref (aP 0)) (C := RX6) (T := TX6) (N := 6) hx hb hts i_X6_plan_X6 hown hK hw.1 0 rfl rfl 3 (by decide) (hts _ m_X6_plan_1) (fun _ h9 => h9) rfl dX6_plan_30 ?_
      refine lv_aload_n hx hb dX6_plan_33 rfl (lv_at hl 0 rfl) ?_
      refine va_get (D := (dC, dI)) (ci := 6) (v := .ref (aR 0)) (C := RX6) (T := TX6) (N := 6) hx hb hts i_X6_plan_X6 hown hK hw.1 0 rfl rfl 2 (by decide) (hts _ m_X6_plan_0) (fun _ h9 => h9) rfl dX6_plan_34 ?_
      refine lv_iload_n hx hb dX6_plan_37 rfl (lv_at hl 1 rfl) ?_
      refine lv_aload_n hx hb dX6_plan_38 rfl (lv_at hl 0 rfl) ?_
      refine va_get (D := (dC, dI)) (ci := 6) (v := .ref (aH 0)) (C := RX6) (T := TX6) (N := 6) hx hb hts i_X6_plan_X6 hown hK hw.1 0 rfl rfl 1 (by decide) (hts _ m_X6_plan_2) (fun _ h9 => h9) rfl dX6_plan_39 ?_
      obtain ⟨r8, c9, c10, c11, c12, c13, c14, h15, hf⟩ := bd7_ob hf
      refine clVI (As := [.ref (aR 0), .int v1, .ref (aH 0)]) (rest := []) X (c_X3_tell l dC dI cI cJ cZ aH aR aP N H_items H_size R_members R_starts R_inOrder R_standing R_heads R_tails R_rowsInAll R_made c5 c6 P_takenRuns P_starts P_queued P_merges P_told v1 h15) (cwV 3 hts gX6_plan_X3_tell rfl rfl rfl (by decide +kernel) ⟨Nat.le_of_ble_eq_true rfl, Nat.le_of_ble_eq_true rfl⟩) (ci := 3) (k0 := 9) rfl rfl rfl hw [6, 7, 8, 9, 10, 11, 12, 13, 14, 15, 16, 17, 18] rfl rfl rfl rfl hl.1 rfl (Nat.le_of_ble_eq_true rfl) dX6_plan_42 ⟨Nat.zero_le _, Nat.zero_le _⟩ (fun H locs hw => ?_)
      replace hw : Wd (dC, dI) A s.heap H locs (w_GWHRPCO aG aW aH aR aP aC aO cI cJ cZ W_sorts W_values W_turns W_falling W_count c9 c10 R_members R_starts R_inOrder R_standing R_heads R_tails R_rowsInAll R_made c5 c6 c11 c12 P_queued c13 c14 C_sampled C_sampleStandings C_sizes C_ends C_lies C_merged C_reached C_done C_mergedBy C_parts C_samples C_bound C_ticks C_mergedInAll C_mergedAgain O_paces O_up) := hw
      cases hf
      exact endI X hr rfl hlocks rfl hw dX6_plan_45
    · replace hf := it_t hf b4
      refine lv_iconst (v := (-1)) hx hb dX6_plan_20 (by decide) ?_
      cases hf
      exact endI X hr rfl hlocks rfl hw dX6_plan_21
def rm_X6_queue : Room := { frames := 4, cells := 0, slots := 0, locals := 92 }
set_option maxRecDepth 20000 in
theorem i_X6_queue_X6 : ∀ w ∈ u_ws RX6 TX6 6, w ∈ wsX6_queue := by decide +kernel
set_option maxRecDepth 20000 in
theorem i_X6_queue_X5 : ∀ w ∈ u_ws RX5 TX5 10, w ∈ wsX6_queue := by decide +kernel
set_option maxRecDepth 20000 in
theorem m_X6_queue_0 : Cond.fieldLink RX6 26 "GreatSort" "runs" "LGreatSort$Runs;" ∈ wsX6_queue := by decide +kernel
set_option maxRecDepth 20000 in
theorem m_X6_queue_1 : Cond.fieldLink RX6 33 "GreatSort" "plan" "LGreatSort$Plan;" ∈ wsX6_queue := by decide +kernel
set_option maxHeartbeats 4000000 in
set_option maxRecDepth 100000 in
theorem c_X6_queue (l : Launch) (dC : Nat → ClassId) (dI : Nat → Nat → Nat) (cI cJ cZ : ClassId) (aG aW aH aR aP aC aO : Nat → Nat) (N : Nat) (W_sorts : (Nat → Int32)) (W_values : (Nat → Int32)) (W_turns : (Nat → Int32)) (W_falling : (Nat → Int32)) (W_count : Int32) (H_items : (Nat → Int64)) (H_size : Int32) (R_members : (Nat → Int32)) (R_starts : (Nat → Int32)) (R_inOrder : (Nat → Int32)) (R_standing : (Nat → Int32)) (R_heads : (Nat → Int32)) (R_tails : (Nat → Int32)) (R_rowsInAll : Int32) (R_made : Int32) (R_all : Int32) (R_filled : Int32) (P_takenRuns : (Nat → Int32)) (P_starts : (Nat → Int32)) (P_queued : (Nat → Int32)) (P_merges : Int32) (P_told : Int32) (C_sampled : (Nat → Int32)) (C_sampleStandings : (Nat → Int32)) (C_sizes : (Nat → Int32)) (C_ends : (Nat → Int32)) (C_lies : (Nat → Int32)) (C_merged : (Nat → Int32)) (C_reached : (Nat → Int32)) (C_done : (Nat → Int32)) (C_mergedBy : (Nat → Int32)) (C_parts : Int32) (C_samples : Int32) (C_bound : Int32) (C_ticks : Int32) (C_mergedInAll : Int32) (C_mergedAgain : Int32) (O_paces : (Nat → Int32)) (O_up : (Nat → Int32)) (v1 : Int32) {r : Int32} {o_P_queued : (Nat → Int32)} (hf : f_X6_queue N R_starts R_made R_all P_queued v1 = some (r, o_P_queued)) :
    CtI l yX6_queue wsX6_queue rm_X6_queue (dC, dI) (tyl cI cJ cZ) [.ref (aG 0), .int v1] (w_GWHRPCO aG aW aH aR aP aC aO cI cJ cZ W_sorts W_values W_turns W_falling W_count H_items H_size R_members R_starts R_inOrder R_standing R_heads R_tails R_rowsInAll R_made R_all R_filled P_takenRuns P_starts P_queued P_merges P_told C_sampled C_sampleStandings C_sizes C_ends C_lies C_merged C_reached C_done C_mergedBy C_parts C_samples C_bound C_ticks C_mergedInAll C_mergedAgain O_paces O_up) (w_GWHRPCO aG aW aH aR aP aC aO cI cJ cZ W_sorts W_values W_turns W_falling W_count H_items H_size R_members R_starts R_inOrder R_standing R_heads R_tails R_rowsInAll R_made R_all R_filled P_takenRuns P_starts o_P_queued P_merges P_told C_sampled C_sampleStandings C_sizes C_ends C_lies C_merged C_reached C_done C_mergedBy C_parts C_samples C_bound C_ticks C_mergedInAll C_mergedAgain O_paces O_up) r := by
  refine startI (cc := cX6_queue) (maxL := 2) (rt := (some .int)) (by decide +kernel) rfl (Nat.le_of_ble_eq_true rfl) ?_
  intro p e s m below meth c A ls X hr hlocks hw hl
  replace X : Cx p m c cX6_queue 2 s _ wsX6_queue RX6 (dC, dI) (tyl cI cJ cZ) A := X
  replace hl : lv_has ls 2 [(0, .ref (aG 0)), (1, .int v1)] := hl
  obtain ⟨hx, hb, hml, hown, hts⟩ := X.1
  have hK := X.2.1
  have hN := X.2.2.2
  unfold f_X6_queue at hf
  refine lv_aload_n hx hb dX6_queue_0 rfl (lv_at hl 0 rfl) ?_
  refine va_get (D := (dC, dI)) (ci := 6) (v := .ref (aR 0)) (C := RX6) (T := TX6) (N := 6) hx hb hts i_X6_queue_X6 hown hK hw.1 0 rfl rfl 2 (by decide) (hts _ m_X6_queue_0) (fun _ h9 => h9) rfl dX6_queue_1 ?_
  refine va_getN (D := (dC, dI)) (ci := 5) (v := .int R_made) (C := RX5) (T := TX5) (N := 10) hx hb hts i_X6_queue_X5 hown hK hw.1 8 rfl rfl 7 (by decide) (va_Nw.use rfl (hN _ nk_16)) (fun _ h9 => h9) rfl dX6_queue_4 ?_
  refine lv_if_eq (tgt := 20) hx hb dX6_queue_7 (by decide) (fun b1 => ?_) (fun b1 => ?_)
  · replace hf := it_t hf b1
    refine lv_iconst (v := (-1)) hx hb dX6_queue_20 (by decide) ?_
    cases hf
    exact endI X hr rfl hlocks rfl hw dX6_queue_21
  · replace hf := it_f hf b1
    refine lv_iload_n hx hb dX6_queue_10 rfl (lv_at hl 1 rfl) ?_
    refine lv_iconst (v := 2) hx hb dX6_queue_11 (by decide) ?_
    refine lv_bipush (v := 8) hx hb dX6_queue_12 (by decide) ?_
    obtain ⟨r2, h3, hf⟩ := bd1_ob hf
    refine clSI (As := [.int v1, .int (2 : Int32), .int (8 : Int32)]) (rest := []) X (c_X6_isIn l dC dI cI cJ cZ N v1 (2 : Int32) (8 : Int32) h3) (va_cwS 3 hts gX6_queue_X6_isIn rfl rfl rfl (by decide +kernel) ⟨Nat.le_of_ble_eq_true rfl, Nat.le_of_ble_eq_true rfl⟩) hw [] rfl rfl rfl rfl hl.1 rfl (Nat.le_of_ble_eq_true rfl) dX6_queue_14 ⟨Nat.zero_le _, Nat.zero_le _⟩ (fun H locs hw => ?_)
    replace hw : Wd (dC, dI) A s.heap H locs (w_GWHRPCO aG aW aH aR aP aC aO cI cJ cZ W_sorts W_values W_turns W_falling W_count H_items H_size R_members R_starts R_inOrder R_standing R_heads R_tails R_rowsInAll R_made R_all R_filled P_takenRuns P_starts P_queued P_merges P_told C_sampled C_sampleStandings C_sizes C_ends C_lies C_merged C_reached C_done C_mergedBy C_parts C_samples C_bound C_ticks C_mergedInAll C_mergedAgain O_paces O_up) := hw
    refine lv_if_ne (tgt := 22) hx hb dX6_queue_17 (by decide) (fun b4 => ?_) (fun b4 => ?_)
    · replace hf := it_f hf b4
      refine lv_aload_n hx hb dX6_queue_22 rfl (lv_at hl 0 rfl) ?_
      refine va_get (D := (dC, dI)) (ci := 6) (v := .ref (aP 0)) (C := RX6) (T := TX6) (N := 6) hx hb hts i_X6_queue_X6 hown hK hw.1 0 rfl rfl 3 (by decide) (hts _ m_X6_queue_1) (fun _ h9 => h9) rfl dX6_queue_23 ?_
      refine lv_aload_n hx hb dX6_queue_26 rfl (lv_at hl 0 rfl) ?_
      refine va_get (D := (dC, dI)) (ci := 6) (v := .ref (aR 0)) (C := RX6) (T := TX6) (N := 6) hx hb hts i_X6_queue_X6 hown hK hw.1 0 rfl rfl 2 (by decide) (hts _ m_X6_queue_0) (fun _ h9 => h9) rfl dX6_queue_27 ?_
      refine lv_iload_n hx hb dX6_queue_30 rfl (lv_at hl 1 rfl) ?_
      obtain ⟨r5, c6, h7, hf⟩ := bd2_ob hf
      refine clVI (As := [.ref (aR 0), .int v1]) (rest := []) X (c_X3_movedByQueue l dC dI cI cJ cZ aR aP N R_members R_starts R_inOrder R_standing R_heads R_tails R_rowsInAll R_made R_all R_filled P_takenRuns P_starts P_queued P_merges P_told v1 h7) (cwV 2 hts gX6_queue_X3_movedByQueue rfl rfl rfl (by decide +kernel) ⟨Nat.le_of_ble_eq_true rfl, Nat.le_of_ble_eq_true rfl⟩) (ci := 3) (k0 := 7) rfl rfl rfl hw [8, 9, 10, 11, 12, 13, 14, 15, 16, 17, 18] rfl rfl rfl rfl hl.1 rfl (Nat.le_of_ble_eq_true rfl) dX6_queue_31 ⟨Nat.zero_le _, Nat.zero_le _⟩ (fun H locs hw => ?_)
      replace hw : Wd (dC, dI) A s.heap H locs (w_GWHRPCO aG aW aH aR aP aC aO cI cJ cZ W_sorts W_values W_turns W_falling W_count H_items H_size R_members R_starts R_inOrder R_standing R_heads R_tails R_rowsInAll R_made R_all R_filled P_takenRuns P_starts c6 P_merges P_told C_sampled C_sampleStandings C_sizes C_ends C_lies C_merged C_reached C_done C_mergedBy C_parts C_samples C_bound C_ticks C_mergedInAll C_mergedAgain O_paces O_up) := hw
      cases hf
      exact endI X hr rfl hlocks rfl hw dX6_queue_34
    · replace hf := it_t hf b4
      refine lv_iconst (v := (-1)) hx hb dX6_queue_20 (by decide) ?_
      cases hf
      exact endI X hr rfl hlocks rfl hw dX6_queue_21
def rm_X6_merges : Room := { frames := 0, cells := 0, slots := 0, locals := 0 }
set_option maxRecDepth 20000 in
theorem i_X6_merges_X6 : ∀ w ∈ u_ws RX6 TX6 6, w ∈ wsX6_merges := by decide +kernel
set_option maxRecDepth 20000 in
theorem i_X6_merges_X3 : ∀ w ∈ u_ws RX3 TX3 5, w ∈ wsX6_merges := by decide +kernel
set_option maxRecDepth 20000 in
theorem m_X6_merges_0 : Cond.fieldLink RX6 33 "GreatSort" "plan" "LGreatSort$Plan;" ∈ wsX6_merges := by decide +kernel
set_option maxHeartbeats 4000000 in
set_option maxRecDepth 100000 in
theorem c_X6_merges (l : Launch) (dC : Nat → ClassId) (dI : Nat → Nat → Nat) (cI cJ cZ : ClassId) (aG aW aH aR aP aC aO : Nat → Nat) (N : Nat) (W_sorts : (Nat → Int32)) (W_values : (Nat → Int32)) (W_turns : (Nat → Int32)) (W_falling : (Nat → Int32)) (W_count : Int32) (H_items : (Nat → Int64)) (H_size : Int32) (R_members : (Nat → Int32)) (R_starts : (Nat → Int32)) (R_inOrder : (Nat → Int32)) (R_standing : (Nat → Int32)) (R_heads : (Nat → Int32)) (R_tails : (Nat → Int32)) (R_rowsInAll : Int32) (R_made : Int32) (R_all : Int32) (R_filled : Int32) (P_takenRuns : (Nat → Int32)) (P_starts : (Nat → Int32)) (P_queued : (Nat → Int32)) (P_merges : Int32) (P_told : Int32) (C_sampled : (Nat → Int32)) (C_sampleStandings : (Nat → Int32)) (C_sizes : (Nat → Int32)) (C_ends : (Nat → Int32)) (C_lies : (Nat → Int32)) (C_merged : (Nat → Int32)) (C_reached : (Nat → Int32)) (C_done : (Nat → Int32)) (C_mergedBy : (Nat → Int32)) (C_parts : Int32) (C_samples : Int32) (C_bound : Int32) (C_ticks : Int32) (C_mergedInAll : Int32) (C_mergedAgain : Int32) (O_paces : (Nat → Int32)) (O_up : (Nat → Int32))  {r : Int32} (hf : f_X6_merges N P_merges  = some r) :
    CtI l yX6_merges wsX6_merges rm_X6_merges (dC, dI) (tyl cI cJ cZ) [.ref (aG 0)] (w_GWHRPCO aG aW aH aR aP aC aO cI cJ cZ W_sorts W_values W_turns W_falling W_count H_items H_size R_members R_starts R_inOrder R_standing R_heads R_tails R_rowsInAll R_made R_all R_filled P_takenRuns P_starts P_queued P_merges P_told C_sampled C_sampleStandings C_sizes C_ends C_lies C_merged C_reached C_done C_mergedBy C_parts C_samples C_bound C_ticks C_mergedInAll C_mergedAgain O_paces O_up) (w_GWHRPCO aG aW aH aR aP aC aO cI cJ cZ W_sorts W_values W_turns W_falling W_count H_items H_size R_members R_starts R_inOrder R_standing R_heads R_tails R_rowsInAll R_made R_all R_filled P_takenRuns P_starts P_queued P_merges P_told C_sampled C_sampleStandings C_sizes C_ends C_lies C_merged C_reached C_done C_mergedBy C_parts C_samples C_bound C_ticks C_mergedInAll C_mergedAgain O_paces O_up) r := by
  refine startI (cc := cX6_merges) (maxL := 1) (rt := (some .int)) (by decide +kernel) rfl (Nat.le_of_ble_eq_true rfl) ?_
  intro p e s m below meth c A ls X hr hlocks hw hl
  replace X : Cx p m c cX6_merges 1 s _ wsX6_merges RX6 (dC, dI) (tyl cI cJ cZ) A := X
  replace hl : lv_has ls 1 [(0, .ref (aG 0))] := hl
  obtain ⟨hx, hb, hml, hown, hts⟩ := X.1
  have hK := X.2.1
  have hN := X.2.2.2
  unfold f_X6_merges at hf
  refine lv_aload_n hx hb dX6_merges_0 rfl (lv_at hl 0 rfl) ?_
  refine va_get (D := (dC, dI)) (ci := 6) (v := .ref (aP 0)) (C := RX6) (T := TX6) (N := 6) hx hb hts i_X6_merges_X6 hown hK hw.1 0 rfl rfl 3 (by decide) (hts _ m_X6_merges_0) (fun _ h9 => h9) rfl dX6_merges_1 ?_
  refine va_getN (D := (dC, dI)) (ci := 3) (v := .int P_merges) (C := RX3) (T := TX3) (N := 5) hx hb hts i_X6_merges_X3 hown hK hw.1 15 rfl rfl 3 (by decide) (va_Nw.use rfl (hN _ nk_0)) (fun _ h9 => h9) rfl dX6_merges_4 ?_
  cases hf
  exact endI X hr rfl hlocks rfl hw dX6_merges_7
def rm_X6_takes : Room := { frames := 3, cells := 0, slots := 0, locals := 65 }
set_option maxRecDepth 20000 in
theorem i_X6_takes_X6 : ∀ w ∈ u_ws RX6 TX6 6, w ∈ wsX6_takes := by decide +kernel
set_option maxRecDepth 20000 in
theorem m_X6_takes_0 : Cond.fieldLink RX6 33 "GreatSort" "plan" "LGreatSort$Plan;" ∈ wsX6_takes := by decide +kernel
set_option maxHeartbeats 4000000 in
set_option maxRecDepth 100000 in
theorem c_X6_takes (l : Launch) (dC : Nat → ClassId) (dI : Nat → Nat → Nat) (cI cJ cZ : ClassId) (aG aW aH aR aP aC aO : Nat → Nat) (N : Nat) (W_sorts : (Nat → Int32)) (W_values : (Nat → Int32)) (W_turns : (Nat → Int32)) (W_falling : (Nat → Int32)) (W_count : Int32) (H_items : (Nat → Int64)) (H_size : Int32) (R_members : (Nat → Int32)) (R_starts : (Nat → Int32)) (R_inOrder : (Nat → Int32)) (R_standing : (Nat → Int32)) (R_heads : (Nat → Int32)) (R_tails : (Nat → Int32)) (R_rowsInAll : Int32) (R_made : Int32) (R_all : Int32) (R_filled : Int32) (P_takenRuns : (Nat → Int32)) (P_starts : (Nat → Int32)) (P_queued : (Nat → Int32)) (P_merges : Int32) (P_told : Int32) (C_sampled : (Nat → Int32)) (C_sampleStandings : (Nat → Int32)) (C_sizes : (Nat → Int32)) (C_ends : (Nat → Int32)) (C_lies : (Nat → Int32)) (C_merged : (Nat → Int32)) (C_reached : (Nat → Int32)) (C_done : (Nat → Int32)) (C_mergedBy : (Nat → Int32)) (C_parts : Int32) (C_samples : Int32) (C_bound : Int32) (C_ticks : Int32) (C_mergedInAll : Int32) (C_mergedAgain : Int32) (O_paces : (Nat → Int32)) (O_up : (Nat → Int32)) (v1 : Int32) (v2 : Int32) {r : Int32} (hf : f_X6_takes N P_takenRuns P_starts P_merges v1 v2 = some r) :
    CtI l yX6_takes wsX6_takes rm_X6_takes (dC, dI) (tyl cI cJ cZ) [.ref (aG 0), .int v1, .int v2] (w_GWHRPCO aG aW aH aR aP aC aO cI cJ cZ W_sorts W_values W_turns W_falling W_count H_items H_size R_members R_starts R_inOrder R_standing R_heads R_tails R_rowsInAll R_made R_all R_filled P_takenRuns P_starts P_queued P_merges P_told C_sampled C_sampleStandings C_sizes C_ends C_lies C_merged C_reached C_done C_mergedBy C_parts C_samples C_bound C_ticks C_mergedInAll C_mergedAgain O_paces O_up) (w_GWHRPCO aG aW aH aR aP aC aO cI cJ cZ W_sorts W_values W_turns W_falling W_count H_items H_size R_members R_starts R_inOrder R_standing R_heads R_tails R_rowsInAll R_made R_all R_filled P_takenRuns P_starts P_queued P_merges P_told C_sampled C_sampleStandings C_sizes C_ends C_lies C_merged C_reached C_done C_mergedBy C_parts C_samples C_bound C_ticks C_mergedInAll C_mergedAgain O_paces O_up) r := by
  refine startI (cc := cX6_takes) (maxL := 3) (rt := (some .int)) (by decide +kernel) rfl (Nat.le_of_ble_eq_true rfl) ?_
  intro p e s m below meth c A ls X hr hlocks hw hl
  replace X : Cx p m c cX6_takes 3 s _ wsX6_takes RX6 (dC, dI) (tyl cI cJ cZ) A := X
  replace hl : lv_has ls 3 [(0, .ref (aG 0)), (1, .int v1), (2, .int v2)] := hl
  obtain ⟨hx, hb, hml, hown, hts⟩ := X.1
  have hK := X.2.1
  have hN := X.2.2.2
  unfold f_X6_takes at hf
  refine lv_aload_n hx hb dX6_takes_0 rfl (lv_at hl 0 rfl) ?_
  refine va_get (D := (dC, dI)) (ci := 6) (v := .ref (aP 0)) (C := RX6) (T := TX6) (N := 6) hx hb hts i_X6_takes_X6 hown hK hw.1 0 rfl rfl 3 (by decide) (hts _ m_X6_takes_0) (fun _ h9 => h9) rfl dX6_takes_1 ?_
  refine lv_iload_n hx hb dX6_takes_4 rfl (lv_at hl 1 rfl) ?_
  refine lv_iload_n hx hb dX6_takes_5 rfl (lv_at hl 2 rfl) ?_
  obtain ⟨r1, h2, hf⟩ := bd1_ob hf
  refine clVI (As := [.int v1, .int v2]) (rest := []) X (c_X3_taken l dC dI cI cJ cZ aP N P_takenRuns P_starts P_queued P_merges P_told v1 v2 h2) (cwV 2 hts gX6_takes_X3_taken rfl rfl rfl (by decide +kernel) ⟨Nat.le_of_ble_eq_true rfl, Nat.le_of_ble_eq_true rfl⟩) (ci := 3) (k0 := 0) rfl rfl rfl hw [15, 16, 17, 18] rfl rfl rfl rfl hl.1 rfl (Nat.le_of_ble_eq_true rfl) dX6_takes_6 ⟨Nat.zero_le _, Nat.zero_le _⟩ (fun H locs hw => ?_)
  replace hw : Wd (dC, dI) A s.heap H locs (w_GWHRPCO aG aW aH aR aP aC aO cI cJ cZ W_sorts W_values W_turns W_falling W_count H_items H_size R_members R_starts R_inOrder R_standing R_heads R_tails R_rowsInAll R_made R_all R_filled P_takenRuns P_starts P_queued P_merges P_told C_sampled C_sampleStandings C_sizes C_ends C_lies C_merged C_reached C_done C_mergedBy C_parts C_samples C_bound C_ticks C_mergedInAll C_mergedAgain O_paces O_up) := hw
  cases hf
  exact endI X hr rfl hlocks rfl hw dX6_takes_9
def rm_X6_merge : Room := { frames := 4, cells := 0, slots := 0, locals := 95 }
set_option maxRecDepth 20000 in
theorem i_X6_merge_X6 : ∀ w ∈ u_ws RX6 TX6 6, w ∈ wsX6_merge := by decide +kernel
set_option maxRecDepth 20000 in
theorem i_X6_merge_X3 : ∀ w ∈ u_ws RX3 TX3 5, w ∈ wsX6_merge := by decide +kernel
set_option maxRecDepth 20000 in
theorem m_X6_merge_0 : Cond.fieldLink RX6 33 "GreatSort" "plan" "LGreatSort$Plan;" ∈ wsX6_merge := by decide +kernel
set_option maxRecDepth 20000 in
theorem m_X6_merge_1 : Cond.fieldLink RX6 26 "GreatSort" "runs" "LGreatSort$Runs;" ∈ wsX6_merge := by decide +kernel
set_option maxHeartbeats 4000000 in
set_option maxRecDepth 100000 in
theorem t_X6_merge_23 {p : Program} {l : Launch} {e : Env} {s : State} {m : MethodId} {args : Array Value} {below : List Frame} {meth : Method} {c : Code} {Q : State → Prop} {dC : Nat → ClassId} {dI : Nat → Nat → Nat} {cI cJ cZ : ClassId} {A : Nat → Prop} (aG aW aH aR aP aC aO : Nat → Nat) (X : Cx p m c cX6_merge 3 s args wsX6_merge RX6 (dC, dI) (tyl cI cJ cZ) A) (N : Nat) (W_sorts : (Nat → Int32)) (W_values : (Nat → Int32)) (W_turns : (Nat → Int32)) (W_falling : (Nat → Int32)) (W_count : Int32) (H_items : (Nat → Int64)) (H_size : Int32) (R_inOrder : (Nat → Int32)) (R_standing : (Nat → Int32)) (R_rowsInAll : Int32) (R_made : Int32) (P_takenRuns : (Nat → Int32)) (P_starts : (Nat → Int32)) (P_queued : (Nat → Int32)) (P_merges : Int32) (P_told : Int32) (C_sampled : (Nat → Int32)) (C_sampleStandings : (Nat → Int32)) (C_sizes : (Nat → Int32)) (C_ends : (Nat → Int32)) (C_lies : (Nat → Int32)) (C_merged : (Nat → Int32)) (C_reached : (Nat → Int32)) (C_done : (Nat → Int32)) (C_mergedBy : (Nat → Int32)) (C_parts : Int32) (C_samples : Int32) (C_bound : Int32) (C_ticks : Int32) (C_mergedInAll : Int32) (C_mergedAgain : Int32) (O_paces : (Nat → Int32)) (O_up : (Nat → Int32))  :
    ∀ (n : Nat) (v1 : Int32) (v2 : Int32) (R_members : (Nat → Int32)) (R_starts : (Nat → Int32)) (R_heads : (Nat → Int32)) (R_tails : (Nat → Int32)) (R_all : Int32) (R_filled : Int32) (e1 : Int32) (e_R_members : (Nat → Int32)) (e_R_starts : (Nat → Int32)) (e_R_heads : (Nat → Int32)) (e_R_tails : (Nat → Int32)) (e_R_all : Int32) (e_R_filled : Int32), l_X6_merge_23 N R_standing R_rowsInAll P_takenRuns P_starts P_merges n v1 v2 R_members R_starts R_heads R_tails R_all R_filled = some (e1, e_R_members, e_R_starts, e_R_heads, e_R_tails, e_R_all, e_R_filled) → ∀ (H : Heap) (locs : List Loc) (ls : Array Slot), Wd (dC, dI) A s.heap H locs (w_GWHRPCO aG aW aH aR aP aC aO cI cJ cZ W_sorts W_values W_turns W_falling W_count H_items H_size R_members R_starts R_inOrder R_standing R_heads R_tails R_rowsInAll R_made R_all R_filled P_takenRuns P_starts P_queued P_merges P_told C_sampled C_sampleStandings C_sizes C_ends C_lies C_merged C_reached C_done C_mergedBy C_parts C_samples C_bound C_ticks C_mergedInAll C_mergedAgain O_paces O_up) → lv_has ls 3 [(0, .ref (aG 0)), (1, .int v1), (2, .int v2)] → (∀ (H : Heap) (locs : List Loc) (ls : Array Slot), Wd (dC, dI) A s.heap H locs (w_GWHRPCO aG aW aH aR aP aC aO cI cJ cZ W_sorts W_values W_turns W_falling W_count H_items H_size e_R_members e_R_starts R_inOrder R_standing e_R_heads e_R_tails R_rowsInAll R_made e_R_all e_R_filled P_takenRuns P_starts P_queued P_merges P_told C_sampled C_sampleStandings C_sizes C_ends C_lies C_merged C_reached C_done C_mergedBy C_parts C_samples C_bound C_ticks C_mergedInAll C_mergedAgain O_paces O_up) → lv_has ls 3 [(1, .int e1)] → W p l e rm_X6_merge s m args below meth c H locs 0 0 Q (F0 m 55 ls [])) → W p l e rm_X6_merge s m args below meth c H locs 0 0 Q (F0 m 23 ls []) := by
  obtain ⟨hx, hb, hml, hown, hts⟩ := X.1
  have hK := X.2.1
  have hN := X.2.2.2
  intro n
  induction n with
  | zero =>
    intro _ _ _ _ _ _ _ _ _ _ _ _ _ _ _ hf
    cases hf
  | succ n ih =>
    intro v1 v2 R_members R_starts R_heads R_tails R_all R_filled e1 e_R_members e_R_starts e_R_heads e_R_tails e_R_all e_R_filled hf H locs ls hw hl kx
    rw [l_X6_merge_23] at hf
    refine lv_iload_n hx hb dX6_merge_23 rfl (lv_at hl 2 rfl) ?_
    refine lv_aload_n hx hb dX6_merge_24 rfl (lv_at hl 0 rfl) ?_
    refine va_get (D := (dC, dI)) (ci := 6) (v := .ref (aP 0)) (C := RX6) (T := TX6) (N := 6) hx hb hts i_X6_merge_X6 hown hK hw.1 0 rfl rfl 3 (by decide) (hts _ m_X6_merge_0) (fun _ h9 => h9) rfl dX6_merge_25 ?_
    refine va_getN (D := (dC, dI)) (ci := 3) (v := .int P_merges) (C := RX3) (T := TX3) (N := 5) hx hb hts i_X6_merge_X3 hown hK hw.1 15 rfl rfl 3 (by decide) (va_Nw.use rfl (hN _ nk_0)) (fun _ h9 => h9) rfl dX6_merge_28 ?_
    refine lv_icmp_ge (tgt := 55) hx hb dX6_merge_31 (by decide) (fun b5 => ?_) (fun b5 => ?_)
    · replace hf := it_t hf b5
      cases hf
      exact kx _ _ _ hw (lv_sub hl [1] rfl)
    · replace hf := it_f hf b5
      refine lv_iload_n hx hb dX6_merge_34 rfl (lv_at hl 1 rfl) ?_
      refine lv_aload_n hx hb dX6_merge_35 rfl (lv_at hl 0 rfl) ?_
      refine va_get (D := (dC, dI)) (ci := 6) (v := .ref (aR 0)) (C := RX6) (T := TX6) (N := 6) hx hb hts i_X6_merge_X6 hown hK hw.1 0 rfl rfl 2 (by decide) (hts _ m_X6_merge_1) (fun _ h9 => h9) rfl dX6_merge_36 ?_
      refine lv_aload_n hx hb dX6_merge_39 rfl (lv_at hl 0 rfl) ?_
      refine va_get (D := (dC, dI)) (ci := 6) (v := .ref (aP 0)) (C := RX6) (T := TX6) (N := 6) hx hb hts i_X6_merge_X6 hown hK hw.1 0 rfl rfl 3 (by decide) (hts _ m_X6_merge_0) (fun _ h9 => h9) rfl dX6_merge_40 ?_
      refine lv_iload_n hx hb dX6_merge_43 rfl (lv_at hl 2 rfl) ?_
      obtain ⟨r6, c7, c8, c9, c10, c11, c12, h13, hf⟩ := bd7_ob hf
      refine clVI (As := [.ref (aP 0), .int v2]) (rest := [.int v1]) X (c_X5_mergeThose l dC dI cI cJ cZ aR aP N R_members R_starts R_inOrder R_standing R_heads R_tails R_rowsInAll R_made R_all R_filled P_takenRuns P_starts P_queued P_merges P_told v2 h13) (cwV 2 hts gX6_merge_X5_mergeThose rfl rfl rfl (by decide +kernel) ⟨Nat.le_of_ble_eq_true rfl, Nat.le_of_ble_eq_true rfl⟩) (ci := 5) (k0 := 0) rfl rfl rfl hw [8, 9, 10, 11, 12, 13, 14, 15, 16, 17, 18] rfl rfl rfl rfl hl.1 rfl (Nat.le_of_ble_eq_true rfl) dX6_merge_44 ⟨Nat.zero_le _, Nat.zero_le _⟩ (fun H locs hw => ?_)
      replace hw : Wd (dC, dI) A s.heap H locs (w_GWHRPCO aG aW aH aR aP aC aO cI cJ cZ W_sorts W_values W_turns W_falling W_count H_items H_size c7 c8 R_inOrder R_standing c9 c10 R_rowsInAll R_made c11 c12 P_takenRuns P_starts P_queued P_merges P_told C_sampled C_sampleStandings C_sizes C_ends C_lies C_merged C_reached C_done C_mergedBy C_parts C_samples C_bound C_ticks C_mergedInAll C_mergedAgain O_paces O_up) := hw
      refine lv_iadd hx hb dX6_merge_47 ?_
      refine lv_topi (fun x14 ex14 => ?_)
      replace hf := nl_at hf ex14
      refine lv_istore_n (lv' := [(1, .int x14), (0, .ref (aG 0)), (2, .int v2)]) hx hb dX6_merge_48 rfl hl (by decide) rfl (fun ls hl => ?_)
      obtain ⟨x15, ex15⟩ : ∃ y : Int32, y = v2 + 1 := ⟨_, rfl⟩
      replace hf := nl_at hf ex15
      refine lv_iinc (v := x15) (lv' := [(2, .int x15), (1, .int x14), (0, .ref (aG 0))]) hx hb dX6_merge_49 hl (k := 2) rfl (by rw [ex15]; rfl) (by decide) rfl (fun ls hl => ?_)
      refine lv_goto (tgt := 23) hx hb dX6_merge_52 (by decide) ?_
      exact ih _ _ _ _ _ _ _ _ _ _ _ _ _ _ _ hf _ _ _ hw (lv_sub hl [2, 1, 0] rfl) kx
set_option maxHeartbeats 4000000 in
set_option maxRecDepth 100000 in
theorem c_X6_merge (l : Launch) (dC : Nat → ClassId) (dI : Nat → Nat → Nat) (cI cJ cZ : ClassId) (aG aW aH aR aP aC aO : Nat → Nat) (N : Nat) (W_sorts : (Nat → Int32)) (W_values : (Nat → Int32)) (W_turns : (Nat → Int32)) (W_falling : (Nat → Int32)) (W_count : Int32) (H_items : (Nat → Int64)) (H_size : Int32) (R_members : (Nat → Int32)) (R_starts : (Nat → Int32)) (R_inOrder : (Nat → Int32)) (R_standing : (Nat → Int32)) (R_heads : (Nat → Int32)) (R_tails : (Nat → Int32)) (R_rowsInAll : Int32) (R_made : Int32) (R_all : Int32) (R_filled : Int32) (P_takenRuns : (Nat → Int32)) (P_starts : (Nat → Int32)) (P_queued : (Nat → Int32)) (P_merges : Int32) (P_told : Int32) (C_sampled : (Nat → Int32)) (C_sampleStandings : (Nat → Int32)) (C_sizes : (Nat → Int32)) (C_ends : (Nat → Int32)) (C_lies : (Nat → Int32)) (C_merged : (Nat → Int32)) (C_reached : (Nat → Int32)) (C_done : (Nat → Int32)) (C_mergedBy : (Nat → Int32)) (C_parts : Int32) (C_samples : Int32) (C_bound : Int32) (C_ticks : Int32) (C_mergedInAll : Int32) (C_mergedAgain : Int32) (O_paces : (Nat → Int32)) (O_up : (Nat → Int32))  {r : Int32} {o_R_members : (Nat → Int32)} {o_R_starts : (Nat → Int32)} {o_R_heads : (Nat → Int32)} {o_R_tails : (Nat → Int32)} {o_R_all : Int32} {o_R_filled : Int32} (hf : f_X6_merge N R_members R_starts R_standing R_heads R_tails R_rowsInAll R_made R_all R_filled P_takenRuns P_starts P_merges P_told  = some (r, o_R_members, o_R_starts, o_R_heads, o_R_tails, o_R_all, o_R_filled)) :
    CtI l yX6_merge wsX6_merge rm_X6_merge (dC, dI) (tyl cI cJ cZ) [.ref (aG 0)] (w_GWHRPCO aG aW aH aR aP aC aO cI cJ cZ W_sorts W_values W_turns W_falling W_count H_items H_size R_members R_starts R_inOrder R_standing R_heads R_tails R_rowsInAll R_made R_all R_filled P_takenRuns P_starts P_queued P_merges P_told C_sampled C_sampleStandings C_sizes C_ends C_lies C_merged C_reached C_done C_mergedBy C_parts C_samples C_bound C_ticks C_mergedInAll C_mergedAgain O_paces O_up) (w_GWHRPCO aG aW aH aR aP aC aO cI cJ cZ W_sorts W_values W_turns W_falling W_count H_items H_size o_R_members o_R_starts R_inOrder R_standing o_R_heads o_R_tails R_rowsInAll R_made o_R_all o_R_filled P_takenRuns P_starts P_queued P_merges P_told C_sampled C_sampleStandings C_sizes C_ends C_lies C_merged C_reached C_done C_mergedBy C_parts C_samples C_bound C_ticks C_mergedInAll C_mergedAgain O_paces O_up) r := by
  refine startI (cc := cX6_merge) (maxL := 3) (rt := (some .int)) (by decide +kernel) rfl (Nat.le_of_ble_eq_true rfl) ?_
  intro p e s m below meth c A ls X hr hlocks hw hl
  replace X : Cx p m c cX6_merge 3 s _ wsX6_merge RX6 (dC, dI) (tyl cI cJ cZ) A := X
  replace hl : lv_has ls 3 [(0, .ref (aG 0))] := hl
  obtain ⟨hx, hb, hml, hown, hts⟩ := X.1
  have hK := X.2.1
  have hN := X.2.2.2
  unfold f_X6_merge at hf
  refine lv_aload_n hx hb dX6_merge_0 rfl (lv_at hl 0 rfl) ?_
  refine va_get (D := (dC, dI)) (ci := 6) (v := .ref (aP 0)) (C := RX6) (T := TX6) (N := 6) hx hb hts i_X6_merge_X6 hown hK hw.1 0 rfl rfl 3 (by decide) (hts _ m_X6_merge_0) (fun _ h9 => h9) rfl dX6_merge_1 ?_
  refine va_getN (D := (dC, dI)) (ci := 3) (v := .int P_told) (C := RX3) (T := TX3) (N := 5) hx hb hts i_X6_merge_X3 hown hK hw.1 15 rfl rfl 4 (by decide) (va_Nw.use rfl (hN _ nk_1)) (fun _ h9 => h9) rfl dX6_merge_4 ?_
  refine lv_if_ne (tgt := 12) hx hb dX6_merge_7 (by decide) (fun b1 => ?_) (fun b1 => ?_)
  · replace hf := it_f hf b1
    refine lv_aload_n hx hb dX6_merge_12 rfl (lv_at hl 0 rfl) ?_
    refine va_get (D := (dC, dI)) (ci := 6) (v := .ref (aR 0)) (C := RX6) (T := TX6) (N := 6) hx hb hts i_X6_merge_X6 hown hK hw.1 0 rfl rfl 2 (by decide) (hts _ m_X6_merge_1) (fun _ h9 => h9) rfl dX6_merge_13 ?_
    obtain ⟨c2, c3, h4, hf⟩ := bd2_ob hf
    refine clVV (As := []) (rest := []) X (c_X5_forgetMerged l dC dI cI cJ cZ aR N R_members R_starts R_inOrder R_standing R_heads R_tails R_rowsInAll R_made R_all R_filled h4) (cwV 0 hts gX6_merge_X5_forgetMerged rfl rfl rfl (by decide +kernel) ⟨Nat.le_of_ble_eq_true rfl, Nat.le_of_ble_eq_true rfl⟩) (ci := 5) (k0 := 0) rfl rfl rfl hw [8, 9, 10, 11, 12, 13, 14] rfl rfl rfl rfl hl.1 rfl (Nat.le_of_ble_eq_true rfl) dX6_merge_16 ⟨Nat.zero_le _, Nat.zero_le _⟩ (fun H locs hw => ?_)
    replace hw : Wd (dC, dI) A s.heap H locs (w_GWHRPCO aG aW aH aR aP aC aO cI cJ cZ W_sorts W_values W_turns W_falling W_count H_items H_size R_members R_starts R_inOrder R_standing R_heads R_tails R_rowsInAll R_made c2 c3 P_takenRuns P_starts P_queued P_merges P_told C_sampled C_sampleStandings C_sizes C_ends C_lies C_merged C_reached C_done C_mergedBy C_parts C_samples C_bound C_ticks C_mergedInAll C_mergedAgain O_paces O_up) := hw
    refine lv_iconst (v := 0) hx hb dX6_merge_19 (by decide) ?_
    refine lv_istore_n (lv' := [(1, .int 0), (0, .ref (aG 0))]) hx hb dX6_merge_20 rfl hl (by decide) rfl (fun ls hl => ?_)
    refine lv_iconst (v := 0) hx hb dX6_merge_21 (by decide) ?_
    refine lv_istore_n (lv' := [(2, .int 0), (1, .int 0), (0, .ref (aG 0))]) hx hb dX6_merge_22 rfl hl (by decide) rfl (fun ls hl => ?_)
    obtain ⟨e16, e17, e18, e19, e20, e21, e22, h23, hf⟩ := bd7_ob hf
    refine t_X6_merge_23 aG aW aH aR aP aC aO X N W_sorts W_values W_turns W_falling W_count H_items H_size R_inOrder R_standing R_rowsInAll R_made P_takenRuns P_starts P_queued P_merges P_told C_sampled C_sampleStandings C_sizes C_ends C_lies C_merged C_reached C_done C_mergedBy C_parts C_samples C_bound C_ticks C_mergedInAll C_mergedAgain O_paces O_up N _ _ _ _ _ _ _ _ _ _ _ _ _ _ _ h23 _ _ _ hw (lv_sub hl [2, 1, 0] rfl) (fun H locs ls hw hl => ?_)
    refine lv_iload_n hx hb dX6_merge_55 rfl (lv_at hl 0 rfl) ?_
    cases hf
    exact endI X hr rfl hlocks rfl hw dX6_merge_56
  · replace hf := it_t hf b1
    refine lv_iconst (v := (-1)) hx hb dX6_merge_10 (by decide) ?_
    cases hf
    exact endI X hr rfl hlocks rfl hw dX6_merge_11
