def rm_X6_forgetRuns : Room := { frames := 1, cells := 0, slots := 0, locals := 21 }
set_option maxRecDepth 20000 in
theorem i_X6_forgetRuns_X6 : ∀ w ∈ u_ws RX6 TX6 6, w ∈ wsX6_forgetRuns := by decide +kernel
set_option maxRecDepth 20000 in
theorem m_X6_forgetRuns_0 : Cond.fieldLink RX6 26 "GreatSort" "runs" "LGreatSort$Runs;" ∈ wsX6_forgetRuns := by decide +kernel
set_option maxRecDepth 20000 in
theorem m_X6_forgetRuns_1 : Cond.fieldLink RX6 33 "GreatSort" "plan" "LGreatSort$Plan;" ∈ wsX6_forgetRuns := by decide +kernel
set_option maxRecDepth 20000 in
theorem m_X6_forgetRuns_2 : Cond.fieldLink RX6 40 "GreatSort" "cut" "LGreatSort$Cut;" ∈ wsX6_forgetRuns := by decide +kernel
set_option maxHeartbeats 4000000 in
set_option maxRecDepth 100000 in
theorem c_X6_forgetRuns (l : Launch) (dC : Nat → ClassId) (dI : Nat → Nat → Nat) (cI cJ cZ : ClassId) (aG aW aH aR aP aC aO : Nat → Nat) (N : Nat) (W_sorts : (Nat → Int32)) (W_values : (Nat → Int32)) (W_turns : (Nat → Int32)) (W_falling : (Nat → Int32)) (W_count : Int32) (H_items : (Nat → Int64)) (H_size : Int32) (R_members : (Nat → Int32)) (R_starts : (Nat → Int32)) (R_inOrder : (Nat → Int32)) (R_standing : (Nat → Int32)) (R_heads : (Nat → Int32)) (R_tails : (Nat → Int32)) (R_rowsInAll : Int32) (R_made : Int32) (R_all : Int32) (R_filled : Int32) (P_takenRuns : (Nat → Int32)) (P_starts : (Nat → Int32)) (P_queued : (Nat → Int32)) (P_merges : Int32) (P_told : Int32) (C_sampled : (Nat → Int32)) (C_sampleStandings : (Nat → Int32)) (C_sizes : (Nat → Int32)) (C_ends : (Nat → Int32)) (C_lies : (Nat → Int32)) (C_merged : (Nat → Int32)) (C_reached : (Nat → Int32)) (C_done : (Nat → Int32)) (C_mergedBy : (Nat → Int32)) (C_parts : Int32) (C_samples : Int32) (C_bound : Int32) (C_ticks : Int32) (C_mergedInAll : Int32) (C_mergedAgain : Int32) (O_paces : (Nat → Int32)) (O_up : (Nat → Int32))  {o_R_rowsInAll : Int32} {o_R_made : Int32} {o_R_all : Int32} {o_R_filled : Int32} {o_P_merges : Int32} {o_P_told : Int32} {o_C_mergedBy : (Nat → Int32)} {o_C_parts : Int32} {o_C_samples : Int32} {o_C_bound : Int32} {o_C_ticks : Int32} {o_C_mergedInAll : Int32} {o_C_mergedAgain : Int32} (hf : f_X6_forgetRuns N R_rowsInAll R_made R_all R_filled P_merges P_told C_mergedBy C_parts C_samples C_bound C_ticks C_mergedInAll C_mergedAgain  = some (o_R_rowsInAll, o_R_made, o_R_all, o_R_filled, o_P_merges, o_P_told, o_C_mergedBy, o_C_parts, o_C_samples, o_C_bound, o_C_ticks, o_C_mergedInAll, o_C_mergedAgain)) :
    CtV l yX6_forgetRuns wsX6_forgetRuns rm_X6_forgetRuns (dC, dI) (tyl cI cJ cZ) [.ref (aG 0)] (w_GWHRPCO aG aW aH aR aP aC aO cI cJ cZ W_sorts W_values W_turns W_falling W_count H_items H_size R_members R_starts R_inOrder R_standing R_heads R_tails R_rowsInAll R_made R_all R_filled P_takenRuns P_starts P_queued P_merges P_told C_sampled C_sampleStandings C_sizes C_ends C_lies C_merged C_reached C_done C_mergedBy C_parts C_samples C_bound C_ticks C_mergedInAll C_mergedAgain O_paces O_up) (w_GWHRPCO aG aW aH aR aP aC aO cI cJ cZ W_sorts W_values W_turns W_falling W_count H_items H_size R_members R_starts R_inOrder R_standing R_heads R_tails o_R_rowsInAll o_R_made o_R_all o_R_filled P_takenRuns P_starts P_queued o_P_merges o_P_told C_sampled C_sampleStandings C_sizes C_ends C_lies C_merged C_reached C_done o_C_mergedBy o_C_parts o_C_samples o_C_bound o_C_ticks o_C_mergedInAll o_C_mergedAgain O_paces O_up) := by
  refine startV (cc := cX6_forgetRuns) (maxL := 1) (rt := none) (by decide +kernel) rfl (Nat.le_of_ble_eq_true rfl) ?_
  intro p e s m below meth c A ls X hr hlocks hw hl
  replace X : Cx p m c cX6_forgetRuns 1 s _ wsX6_forgetRuns RX6 (dC, dI) (tyl cI cJ cZ) A := X
  replace hl : lv_has ls 1 [(0, .ref (aG 0))] := hl
  obtain ⟨hx, hb, hml, hown, hts⟩ := X.1
  have hK := X.2.1
  have hN := X.2.2.2
  unfold f_X6_forgetRuns at hf
  refine lv_aload_n hx hb dX6_forgetRuns_0 rfl (lv_at hl 0 rfl) ?_
  refine va_get (D := (dC, dI)) (ci := 6) (v := .ref (aR 0)) (C := RX6) (T := TX6) (N := 6) hx hb hts i_X6_forgetRuns_X6 hown hK hw.1 0 rfl rfl 2 (by decide) (hts _ m_X6_forgetRuns_0) (fun _ h9 => h9) rfl dX6_forgetRuns_1 ?_
  obtain ⟨c1, c2, c3, c4, h5, hf⟩ := bd4_ob hf
  refine clVV (As := []) (rest := []) X (c_X5_forget l dC dI cI cJ cZ aR N R_members R_starts R_inOrder R_standing R_heads R_tails R_rowsInAll R_made R_all R_filled h5) (cwV 0 hts gX6_forgetRuns_X5_forget rfl rfl rfl (by decide +kernel) ⟨Nat.le_of_ble_eq_true rfl, Nat.le_of_ble_eq_true rfl⟩) (ci := 5) (k0 := 0) rfl rfl rfl hw [8, 9, 10, 11, 12, 13, 14] rfl rfl rfl rfl hl.1 rfl (Nat.le_of_ble_eq_true rfl) dX6_forgetRuns_4 ⟨Nat.zero_le _, Nat.zero_le _⟩ (fun H locs hw => ?_)
  replace hw : Wd (dC, dI) A s.heap H locs (w_GWHRPCO aG aW aH aR aP aC aO cI cJ cZ W_sorts W_values W_turns W_falling W_count H_items H_size R_members R_starts R_inOrder R_standing R_heads R_tails c1 c2 c3 c4 P_takenRuns P_starts P_queued P_merges P_told C_sampled C_sampleStandings C_sizes C_ends C_lies C_merged C_reached C_done C_mergedBy C_parts C_samples C_bound C_ticks C_mergedInAll C_mergedAgain O_paces O_up) := hw
  refine lv_aload_n hx hb dX6_forgetRuns_7 rfl (lv_at hl 0 rfl) ?_
  refine va_get (D := (dC, dI)) (ci := 6) (v := .ref (aP 0)) (C := RX6) (T := TX6) (N := 6) hx hb hts i_X6_forgetRuns_X6 hown hK hw.1 0 rfl rfl 3 (by decide) (hts _ m_X6_forgetRuns_1) (fun _ h9 => h9) rfl dX6_forgetRuns_8 ?_
  obtain ⟨c6, c7, h8, hf⟩ := bd2_ob hf
  refine clVV (As := []) (rest := []) X (c_X3_forget l dC dI cI cJ cZ aP N P_takenRuns P_starts P_queued P_merges P_told h8) (cwV 0 hts gX6_forgetRuns_X3_forget rfl rfl rfl (by decide +kernel) ⟨Nat.le_of_ble_eq_true rfl, Nat.le_of_ble_eq_true rfl⟩) (ci := 3) (k0 := 0) rfl rfl rfl hw [15, 16, 17, 18] rfl rfl rfl rfl hl.1 rfl (Nat.le_of_ble_eq_true rfl) dX6_forgetRuns_11 ⟨Nat.zero_le _, Nat.zero_le _⟩ (fun H locs hw => ?_)
  replace hw : Wd (dC, dI) A s.heap H locs (w_GWHRPCO aG aW aH aR aP aC aO cI cJ cZ W_sorts W_values W_turns W_falling W_count H_items H_size R_members R_starts R_inOrder R_standing R_heads R_tails c1 c2 c3 c4 P_takenRuns P_starts P_queued c6 c7 C_sampled C_sampleStandings C_sizes C_ends C_lies C_merged C_reached C_done C_mergedBy C_parts C_samples C_bound C_ticks C_mergedInAll C_mergedAgain O_paces O_up) := hw
  refine lv_aload_n hx hb dX6_forgetRuns_14 rfl (lv_at hl 0 rfl) ?_
  refine va_get (D := (dC, dI)) (ci := 6) (v := .ref (aC 0)) (C := RX6) (T := TX6) (N := 6) hx hb hts i_X6_forgetRuns_X6 hown hK hw.1 0 rfl rfl 4 (by decide) (hts _ m_X6_forgetRuns_2) (fun _ h9 => h9) rfl dX6_forgetRuns_15 ?_
  obtain ⟨c9, c10, c11, c12, c13, c14, c15, h16, hf⟩ := bd7_ob hf
  refine clVV (As := []) (rest := []) X (c_X0_forget l dC dI cI cJ cZ aC N C_sampled C_sampleStandings C_sizes C_ends C_lies C_merged C_reached C_done C_mergedBy C_parts C_samples C_bound C_ticks C_mergedInAll C_mergedAgain h16) (cwV 0 hts gX6_forgetRuns_X0_forget rfl rfl rfl (by decide +kernel) ⟨Nat.le_of_ble_eq_true rfl, Nat.le_of_ble_eq_true rfl⟩) (ci := 0) (k0 := 0) rfl rfl rfl hw [19, 20, 21, 22, 23, 24, 25, 26, 27, 28] rfl rfl rfl rfl hl.1 rfl (Nat.le_of_ble_eq_true rfl) dX6_forgetRuns_18 ⟨Nat.zero_le _, Nat.zero_le _⟩ (fun H locs hw => ?_)
  replace hw : Wd (dC, dI) A s.heap H locs (w_GWHRPCO aG aW aH aR aP aC aO cI cJ cZ W_sorts W_values W_turns W_falling W_count H_items H_size R_members R_starts R_inOrder R_standing R_heads R_tails c1 c2 c3 c4 P_takenRuns P_starts P_queued c6 c7 C_sampled C_sampleStandings C_sizes C_ends C_lies C_merged C_reached C_done c9 c10 c11 c12 c13 c14 c15 O_paces O_up) := hw
  cases hf
  exact endV X hr hlocks hw dX6_forgetRuns_21
def rm_X6_clear : Room := { frames := 2, cells := 0, slots := 0, locals := 41 }
set_option maxRecDepth 20000 in
theorem i_X6_clear_X6 : ∀ w ∈ u_ws RX6 TX6 6, w ∈ wsX6_clear := by decide +kernel
set_option maxRecDepth 20000 in
theorem i_X6_clear_X4 : ∀ w ∈ u_ws RX4 TX4 5, w ∈ wsX6_clear := by decide +kernel
set_option maxRecDepth 20000 in
theorem m_X6_clear_0 : Cond.fieldLink RX6 12 "GreatSort" "rows" "LGreatSort$Rows;" ∈ wsX6_clear := by decide +kernel
set_option maxHeartbeats 4000000 in
set_option maxRecDepth 100000 in
theorem c_X6_clear (l : Launch) (dC : Nat → ClassId) (dI : Nat → Nat → Nat) (cI cJ cZ : ClassId) (aG aW aH aR aP aC aO : Nat → Nat) (N : Nat) (W_sorts : (Nat → Int32)) (W_values : (Nat → Int32)) (W_turns : (Nat → Int32)) (W_falling : (Nat → Int32)) (W_count : Int32) (H_items : (Nat → Int64)) (H_size : Int32) (R_members : (Nat → Int32)) (R_starts : (Nat → Int32)) (R_inOrder : (Nat → Int32)) (R_standing : (Nat → Int32)) (R_heads : (Nat → Int32)) (R_tails : (Nat → Int32)) (R_rowsInAll : Int32) (R_made : Int32) (R_all : Int32) (R_filled : Int32) (P_takenRuns : (Nat → Int32)) (P_starts : (Nat → Int32)) (P_queued : (Nat → Int32)) (P_merges : Int32) (P_told : Int32) (C_sampled : (Nat → Int32)) (C_sampleStandings : (Nat → Int32)) (C_sizes : (Nat → Int32)) (C_ends : (Nat → Int32)) (C_lies : (Nat → Int32)) (C_merged : (Nat → Int32)) (C_reached : (Nat → Int32)) (C_done : (Nat → Int32)) (C_mergedBy : (Nat → Int32)) (C_parts : Int32) (C_samples : Int32) (C_bound : Int32) (C_ticks : Int32) (C_mergedInAll : Int32) (C_mergedAgain : Int32) (O_paces : (Nat → Int32)) (O_up : (Nat → Int32))  {r : Int32} {o_W_count : Int32} {o_R_rowsInAll : Int32} {o_R_made : Int32} {o_R_all : Int32} {o_R_filled : Int32} {o_P_merges : Int32} {o_P_told : Int32} {o_C_mergedBy : (Nat → Int32)} {o_C_parts : Int32} {o_C_samples : Int32} {o_C_bound : Int32} {o_C_ticks : Int32} {o_C_mergedInAll : Int32} {o_C_mergedAgain : Int32} (hf : f_X6_clear N W_count R_rowsInAll R_made R_all R_filled P_merges P_told C_mergedBy C_parts C_samples C_bound C_ticks C_mergedInAll C_mergedAgain  = some (r, o_W_count, o_R_rowsInAll, o_R_made, o_R_all, o_R_filled, o_P_merges, o_P_told, o_C_mergedBy, o_C_parts, o_C_samples, o_C_bound, o_C_ticks, o_C_mergedInAll, o_C_mergedAgain)) :
    CtI l yX6_clear wsX6_clear rm_X6_clear (dC, dI) (tyl cI cJ cZ) [.ref (aG 0)] (w_GWHRPCO aG aW aH aR aP aC aO cI cJ cZ W_sorts W_values W_turns W_falling W_count H_items H_size R_members R_starts R_inOrder R_standing R_heads R_tails R_rowsInAll R_made R_all R_filled P_takenRuns P_starts P_queued P_merges P_told C_sampled C_sampleStandings C_sizes C_ends C_lies C_merged C_reached C_done C_mergedBy C_parts C_samples C_bound C_ticks C_mergedInAll C_mergedAgain O_paces O_up) (w_GWHRPCO aG aW aH aR aP aC aO cI cJ cZ W_sorts W_values W_turns W_falling o_W_count H_items H_size R_members R_starts R_inOrder R_standing R_heads R_tails o_R_rowsInAll o_R_made o_R_all o_R_filled P_takenRuns P_starts P_queued o_P_merges o_P_told C_sampled C_sampleStandings C_sizes C_ends C_lies C_merged C_reached C_done o_C_mergedBy o_C_parts o_C_samples o_C_bound o_C_ticks o_C_mergedInAll o_C_mergedAgain O_paces O_up) r := by
  refine startI (cc := cX6_clear) (maxL := 2) (rt := (some .int)) (by decide +kernel) rfl (Nat.le_of_ble_eq_true rfl) ?_
  intro p e s m below meth c A ls X hr hlocks hw hl
  replace X : Cx p m c cX6_clear 2 s _ wsX6_clear RX6 (dC, dI) (tyl cI cJ cZ) A := X
  replace hl : lv_has ls 2 [(0, .ref (aG 0))] := hl
  obtain ⟨hx, hb, hml, hown, hts⟩ := X.1
  have hK := X.2.1
  have hN := X.2.2.2
  unfold f_X6_clear at hf
  refine lv_aload_n hx hb dX6_clear_0 rfl (lv_at hl 0 rfl) ?_
  refine va_get (D := (dC, dI)) (ci := 6) (v := .ref (aW 0)) (C := RX6) (T := TX6) (N := 6) hx hb hts i_X6_clear_X6 hown hK hw.1 0 rfl rfl 0 (by decide) (hts _ m_X6_clear_0) (fun _ h9 => h9) rfl dX6_clear_1 ?_
  refine va_getN (D := (dC, dI)) (ci := 4) (v := .int W_count) (C := RX4) (T := TX4) (N := 5) hx hb hts i_X6_clear_X4 hown hK hw.1 1 rfl rfl 4 (by decide) (va_Nw.use rfl (hN _ nk_15)) (fun _ h9 => h9) rfl dX6_clear_4 ?_
  refine lv_istore_n (lv' := [(1, .int W_count), (0, .ref (aG 0))]) hx hb dX6_clear_7 rfl hl (by decide) rfl (fun ls hl => ?_)
  refine lv_aload_n hx hb dX6_clear_8 rfl (lv_at hl 1 rfl) ?_
  refine va_get (D := (dC, dI)) (ci := 6) (v := .ref (aW 0)) (C := RX6) (T := TX6) (N := 6) hx hb hts i_X6_clear_X6 hown hK hw.1 0 rfl rfl 0 (by decide) (hts _ m_X6_clear_0) (fun _ h9 => h9) rfl dX6_clear_9 ?_
  refine lv_iconst (v := 0) hx hb dX6_clear_12 (by decide) ?_
  refine g_putN (D := (dC, dI)) (ci := 4) (v := .int 0) (ty := .int) (C := RX4) (T := TX4) (N := 5) hx hb hts i_X6_clear_X4 tyX4 tyX4_ok nmX4 hown hK hw 1 rfl rfl 4 (by decide) (va_Nw.use rfl (hN _ nk_15)) (fun _ h9 => h9) rfl (by decide +kernel) rfl rfl (Nat.le_of_ble_eq_true rfl) dX6_clear_13 (fun H locs hw => ?_)
  replace hw : Wd (dC, dI) A s.heap H locs (w_GWHRPCO aG aW aH aR aP aC aO cI cJ cZ W_sorts W_values W_turns W_falling 0 H_items H_size R_members R_starts R_inOrder R_standing R_heads R_tails R_rowsInAll R_made R_all R_filled P_takenRuns P_starts P_queued P_merges P_told C_sampled C_sampleStandings C_sizes C_ends C_lies C_merged C_reached C_done C_mergedBy C_parts C_samples C_bound C_ticks C_mergedInAll C_mergedAgain O_paces O_up) := hw
  refine lv_aload_n hx hb dX6_clear_16 rfl (lv_at hl 1 rfl) ?_
  obtain ⟨c1, c2, c3, c4, c5, c6, c7, c8, c9, c10, c11, c12, c13, h14, hf⟩ := bd13_ob hf
  refine clFV (As := []) (rest := []) X (c_X6_forgetRuns l dC dI cI cJ cZ aG aW aH aR aP aC aO N W_sorts W_values W_turns W_falling 0 H_items H_size R_members R_starts R_inOrder R_standing R_heads R_tails R_rowsInAll R_made R_all R_filled P_takenRuns P_starts P_queued P_merges P_told C_sampled C_sampleStandings C_sizes C_ends C_lies C_merged C_reached C_done C_mergedBy C_parts C_samples C_bound C_ticks C_mergedInAll C_mergedAgain O_paces O_up h14) (cwV 0 hts gX6_clear_X6_forgetRuns rfl rfl rfl (by decide +kernel) ⟨Nat.le_of_ble_eq_true rfl, Nat.le_of_ble_eq_true rfl⟩) (ci := 6) (k0 := 0) rfl rfl rfl hw rfl rfl hl.1 rfl (Nat.le_of_ble_eq_true rfl) dX6_clear_17 ⟨Nat.zero_le _, Nat.zero_le _⟩ (fun H locs hw => ?_)
  refine lv_iload_n hx hb dX6_clear_20 rfl (lv_at hl 0 rfl) ?_
  cases hf
  exact endI X hr rfl hlocks rfl hw dX6_clear_21
def rm_X6_order : Room := { frames := 2, cells := 0, slots := 0, locals := 46 }
set_option maxRecDepth 20000 in
theorem i_X6_order_X6 : ∀ w ∈ u_ws RX6 TX6 6, w ∈ wsX6_order := by decide +kernel
set_option maxRecDepth 20000 in
theorem i_X6_order_X5 : ∀ w ∈ u_ws RX5 TX5 10, w ∈ wsX6_order := by decide +kernel
set_option maxRecDepth 20000 in
theorem i_X6_order_X4 : ∀ w ∈ u_ws RX4 TX4 5, w ∈ wsX6_order := by decide +kernel
set_option maxRecDepth 20000 in
theorem m_X6_order_0 : Cond.fieldLink RX6 26 "GreatSort" "runs" "LGreatSort$Runs;" ∈ wsX6_order := by decide +kernel
set_option maxRecDepth 20000 in
theorem m_X6_order_1 : Cond.fieldLink RX6 12 "GreatSort" "rows" "LGreatSort$Rows;" ∈ wsX6_order := by decide +kernel
set_option maxHeartbeats 4000000 in
set_option maxRecDepth 100000 in
theorem c_X6_order (l : Launch) (dC : Nat → ClassId) (dI : Nat → Nat → Nat) (cI cJ cZ : ClassId) (aG aW aH aR aP aC aO : Nat → Nat) (N : Nat) (W_sorts : (Nat → Int32)) (W_values : (Nat → Int32)) (W_turns : (Nat → Int32)) (W_falling : (Nat → Int32)) (W_count : Int32) (H_items : (Nat → Int64)) (H_size : Int32) (R_members : (Nat → Int32)) (R_starts : (Nat → Int32)) (R_inOrder : (Nat → Int32)) (R_standing : (Nat → Int32)) (R_heads : (Nat → Int32)) (R_tails : (Nat → Int32)) (R_rowsInAll : Int32) (R_made : Int32) (R_all : Int32) (R_filled : Int32) (P_takenRuns : (Nat → Int32)) (P_starts : (Nat → Int32)) (P_queued : (Nat → Int32)) (P_merges : Int32) (P_told : Int32) (C_sampled : (Nat → Int32)) (C_sampleStandings : (Nat → Int32)) (C_sizes : (Nat → Int32)) (C_ends : (Nat → Int32)) (C_lies : (Nat → Int32)) (C_merged : (Nat → Int32)) (C_reached : (Nat → Int32)) (C_done : (Nat → Int32)) (C_mergedBy : (Nat → Int32)) (C_parts : Int32) (C_samples : Int32) (C_bound : Int32) (C_ticks : Int32) (C_mergedInAll : Int32) (C_mergedAgain : Int32) (O_paces : (Nat → Int32)) (O_up : (Nat → Int32)) (v1 : Int32) (v2 : Int32) (v3 : Int32) (v4 : Int32) {r : Int32} {o_W_turns : (Nat → Int32)} (hf : f_X6_order N W_turns R_made v1 v2 v3 v4 = some (r, o_W_turns)) :
    CtI l yX6_order wsX6_order rm_X6_order (dC, dI) (tyl cI cJ cZ) [.ref (aG 0), .int v1, .int v2, .int v3, .int v4] (w_GWHRPCO aG aW aH aR aP aC aO cI cJ cZ W_sorts W_values W_turns W_falling W_count H_items H_size R_members R_starts R_inOrder R_standing R_heads R_tails R_rowsInAll R_made R_all R_filled P_takenRuns P_starts P_queued P_merges P_told C_sampled C_sampleStandings C_sizes C_ends C_lies C_merged C_reached C_done C_mergedBy C_parts C_samples C_bound C_ticks C_mergedInAll C_mergedAgain O_paces O_up) (w_GWHRPCO aG aW aH aR aP aC aO cI cJ cZ W_sorts W_values o_W_turns W_falling W_count H_items H_size R_members R_starts R_inOrder R_standing R_heads R_tails R_rowsInAll R_made R_all R_filled P_takenRuns P_starts P_queued P_merges P_told C_sampled C_sampleStandings C_sizes C_ends C_lies C_merged C_reached C_done C_mergedBy C_parts C_samples C_bound C_ticks C_mergedInAll C_mergedAgain O_paces O_up) r := by
  refine startI (cc := cX6_order) (maxL := 5) (rt := (some .boolean)) (by decide +kernel) rfl (Nat.le_of_ble_eq_true rfl) ?_
  intro p e s m below meth c A ls X hr hlocks hw hl
  replace X : Cx p m c cX6_order 5 s _ wsX6_order RX6 (dC, dI) (tyl cI cJ cZ) A := X
  replace hl : lv_has ls 5 [(0, .ref (aG 0)), (1, .int v1), (2, .int v2), (3, .int v3), (4, .int v4)] := hl
  obtain ⟨hx, hb, hml, hown, hts⟩ := X.1
  have hK := X.2.1
  have hN := X.2.2.2
  unfold f_X6_order at hf
  refine lv_aload_n hx hb dX6_order_0 rfl (lv_at hl 0 rfl) ?_
  refine va_get (D := (dC, dI)) (ci := 6) (v := .ref (aR 0)) (C := RX6) (T := TX6) (N := 6) hx hb hts i_X6_order_X6 hown hK hw.1 0 rfl rfl 2 (by decide) (hts _ m_X6_order_0) (fun _ h9 => h9) rfl dX6_order_1 ?_
  refine va_getN (D := (dC, dI)) (ci := 5) (v := .int R_made) (C := RX5) (T := TX5) (N := 10) hx hb hts i_X6_order_X5 hown hK hw.1 8 rfl rfl 7 (by decide) (va_Nw.use rfl (hN _ nk_16)) (fun _ h9 => h9) rfl dX6_order_4 ?_
  refine lv_if_gt (tgt := 21) hx hb dX6_order_7 (by decide) (fun b1 => ?_) (fun b1 => ?_)
  · replace hf := it_t hf b1
    refine lv_iconst (v := 0) hx hb dX6_order_21 (by decide) ?_
    have g2 := bz_nar (gd_l hf)
    replace hf := gd_r hf
    cases hf
    exact endI X hr g2 hlocks rfl hw dX6_order_22
  · replace hf := it_f hf b1
    refine lv_iload_n hx hb dX6_order_10 rfl (lv_at hl 1 rfl) ?_
    refine lv_iload_n hx hb dX6_order_11 rfl (lv_at hl 2 rfl) ?_
    refine lv_iload_n hx hb dX6_order_12 rfl (lv_at hl 3 rfl) ?_
    refine lv_iload hx hb dX6_order_13 (lv_at hl 4 rfl) ?_
    obtain ⟨r3, h4, hf⟩ := bd1_ob hf
    refine clSI (As := [.int v1, .int v2, .int v3, .int v4]) (rest := []) X (c_X6_isEachSortOnce l dC dI cI cJ cZ N v1 v2 v3 v4 h4) (va_cwS 4 hts gX6_order_X6_isEachSortOnce rfl rfl rfl (by decide +kernel) ⟨Nat.le_of_ble_eq_true rfl, Nat.le_of_ble_eq_true rfl⟩) hw [] rfl rfl rfl rfl hl.1 rfl (Nat.le_of_ble_eq_true rfl) dX6_order_15 ⟨Nat.zero_le _, Nat.zero_le _⟩ (fun H locs hw => ?_)
    replace hw : Wd (dC, dI) A s.heap H locs (w_GWHRPCO aG aW aH aR aP aC aO cI cJ cZ W_sorts W_values W_turns W_falling W_count H_items H_size R_members R_starts R_inOrder R_standing R_heads R_tails R_rowsInAll R_made R_all R_filled P_takenRuns P_starts P_queued P_merges P_told C_sampled C_sampleStandings C_sizes C_ends C_lies C_merged C_reached C_done C_mergedBy C_parts C_samples C_bound C_ticks C_mergedInAll C_mergedAgain O_paces O_up) := hw
    refine lv_if_ne (tgt := 23) hx hb dX6_order_18 (by decide) (fun b5 => ?_) (fun b5 => ?_)
    · replace hf := it_f hf b5
      refine lv_aload_n hx hb dX6_order_23 rfl (lv_at hl 0 rfl) ?_
      refine va_get (D := (dC, dI)) (ci := 6) (v := .ref (aW 0)) (C := RX6) (T := TX6) (N := 6) hx hb hts i_X6_order_X6 hown hK hw.1 0 rfl rfl 0 (by decide) (hts _ m_X6_order_1) (fun _ h9 => h9) rfl dX6_order_24 ?_
      refine va_getN (D := (dC, dI)) (ci := 4) (v := .ref (aW 3)) (C := RX4) (T := TX4) (N := 5) hx hb hts i_X6_order_X4 hown hK hw.1 1 rfl rfl 2 (by decide) (va_Nw.use rfl (hN _ nk_17)) (fun _ h9 => h9) rfl dX6_order_27 ?_
      refine lv_iload_n hx hb dX6_order_30 rfl (lv_at hl 1 rfl) ?_
      refine lv_iconst (v := 0) hx hb dX6_order_31 (by decide) ?_
      have g6 := ix_in (gd_l hf)
      replace hf := gd_r hf
      refine g_iast hx hb hK hw 4 0 rfl rfl g6 dX6_order_32 (fun H locs hw => ?_)
      replace hw : Wd (dC, dI) A s.heap H locs (w_GWHRPCO aG aW aH aR aP aC aO cI cJ cZ W_sorts W_values (upd W_turns v1.toNatClampNeg 0) W_falling W_count H_items H_size R_members R_starts R_inOrder R_standing R_heads R_tails R_rowsInAll R_made R_all R_filled P_takenRuns P_starts P_queued P_merges P_told C_sampled C_sampleStandings C_sizes C_ends C_lies C_merged C_reached C_done C_mergedBy C_parts C_samples C_bound C_ticks C_mergedInAll C_mergedAgain O_paces O_up) := hw
      refine lv_aload_n hx hb dX6_order_33 rfl (lv_at hl 0 rfl) ?_
      refine va_get (D := (dC, dI)) (ci := 6) (v := .ref (aW 0)) (C := RX6) (T := TX6) (N := 6) hx hb hts i_X6_order_X6 hown hK hw.1 0 rfl rfl 0 (by decide) (hts _ m_X6_order_1) (fun _ h9 => h9) rfl dX6_order_34 ?_
      refine va_getN (D := (dC, dI)) (ci := 4) (v := .ref (aW 3)) (C := RX4) (T := TX4) (N := 5) hx hb hts i_X6_order_X4 hown hK hw.1 1 rfl rfl 2 (by decide) (va_Nw.use rfl (hN _ nk_17)) (fun _ h9 => h9) rfl dX6_order_37 ?_
      refine lv_iload_n hx hb dX6_order_40 rfl (lv_at hl 2 rfl) ?_
      refine lv_iconst (v := 1) hx hb dX6_order_41 (by decide) ?_
      have g7 := ix_in (gd_l hf)
      replace hf := gd_r hf
      refine g_iast hx hb hK hw 4 0 rfl rfl g7 dX6_order_42 (fun H locs hw => ?_)
      replace hw : Wd (dC, dI) A s.heap H locs (w_GWHRPCO aG aW aH aR aP aC aO cI cJ cZ W_sorts W_values (upd (upd W_turns v1.toNatClampNeg 0) v2.toNatClampNeg 1) W_falling W_count H_items H_size R_members R_starts R_inOrder R_standing R_heads R_tails R_rowsInAll R_made R_all R_filled P_takenRuns P_starts P_queued P_merges P_told C_sampled C_sampleStandings C_sizes C_ends C_lies C_merged C_reached C_done C_mergedBy C_parts C_samples C_bound C_ticks C_mergedInAll C_mergedAgain O_paces O_up) := hw
      refine lv_aload_n hx hb dX6_order_43 rfl (lv_at hl 0 rfl) ?_
      refine va_get (D := (dC, dI)) (ci := 6) (v := .ref (aW 0)) (C := RX6) (T := TX6) (N := 6) hx hb hts i_X6_order_X6 hown hK hw.1 0 rfl rfl 0 (by decide) (hts _ m_X6_order_1) (fun _ h9 => h9) rfl dX6_order_44 ?_
      refine va_getN (D := (dC, dI)) (ci := 4) (v := .ref (aW 3)) (C := RX4) (T := TX4) (N := 5) hx hb hts i_X6_order_X4 hown hK hw.1 1 rfl rfl 2 (by decide) (va_Nw.use rfl (hN _ nk_17)) (fun _ h9 => h9) rfl dX6_order_47 ?_
      refine lv_iload_n hx hb dX6_order_50 rfl (lv_at hl 3 rfl) ?_
      refine lv_iconst (v := 2) hx hb dX6_order_51 (by decide) ?_
      have g8 := ix_in (gd_l hf)
      replace hf := gd_r hf
      refine g_iast hx hb hK hw 4 0 rfl rfl g8 dX6_order_52 (fun H locs hw => ?_)
      replace hw : Wd (dC, dI) A s.heap H locs (w_GWHRPCO aG aW aH aR aP aC aO cI cJ cZ W_sorts W_values (upd (upd (upd W_turns v1.toNatClampNeg 0) v2.toNatClampNeg 1) v3.toNatClampNeg 2) W_falling W_count H_items H_size R_members R_starts R_inOrder R_standing R_heads R_tails R_rowsInAll R_made R_all R_filled P_takenRuns P_starts P_queued P_merges P_told C_sampled C_sampleStandings C_sizes C_ends C_lies C_merged C_reached C_done C_mergedBy C_parts C_samples C_bound C_ticks C_mergedInAll C_mergedAgain O_paces O_up) := hw
      refine lv_aload_n hx hb dX6_order_53 rfl (lv_at hl 0 rfl) ?_
      refine va_get (D := (dC, dI)) (ci := 6) (v := .ref (aW 0)) (C := RX6) (T := TX6) (N := 6) hx hb hts i_X6_order_X6 hown hK hw.1 0 rfl rfl 0 (by decide) (hts _ m_X6_order_1) (fun _ h9 => h9) rfl dX6_order_54 ?_
      refine va_getN (D := (dC, dI)) (ci := 4) (v := .ref (aW 3)) (C := RX4) (T := TX4) (N := 5) hx hb hts i_X6_order_X4 hown hK hw.1 1 rfl rfl 2 (by decide) (va_Nw.use rfl (hN _ nk_17)) (fun _ h9 => h9) rfl dX6_order_57 ?_
      refine lv_iload hx hb dX6_order_60 (lv_at hl 4 rfl) ?_
      refine lv_iconst (v := 3) hx hb dX6_order_62 (by decide) ?_
      have g9 := ix_in (gd_l hf)
      replace hf := gd_r hf
      refine g_iast hx hb hK hw 4 0 rfl rfl g9 dX6_order_63 (fun H locs hw => ?_)
      replace hw : Wd (dC, dI) A s.heap H locs (w_GWHRPCO aG aW aH aR aP aC aO cI cJ cZ W_sorts W_values (upd (upd (upd (upd W_turns v1.toNatClampNeg 0) v2.toNatClampNeg 1) v3.toNatClampNeg 2) v4.toNatClampNeg 3) W_falling W_count H_items H_size R_members R_starts R_inOrder R_standing R_heads R_tails R_rowsInAll R_made R_all R_filled P_takenRuns P_starts P_queued P_merges P_told C_sampled C_sampleStandings C_sizes C_ends C_lies C_merged C_reached C_done C_mergedBy C_parts C_samples C_bound C_ticks C_mergedInAll C_mergedAgain O_paces O_up) := hw
      refine lv_iconst (v := 1) hx hb dX6_order_64 (by decide) ?_
      have g10 := bz_nar (gd_l hf)
      replace hf := gd_r hf
      cases hf
      exact endI X hr g10 hlocks rfl hw dX6_order_65
    · replace hf := it_t hf b5
      refine lv_iconst (v := 0) hx hb dX6_order_21 (by decide) ?_
      have g11 := bz_nar (gd_l hf)
      replace hf := gd_r hf
      cases hf
      exact endI X hr g11 hlocks rfl hw dX6_order_22
