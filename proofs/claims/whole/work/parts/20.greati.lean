def rm_X6_work : Room := { frames := 2, cells := 0, slots := 0, locals := 42 }
set_option maxRecDepth 20000 in
theorem i_X6_work_X6 : ∀ w ∈ u_ws RX6 TX6 6, w ∈ wsX6_work := by decide +kernel
set_option maxRecDepth 20000 in
theorem i_X6_work_X0 : ∀ w ∈ u_ws RX0 TX0 15, w ∈ wsX6_work := by decide +kernel
set_option maxRecDepth 20000 in
theorem m_X6_work_0 : Cond.fieldLink RX6 40 "GreatSort" "cut" "LGreatSort$Cut;" ∈ wsX6_work := by decide +kernel
set_option maxHeartbeats 4000000 in
set_option maxRecDepth 100000 in
theorem c_X6_work (l : Launch) (dC : Nat → ClassId) (dI : Nat → Nat → Nat) (cI cJ cZ : ClassId) (aG aW aH aR aP aC aO : Nat → Nat) (N : Nat) (W_sorts : (Nat → Int32)) (W_values : (Nat → Int32)) (W_turns : (Nat → Int32)) (W_falling : (Nat → Int32)) (W_count : Int32) (H_items : (Nat → Int64)) (H_size : Int32) (R_members : (Nat → Int32)) (R_starts : (Nat → Int32)) (R_inOrder : (Nat → Int32)) (R_standing : (Nat → Int32)) (R_heads : (Nat → Int32)) (R_tails : (Nat → Int32)) (R_rowsInAll : Int32) (R_made : Int32) (R_all : Int32) (R_filled : Int32) (P_takenRuns : (Nat → Int32)) (P_starts : (Nat → Int32)) (P_queued : (Nat → Int32)) (P_merges : Int32) (P_told : Int32) (C_sampled : (Nat → Int32)) (C_sampleStandings : (Nat → Int32)) (C_sizes : (Nat → Int32)) (C_ends : (Nat → Int32)) (C_lies : (Nat → Int32)) (C_merged : (Nat → Int32)) (C_reached : (Nat → Int32)) (C_done : (Nat → Int32)) (C_mergedBy : (Nat → Int32)) (C_parts : Int32) (C_samples : Int32) (C_bound : Int32) (C_ticks : Int32) (C_mergedInAll : Int32) (C_mergedAgain : Int32) (O_paces : (Nat → Int32)) (O_up : (Nat → Int32)) (v1 : Int32) {r : Int32} (hf : f_X6_work N C_done C_parts C_ticks C_mergedInAll C_mergedAgain v1 = some r) :
    CtI l yX6_work wsX6_work rm_X6_work (dC, dI) (tyl cI cJ cZ) [.ref (aG 0), .int v1] (w_GWHRPCO aG aW aH aR aP aC aO cI cJ cZ W_sorts W_values W_turns W_falling W_count H_items H_size R_members R_starts R_inOrder R_standing R_heads R_tails R_rowsInAll R_made R_all R_filled P_takenRuns P_starts P_queued P_merges P_told C_sampled C_sampleStandings C_sizes C_ends C_lies C_merged C_reached C_done C_mergedBy C_parts C_samples C_bound C_ticks C_mergedInAll C_mergedAgain O_paces O_up) (w_GWHRPCO aG aW aH aR aP aC aO cI cJ cZ W_sorts W_values W_turns W_falling W_count H_items H_size R_members R_starts R_inOrder R_standing R_heads R_tails R_rowsInAll R_made R_all R_filled P_takenRuns P_starts P_queued P_merges P_told C_sampled C_sampleStandings C_sizes C_ends C_lies C_merged C_reached C_done C_mergedBy C_parts C_samples C_bound C_ticks C_mergedInAll C_mergedAgain O_paces O_up) r := by
  refine startI (cc := cX6_work) (maxL := 2) (rt := (some .int)) (by decide +kernel) rfl (Nat.le_of_ble_eq_true rfl) ?_
  intro p e s m below meth c A ls X hr hlocks hw hl
  replace X : Cx p m c cX6_work 2 s _ wsX6_work RX6 (dC, dI) (tyl cI cJ cZ) A := X
  replace hl : lv_has ls 2 [(0, .ref (aG 0)), (1, .int v1)] := hl
  obtain ⟨hx, hb, hml, hown, hts⟩ := X.1
  have hK := X.2.1
  have hN := X.2.2.2
  unfold f_X6_work at hf
  refine lv_aload_n hx hb dX6_work_0 rfl (lv_at hl 0 rfl) ?_
  refine va_get (D := (dC, dI)) (ci := 6) (v := .ref (aC 0)) (C := RX6) (T := TX6) (N := 6) hx hb hts i_X6_work_X6 hown hK hw.1 0 rfl rfl 4 (by decide) (hts _ m_X6_work_0) (fun _ h9 => h9) rfl dX6_work_1 ?_
  obtain ⟨r1, h2, hf⟩ := bd1_ob hf
  refine clVI (As := []) (rest := []) X (c_X0_stands l dC dI cI cJ cZ aC N C_sampled C_sampleStandings C_sizes C_ends C_lies C_merged C_reached C_done C_mergedBy C_parts C_samples C_bound C_ticks C_mergedInAll C_mergedAgain h2) (cwV 0 hts gX6_work_X0_stands rfl rfl rfl (by decide +kernel) ⟨Nat.le_of_ble_eq_true rfl, Nat.le_of_ble_eq_true rfl⟩) (ci := 0) (k0 := 0) rfl rfl rfl hw [19, 20, 21, 22, 23, 24, 25, 26, 27, 28] rfl rfl rfl rfl hl.1 rfl (Nat.le_of_ble_eq_true rfl) dX6_work_4 ⟨Nat.zero_le _, Nat.zero_le _⟩ (fun H locs hw => ?_)
  replace hw : Wd (dC, dI) A s.heap H locs (w_GWHRPCO aG aW aH aR aP aC aO cI cJ cZ W_sorts W_values W_turns W_falling W_count H_items H_size R_members R_starts R_inOrder R_standing R_heads R_tails R_rowsInAll R_made R_all R_filled P_takenRuns P_starts P_queued P_merges P_told C_sampled C_sampleStandings C_sizes C_ends C_lies C_merged C_reached C_done C_mergedBy C_parts C_samples C_bound C_ticks C_mergedInAll C_mergedAgain O_paces O_up) := hw
  refine lv_if_ne (tgt := 12) hx hb dX6_work_7 (by decide) (fun b3 => ?_) (fun b3 => ?_)
  · replace hf := it_f hf b3
    refine lv_iload_n hx hb dX6_work_12 rfl (lv_at hl 1 rfl) ?_
    by_cases b4 : v1 = 0
    · replace hf := it_t hf b4
      refine lv_tableIn (tgt := 48) (off := 35) hx hb dX6_work_13 (by rw [b4]; decide) (by rw [b4]; decide) (by rw [b4]; first | done | decide) (by decide) ?_
      refine lv_aload_n hx hb dX6_work_48 rfl (lv_at hl 0 rfl) ?_
      refine va_get (D := (dC, dI)) (ci := 6) (v := .ref (aC 0)) (C := RX6) (T := TX6) (N := 6) hx hb hts i_X6_work_X6 hown hK hw.1 0 rfl rfl 4 (by decide) (hts _ m_X6_work_0) (fun _ h9 => h9) rfl dX6_work_49 ?_
      refine va_getN (D := (dC, dI)) (ci := 0) (v := .int C_ticks) (C := RX0) (T := TX0) (N := 15) hx hb hts i_X6_work_X0 hown hK hw.1 19 rfl rfl 12 (by decide) (va_Nw.use rfl (hN _ nk_12)) (fun _ h9 => h9) rfl dX6_work_52 ?_
      cases hf
      exact endI X hr rfl hlocks rfl hw dX6_work_55
    · replace hf := it_f hf b4
      by_cases b5 : v1 = 1
      · replace hf := it_t hf b5
        refine lv_tableIn (tgt := 56) (off := 43) hx hb dX6_work_13 (by rw [b5]; decide) (by rw [b5]; decide) (by rw [b5]; first | done | decide) (by decide) ?_
        refine lv_aload_n hx hb dX6_work_56 rfl (lv_at hl 0 rfl) ?_
        refine va_get (D := (dC, dI)) (ci := 6) (v := .ref (aC 0)) (C := RX6) (T := TX6) (N := 6) hx hb hts i_X6_work_X6 hown hK hw.1 0 rfl rfl 4 (by decide) (hts _ m_X6_work_0) (fun _ h9 => h9) rfl dX6_work_57 ?_
        refine va_getN (D := (dC, dI)) (ci := 0) (v := .int C_mergedInAll) (C := RX0) (T := TX0) (N := 15) hx hb hts i_X6_work_X0 hown hK hw.1 19 rfl rfl 13 (by decide) (va_Nw.use rfl (hN _ nk_13)) (fun _ h9 => h9) rfl dX6_work_60 ?_
        cases hf
        exact endI X hr rfl hlocks rfl hw dX6_work_63
      · replace hf := it_f hf b5
        by_cases b6 : v1 = 2
        · replace hf := it_t hf b6
          refine lv_tableIn (tgt := 64) (off := 51) hx hb dX6_work_13 (by rw [b6]; decide) (by rw [b6]; decide) (by rw [b6]; first | done | decide) (by decide) ?_
          refine lv_aload_n hx hb dX6_work_64 rfl (lv_at hl 0 rfl) ?_
          refine va_get (D := (dC, dI)) (ci := 6) (v := .ref (aC 0)) (C := RX6) (T := TX6) (N := 6) hx hb hts i_X6_work_X6 hown hK hw.1 0 rfl rfl 4 (by decide) (hts _ m_X6_work_0) (fun _ h9 => h9) rfl dX6_work_65 ?_
          refine va_getN (D := (dC, dI)) (ci := 0) (v := .int C_mergedAgain) (C := RX0) (T := TX0) (N := 15) hx hb hts i_X6_work_X0 hown hK hw.1 19 rfl rfl 14 (by decide) (va_Nw.use rfl (hN _ nk_14)) (fun _ h9 => h9) rfl dX6_work_68 ?_
          cases hf
          exact endI X hr rfl hlocks rfl hw dX6_work_71
        · replace hf := it_f hf b6
          by_cases b7 : v1 = 3
          · replace hf := it_t hf b7
            refine lv_tableIn (tgt := 72) (off := 59) hx hb dX6_work_13 (by rw [b7]; decide) (by rw [b7]; decide) (by rw [b7]; first | done | decide) (by decide) ?_
            refine lv_aload_n hx hb dX6_work_72 rfl (lv_at hl 0 rfl) ?_
            refine va_get (D := (dC, dI)) (ci := 6) (v := .ref (aC 0)) (C := RX6) (T := TX6) (N := 6) hx hb hts i_X6_work_X6 hown hK hw.1 0 rfl rfl 4 (by decide) (hts _ m_X6_work_0) (fun _ h9 => h9) rfl dX6_work_73 ?_
            obtain ⟨r8, h9, hf⟩ := bd1_ob hf
            refine clVI (As := []) (rest := []) X (c_X0_partsDone l dC dI cI cJ cZ aC N C_sampled C_sampleStandings C_sizes C_ends C_lies C_merged C_reached C_done C_mergedBy C_parts C_samples C_bound C_ticks C_mergedInAll C_mergedAgain h9) (cwV 0 hts gX6_work_X0_partsDone rfl rfl rfl (by decide +kernel) ⟨Nat.le_of_ble_eq_true rfl, Nat.le_of_ble_eq_true rfl⟩) (ci := 0) (k0 := 0) rfl rfl rfl hw [19, 20, 21, 22, 23, 24, 25, 26, 27, 28] rfl rfl rfl rfl hl.1 rfl (Nat.le_of_ble_eq_true rfl) dX6_work_76 ⟨Nat.zero_le _, Nat.zero_le _⟩ (fun H locs hw => ?_)
            replace hw : Wd (dC, dI) A s.heap H locs (w_GWHRPCO aG aW aH aR aP aC aO cI cJ cZ W_sorts W_values W_turns W_falling W_count H_items H_size R_members R_starts R_inOrder R_standing R_heads R_tails R_rowsInAll R_made R_all R_filled P_takenRuns P_starts P_queued P_merges P_told C_sampled C_sampleStandings C_sizes C_ends C_lies C_merged C_reached C_done C_mergedBy C_parts C_samples C_bound C_ticks C_mergedInAll C_mergedAgain O_paces O_up) := hw
            cases hf
            exact endI X hr rfl hlocks rfl hw dX6_work_79
          · replace hf := it_f hf b7
            by_cases b10 : v1 = 4
            · replace hf := it_t hf b10
              refine lv_tableIn (tgt := 80) (off := 67) hx hb dX6_work_13 (by rw [b10]; decide) (by rw [b10]; decide) (by rw [b10]; first | done | decide) (by decide) ?_
              refine lv_aload_n hx hb dX6_work_80 rfl (lv_at hl 0 rfl) ?_
              refine va_get (D := (dC, dI)) (ci := 6) (v := .ref (aC 0)) (C := RX6) (T := TX6) (N := 6) hx hb hts i_X6_work_X6 hown hK hw.1 0 rfl rfl 4 (by decide) (hts _ m_X6_work_0) (fun _ h9 => h9) rfl dX6_work_81 ?_
              obtain ⟨r11, h12, hf⟩ := bd1_ob hf
              refine clVI (As := []) (rest := []) X (c_X0_isAtEnd l dC dI cI cJ cZ aC N C_sampled C_sampleStandings C_sizes C_ends C_lies C_merged C_reached C_done C_mergedBy C_parts C_samples C_bound C_ticks C_mergedInAll C_mergedAgain h12) (cwV 0 hts gX6_work_X0_isAtEnd rfl rfl rfl (by decide +kernel) ⟨Nat.le_of_ble_eq_true rfl, Nat.le_of_ble_eq_true rfl⟩) (ci := 0) (k0 := 0) rfl rfl rfl hw [19, 20, 21, 22, 23, 24, 25, 26, 27, 28] rfl rfl rfl rfl hl.1 rfl (Nat.le_of_ble_eq_true rfl) dX6_work_84 ⟨Nat.zero_le _, Nat.zero_le _⟩ (fun H locs hw => ?_)
              replace hw : Wd (dC, dI) A s.heap H locs (w_GWHRPCO aG aW aH aR aP aC aO cI cJ cZ W_sorts W_values W_turns W_falling W_count H_items H_size R_members R_starts R_inOrder R_standing R_heads R_tails R_rowsInAll R_made R_all R_filled P_takenRuns P_starts P_queued P_merges P_told C_sampled C_sampleStandings C_sizes C_ends C_lies C_merged C_reached C_done C_mergedBy C_parts C_samples C_bound C_ticks C_mergedInAll C_mergedAgain O_paces O_up) := hw
              refine lv_if_eq (tgt := 94) hx hb dX6_work_87 (by decide) (fun b13 => ?_) (fun b13 => ?_)
              · replace hf := it_t hf b13
                refine lv_iconst (v := 0) hx hb dX6_work_94 (by decide) ?_
                cases hf
                exact endI X hr rfl hlocks rfl hw dX6_work_95
              · replace hf := it_f hf b13
                refine lv_iconst (v := 1) hx hb dX6_work_90 (by decide) ?_
                refine lv_goto (tgt := 95) hx hb dX6_work_91 (by decide) ?_
                cases hf
                exact endI X hr rfl hlocks rfl hw dX6_work_95
            · replace hf := it_f hf b10
              have n0_13 := lv_neT b4 (a := 0) (by decide)
              have n1_13 := lv_neT b5 (a := 1) (by decide)
              have n2_13 := lv_neT b6 (a := 2) (by decide)
              have n3_13 := lv_neT b7 (a := 3) (by decide)
              have n4_13 := lv_neT b10 (a := 4) (by decide)
              refine lv_tableOut (tgt := 96) hx hb dX6_work_13 (by omega) (by decide) ?_
              refine lv_iconst (v := (-1)) hx hb dX6_work_96 (by decide) ?_
              cases hf
              exact endI X hr rfl hlocks rfl hw dX6_work_97
  · replace hf := it_t hf b3
    refine lv_iconst (v := (-1)) hx hb dX6_work_10 (by decide) ?_
    cases hf
    exact endI X hr rfl hlocks rfl hw dX6_work_11
def rm_X6_end : Room := { frames := 2, cells := 0, slots := 0, locals := 43 }
set_option maxRecDepth 20000 in
theorem i_X6_end_X6 : ∀ w ∈ u_ws RX6 TX6 6, w ∈ wsX6_end := by decide +kernel
set_option maxRecDepth 20000 in
theorem m_X6_end_0 : Cond.fieldLink RX6 40 "GreatSort" "cut" "LGreatSort$Cut;" ∈ wsX6_end := by decide +kernel
set_option maxRecDepth 20000 in
theorem m_X6_end_1 : Cond.fieldLink RX6 26 "GreatSort" "runs" "LGreatSort$Runs;" ∈ wsX6_end := by decide +kernel
set_option maxHeartbeats 4000000 in
set_option maxRecDepth 100000 in
theorem c_X6_end (l : Launch) (dC : Nat → ClassId) (dI : Nat → Nat → Nat) (cI cJ cZ : ClassId) (aG aW aH aR aP aC aO : Nat → Nat) (N : Nat) (W_sorts : (Nat → Int32)) (W_values : (Nat → Int32)) (W_turns : (Nat → Int32)) (W_falling : (Nat → Int32)) (W_count : Int32) (H_items : (Nat → Int64)) (H_size : Int32) (R_members : (Nat → Int32)) (R_starts : (Nat → Int32)) (R_inOrder : (Nat → Int32)) (R_standing : (Nat → Int32)) (R_heads : (Nat → Int32)) (R_tails : (Nat → Int32)) (R_rowsInAll : Int32) (R_made : Int32) (R_all : Int32) (R_filled : Int32) (P_takenRuns : (Nat → Int32)) (P_starts : (Nat → Int32)) (P_queued : (Nat → Int32)) (P_merges : Int32) (P_told : Int32) (C_sampled : (Nat → Int32)) (C_sampleStandings : (Nat → Int32)) (C_sizes : (Nat → Int32)) (C_ends : (Nat → Int32)) (C_lies : (Nat → Int32)) (C_merged : (Nat → Int32)) (C_reached : (Nat → Int32)) (C_done : (Nat → Int32)) (C_mergedBy : (Nat → Int32)) (C_parts : Int32) (C_samples : Int32) (C_bound : Int32) (C_ticks : Int32) (C_mergedInAll : Int32) (C_mergedAgain : Int32) (O_paces : (Nat → Int32)) (O_up : (Nat → Int32)) (v1 : Int32) {r : Int32} (hf : f_X6_end N R_inOrder R_rowsInAll C_done C_parts v1 = some r) :
    CtI l yX6_end wsX6_end rm_X6_end (dC, dI) (tyl cI cJ cZ) [.ref (aG 0), .int v1] (w_GWHRPCO aG aW aH aR aP aC aO cI cJ cZ W_sorts W_values W_turns W_falling W_count H_items H_size R_members R_starts R_inOrder R_standing R_heads R_tails R_rowsInAll R_made R_all R_filled P_takenRuns P_starts P_queued P_merges P_told C_sampled C_sampleStandings C_sizes C_ends C_lies C_merged C_reached C_done C_mergedBy C_parts C_samples C_bound C_ticks C_mergedInAll C_mergedAgain O_paces O_up) (w_GWHRPCO aG aW aH aR aP aC aO cI cJ cZ W_sorts W_values W_turns W_falling W_count H_items H_size R_members R_starts R_inOrder R_standing R_heads R_tails R_rowsInAll R_made R_all R_filled P_takenRuns P_starts P_queued P_merges P_told C_sampled C_sampleStandings C_sizes C_ends C_lies C_merged C_reached C_done C_mergedBy C_parts C_samples C_bound C_ticks C_mergedInAll C_mergedAgain O_paces O_up) r := by
  refine startI (cc := cX6_end) (maxL := 2) (rt := (some .int)) (by decide +kernel) rfl (Nat.le_of_ble_eq_true rfl) ?_
  intro p e s m below meth c A ls X hr hlocks hw hl
  replace X : Cx p m c cX6_end 2 s _ wsX6_end RX6 (dC, dI) (tyl cI cJ cZ) A := X
  replace hl : lv_has ls 2 [(0, .ref (aG 0)), (1, .int v1)] := hl
  obtain ⟨hx, hb, hml, hown, hts⟩ := X.1
  have hK := X.2.1
  have hN := X.2.2.2
  unfold f_X6_end at hf
  refine lv_aload_n hx hb dX6_end_0 rfl (lv_at hl 0 rfl) ?_
  refine va_get (D := (dC, dI)) (ci := 6) (v := .ref (aC 0)) (C := RX6) (T := TX6) (N := 6) hx hb hts i_X6_end_X6 hown hK hw.1 0 rfl rfl 4 (by decide) (hts _ m_X6_end_0) (fun _ h9 => h9) rfl dX6_end_1 ?_
  obtain ⟨r1, h2, hf⟩ := bd1_ob hf
  refine clVI (As := []) (rest := []) X (c_X0_isAtEnd l dC dI cI cJ cZ aC N C_sampled C_sampleStandings C_sizes C_ends C_lies C_merged C_reached C_done C_mergedBy C_parts C_samples C_bound C_ticks C_mergedInAll C_mergedAgain h2) (cwV 0 hts gX6_end_X0_isAtEnd rfl rfl rfl (by decide +kernel) ⟨Nat.le_of_ble_eq_true rfl, Nat.le_of_ble_eq_true rfl⟩) (ci := 0) (k0 := 0) rfl rfl rfl hw [19, 20, 21, 22, 23, 24, 25, 26, 27, 28] rfl rfl rfl rfl hl.1 rfl (Nat.le_of_ble_eq_true rfl) dX6_end_4 ⟨Nat.zero_le _, Nat.zero_le _⟩ (fun H locs hw => ?_)
  replace hw : Wd (dC, dI) A s.heap H locs (w_GWHRPCO aG aW aH aR aP aC aO cI cJ cZ W_sorts W_values W_turns W_falling W_count H_items H_size R_members R_starts R_inOrder R_standing R_heads R_tails R_rowsInAll R_made R_all R_filled P_takenRuns P_starts P_queued P_merges P_told C_sampled C_sampleStandings C_sizes C_ends C_lies C_merged C_reached C_done C_mergedBy C_parts C_samples C_bound C_ticks C_mergedInAll C_mergedAgain O_paces O_up) := hw
  refine lv_if_eq (tgt := 21) hx hb dX6_end_7 (by decide) (fun b3 => ?_) (fun b3 => ?_)
  · replace hf := it_t hf b3
    refine lv_iconst (v := (-1)) hx hb dX6_end_21 (by decide) ?_
    cases hf
    exact endI X hr rfl hlocks rfl hw dX6_end_22
  · replace hf := it_f hf b3
    refine lv_aload_n hx hb dX6_end_10 rfl (lv_at hl 0 rfl) ?_
    refine va_get (D := (dC, dI)) (ci := 6) (v := .ref (aR 0)) (C := RX6) (T := TX6) (N := 6) hx hb hts i_X6_end_X6 hown hK hw.1 0 rfl rfl 2 (by decide) (hts _ m_X6_end_1) (fun _ h9 => h9) rfl dX6_end_11 ?_
    refine lv_iload_n hx hb dX6_end_14 rfl (lv_at hl 1 rfl) ?_
    obtain ⟨r4, h5, hf⟩ := bd1_ob hf
    refine clVI (As := [.int v1]) (rest := []) X (c_X5_rowInOrder l dC dI cI cJ cZ aR N R_members R_starts R_inOrder R_standing R_heads R_tails R_rowsInAll R_made R_all R_filled v1 h5) (cwV 1 hts gX6_end_X5_rowInOrder rfl rfl rfl (by decide +kernel) ⟨Nat.le_of_ble_eq_true rfl, Nat.le_of_ble_eq_true rfl⟩) (ci := 5) (k0 := 0) rfl rfl rfl hw [8, 9, 10, 11, 12, 13, 14] rfl rfl rfl rfl hl.1 rfl (Nat.le_of_ble_eq_true rfl) dX6_end_15 ⟨Nat.zero_le _, Nat.zero_le _⟩ (fun H locs hw => ?_)
    replace hw : Wd (dC, dI) A s.heap H locs (w_GWHRPCO aG aW aH aR aP aC aO cI cJ cZ W_sorts W_values W_turns W_falling W_count H_items H_size R_members R_starts R_inOrder R_standing R_heads R_tails R_rowsInAll R_made R_all R_filled P_takenRuns P_starts P_queued P_merges P_told C_sampled C_sampleStandings C_sizes C_ends C_lies C_merged C_reached C_done C_mergedBy C_parts C_samples C_bound C_ticks C_mergedInAll C_mergedAgain O_paces O_up) := hw
    refine lv_goto (tgt := 22) hx hb dX6_end_18 (by decide) ?_
    cases hf
    exact endI X hr rfl hlocks rfl hw dX6_end_22
def rm_X6_count : Room := { frames := 0, cells := 0, slots := 0, locals := 0 }
set_option maxRecDepth 20000 in
theorem i_X6_count_X6 : ∀ w ∈ u_ws RX6 TX6 6, w ∈ wsX6_count := by decide +kernel
set_option maxRecDepth 20000 in
theorem i_X6_count_X4 : ∀ w ∈ u_ws RX4 TX4 5, w ∈ wsX6_count := by decide +kernel
set_option maxRecDepth 20000 in
theorem i_X6_count_X5 : ∀ w ∈ u_ws RX5 TX5 10, w ∈ wsX6_count := by decide +kernel
set_option maxRecDepth 20000 in
theorem i_X6_count_X0 : ∀ w ∈ u_ws RX0 TX0 15, w ∈ wsX6_count := by decide +kernel
set_option maxRecDepth 20000 in
theorem m_X6_count_0 : Cond.fieldLink RX6 12 "GreatSort" "rows" "LGreatSort$Rows;" ∈ wsX6_count := by decide +kernel
set_option maxRecDepth 20000 in
theorem m_X6_count_1 : Cond.fieldLink RX6 26 "GreatSort" "runs" "LGreatSort$Runs;" ∈ wsX6_count := by decide +kernel
set_option maxRecDepth 20000 in
theorem m_X6_count_2 : Cond.fieldLink RX6 40 "GreatSort" "cut" "LGreatSort$Cut;" ∈ wsX6_count := by decide +kernel
set_option maxHeartbeats 4000000 in
set_option maxRecDepth 100000 in
theorem c_X6_count (l : Launch) (dC : Nat → ClassId) (dI : Nat → Nat → Nat) (cI cJ cZ : ClassId) (aG aW aH aR aP aC aO : Nat → Nat) (N : Nat) (W_sorts : (Nat → Int32)) (W_values : (Nat → Int32)) (W_turns : (Nat → Int32)) (W_falling : (Nat → Int32)) (W_count : Int32) (H_items : (Nat → Int64)) (H_size : Int32) (R_members : (Nat → Int32)) (R_starts : (Nat → Int32)) (R_inOrder : (Nat → Int32)) (R_standing : (Nat → Int32)) (R_heads : (Nat → Int32)) (R_tails : (Nat → Int32)) (R_rowsInAll : Int32) (R_made : Int32) (R_all : Int32) (R_filled : Int32) (P_takenRuns : (Nat → Int32)) (P_starts : (Nat → Int32)) (P_queued : (Nat → Int32)) (P_merges : Int32) (P_told : Int32) (C_sampled : (Nat → Int32)) (C_sampleStandings : (Nat → Int32)) (C_sizes : (Nat → Int32)) (C_ends : (Nat → Int32)) (C_lies : (Nat → Int32)) (C_merged : (Nat → Int32)) (C_reached : (Nat → Int32)) (C_done : (Nat → Int32)) (C_mergedBy : (Nat → Int32)) (C_parts : Int32) (C_samples : Int32) (C_bound : Int32) (C_ticks : Int32) (C_mergedInAll : Int32) (C_mergedAgain : Int32) (O_paces : (Nat → Int32)) (O_up : (Nat → Int32)) (v1 : Int32) {r : Int32} (hf : f_X6_count N W_count R_made C_parts C_samples v1 = some r) :
    CtI l yX6_count wsX6_count rm_X6_count (dC, dI) (tyl cI cJ cZ) [.ref (aG 0), .int v1] (w_GWHRPCO aG aW aH aR aP aC aO cI cJ cZ W_sorts W_values W_turns W_falling W_count H_items H_size R_members R_starts R_inOrder R_standing R_heads R_tails R_rowsInAll R_made R_all R_filled P_takenRuns P_starts P_queued P_merges P_told C_sampled C_sampleStandings C_sizes C_ends C_lies C_merged C_reached C_done C_mergedBy C_parts C_samples C_bound C_ticks C_mergedInAll C_mergedAgain O_paces O_up) (w_GWHRPCO aG aW aH aR aP aC aO cI cJ cZ W_sorts W_values W_turns W_falling W_count H_items H_size R_members R_starts R_inOrder R_standing R_heads R_tails R_rowsInAll R_made R_all R_filled P_takenRuns P_starts P_queued P_merges P_told C_sampled C_sampleStandings C_sizes C_ends C_lies C_merged C_reached C_done C_mergedBy C_parts C_samples C_bound C_ticks C_mergedInAll C_mergedAgain O_paces O_up) r := by
  refine startI (cc := cX6_count) (maxL := 2) (rt := (some .int)) (by decide +kernel) rfl (Nat.le_of_ble_eq_true rfl) ?_
  intro p e s m below meth c A ls X hr hlocks hw hl
  replace X : Cx p m c cX6_count 2 s _ wsX6_count RX6 (dC, dI) (tyl cI cJ cZ) A := X
  replace hl : lv_has ls 2 [(0, .ref (aG 0)), (1, .int v1)] := hl
  obtain ⟨hx, hb, hml, hown, hts⟩ := X.1
  have hK := X.2.1
  have hN := X.2.2.2
  unfold f_X6_count at hf
  refine lv_iload_n hx hb dX6_count_0 rfl (lv_at hl 1 rfl) ?_
  by_cases b1 : v1 = 0
  · replace hf := it_t hf b1
    refine lv_tableIn (tgt := 32) (off := 31) hx hb dX6_count_1 (by rw [b1]; decide) (by rw [b1]; decide) (by rw [b1]; first | done | decide) (by decide) ?_
    refine lv_aload_n hx hb dX6_count_32 rfl (lv_at hl 0 rfl) ?_
    refine va_get (D := (dC, dI)) (ci := 6) (v := .ref (aW 0)) (C := RX6) (T := TX6) (N := 6) hx hb hts i_X6_count_X6 hown hK hw.1 0 rfl rfl 0 (by decide) (hts _ m_X6_count_0) (fun _ h9 => h9) rfl dX6_count_33 ?_
    refine va_getN (D := (dC, dI)) (ci := 4) (v := .int W_count) (C := RX4) (T := TX4) (N := 5) hx hb hts i_X6_count_X4 hown hK hw.1 1 rfl rfl 4 (by decide) (va_Nw.use rfl (hN _ nk_15)) (fun _ h9 => h9) rfl dX6_count_36 ?_
    cases hf
    exact endI X hr rfl hlocks rfl hw dX6_count_39
  · replace hf := it_f hf b1
    by_cases b2 : v1 = 1
    · replace hf := it_t hf b2
      refine lv_tableIn (tgt := 40) (off := 39) hx hb dX6_count_1 (by rw [b2]; decide) (by rw [b2]; decide) (by rw [b2]; first | done | decide) (by decide) ?_
      refine lv_aload_n hx hb dX6_count_40 rfl (lv_at hl 0 rfl) ?_
      refine va_get (D := (dC, dI)) (ci := 6) (v := .ref (aR 0)) (C := RX6) (T := TX6) (N := 6) hx hb hts i_X6_count_X6 hown hK hw.1 0 rfl rfl 2 (by decide) (hts _ m_X6_count_1) (fun _ h9 => h9) rfl dX6_count_41 ?_
      refine va_getN (D := (dC, dI)) (ci := 5) (v := .int R_made) (C := RX5) (T := TX5) (N := 10) hx hb hts i_X6_count_X5 hown hK hw.1 8 rfl rfl 7 (by decide) (va_Nw.use rfl (hN _ nk_16)) (fun _ h9 => h9) rfl dX6_count_44 ?_
      cases hf
      exact endI X hr rfl hlocks rfl hw dX6_count_47
    · replace hf := it_f hf b2
      by_cases b3 : v1 = 2
      · replace hf := it_t hf b3
        refine lv_tableIn (tgt := 48) (off := 47) hx hb dX6_count_1 (by rw [b3]; decide) (by rw [b3]; decide) (by rw [b3]; first | done | decide) (by decide) ?_
        refine lv_aload_n hx hb dX6_count_48 rfl (lv_at hl 0 rfl) ?_
        refine va_get (D := (dC, dI)) (ci := 6) (v := .ref (aC 0)) (C := RX6) (T := TX6) (N := 6) hx hb hts i_X6_count_X6 hown hK hw.1 0 rfl rfl 4 (by decide) (hts _ m_X6_count_2) (fun _ h9 => h9) rfl dX6_count_49 ?_
        refine va_getN (D := (dC, dI)) (ci := 0) (v := .int C_samples) (C := RX0) (T := TX0) (N := 15) hx hb hts i_X6_count_X0 hown hK hw.1 19 rfl rfl 10 (by decide) (va_Nw.use rfl (hN _ nk_2)) (fun _ h9 => h9) rfl dX6_count_52 ?_
        cases hf
        exact endI X hr rfl hlocks rfl hw dX6_count_55
      · replace hf := it_f hf b3
        by_cases b4 : v1 = 3
        · replace hf := it_t hf b4
          refine lv_tableIn (tgt := 56) (off := 55) hx hb dX6_count_1 (by rw [b4]; decide) (by rw [b4]; decide) (by rw [b4]; first | done | decide) (by decide) ?_
          refine lv_aload_n hx hb dX6_count_56 rfl (lv_at hl 0 rfl) ?_
          refine va_get (D := (dC, dI)) (ci := 6) (v := .ref (aC 0)) (C := RX6) (T := TX6) (N := 6) hx hb hts i_X6_count_X6 hown hK hw.1 0 rfl rfl 4 (by decide) (hts _ m_X6_count_2) (fun _ h9 => h9) rfl dX6_count_57 ?_
          refine va_getN (D := (dC, dI)) (ci := 0) (v := .int C_parts) (C := RX0) (T := TX0) (N := 15) hx hb hts i_X6_count_X0 hown hK hw.1 19 rfl rfl 9 (by decide) (va_Nw.use rfl (hN _ nk_4)) (fun _ h9 => h9) rfl dX6_count_60 ?_
          cases hf
          exact endI X hr rfl hlocks rfl hw dX6_count_63
        · replace hf := it_f hf b4
          have n0_1 := lv_neT b1 (a := 0) (by decide)
          have n1_1 := lv_neT b2 (a := 1) (by decide)
          have n2_1 := lv_neT b3 (a := 2) (by decide)
          have n3_1 := lv_neT b4 (a := 3) (by decide)
          refine lv_tableOut (tgt := 64) hx hb dX6_count_1 (by omega) (by decide) ?_
          refine lv_iconst (v := (-1)) hx hb dX6_count_64 (by decide) ?_
          cases hf
          exact endI X hr rfl hlocks rfl hw dX6_count_65
