def rm_X6_host : Room := { frames := 2, cells := 0, slots := 0, locals := 42 }
set_option maxRecDepth 20000 in
theorem i_X6_host_X6 : ∀ w ∈ u_ws RX6 TX6 6, w ∈ wsX6_host := by decide +kernel
set_option maxRecDepth 20000 in
theorem i_X6_host_X2 : ∀ w ∈ u_ws RX2 TX2 2, w ∈ wsX6_host := by decide +kernel
set_option maxRecDepth 20000 in
theorem i_X6_host_X0 : ∀ w ∈ u_ws RX0 TX0 15, w ∈ wsX6_host := by decide +kernel
set_option maxRecDepth 20000 in
theorem m_X6_host_0 : Cond.fieldLink RX6 47 "GreatSort" "hosts" "LGreatSort$Hosts;" ∈ wsX6_host := by decide +kernel
set_option maxRecDepth 20000 in
theorem m_X6_host_1 : Cond.fieldLink RX6 40 "GreatSort" "cut" "LGreatSort$Cut;" ∈ wsX6_host := by decide +kernel
set_option maxHeartbeats 4000000 in
set_option maxRecDepth 100000 in
theorem c_X6_host (l : Launch) (dC : Nat → ClassId) (dI : Nat → Nat → Nat) (cI cJ cZ : ClassId) (aG aW aH aR aP aC aO : Nat → Nat) (N : Nat) (W_sorts : (Nat → Int32)) (W_values : (Nat → Int32)) (W_turns : (Nat → Int32)) (W_falling : (Nat → Int32)) (W_count : Int32) (H_items : (Nat → Int64)) (H_size : Int32) (R_members : (Nat → Int32)) (R_starts : (Nat → Int32)) (R_inOrder : (Nat → Int32)) (R_standing : (Nat → Int32)) (R_heads : (Nat → Int32)) (R_tails : (Nat → Int32)) (R_rowsInAll : Int32) (R_made : Int32) (R_all : Int32) (R_filled : Int32) (P_takenRuns : (Nat → Int32)) (P_starts : (Nat → Int32)) (P_queued : (Nat → Int32)) (P_merges : Int32) (P_told : Int32) (C_sampled : (Nat → Int32)) (C_sampleStandings : (Nat → Int32)) (C_sizes : (Nat → Int32)) (C_ends : (Nat → Int32)) (C_lies : (Nat → Int32)) (C_merged : (Nat → Int32)) (C_reached : (Nat → Int32)) (C_done : (Nat → Int32)) (C_mergedBy : (Nat → Int32)) (C_parts : Int32) (C_samples : Int32) (C_bound : Int32) (C_ticks : Int32) (C_mergedInAll : Int32) (C_mergedAgain : Int32) (O_paces : (Nat → Int32)) (O_up : (Nat → Int32)) (v1 : Int32) (v2 : Int32) {r : Int32} (hf : f_X6_host N C_sizes C_lies C_merged C_mergedBy C_parts O_paces O_up v1 v2 = some r) :
    CtI l yX6_host wsX6_host rm_X6_host (dC, dI) (tyl cI cJ cZ) [.ref (aG 0), .int v1, .int v2] (w_GWHRPCO aG aW aH aR aP aC aO cI cJ cZ W_sorts W_values W_turns W_falling W_count H_items H_size R_members R_starts R_inOrder R_standing R_heads R_tails R_rowsInAll R_made R_all R_filled P_takenRuns P_starts P_queued P_merges P_told C_sampled C_sampleStandings C_sizes C_ends C_lies C_merged C_reached C_done C_mergedBy C_parts C_samples C_bound C_ticks C_mergedInAll C_mergedAgain O_paces O_up) (w_GWHRPCO aG aW aH aR aP aC aO cI cJ cZ W_sorts W_values W_turns W_falling W_count H_items H_size R_members R_starts R_inOrder R_standing R_heads R_tails R_rowsInAll R_made R_all R_filled P_takenRuns P_starts P_queued P_merges P_told C_sampled C_sampleStandings C_sizes C_ends C_lies C_merged C_reached C_done C_mergedBy C_parts C_samples C_bound C_ticks C_mergedInAll C_mergedAgain O_paces O_up) r := by
  refine startI (cc := cX6_host) (maxL := 3) (rt := (some .int)) (by decide +kernel) rfl (Nat.le_of_ble_eq_true rfl) ?_
  intro p e s m below meth c A ls X hr hlocks hw hl
  replace X : Cx p m c cX6_host 3 s _ wsX6_host RX6 (dC, dI) (tyl cI cJ cZ) A := X
  replace hl : lv_has ls 3 [(0, .ref (aG 0)), (1, .int v1), (2, .int v2)] := hl
  obtain ⟨hx, hb, hml, hown, hts⟩ := X.1
  have hK := X.2.1
  have hN := X.2.2.2
  unfold f_X6_host at hf
  refine lv_iload_n hx hb dX6_host_0 rfl (lv_at hl 1 rfl) ?_
  obtain ⟨r1, h2, hf⟩ := bd1_ob hf
  refine clSI (As := [.int v1]) (rest := []) X (c_X6_isHost l dC dI cI cJ cZ N v1 h2) (va_cwS 1 hts gX6_host_X6_isHost rfl rfl rfl (by decide +kernel) ⟨Nat.le_of_ble_eq_true rfl, Nat.le_of_ble_eq_true rfl⟩) hw [] rfl rfl rfl rfl hl.1 rfl (Nat.le_of_ble_eq_true rfl) dX6_host_1 ⟨Nat.zero_le _, Nat.zero_le _⟩ (fun H locs hw => ?_)
  replace hw : Wd (dC, dI) A s.heap H locs (w_GWHRPCO aG aW aH aR aP aC aO cI cJ cZ W_sorts W_values W_turns W_falling W_count H_items H_size R_members R_starts R_inOrder R_standing R_heads R_tails R_rowsInAll R_made R_all R_filled P_takenRuns P_starts P_queued P_merges P_told C_sampled C_sampleStandings C_sizes C_ends C_lies C_merged C_reached C_done C_mergedBy C_parts C_samples C_bound C_ticks C_mergedInAll C_mergedAgain O_paces O_up) := hw
  refine lv_if_ne (tgt := 9) hx hb dX6_host_4 (by decide) (fun b3 => ?_) (fun b3 => ?_)
  · replace hf := it_f hf b3
    refine lv_iload_n hx hb dX6_host_9 rfl (lv_at hl 2 rfl) ?_
    by_cases b4 : v2 = 0
    · replace hf := it_t hf b4
      refine lv_tableIn (tgt := 44) (off := 34) hx hb dX6_host_10 (by rw [b4]; decide) (by rw [b4]; decide) (by rw [b4]; first | done | decide) (by decide) ?_
      refine lv_aload_n hx hb dX6_host_44 rfl (lv_at hl 0 rfl) ?_
      refine va_get (D := (dC, dI)) (ci := 6) (v := .ref (aO 0)) (C := RX6) (T := TX6) (N := 6) hx hb hts i_X6_host_X6 hown hK hw.1 0 rfl rfl 5 (by decide) (hts _ m_X6_host_0) (fun _ h9 => h9) rfl dX6_host_45 ?_
      refine va_getN (D := (dC, dI)) (ci := 2) (v := .ref (aO 1)) (C := RX2) (T := TX2) (N := 2) hx hb hts i_X6_host_X2 hown hK hw.1 29 rfl rfl 0 (by decide) (va_Nw.use rfl (hN _ nk_9)) (fun _ h9 => h9) rfl dX6_host_48 ?_
      refine lv_iload_n hx hb dX6_host_51 rfl (lv_at hl 1 rfl) ?_
      have g5 := ix_in (gd_l hf)
      replace hf := gd_r hf
      refine va_iald hx hb hK hw.1 30 0 rfl rfl g5 dX6_host_52 ?_
      cases hf
      exact endI X hr rfl hlocks rfl hw dX6_host_53
    · replace hf := it_f hf b4
      by_cases b6 : v2 = 1
      · replace hf := it_t hf b6
        refine lv_tableIn (tgt := 54) (off := 44) hx hb dX6_host_10 (by rw [b6]; decide) (by rw [b6]; decide) (by rw [b6]; first | done | decide) (by decide) ?_
        refine lv_aload_n hx hb dX6_host_54 rfl (lv_at hl 0 rfl) ?_
        refine va_get (D := (dC, dI)) (ci := 6) (v := .ref (aO 0)) (C := RX6) (T := TX6) (N := 6) hx hb hts i_X6_host_X6 hown hK hw.1 0 rfl rfl 5 (by decide) (hts _ m_X6_host_0) (fun _ h9 => h9) rfl dX6_host_55 ?_
        refine va_getN (D := (dC, dI)) (ci := 2) (v := .ref (aO 2)) (C := RX2) (T := TX2) (N := 2) hx hb hts i_X6_host_X2 hown hK hw.1 29 rfl rfl 1 (by decide) (va_Nw.use rfl (hN _ nk_10)) (fun _ h9 => h9) rfl dX6_host_58 ?_
        refine lv_iload_n hx hb dX6_host_61 rfl (lv_at hl 1 rfl) ?_
        have g7 := ix_in (gd_l hf)
        replace hf := gd_r hf
        refine va_zald hx hb hK hw.1 31 2 rfl rfl g7 dX6_host_62 ?_
        refine lv_if_eq (tgt := 70) hx hb dX6_host_63 (by decide) (fun b8 => ?_) (fun b8 => ?_)
        · replace hf := it_t hf b8
          refine lv_iconst (v := 0) hx hb dX6_host_70 (by decide) ?_
          cases hf
          exact endI X hr rfl hlocks rfl hw dX6_host_71
        · replace hf := it_f hf b8
          refine lv_iconst (v := 1) hx hb dX6_host_66 (by decide) ?_
          refine lv_goto (tgt := 71) hx hb dX6_host_67 (by decide) ?_
          cases hf
          exact endI X hr rfl hlocks rfl hw dX6_host_71
      · replace hf := it_f hf b6
        by_cases b9 : v2 = 2
        · replace hf := it_t hf b9
          refine lv_tableIn (tgt := 72) (off := 62) hx hb dX6_host_10 (by rw [b9]; decide) (by rw [b9]; decide) (by rw [b9]; first | done | decide) (by decide) ?_
          refine lv_aload_n hx hb dX6_host_72 rfl (lv_at hl 0 rfl) ?_
          refine va_get (D := (dC, dI)) (ci := 6) (v := .ref (aC 0)) (C := RX6) (T := TX6) (N := 6) hx hb hts i_X6_host_X6 hown hK hw.1 0 rfl rfl 4 (by decide) (hts _ m_X6_host_1) (fun _ h9 => h9) rfl dX6_host_73 ?_
          refine lv_iload_n hx hb dX6_host_76 rfl (lv_at hl 1 rfl) ?_
          obtain ⟨r10, h11, hf⟩ := bd1_ob hf
          refine clVI (As := [.int v1]) (rest := []) X (c_X0_partsOn l dC dI cI cJ cZ aC N C_sampled C_sampleStandings C_sizes C_ends C_lies C_merged C_reached C_done C_mergedBy C_parts C_samples C_bound C_ticks C_mergedInAll C_mergedAgain v1 h11) (cwV 1 hts gX6_host_X0_partsOn rfl rfl rfl (by decide +kernel) ⟨Nat.le_of_ble_eq_true rfl, Nat.le_of_ble_eq_true rfl⟩) (ci := 0) (k0 := 0) rfl rfl rfl hw [19, 20, 21, 22, 23, 24, 25, 26, 27, 28] rfl rfl rfl rfl hl.1 rfl (Nat.le_of_ble_eq_true rfl) dX6_host_77 ⟨Nat.zero_le _, Nat.zero_le _⟩ (fun H locs hw => ?_)
          replace hw : Wd (dC, dI) A s.heap H locs (w_GWHRPCO aG aW aH aR aP aC aO cI cJ cZ W_sorts W_values W_turns W_falling W_count H_items H_size R_members R_starts R_inOrder R_standing R_heads R_tails R_rowsInAll R_made R_all R_filled P_takenRuns P_starts P_queued P_merges P_told C_sampled C_sampleStandings C_sizes C_ends C_lies C_merged C_reached C_done C_mergedBy C_parts C_samples C_bound C_ticks C_mergedInAll C_mergedAgain O_paces O_up) := hw
          cases hf
          exact endI X hr rfl hlocks rfl hw dX6_host_80
        · replace hf := it_f hf b9
          by_cases b12 : v2 = 3
          · replace hf := it_t hf b12
            refine lv_tableIn (tgt := 81) (off := 71) hx hb dX6_host_10 (by rw [b12]; decide) (by rw [b12]; decide) (by rw [b12]; first | done | decide) (by decide) ?_
            refine lv_aload_n hx hb dX6_host_81 rfl (lv_at hl 0 rfl) ?_
            refine va_get (D := (dC, dI)) (ci := 6) (v := .ref (aC 0)) (C := RX6) (T := TX6) (N := 6) hx hb hts i_X6_host_X6 hown hK hw.1 0 rfl rfl 4 (by decide) (hts _ m_X6_host_1) (fun _ h9 => h9) rfl dX6_host_82 ?_
            refine lv_iload_n hx hb dX6_host_85 rfl (lv_at hl 1 rfl) ?_
            obtain ⟨r13, h14, hf⟩ := bd1_ob hf
            refine clVI (As := [.int v1]) (rest := []) X (c_X0_leftOn l dC dI cI cJ cZ aC N C_sampled C_sampleStandings C_sizes C_ends C_lies C_merged C_reached C_done C_mergedBy C_parts C_samples C_bound C_ticks C_mergedInAll C_mergedAgain v1 h14) (cwV 1 hts gX6_host_X0_leftOn rfl rfl rfl (by decide +kernel) ⟨Nat.le_of_ble_eq_true rfl, Nat.le_of_ble_eq_true rfl⟩) (ci := 0) (k0 := 0) rfl rfl rfl hw [19, 20, 21, 22, 23, 24, 25, 26, 27, 28] rfl rfl rfl rfl hl.1 rfl (Nat.le_of_ble_eq_true rfl) dX6_host_86 ⟨Nat.zero_le _, Nat.zero_le _⟩ (fun H locs hw => ?_)
            replace hw : Wd (dC, dI) A s.heap H locs (w_GWHRPCO aG aW aH aR aP aC aO cI cJ cZ W_sorts W_values W_turns W_falling W_count H_items H_size R_members R_starts R_inOrder R_standing R_heads R_tails R_rowsInAll R_made R_all R_filled P_takenRuns P_starts P_queued P_merges P_told C_sampled C_sampleStandings C_sizes C_ends C_lies C_merged C_reached C_done C_mergedBy C_parts C_samples C_bound C_ticks C_mergedInAll C_mergedAgain O_paces O_up) := hw
            cases hf
            exact endI X hr rfl hlocks rfl hw dX6_host_89
          · replace hf := it_f hf b12
            by_cases b15 : v2 = 4
            · replace hf := it_t hf b15
              refine lv_tableIn (tgt := 90) (off := 80) hx hb dX6_host_10 (by rw [b15]; decide) (by rw [b15]; decide) (by rw [b15]; first | done | decide) (by decide) ?_
              refine lv_aload_n hx hb dX6_host_90 rfl (lv_at hl 0 rfl) ?_
              refine va_get (D := (dC, dI)) (ci := 6) (v := .ref (aC 0)) (C := RX6) (T := TX6) (N := 6) hx hb hts i_X6_host_X6 hown hK hw.1 0 rfl rfl 4 (by decide) (hts _ m_X6_host_1) (fun _ h9 => h9) rfl dX6_host_91 ?_
              refine va_getN (D := (dC, dI)) (ci := 0) (v := .ref (aC 9)) (C := RX0) (T := TX0) (N := 15) hx hb hts i_X6_host_X0 hown hK hw.1 19 rfl rfl 8 (by decide) (va_Nw.use rfl (hN _ nk_11)) (fun _ h9 => h9) rfl dX6_host_94 ?_
              refine lv_iload_n hx hb dX6_host_97 rfl (lv_at hl 1 rfl) ?_
              have g16 := ix_in (gd_l hf)
              replace hf := gd_r hf
              refine va_iald hx hb hK hw.1 28 0 rfl rfl g16 dX6_host_98 ?_
              cases hf
              exact endI X hr rfl hlocks rfl hw dX6_host_99
            · replace hf := it_f hf b15
              have n0_10 := lv_neT b4 (a := 0) (by decide)
              have n1_10 := lv_neT b6 (a := 1) (by decide)
              have n2_10 := lv_neT b9 (a := 2) (by decide)
              have n3_10 := lv_neT b12 (a := 3) (by decide)
              have n4_10 := lv_neT b15 (a := 4) (by decide)
              refine lv_tableOut (tgt := 100) hx hb dX6_host_10 (by omega) (by decide) ?_
              refine lv_iconst (v := (-1)) hx hb dX6_host_100 (by decide) ?_
              cases hf
              exact endI X hr rfl hlocks rfl hw dX6_host_101
  · replace hf := it_t hf b3
    refine lv_iconst (v := (-1)) hx hb dX6_host_7 (by decide) ?_
    cases hf
    exact endI X hr rfl hlocks rfl hw dX6_host_8
def rm_X6_tick : Room := { frames := 4, cells := 0, slots := 0, locals := 91 }
set_option maxRecDepth 20000 in
theorem i_X6_tick_X6 : ∀ w ∈ u_ws RX6 TX6 6, w ∈ wsX6_tick := by decide +kernel
set_option maxRecDepth 20000 in
theorem m_X6_tick_0 : Cond.fieldLink RX6 40 "GreatSort" "cut" "LGreatSort$Cut;" ∈ wsX6_tick := by decide +kernel
set_option maxRecDepth 20000 in
theorem m_X6_tick_1 : Cond.fieldLink RX6 47 "GreatSort" "hosts" "LGreatSort$Hosts;" ∈ wsX6_tick := by decide +kernel
set_option maxHeartbeats 4000000 in
set_option maxRecDepth 100000 in
theorem c_X6_tick (l : Launch) (dC : Nat → ClassId) (dI : Nat → Nat → Nat) (cI cJ cZ : ClassId) (aG aW aH aR aP aC aO : Nat → Nat) (N : Nat) (W_sorts : (Nat → Int32)) (W_values : (Nat → Int32)) (W_turns : (Nat → Int32)) (W_falling : (Nat → Int32)) (W_count : Int32) (H_items : (Nat → Int64)) (H_size : Int32) (R_members : (Nat → Int32)) (R_starts : (Nat → Int32)) (R_inOrder : (Nat → Int32)) (R_standing : (Nat → Int32)) (R_heads : (Nat → Int32)) (R_tails : (Nat → Int32)) (R_rowsInAll : Int32) (R_made : Int32) (R_all : Int32) (R_filled : Int32) (P_takenRuns : (Nat → Int32)) (P_starts : (Nat → Int32)) (P_queued : (Nat → Int32)) (P_merges : Int32) (P_told : Int32) (C_sampled : (Nat → Int32)) (C_sampleStandings : (Nat → Int32)) (C_sizes : (Nat → Int32)) (C_ends : (Nat → Int32)) (C_lies : (Nat → Int32)) (C_merged : (Nat → Int32)) (C_reached : (Nat → Int32)) (C_done : (Nat → Int32)) (C_mergedBy : (Nat → Int32)) (C_parts : Int32) (C_samples : Int32) (C_bound : Int32) (C_ticks : Int32) (C_mergedInAll : Int32) (C_mergedAgain : Int32) (O_paces : (Nat → Int32)) (O_up : (Nat → Int32))  {r : Int32} {o_C_merged : (Nat → Int32)} {o_C_reached : (Nat → Int32)} {o_C_done : (Nat → Int32)} {o_C_mergedBy : (Nat → Int32)} {o_C_ticks : Int32} {o_C_mergedInAll : Int32} {o_C_mergedAgain : Int32} (hf : f_X6_tick N C_sizes C_lies C_merged C_reached C_done C_mergedBy C_parts C_ticks C_mergedInAll C_mergedAgain O_paces O_up  = some (r, o_C_merged, o_C_reached, o_C_done, o_C_mergedBy, o_C_ticks, o_C_mergedInAll, o_C_mergedAgain)) :
    CtI l yX6_tick wsX6_tick rm_X6_tick (dC, dI) (tyl cI cJ cZ) [.ref (aG 0)] (w_GWHRPCO aG aW aH aR aP aC aO cI cJ cZ W_sorts W_values W_turns W_falling W_count H_items H_size R_members R_starts R_inOrder R_standing R_heads R_tails R_rowsInAll R_made R_all R_filled P_takenRuns P_starts P_queued P_merges P_told C_sampled C_sampleStandings C_sizes C_ends C_lies C_merged C_reached C_done C_mergedBy C_parts C_samples C_bound C_ticks C_mergedInAll C_mergedAgain O_paces O_up) (w_GWHRPCO aG aW aH aR aP aC aO cI cJ cZ W_sorts W_values W_turns W_falling W_count H_items H_size R_members R_starts R_inOrder R_standing R_heads R_tails R_rowsInAll R_made R_all R_filled P_takenRuns P_starts P_queued P_merges P_told C_sampled C_sampleStandings C_sizes C_ends C_lies o_C_merged o_C_reached o_C_done o_C_mergedBy C_parts C_samples C_bound o_C_ticks o_C_mergedInAll o_C_mergedAgain O_paces O_up) r := by
  refine startI (cc := cX6_tick) (maxL := 1) (rt := (some .int)) (by decide +kernel) rfl (Nat.le_of_ble_eq_true rfl) ?_
  intro p e s m below meth c A ls X hr hlocks hw hl
  replace X : Cx p m c cX6_tick 1 s _ wsX6_tick RX6 (dC, dI) (tyl cI cJ cZ) A := X
  replace hl : lv_has ls 1 [(0, .ref (aG 0))] := hl
  obtain ⟨hx, hb, hml, hown, hts⟩ := X.1
  have hK := X.2.1
  have hN := X.2.2.2
  unfold f_X6_tick at hf
  refine lv_aload_n hx hb dX6_tick_0 rfl (lv_at hl 0 rfl) ?_
  refine va_get (D := (dC, dI)) (ci := 6) (v := .ref (aC 0)) (C := RX6) (T := TX6) (N := 6) hx hb hts i_X6_tick_X6 hown hK hw.1 0 rfl rfl 4 (by decide) (hts _ m_X6_tick_0) (fun _ h9 => h9) rfl dX6_tick_1 ?_
  obtain ⟨r1, h2, hf⟩ := bd1_ob hf
  refine clVI (As := []) (rest := []) X (c_X0_stands l dC dI cI cJ cZ aC N C_sampled C_sampleStandings C_sizes C_ends C_lies C_merged C_reached C_done C_mergedBy C_parts C_samples C_bound C_ticks C_mergedInAll C_mergedAgain h2) (cwV 0 hts gX6_tick_X0_stands rfl rfl rfl (by decide +kernel) ⟨Nat.le_of_ble_eq_true rfl, Nat.le_of_ble_eq_true rfl⟩) (ci := 0) (k0 := 0) rfl rfl rfl hw [19, 20, 21, 22, 23, 24, 25, 26, 27, 28] rfl rfl rfl rfl hl.1 rfl (Nat.le_of_ble_eq_true rfl) dX6_tick_4 ⟨Nat.zero_le _, Nat.zero_le _⟩ (fun H locs hw => ?_)
  replace hw : Wd (dC, dI) A s.heap H locs (w_GWHRPCO aG aW aH aR aP aC aO cI cJ cZ W_sorts W_values W_turns W_falling W_count H_items H_size R_members R_starts R_inOrder R_standing R_heads R_tails R_rowsInAll R_made R_all R_filled P_takenRuns P_starts P_queued P_merges P_told C_sampled C_sampleStandings C_sizes C_ends C_lies C_merged C_reached C_done C_mergedBy C_parts C_samples C_bound C_ticks C_mergedInAll C_mergedAgain O_paces O_up) := hw
  refine lv_if_eq (tgt := 24) hx hb dX6_tick_7 (by decide) (fun b3 => ?_) (fun b3 => ?_)
  · replace hf := it_t hf b3
    refine lv_iconst (v := (-1)) hx hb dX6_tick_24 (by decide) ?_
    cases hf
    exact endI X hr rfl hlocks rfl hw dX6_tick_25
  · replace hf := it_f hf b3
    refine lv_aload_n hx hb dX6_tick_10 rfl (lv_at hl 0 rfl) ?_
    refine va_get (D := (dC, dI)) (ci := 6) (v := .ref (aC 0)) (C := RX6) (T := TX6) (N := 6) hx hb hts i_X6_tick_X6 hown hK hw.1 0 rfl rfl 4 (by decide) (hts _ m_X6_tick_0) (fun _ h9 => h9) rfl dX6_tick_11 ?_
    refine lv_aload_n hx hb dX6_tick_14 rfl (lv_at hl 0 rfl) ?_
    refine va_get (D := (dC, dI)) (ci := 6) (v := .ref (aO 0)) (C := RX6) (T := TX6) (N := 6) hx hb hts i_X6_tick_X6 hown hK hw.1 0 rfl rfl 5 (by decide) (hts _ m_X6_tick_1) (fun _ h9 => h9) rfl dX6_tick_15 ?_
    obtain ⟨r4, c5, c6, c7, c8, c9, c10, c11, h12, hf⟩ := bd8_ob hf
    refine clVI (As := [.ref (aO 0)]) (rest := []) X (c_X0_goOn l dC dI cI cJ cZ aC aO N C_sampled C_sampleStandings C_sizes C_ends C_lies C_merged C_reached C_done C_mergedBy C_parts C_samples C_bound C_ticks C_mergedInAll C_mergedAgain O_paces O_up h12) (cwV 1 hts gX6_tick_X0_goOn rfl rfl rfl (by decide +kernel) ⟨Nat.le_of_ble_eq_true rfl, Nat.le_of_ble_eq_true rfl⟩) (ci := 0) (k0 := 0) rfl rfl rfl hw [19, 20, 21, 22, 23, 24, 25, 26, 27, 28, 29, 30, 31] rfl rfl rfl rfl hl.1 rfl (Nat.le_of_ble_eq_true rfl) dX6_tick_18 ⟨Nat.zero_le _, Nat.zero_le _⟩ (fun H locs hw => ?_)
    replace hw : Wd (dC, dI) A s.heap H locs (w_GWHRPCO aG aW aH aR aP aC aO cI cJ cZ W_sorts W_values W_turns W_falling W_count H_items H_size R_members R_starts R_inOrder R_standing R_heads R_tails R_rowsInAll R_made R_all R_filled P_takenRuns P_starts P_queued P_merges P_told C_sampled C_sampleStandings C_sizes C_ends C_lies c5 c6 c7 c8 C_parts C_samples C_bound c9 c10 c11 O_paces O_up) := hw
    refine lv_goto (tgt := 25) hx hb dX6_tick_21 (by decide) ?_
    cases hf
    exact endI X hr rfl hlocks rfl hw dX6_tick_25
